set_option maxRecDepth 1000000 in
theorem t_r0 : a_ok m_F t_Z t_W a_noG a_one 40000 (t_r (-2147483648) (-1) 2273) = true := by decide +kernel
set_option maxRecDepth 1000000 in
theorem t_r1 : a_ok m_F t_Z t_W a_noG a_one 40000 (t_r 61 2147483647 2273) = true := by decide +kernel
set_option maxRecDepth 1000000 in
theorem t_r2 : a_ok m_F t_Z t_W a_noG a_one 40000 (t_r 0 4 2273) = true := by decide +kernel
set_option maxRecDepth 1000000 in
theorem t_r3 : a_ok m_F t_Z t_W a_noG a_one 40000 (t_r 5 9 2273) = true := by decide +kernel
set_option maxRecDepth 1000000 in
theorem t_r4 : a_ok m_F t_Z t_W a_noG a_one 40000 (t_r 10 14 2273) = true := by decide +kernel
