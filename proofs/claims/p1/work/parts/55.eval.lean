set_option maxRecDepth 1000000 in
theorem t_r5 : a_ok m_F t_Z t_W a_noG a_one 40000 (t_r 15 19 2273) = true := by decide +kernel
set_option maxRecDepth 1000000 in
theorem t_r6 : a_ok m_F t_Z t_W a_noG a_one 40000 (t_r 20 24 2273) = true := by decide +kernel
set_option maxRecDepth 1000000 in
theorem t_r7 : a_ok m_F t_Z t_W a_noG a_one 40000 (t_r 25 29 2273) = true := by decide +kernel
set_option maxRecDepth 1000000 in
theorem t_r8 : a_ok m_F t_Z t_W a_noG a_one 40000 (t_r 30 34 2273) = true := by decide +kernel
set_option maxRecDepth 1000000 in
theorem t_r9 : a_ok m_F t_Z t_W a_noG a_one 40000 (t_r 35 39 2273) = true := by decide +kernel
