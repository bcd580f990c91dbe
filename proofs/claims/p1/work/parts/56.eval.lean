set_option maxRecDepth 1000000 in
theorem t_r10 : a_ok m_F t_Z t_W a_noG a_one 40000 (t_r 40 44 2273) = true := by decide +kernel
set_option maxRecDepth 1000000 in
theorem t_r11 : a_ok m_F t_Z t_W a_noG a_one 40000 (t_r 45 49 2273) = true := by decide +kernel
set_option maxRecDepth 1000000 in
theorem t_r12 : a_ok m_F t_Z t_W a_noG a_one 40000 (t_r 50 54 2273) = true := by decide +kernel
set_option maxRecDepth 1000000 in
theorem t_r13 : a_ok m_F t_Z t_W a_noG a_one 40000 (t_r 55 59 2273) = true := by decide +kernel
set_option maxRecDepth 1000000 in
theorem t_r14 : a_ok m_F t_Z t_W a_noG a_one 40000 (t_r 60 60 2273) = true := by decide +kernel
