set_option maxRecDepth 1000000 in
theorem t_e5 : a_ok m_F [(0, 5, [])] [] a_noG a_one 2000 (t_S) = true := by decide +kernel
set_option maxRecDepth 1000000 in
theorem t_e6 : a_ok m_F t_Z [] t_G a_one 3000 (t_S) = true := by decide +kernel
