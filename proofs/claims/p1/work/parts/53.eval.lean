set_option maxRecDepth 1000000 in
theorem t_o0 : a_ok m_F t_Z t_W a_noG a_one 40000 (t_at 364) = true := by decide +kernel
set_option maxRecDepth 1000000 in
theorem t_o2 : a_ok m_F t_Z t_W a_noG a_one 40000 (t_at 450) = true := by decide +kernel
set_option maxRecDepth 1000000 in
theorem t_o74 : a_ok m_F t_Z t_W a_noG a_one 40000 (t_at 2227) = true := by decide +kernel
set_option maxRecDepth 1000000 in
theorem t_o75 : a_ok m_F t_Z t_W a_noG a_one 40000 (t_at 2250) = true := by decide +kernel
