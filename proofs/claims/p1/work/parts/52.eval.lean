set_option maxRecDepth 1000000 in
theorem t_o42 : a_ok m_F t_Z t_W a_noG a_one 40000 (t_at 1340) = true := by decide +kernel
set_option maxRecDepth 1000000 in
theorem t_o43 : a_ok m_F t_Z t_W a_noG a_one 40000 (t_at 1373) = true := by decide +kernel
set_option maxRecDepth 1000000 in
theorem t_o44 : a_ok m_F t_Z t_W a_noG a_one 40000 (t_at 1396) = true := by decide +kernel
set_option maxRecDepth 1000000 in
theorem t_o45 : a_ok m_F t_Z t_W a_noG a_one 40000 (t_at 1419) = true := by decide +kernel
set_option maxRecDepth 1000000 in
theorem t_o46 : a_ok m_F t_Z t_W a_noG a_one 40000 (t_at 1442) = true := by decide +kernel
set_option maxRecDepth 1000000 in
theorem t_o47 : a_ok m_F t_Z t_W a_noG a_one 40000 (t_at 1465) = true := by decide +kernel
set_option maxRecDepth 1000000 in
theorem t_o48 : a_ok m_F t_Z t_W a_noG a_one 40000 (t_at 1488) = true := by decide +kernel
set_option maxRecDepth 1000000 in
theorem t_o49 : a_ok m_F t_Z t_W a_noG a_one 40000 (t_at 1511) = true := by decide +kernel
set_option maxRecDepth 1000000 in
theorem t_o50 : a_ok m_F t_Z t_W a_noG a_one 40000 (t_at 1534) = true := by decide +kernel
set_option maxRecDepth 1000000 in
theorem t_o51 : a_ok m_F t_Z t_W a_noG a_one 40000 (t_at 1557) = true := by decide +kernel
set_option maxRecDepth 1000000 in
theorem t_o52 : a_ok m_F t_Z t_W a_noG a_one 40000 (t_at 1570) = true := by decide +kernel
set_option maxRecDepth 1000000 in
theorem t_o53 : a_ok m_F t_Z t_W a_noG a_one 40000 (t_at 1603) = true := by decide +kernel
set_option maxRecDepth 1000000 in
theorem t_o54 : a_ok m_F t_Z t_W a_noG a_one 40000 (t_at 1636) = true := by decide +kernel
set_option maxRecDepth 1000000 in
theorem t_o55 : a_ok m_F t_Z t_W a_noG a_one 40000 (t_at 1669) = true := by decide +kernel
set_option maxRecDepth 1000000 in
theorem t_o56 : a_ok m_F t_Z t_W a_noG a_one 40000 (t_at 1702) = true := by decide +kernel
set_option maxRecDepth 1000000 in
theorem t_o57 : a_ok m_F t_Z t_W a_noG a_one 40000 (t_at 1735) = true := by decide +kernel
set_option maxRecDepth 1000000 in
theorem t_o58 : a_ok m_F t_Z t_W a_noG a_one 40000 (t_at 1758) = true := by decide +kernel
set_option maxRecDepth 1000000 in
theorem t_o59 : a_ok m_F t_Z t_W a_noG a_one 40000 (t_at 1781) = true := by decide +kernel
set_option maxRecDepth 1000000 in
theorem t_o60 : a_ok m_F t_Z t_W a_noG a_one 40000 (t_at 1794) = true := by decide +kernel
set_option maxRecDepth 1000000 in
theorem t_o61 : a_ok m_F t_Z t_W a_noG a_one 40000 (t_at 1817) = true := by decide +kernel
set_option maxRecDepth 1000000 in
theorem t_o62 : a_ok m_F t_Z t_W a_noG a_one 40000 (t_at 1850) = true := by decide +kernel
set_option maxRecDepth 1000000 in
theorem t_o63 : a_ok m_F t_Z t_W a_noG a_one 40000 (t_at 1883) = true := by decide +kernel
set_option maxRecDepth 1000000 in
theorem t_o64 : a_ok m_F t_Z t_W a_noG a_one 40000 (t_at 1936) = true := by decide +kernel
set_option maxRecDepth 1000000 in
theorem t_o65 : a_ok m_F t_Z t_W a_noG a_one 40000 (t_at 1979) = true := by decide +kernel
set_option maxRecDepth 1000000 in
theorem t_o66 : a_ok m_F t_Z t_W a_noG a_one 40000 (t_at 2003) = true := by decide +kernel
set_option maxRecDepth 1000000 in
theorem t_o67 : a_ok m_F t_Z t_W a_noG a_one 40000 (t_at 2036) = true := by decide +kernel
set_option maxRecDepth 1000000 in
theorem t_o68 : a_ok m_F t_Z t_W a_noG a_one 40000 (t_at 2069) = true := by decide +kernel
set_option maxRecDepth 1000000 in
theorem t_o69 : a_ok m_F t_Z t_W a_noG a_one 40000 (t_at 2082) = true := by decide +kernel
set_option maxRecDepth 1000000 in
theorem t_o70 : a_ok m_F t_Z t_W a_noG a_one 40000 (t_at 2095) = true := by decide +kernel
set_option maxRecDepth 1000000 in
theorem t_o71 : a_ok m_F t_Z t_W a_noG a_one 40000 (t_at 2128) = true := by decide +kernel
set_option maxRecDepth 1000000 in
theorem t_o72 : a_ok m_F t_Z t_W a_noG a_one 40000 (t_at 2171) = true := by decide +kernel
set_option maxRecDepth 1000000 in
theorem t_o73 : a_ok m_F t_Z t_W a_noG a_one 40000 (t_at 2204) = true := by decide +kernel
set_option maxRecDepth 1000000 in
theorem t_o77 : a_ok m_F t_Z t_W a_noG a_one 40000 (t_at 2316) = true := by decide +kernel
set_option maxRecDepth 1000000 in
theorem t_o78 : a_ok m_F t_Z t_W a_noG a_one 40000 (t_at 2389) = true := by decide +kernel
