set_option maxRecDepth 100000 in
theorem m_okL_15 : [m_tL_120, m_tL_121, m_tL_122, m_tL_123, m_tL_124, m_tL_125, m_tL_126, m_tL_127].all (fun c => c.all (m_ck1 1000)) = true := by decide +kernel
set_option maxRecDepth 100000 in
theorem m_okL_16 : [m_tL_128, m_tL_129, m_tL_130, m_tL_131, m_tL_132, m_tL_133, m_tL_134, m_tL_135].all (fun c => c.all (m_ck1 1000)) = true := by decide +kernel
set_option maxRecDepth 100000 in
theorem m_okL_17 : [m_tL_136, m_tL_137, m_tL_138, m_tL_139, m_tL_140, m_tL_141, m_tL_142, m_tL_143].all (fun c => c.all (m_ck1 1000)) = true := by decide +kernel
set_option maxRecDepth 100000 in
theorem m_okL_18 : [m_tL_144, m_tL_145, m_tL_146, m_tL_147, m_tL_148, m_tL_149, m_tL_150, m_tL_151].all (fun c => c.all (m_ck1 1000)) = true := by decide +kernel
set_option maxRecDepth 100000 in
theorem m_okL_19 : [m_tL_152, m_tL_153].all (fun c => c.all (m_ck1 1000)) = true := by decide +kernel
