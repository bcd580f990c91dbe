set_option maxRecDepth 100000 in
theorem x_o1000_24 : (List.range 40).all (fun r => x_ck 1000 (40 * 24 + r) (x_c1000 (40 * 24 + r))) = true := by decide +kernel
set_option maxRecDepth 100000 in
theorem x_o1000_25 : (List.range 40).all (fun r => x_ck 1000 (40 * 25 + r) (x_c1000 (40 * 25 + r))) = true := by decide +kernel
set_option maxRecDepth 100000 in
theorem x_o1000_26 : (List.range 40).all (fun r => x_ck 1000 (40 * 26 + r) (x_c1000 (40 * 26 + r))) = true := by decide +kernel
set_option maxRecDepth 100000 in
theorem x_o1000_27 : (List.range 40).all (fun r => x_ck 1000 (40 * 27 + r) (x_c1000 (40 * 27 + r))) = true := by decide +kernel
set_option maxRecDepth 100000 in
theorem x_o1000_28 : (List.range 40).all (fun r => x_ck 1000 (40 * 28 + r) (x_c1000 (40 * 28 + r))) = true := by decide +kernel
set_option maxRecDepth 100000 in
theorem x_o1000_29 : (List.range 40).all (fun r => x_ck 1000 (40 * 29 + r) (x_c1000 (40 * 29 + r))) = true := by decide +kernel
set_option maxRecDepth 100000 in
theorem x_o1000_30 : (List.range 40).all (fun r => x_ck 1000 (40 * 30 + r) (x_c1000 (40 * 30 + r))) = true := by decide +kernel
set_option maxRecDepth 100000 in
theorem x_o1000_31 : (List.range 40).all (fun r => x_ck 1000 (40 * 31 + r) (x_c1000 (40 * 31 + r))) = true := by decide +kernel
set_option maxRecDepth 100000 in
theorem x_o1000_32 : (List.range 40).all (fun r => x_ck 1000 (40 * 32 + r) (x_c1000 (40 * 32 + r))) = true := by decide +kernel
set_option maxRecDepth 100000 in
theorem x_o1000_33 : (List.range 40).all (fun r => x_ck 1000 (40 * 33 + r) (x_c1000 (40 * 33 + r))) = true := by decide +kernel
set_option maxRecDepth 100000 in
theorem x_o1000_34 : (List.range 40).all (fun r => x_ck 1000 (40 * 34 + r) (x_c1000 (40 * 34 + r))) = true := by decide +kernel
set_option maxRecDepth 100000 in
theorem x_o1000_35 : (List.range 40).all (fun r => x_ck 1000 (40 * 35 + r) (x_c1000 (40 * 35 + r))) = true := by decide +kernel
