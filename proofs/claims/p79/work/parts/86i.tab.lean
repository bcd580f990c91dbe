set_option maxRecDepth 100000 in
theorem x_o1000_0 : (List.range 40).all (fun r => x_ck 1000 (40 * 0 + r) (x_c1000 (40 * 0 + r))) = true := by decide +kernel
set_option maxRecDepth 100000 in
theorem x_o1000_1 : (List.range 40).all (fun r => x_ck 1000 (40 * 1 + r) (x_c1000 (40 * 1 + r))) = true := by decide +kernel
set_option maxRecDepth 100000 in
theorem x_o1000_2 : (List.range 40).all (fun r => x_ck 1000 (40 * 2 + r) (x_c1000 (40 * 2 + r))) = true := by decide +kernel
set_option maxRecDepth 100000 in
theorem x_o1000_3 : (List.range 40).all (fun r => x_ck 1000 (40 * 3 + r) (x_c1000 (40 * 3 + r))) = true := by decide +kernel
set_option maxRecDepth 100000 in
theorem x_o1000_4 : (List.range 40).all (fun r => x_ck 1000 (40 * 4 + r) (x_c1000 (40 * 4 + r))) = true := by decide +kernel
set_option maxRecDepth 100000 in
theorem x_o1000_5 : (List.range 40).all (fun r => x_ck 1000 (40 * 5 + r) (x_c1000 (40 * 5 + r))) = true := by decide +kernel
set_option maxRecDepth 100000 in
theorem x_o1000_6 : (List.range 40).all (fun r => x_ck 1000 (40 * 6 + r) (x_c1000 (40 * 6 + r))) = true := by decide +kernel
set_option maxRecDepth 100000 in
theorem x_o1000_7 : (List.range 40).all (fun r => x_ck 1000 (40 * 7 + r) (x_c1000 (40 * 7 + r))) = true := by decide +kernel
set_option maxRecDepth 100000 in
theorem x_o1000_8 : (List.range 40).all (fun r => x_ck 1000 (40 * 8 + r) (x_c1000 (40 * 8 + r))) = true := by decide +kernel
set_option maxRecDepth 100000 in
theorem x_o1000_9 : (List.range 40).all (fun r => x_ck 1000 (40 * 9 + r) (x_c1000 (40 * 9 + r))) = true := by decide +kernel
set_option maxRecDepth 100000 in
theorem x_o1000_10 : (List.range 40).all (fun r => x_ck 1000 (40 * 10 + r) (x_c1000 (40 * 10 + r))) = true := by decide +kernel
set_option maxRecDepth 100000 in
theorem x_o1000_11 : (List.range 40).all (fun r => x_ck 1000 (40 * 11 + r) (x_c1000 (40 * 11 + r))) = true := by decide +kernel
