set_option maxRecDepth 100000 in
theorem x_o1000_12 : (List.range 40).all (fun r => x_ck 1000 (40 * 12 + r) (x_c1000 (40 * 12 + r))) = true := by decide +kernel
set_option maxRecDepth 100000 in
theorem x_o1000_13 : (List.range 40).all (fun r => x_ck 1000 (40 * 13 + r) (x_c1000 (40 * 13 + r))) = true := by decide +kernel
set_option maxRecDepth 100000 in
theorem x_o1000_14 : (List.range 40).all (fun r => x_ck 1000 (40 * 14 + r) (x_c1000 (40 * 14 + r))) = true := by decide +kernel
set_option maxRecDepth 100000 in
theorem x_o1000_15 : (List.range 40).all (fun r => x_ck 1000 (40 * 15 + r) (x_c1000 (40 * 15 + r))) = true := by decide +kernel
set_option maxRecDepth 100000 in
theorem x_o1000_16 : (List.range 40).all (fun r => x_ck 1000 (40 * 16 + r) (x_c1000 (40 * 16 + r))) = true := by decide +kernel
set_option maxRecDepth 100000 in
theorem x_o1000_17 : (List.range 40).all (fun r => x_ck 1000 (40 * 17 + r) (x_c1000 (40 * 17 + r))) = true := by decide +kernel
set_option maxRecDepth 100000 in
theorem x_o1000_18 : (List.range 40).all (fun r => x_ck 1000 (40 * 18 + r) (x_c1000 (40 * 18 + r))) = true := by decide +kernel
set_option maxRecDepth 100000 in
theorem x_o1000_19 : (List.range 40).all (fun r => x_ck 1000 (40 * 19 + r) (x_c1000 (40 * 19 + r))) = true := by decide +kernel
set_option maxRecDepth 100000 in
theorem x_o1000_20 : (List.range 40).all (fun r => x_ck 1000 (40 * 20 + r) (x_c1000 (40 * 20 + r))) = true := by decide +kernel
set_option maxRecDepth 100000 in
theorem x_o1000_21 : (List.range 40).all (fun r => x_ck 1000 (40 * 21 + r) (x_c1000 (40 * 21 + r))) = true := by decide +kernel
set_option maxRecDepth 100000 in
theorem x_o1000_22 : (List.range 40).all (fun r => x_ck 1000 (40 * 22 + r) (x_c1000 (40 * 22 + r))) = true := by decide +kernel
set_option maxRecDepth 100000 in
theorem x_o1000_23 : (List.range 40).all (fun r => x_ck 1000 (40 * 23 + r) (x_c1000 (40 * 23 + r))) = true := by decide +kernel
