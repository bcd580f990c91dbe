set_option maxRecDepth 100000 in
theorem x_o1000_36 : (List.range 40).all (fun r => x_ck 1000 (40 * 36 + r) (x_c1000 (40 * 36 + r))) = true := by decide +kernel
set_option maxRecDepth 100000 in
theorem x_o1000_37 : (List.range 40).all (fun r => x_ck 1000 (40 * 37 + r) (x_c1000 (40 * 37 + r))) = true := by decide +kernel
set_option maxRecDepth 100000 in
theorem x_o1000_38 : (List.range 40).all (fun r => x_ck 1000 (40 * 38 + r) (x_c1000 (40 * 38 + r))) = true := by decide +kernel
set_option maxRecDepth 100000 in
theorem x_o1000_39 : (List.range 40).all (fun r => x_ck 1000 (40 * 39 + r) (x_c1000 (40 * 39 + r))) = true := by decide +kernel
set_option maxRecDepth 100000 in
theorem x_o1000_40 : (List.range 40).all (fun r => x_ck 1000 (40 * 40 + r) (x_c1000 (40 * 40 + r))) = true := by decide +kernel
set_option maxRecDepth 100000 in
theorem x_o1000_41 : (List.range 40).all (fun r => x_ck 1000 (40 * 41 + r) (x_c1000 (40 * 41 + r))) = true := by decide +kernel
set_option maxRecDepth 100000 in
theorem x_o1000_42 : (List.range 40).all (fun r => x_ck 1000 (40 * 42 + r) (x_c1000 (40 * 42 + r))) = true := by decide +kernel
set_option maxRecDepth 100000 in
theorem x_o1000_43 : (List.range 40).all (fun r => x_ck 1000 (40 * 43 + r) (x_c1000 (40 * 43 + r))) = true := by decide +kernel
set_option maxRecDepth 100000 in
theorem x_o1000_44 : (List.range 40).all (fun r => x_ck 1000 (40 * 44 + r) (x_c1000 (40 * 44 + r))) = true := by decide +kernel
set_option maxRecDepth 100000 in
theorem x_o1000_45 : (List.range 40).all (fun r => x_ck 1000 (40 * 45 + r) (x_c1000 (40 * 45 + r))) = true := by decide +kernel
set_option maxRecDepth 100000 in
theorem x_o1000_46 : (List.range 40).all (fun r => x_ck 1000 (40 * 46 + r) (x_c1000 (40 * 46 + r))) = true := by decide +kernel
set_option maxRecDepth 100000 in
theorem x_o1000_47 : (List.range 40).all (fun r => x_ck 1000 (40 * 47 + r) (x_c1000 (40 * 47 + r))) = true := by decide +kernel
