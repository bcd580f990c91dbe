set_option maxRecDepth 100000 in
theorem x_o1000_48 : (List.range 40).all (fun r => x_ck 1000 (40 * 48 + r) (x_c1000 (40 * 48 + r))) = true := by decide +kernel
set_option maxRecDepth 100000 in
theorem x_o1000_49 : (List.range 40).all (fun r => x_ck 1000 (40 * 49 + r) (x_c1000 (40 * 49 + r))) = true := by decide +kernel
set_option maxRecDepth 100000 in
theorem x_o1000_50 : (List.range 40).all (fun r => x_ck 1000 (40 * 50 + r) (x_c1000 (40 * 50 + r))) = true := by decide +kernel
set_option maxRecDepth 100000 in
theorem x_o1000_51 : (List.range 40).all (fun r => x_ck 1000 (40 * 51 + r) (x_c1000 (40 * 51 + r))) = true := by decide +kernel
set_option maxRecDepth 100000 in
theorem x_o1000_52 : (List.range 40).all (fun r => x_ck 1000 (40 * 52 + r) (x_c1000 (40 * 52 + r))) = true := by decide +kernel
set_option maxRecDepth 100000 in
theorem x_o1000_53 : (List.range 40).all (fun r => x_ck 1000 (40 * 53 + r) (x_c1000 (40 * 53 + r))) = true := by decide +kernel
set_option maxRecDepth 100000 in
theorem x_o1000_54 : (List.range 40).all (fun r => x_ck 1000 (40 * 54 + r) (x_c1000 (40 * 54 + r))) = true := by decide +kernel
set_option maxRecDepth 100000 in
theorem x_o1000_55 : (List.range 40).all (fun r => x_ck 1000 (40 * 55 + r) (x_c1000 (40 * 55 + r))) = true := by decide +kernel
set_option maxRecDepth 100000 in
theorem x_o1000_56 : (List.range 40).all (fun r => x_ck 1000 (40 * 56 + r) (x_c1000 (40 * 56 + r))) = true := by decide +kernel
set_option maxRecDepth 100000 in
theorem x_o1000_57 : (List.range 40).all (fun r => x_ck 1000 (40 * 57 + r) (x_c1000 (40 * 57 + r))) = true := by decide +kernel
set_option maxRecDepth 100000 in
theorem x_o1000_58 : (List.range 40).all (fun r => x_ck 1000 (40 * 58 + r) (x_c1000 (40 * 58 + r))) = true := by decide +kernel
set_option maxRecDepth 100000 in
theorem x_o1000_59 : (List.range 40).all (fun r => x_ck 1000 (40 * 59 + r) (x_c1000 (40 * 59 + r))) = true := by decide +kernel
