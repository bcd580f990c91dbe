set_option maxRecDepth 100000 in
theorem x_o366 : (List.range 55).all (fun p => x_ck 366 p (x_c366 p)) = true := by decide +kernel
theorem x_g366 {m p : Nat} : Nat.beq m 366 = true → x_good m p (x_c366 p) := x_gk (n := 55) (fun p h => by unfold x_c366; rw [h]; rfl) x_o366
set_option maxRecDepth 100000 in
theorem x_o367 : (List.range 85).all (fun p => x_ck 367 p (x_c367 p)) = true := by decide +kernel
theorem x_g367 {m p : Nat} : Nat.beq m 367 = true → x_good m p (x_c367 p) := x_gk (n := 85) (fun p h => by unfold x_c367; rw [h]; rfl) x_o367
set_option maxRecDepth 100000 in
theorem x_o368 : (List.range 47).all (fun p => x_ck 368 p (x_c368 p)) = true := by decide +kernel
theorem x_g368 {m p : Nat} : Nat.beq m 368 = true → x_good m p (x_c368 p) := x_gk (n := 47) (fun p h => by unfold x_c368; rw [h]; rfl) x_o368
set_option maxRecDepth 100000 in
theorem x_o369 : (List.range 33).all (fun p => x_ck 369 p (x_c369 p)) = true := by decide +kernel
theorem x_g369 {m p : Nat} : Nat.beq m 369 = true → x_good m p (x_c369 p) := x_gk (n := 33) (fun p h => by unfold x_c369; rw [h]; rfl) x_o369
set_option maxRecDepth 100000 in
theorem x_o370 : (List.range 66).all (fun p => x_ck 370 p (x_c370 p)) = true := by decide +kernel
theorem x_g370 {m p : Nat} : Nat.beq m 370 = true → x_good m p (x_c370 p) := x_gk (n := 66) (fun p h => by unfold x_c370; rw [h]; rfl) x_o370
set_option maxRecDepth 100000 in
theorem x_o371 : (List.range 99).all (fun p => x_ck 371 p (x_c371 p)) = true := by decide +kernel
theorem x_g371 {m p : Nat} : Nat.beq m 371 = true → x_good m p (x_c371 p) := x_gk (n := 99) (fun p h => by unfold x_c371; rw [h]; rfl) x_o371
set_option maxRecDepth 100000 in
theorem x_o372 : (List.range 37).all (fun p => x_ck 372 p (x_c372 p)) = true := by decide +kernel
theorem x_g372 {m p : Nat} : Nat.beq m 372 = true → x_good m p (x_c372 p) := x_gk (n := 37) (fun p h => by unfold x_c372; rw [h]; rfl) x_o372
set_option maxRecDepth 100000 in
theorem x_o373 : (List.range 42).all (fun p => x_ck 373 p (x_c373 p)) = true := by decide +kernel
theorem x_g373 {m p : Nat} : Nat.beq m 373 = true → x_good m p (x_c373 p) := x_gk (n := 42) (fun p h => by unfold x_c373; rw [h]; rfl) x_o373
