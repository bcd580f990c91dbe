set_option maxRecDepth 100000 in
theorem x_o43 : (List.range 287).all (fun p => x_ck 43 p (x_c43 p)) = true := by decide +kernel
theorem x_g43 {m p : Nat} : Nat.beq m 43 = true → x_good m p (x_c43 p) := x_gk (n := 287) (fun p h => by unfold x_c43; rw [h]; rfl) x_o43
set_option maxRecDepth 100000 in
theorem x_o44 : (List.range 62).all (fun p => x_ck 44 p (x_c44 p)) = true := by decide +kernel
theorem x_g44 {m p : Nat} : Nat.beq m 44 = true → x_good m p (x_c44 p) := x_gk (n := 62) (fun p h => by unfold x_c44; rw [h]; rfl) x_o44
set_option maxRecDepth 100000 in
theorem x_o45 : (List.range 11).all (fun p => x_ck 45 p (x_c45 p)) = true := by decide +kernel
theorem x_g45 {m p : Nat} : Nat.beq m 45 = true → x_good m p (x_c45 p) := x_gk (n := 11) (fun p h => by unfold x_c45; rw [h]; rfl) x_o45
set_option maxRecDepth 100000 in
theorem x_o46 : (List.range 18).all (fun p => x_ck 46 p (x_c46 p)) = true := by decide +kernel
theorem x_g46 {m p : Nat} : Nat.beq m 46 = true → x_good m p (x_c46 p) := x_gk (n := 18) (fun p h => by unfold x_c46; rw [h]; rfl) x_o46
set_option maxRecDepth 100000 in
theorem x_o47 : (List.range 64).all (fun p => x_ck 47 p (x_c47 p)) = true := by decide +kernel
theorem x_g47 {m p : Nat} : Nat.beq m 47 = true → x_good m p (x_c47 p) := x_gk (n := 64) (fun p h => by unfold x_c47; rw [h]; rfl) x_o47
set_option maxRecDepth 100000 in
theorem x_o48 : (List.range 20).all (fun p => x_ck 48 p (x_c48 p)) = true := by decide +kernel
theorem x_g48 {m p : Nat} : Nat.beq m 48 = true → x_good m p (x_c48 p) := x_gk (n := 20) (fun p h => by unfold x_c48; rw [h]; rfl) x_o48
set_option maxRecDepth 100000 in
theorem x_o49 : (List.range 46).all (fun p => x_ck 49 p (x_c49 p)) = true := by decide +kernel
theorem x_g49 {m p : Nat} : Nat.beq m 49 = true → x_good m p (x_c49 p) := x_gk (n := 46) (fun p h => by unfold x_c49; rw [h]; rfl) x_o49
set_option maxRecDepth 100000 in
theorem x_o50 : (List.range 52).all (fun p => x_ck 50 p (x_c50 p)) = true := by decide +kernel
theorem x_g50 {m p : Nat} : Nat.beq m 50 = true → x_good m p (x_c50 p) := x_gk (n := 52) (fun p h => by unfold x_c50; rw [h]; rfl) x_o50
set_option maxRecDepth 100000 in
theorem x_o51 : (List.range 21).all (fun p => x_ck 51 p (x_c51 p)) = true := by decide +kernel
theorem x_g51 {m p : Nat} : Nat.beq m 51 = true → x_good m p (x_c51 p) := x_gk (n := 21) (fun p h => by unfold x_c51; rw [h]; rfl) x_o51
set_option maxRecDepth 100000 in
theorem x_o52 : (List.range 23).all (fun p => x_ck 52 p (x_c52 p)) = true := by decide +kernel
theorem x_g52 {m p : Nat} : Nat.beq m 52 = true → x_good m p (x_c52 p) := x_gk (n := 23) (fun p h => by unfold x_c52; rw [h]; rfl) x_o52
set_option maxRecDepth 100000 in
theorem x_o53 : (List.range 73).all (fun p => x_ck 53 p (x_c53 p)) = true := by decide +kernel
theorem x_g53 {m p : Nat} : Nat.beq m 53 = true → x_good m p (x_c53 p) := x_gk (n := 73) (fun p h => by unfold x_c53; rw [h]; rfl) x_o53
set_option maxRecDepth 100000 in
theorem x_o54 : (List.range 21).all (fun p => x_ck 54 p (x_c54 p)) = true := by decide +kernel
theorem x_g54 {m p : Nat} : Nat.beq m 54 = true → x_good m p (x_c54 p) := x_gk (n := 21) (fun p h => by unfold x_c54; rw [h]; rfl) x_o54
set_option maxRecDepth 100000 in
theorem x_o55 : (List.range 23).all (fun p => x_ck 55 p (x_c55 p)) = true := by decide +kernel
theorem x_g55 {m p : Nat} : Nat.beq m 55 = true → x_good m p (x_c55 p) := x_gk (n := 23) (fun p h => by unfold x_c55; rw [h]; rfl) x_o55
set_option maxRecDepth 100000 in
theorem x_o56 : (List.range 22).all (fun p => x_ck 56 p (x_c56 p)) = true := by decide +kernel
theorem x_g56 {m p : Nat} : Nat.beq m 56 = true → x_good m p (x_c56 p) := x_gk (n := 22) (fun p h => by unfold x_c56; rw [h]; rfl) x_o56
set_option maxRecDepth 100000 in
theorem x_o57 : (List.range 24).all (fun p => x_ck 57 p (x_c57 p)) = true := by decide +kernel
theorem x_g57 {m p : Nat} : Nat.beq m 57 = true → x_good m p (x_c57 p) := x_gk (n := 24) (fun p h => by unfold x_c57; rw [h]; rfl) x_o57
set_option maxRecDepth 100000 in
theorem x_o58 : (List.range 30).all (fun p => x_ck 58 p (x_c58 p)) = true := by decide +kernel
theorem x_g58 {m p : Nat} : Nat.beq m 58 = true → x_good m p (x_c58 p) := x_gk (n := 30) (fun p h => by unfold x_c58; rw [h]; rfl) x_o58
set_option maxRecDepth 100000 in
theorem x_o59 : (List.range 28).all (fun p => x_ck 59 p (x_c59 p)) = true := by decide +kernel
theorem x_g59 {m p : Nat} : Nat.beq m 59 = true → x_good m p (x_c59 p) := x_gk (n := 28) (fun p h => by unfold x_c59; rw [h]; rfl) x_o59
set_option maxRecDepth 100000 in
theorem x_o60 : (List.range 22).all (fun p => x_ck 60 p (x_c60 p)) = true := by decide +kernel
theorem x_g60 {m p : Nat} : Nat.beq m 60 = true → x_good m p (x_c60 p) := x_gk (n := 22) (fun p h => by unfold x_c60; rw [h]; rfl) x_o60
set_option maxRecDepth 100000 in
theorem x_o61 : (List.range 24).all (fun p => x_ck 61 p (x_c61 p)) = true := by decide +kernel
theorem x_g61 {m p : Nat} : Nat.beq m 61 = true → x_good m p (x_c61 p) := x_gk (n := 24) (fun p h => by unfold x_c61; rw [h]; rfl) x_o61
set_option maxRecDepth 100000 in
theorem x_o62 : (List.range 22).all (fun p => x_ck 62 p (x_c62 p)) = true := by decide +kernel
theorem x_g62 {m p : Nat} : Nat.beq m 62 = true → x_good m p (x_c62 p) := x_gk (n := 22) (fun p h => by unfold x_c62; rw [h]; rfl) x_o62
set_option maxRecDepth 100000 in
theorem x_o63 : (List.range 24).all (fun p => x_ck 63 p (x_c63 p)) = true := by decide +kernel
theorem x_g63 {m p : Nat} : Nat.beq m 63 = true → x_good m p (x_c63 p) := x_gk (n := 24) (fun p h => by unfold x_c63; rw [h]; rfl) x_o63
set_option maxRecDepth 100000 in
theorem x_o64 : (List.range 22).all (fun p => x_ck 64 p (x_c64 p)) = true := by decide +kernel
theorem x_g64 {m p : Nat} : Nat.beq m 64 = true → x_good m p (x_c64 p) := x_gk (n := 22) (fun p h => by unfold x_c64; rw [h]; rfl) x_o64
set_option maxRecDepth 100000 in
theorem x_o65 : (List.range 63).all (fun p => x_ck 65 p (x_c65 p)) = true := by decide +kernel
theorem x_g65 {m p : Nat} : Nat.beq m 65 = true → x_good m p (x_c65 p) := x_gk (n := 63) (fun p h => by unfold x_c65; rw [h]; rfl) x_o65
set_option maxRecDepth 100000 in
theorem x_o66 : (List.range 51).all (fun p => x_ck 66 p (x_c66 p)) = true := by decide +kernel
theorem x_g66 {m p : Nat} : Nat.beq m 66 = true → x_good m p (x_c66 p) := x_gk (n := 51) (fun p h => by unfold x_c66; rw [h]; rfl) x_o66
set_option maxRecDepth 100000 in
theorem x_o67 : (List.range 53).all (fun p => x_ck 67 p (x_c67 p)) = true := by decide +kernel
theorem x_g67 {m p : Nat} : Nat.beq m 67 = true → x_good m p (x_c67 p) := x_gk (n := 53) (fun p h => by unfold x_c67; rw [h]; rfl) x_o67
set_option maxRecDepth 100000 in
theorem x_o68 : (List.range 22).all (fun p => x_ck 68 p (x_c68 p)) = true := by decide +kernel
theorem x_g68 {m p : Nat} : Nat.beq m 68 = true → x_good m p (x_c68 p) := x_gk (n := 22) (fun p h => by unfold x_c68; rw [h]; rfl) x_o68
set_option maxRecDepth 100000 in
theorem x_o69 : (List.range 54).all (fun p => x_ck 69 p (x_c69 p)) = true := by decide +kernel
theorem x_g69 {m p : Nat} : Nat.beq m 69 = true → x_good m p (x_c69 p) := x_gk (n := 54) (fun p h => by unfold x_c69; rw [h]; rfl) x_o69
set_option maxRecDepth 100000 in
theorem x_o70 : (List.range 57).all (fun p => x_ck 70 p (x_c70 p)) = true := by decide +kernel
theorem x_g70 {m p : Nat} : Nat.beq m 70 = true → x_good m p (x_c70 p) := x_gk (n := 57) (fun p h => by unfold x_c70; rw [h]; rfl) x_o70
set_option maxRecDepth 100000 in
theorem x_o71 : (List.range 13).all (fun p => x_ck 71 p (x_c71 p)) = true := by decide +kernel
theorem x_g71 {m p : Nat} : Nat.beq m 71 = true → x_good m p (x_c71 p) := x_gk (n := 13) (fun p h => by unfold x_c71; rw [h]; rfl) x_o71
set_option maxRecDepth 100000 in
theorem x_o72 : (List.range 31).all (fun p => x_ck 72 p (x_c72 p)) = true := by decide +kernel
theorem x_g72 {m p : Nat} : Nat.beq m 72 = true → x_good m p (x_c72 p) := x_gk (n := 31) (fun p h => by unfold x_c72; rw [h]; rfl) x_o72
set_option maxRecDepth 100000 in
theorem x_o73 : (List.range 31).all (fun p => x_ck 73 p (x_c73 p)) = true := by decide +kernel
theorem x_g73 {m p : Nat} : Nat.beq m 73 = true → x_good m p (x_c73 p) := x_gk (n := 31) (fun p h => by unfold x_c73; rw [h]; rfl) x_o73
set_option maxRecDepth 100000 in
theorem x_o74 : (List.range 12).all (fun p => x_ck 74 p (x_c74 p)) = true := by decide +kernel
theorem x_g74 {m p : Nat} : Nat.beq m 74 = true → x_good m p (x_c74 p) := x_gk (n := 12) (fun p h => by unfold x_c74; rw [h]; rfl) x_o74
set_option maxRecDepth 100000 in
theorem x_o75 : (List.range 31).all (fun p => x_ck 75 p (x_c75 p)) = true := by decide +kernel
theorem x_g75 {m p : Nat} : Nat.beq m 75 = true → x_good m p (x_c75 p) := x_gk (n := 31) (fun p h => by unfold x_c75; rw [h]; rfl) x_o75
set_option maxRecDepth 100000 in
theorem x_o76 : (List.range 12).all (fun p => x_ck 76 p (x_c76 p)) = true := by decide +kernel
theorem x_g76 {m p : Nat} : Nat.beq m 76 = true → x_good m p (x_c76 p) := x_gk (n := 12) (fun p h => by unfold x_c76; rw [h]; rfl) x_o76
set_option maxRecDepth 100000 in
theorem x_o77 : (List.range 22).all (fun p => x_ck 77 p (x_c77 p)) = true := by decide +kernel
theorem x_g77 {m p : Nat} : Nat.beq m 77 = true → x_good m p (x_c77 p) := x_gk (n := 22) (fun p h => by unfold x_c77; rw [h]; rfl) x_o77
set_option maxRecDepth 100000 in
theorem x_o78 : (List.range 38).all (fun p => x_ck 78 p (x_c78 p)) = true := by decide +kernel
theorem x_g78 {m p : Nat} : Nat.beq m 78 = true → x_good m p (x_c78 p) := x_gk (n := 38) (fun p h => by unfold x_c78; rw [h]; rfl) x_o78
set_option maxRecDepth 100000 in
theorem x_o79 : (List.range 22).all (fun p => x_ck 79 p (x_c79 p)) = true := by decide +kernel
theorem x_g79 {m p : Nat} : Nat.beq m 79 = true → x_good m p (x_c79 p) := x_gk (n := 22) (fun p h => by unfold x_c79; rw [h]; rfl) x_o79
set_option maxRecDepth 100000 in
theorem x_o80 : (List.range 38).all (fun p => x_ck 80 p (x_c80 p)) = true := by decide +kernel
theorem x_g80 {m p : Nat} : Nat.beq m 80 = true → x_good m p (x_c80 p) := x_gk (n := 38) (fun p h => by unfold x_c80; rw [h]; rfl) x_o80
set_option maxRecDepth 100000 in
theorem x_o81 : (List.range 22).all (fun p => x_ck 81 p (x_c81 p)) = true := by decide +kernel
theorem x_g81 {m p : Nat} : Nat.beq m 81 = true → x_good m p (x_c81 p) := x_gk (n := 22) (fun p h => by unfold x_c81; rw [h]; rfl) x_o81
set_option maxRecDepth 100000 in
theorem x_o82 : (List.range 43).all (fun p => x_ck 82 p (x_c82 p)) = true := by decide +kernel
theorem x_g82 {m p : Nat} : Nat.beq m 82 = true → x_good m p (x_c82 p) := x_gk (n := 43) (fun p h => by unfold x_c82; rw [h]; rfl) x_o82
set_option maxRecDepth 100000 in
theorem x_o83 : (List.range 22).all (fun p => x_ck 83 p (x_c83 p)) = true := by decide +kernel
theorem x_g83 {m p : Nat} : Nat.beq m 83 = true → x_good m p (x_c83 p) := x_gk (n := 22) (fun p h => by unfold x_c83; rw [h]; rfl) x_o83
set_option maxRecDepth 100000 in
theorem x_o84 : (List.range 33).all (fun p => x_ck 84 p (x_c84 p)) = true := by decide +kernel
theorem x_g84 {m p : Nat} : Nat.beq m 84 = true → x_good m p (x_c84 p) := x_gk (n := 33) (fun p h => by unfold x_c84; rw [h]; rfl) x_o84
set_option maxRecDepth 100000 in
theorem x_o85 : (List.range 36).all (fun p => x_ck 85 p (x_c85 p)) = true := by decide +kernel
theorem x_g85 {m p : Nat} : Nat.beq m 85 = true → x_good m p (x_c85 p) := x_gk (n := 36) (fun p h => by unfold x_c85; rw [h]; rfl) x_o85
set_option maxRecDepth 100000 in
theorem x_o86 : (List.range 40).all (fun p => x_ck 86 p (x_c86 p)) = true := by decide +kernel
theorem x_g86 {m p : Nat} : Nat.beq m 86 = true → x_good m p (x_c86 p) := x_gk (n := 40) (fun p h => by unfold x_c86; rw [h]; rfl) x_o86
set_option maxRecDepth 100000 in
theorem x_o87 : (List.range 22).all (fun p => x_ck 87 p (x_c87 p)) = true := by decide +kernel
theorem x_g87 {m p : Nat} : Nat.beq m 87 = true → x_good m p (x_c87 p) := x_gk (n := 22) (fun p h => by unfold x_c87; rw [h]; rfl) x_o87
set_option maxRecDepth 100000 in
theorem x_o88 : (List.range 32).all (fun p => x_ck 88 p (x_c88 p)) = true := by decide +kernel
theorem x_g88 {m p : Nat} : Nat.beq m 88 = true → x_good m p (x_c88 p) := x_gk (n := 32) (fun p h => by unfold x_c88; rw [h]; rfl) x_o88
set_option maxRecDepth 100000 in
theorem x_o89 : (List.range 68).all (fun p => x_ck 89 p (x_c89 p)) = true := by decide +kernel
theorem x_g89 {m p : Nat} : Nat.beq m 89 = true → x_good m p (x_c89 p) := x_gk (n := 68) (fun p h => by unfold x_c89; rw [h]; rfl) x_o89
set_option maxRecDepth 100000 in
theorem x_o90 : (List.range 31).all (fun p => x_ck 90 p (x_c90 p)) = true := by decide +kernel
theorem x_g90 {m p : Nat} : Nat.beq m 90 = true → x_good m p (x_c90 p) := x_gk (n := 31) (fun p h => by unfold x_c90; rw [h]; rfl) x_o90
set_option maxRecDepth 100000 in
theorem x_o91 : (List.range 61).all (fun p => x_ck 91 p (x_c91 p)) = true := by decide +kernel
theorem x_g91 {m p : Nat} : Nat.beq m 91 = true → x_good m p (x_c91 p) := x_gk (n := 61) (fun p h => by unfold x_c91; rw [h]; rfl) x_o91
set_option maxRecDepth 100000 in
theorem x_o92 : (List.range 59).all (fun p => x_ck 92 p (x_c92 p)) = true := by decide +kernel
theorem x_g92 {m p : Nat} : Nat.beq m 92 = true → x_good m p (x_c92 p) := x_gk (n := 59) (fun p h => by unfold x_c92; rw [h]; rfl) x_o92
set_option maxRecDepth 100000 in
theorem x_o93 : (List.range 23).all (fun p => x_ck 93 p (x_c93 p)) = true := by decide +kernel
theorem x_g93 {m p : Nat} : Nat.beq m 93 = true → x_good m p (x_c93 p) := x_gk (n := 23) (fun p h => by unfold x_c93; rw [h]; rfl) x_o93
set_option maxRecDepth 100000 in
theorem x_o94 : (List.range 35).all (fun p => x_ck 94 p (x_c94 p)) = true := by decide +kernel
theorem x_g94 {m p : Nat} : Nat.beq m 94 = true → x_good m p (x_c94 p) := x_gk (n := 35) (fun p h => by unfold x_c94; rw [h]; rfl) x_o94
set_option maxRecDepth 100000 in
theorem x_o95 : (List.range 61).all (fun p => x_ck 95 p (x_c95 p)) = true := by decide +kernel
theorem x_g95 {m p : Nat} : Nat.beq m 95 = true → x_good m p (x_c95 p) := x_gk (n := 61) (fun p h => by unfold x_c95; rw [h]; rfl) x_o95
set_option maxRecDepth 100000 in
theorem x_o96 : (List.range 62).all (fun p => x_ck 96 p (x_c96 p)) = true := by decide +kernel
theorem x_g96 {m p : Nat} : Nat.beq m 96 = true → x_good m p (x_c96 p) := x_gk (n := 62) (fun p h => by unfold x_c96; rw [h]; rfl) x_o96
set_option maxRecDepth 100000 in
theorem x_o97 : (List.range 62).all (fun p => x_ck 97 p (x_c97 p)) = true := by decide +kernel
theorem x_g97 {m p : Nat} : Nat.beq m 97 = true → x_good m p (x_c97 p) := x_gk (n := 62) (fun p h => by unfold x_c97; rw [h]; rfl) x_o97
set_option maxRecDepth 100000 in
theorem x_o98 : (List.range 76).all (fun p => x_ck 98 p (x_c98 p)) = true := by decide +kernel
theorem x_g98 {m p : Nat} : Nat.beq m 98 = true → x_good m p (x_c98 p) := x_gk (n := 76) (fun p h => by unfold x_c98; rw [h]; rfl) x_o98
set_option maxRecDepth 100000 in
theorem x_o99 : (List.range 64).all (fun p => x_ck 99 p (x_c99 p)) = true := by decide +kernel
theorem x_g99 {m p : Nat} : Nat.beq m 99 = true → x_good m p (x_c99 p) := x_gk (n := 64) (fun p h => by unfold x_c99; rw [h]; rfl) x_o99
set_option maxRecDepth 100000 in
theorem x_o100 : (List.range 22).all (fun p => x_ck 100 p (x_c100 p)) = true := by decide +kernel
theorem x_g100 {m p : Nat} : Nat.beq m 100 = true → x_good m p (x_c100 p) := x_gk (n := 22) (fun p h => by unfold x_c100; rw [h]; rfl) x_o100
set_option maxRecDepth 100000 in
theorem x_o101 : (List.range 21).all (fun p => x_ck 101 p (x_c101 p)) = true := by decide +kernel
theorem x_g101 {m p : Nat} : Nat.beq m 101 = true → x_good m p (x_c101 p) := x_gk (n := 21) (fun p h => by unfold x_c101; rw [h]; rfl) x_o101
set_option maxRecDepth 100000 in
theorem x_o102 : (List.range 38).all (fun p => x_ck 102 p (x_c102 p)) = true := by decide +kernel
theorem x_g102 {m p : Nat} : Nat.beq m 102 = true → x_good m p (x_c102 p) := x_gk (n := 38) (fun p h => by unfold x_c102; rw [h]; rfl) x_o102
set_option maxRecDepth 100000 in
theorem x_o103 : (List.range 38).all (fun p => x_ck 103 p (x_c103 p)) = true := by decide +kernel
theorem x_g103 {m p : Nat} : Nat.beq m 103 = true → x_good m p (x_c103 p) := x_gk (n := 38) (fun p h => by unfold x_c103; rw [h]; rfl) x_o103
set_option maxRecDepth 100000 in
theorem x_o104 : (List.range 56).all (fun p => x_ck 104 p (x_c104 p)) = true := by decide +kernel
theorem x_g104 {m p : Nat} : Nat.beq m 104 = true → x_good m p (x_c104 p) := x_gk (n := 56) (fun p h => by unfold x_c104; rw [h]; rfl) x_o104
set_option maxRecDepth 100000 in
theorem x_o105 : (List.range 23).all (fun p => x_ck 105 p (x_c105 p)) = true := by decide +kernel
theorem x_g105 {m p : Nat} : Nat.beq m 105 = true → x_good m p (x_c105 p) := x_gk (n := 23) (fun p h => by unfold x_c105; rw [h]; rfl) x_o105
set_option maxRecDepth 100000 in
theorem x_o106 : (List.range 100).all (fun p => x_ck 106 p (x_c106 p)) = true := by decide +kernel
theorem x_g106 {m p : Nat} : Nat.beq m 106 = true → x_good m p (x_c106 p) := x_gk (n := 100) (fun p h => by unfold x_c106; rw [h]; rfl) x_o106
set_option maxRecDepth 100000 in
theorem x_o107 : (List.range 23).all (fun p => x_ck 107 p (x_c107 p)) = true := by decide +kernel
theorem x_g107 {m p : Nat} : Nat.beq m 107 = true → x_good m p (x_c107 p) := x_gk (n := 23) (fun p h => by unfold x_c107; rw [h]; rfl) x_o107
set_option maxRecDepth 100000 in
theorem x_o108 : (List.range 61).all (fun p => x_ck 108 p (x_c108 p)) = true := by decide +kernel
theorem x_g108 {m p : Nat} : Nat.beq m 108 = true → x_good m p (x_c108 p) := x_gk (n := 61) (fun p h => by unfold x_c108; rw [h]; rfl) x_o108
