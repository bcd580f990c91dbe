set_option maxRecDepth 100000 in
theorem x_o109 : (List.range 107).all (fun p => x_ck 109 p (x_c109 p)) = true := by decide +kernel
theorem x_g109 {m p : Nat} : Nat.beq m 109 = true → x_good m p (x_c109 p) := x_gk (n := 107) (fun p h => by unfold x_c109; rw [h]; rfl) x_o109
set_option maxRecDepth 100000 in
theorem x_o110 : (List.range 22).all (fun p => x_ck 110 p (x_c110 p)) = true := by decide +kernel
theorem x_g110 {m p : Nat} : Nat.beq m 110 = true → x_good m p (x_c110 p) := x_gk (n := 22) (fun p h => by unfold x_c110; rw [h]; rfl) x_o110
set_option maxRecDepth 100000 in
theorem x_o111 : (List.range 43).all (fun p => x_ck 111 p (x_c111 p)) = true := by decide +kernel
theorem x_g111 {m p : Nat} : Nat.beq m 111 = true → x_good m p (x_c111 p) := x_gk (n := 43) (fun p h => by unfold x_c111; rw [h]; rfl) x_o111
set_option maxRecDepth 100000 in
theorem x_o112 : (List.range 33).all (fun p => x_ck 112 p (x_c112 p)) = true := by decide +kernel
theorem x_g112 {m p : Nat} : Nat.beq m 112 = true → x_good m p (x_c112 p) := x_gk (n := 33) (fun p h => by unfold x_c112; rw [h]; rfl) x_o112
set_option maxRecDepth 100000 in
theorem x_o113 : (List.range 23).all (fun p => x_ck 113 p (x_c113 p)) = true := by decide +kernel
theorem x_g113 {m p : Nat} : Nat.beq m 113 = true → x_good m p (x_c113 p) := x_gk (n := 23) (fun p h => by unfold x_c113; rw [h]; rfl) x_o113
set_option maxRecDepth 100000 in
theorem x_o114 : (List.range 39).all (fun p => x_ck 114 p (x_c114 p)) = true := by decide +kernel
theorem x_g114 {m p : Nat} : Nat.beq m 114 = true → x_good m p (x_c114 p) := x_gk (n := 39) (fun p h => by unfold x_c114; rw [h]; rfl) x_o114
set_option maxRecDepth 100000 in
theorem x_o115 : (List.range 55).all (fun p => x_ck 115 p (x_c115 p)) = true := by decide +kernel
theorem x_g115 {m p : Nat} : Nat.beq m 115 = true → x_good m p (x_c115 p) := x_gk (n := 55) (fun p h => by unfold x_c115; rw [h]; rfl) x_o115
set_option maxRecDepth 100000 in
theorem x_o116 : (List.range 31).all (fun p => x_ck 116 p (x_c116 p)) = true := by decide +kernel
theorem x_g116 {m p : Nat} : Nat.beq m 116 = true → x_good m p (x_c116 p) := x_gk (n := 31) (fun p h => by unfold x_c116; rw [h]; rfl) x_o116
set_option maxRecDepth 100000 in
theorem x_o117 : (List.range 19).all (fun p => x_ck 117 p (x_c117 p)) = true := by decide +kernel
theorem x_g117 {m p : Nat} : Nat.beq m 117 = true → x_good m p (x_c117 p) := x_gk (n := 19) (fun p h => by unfold x_c117; rw [h]; rfl) x_o117
set_option maxRecDepth 100000 in
theorem x_o118 : (List.range 39).all (fun p => x_ck 118 p (x_c118 p)) = true := by decide +kernel
theorem x_g118 {m p : Nat} : Nat.beq m 118 = true → x_good m p (x_c118 p) := x_gk (n := 39) (fun p h => by unfold x_c118; rw [h]; rfl) x_o118
set_option maxRecDepth 100000 in
theorem x_o119 : (List.range 62).all (fun p => x_ck 119 p (x_c119 p)) = true := by decide +kernel
theorem x_g119 {m p : Nat} : Nat.beq m 119 = true → x_good m p (x_c119 p) := x_gk (n := 62) (fun p h => by unfold x_c119; rw [h]; rfl) x_o119
set_option maxRecDepth 100000 in
theorem x_o120 : (List.range 75).all (fun p => x_ck 120 p (x_c120 p)) = true := by decide +kernel
theorem x_g120 {m p : Nat} : Nat.beq m 120 = true → x_good m p (x_c120 p) := x_gk (n := 75) (fun p h => by unfold x_c120; rw [h]; rfl) x_o120
set_option maxRecDepth 100000 in
theorem x_o121 : (List.range 22).all (fun p => x_ck 121 p (x_c121 p)) = true := by decide +kernel
theorem x_g121 {m p : Nat} : Nat.beq m 121 = true → x_good m p (x_c121 p) := x_gk (n := 22) (fun p h => by unfold x_c121; rw [h]; rfl) x_o121
set_option maxRecDepth 100000 in
theorem x_o122 : (List.range 39).all (fun p => x_ck 122 p (x_c122 p)) = true := by decide +kernel
theorem x_g122 {m p : Nat} : Nat.beq m 122 = true → x_good m p (x_c122 p) := x_gk (n := 39) (fun p h => by unfold x_c122; rw [h]; rfl) x_o122
set_option maxRecDepth 100000 in
theorem x_o123 : (List.range 62).all (fun p => x_ck 123 p (x_c123 p)) = true := by decide +kernel
theorem x_g123 {m p : Nat} : Nat.beq m 123 = true → x_good m p (x_c123 p) := x_gk (n := 62) (fun p h => by unfold x_c123; rw [h]; rfl) x_o123
set_option maxRecDepth 100000 in
theorem x_o124 : (List.range 22).all (fun p => x_ck 124 p (x_c124 p)) = true := by decide +kernel
theorem x_g124 {m p : Nat} : Nat.beq m 124 = true → x_good m p (x_c124 p) := x_gk (n := 22) (fun p h => by unfold x_c124; rw [h]; rfl) x_o124
set_option maxRecDepth 100000 in
theorem x_o125 : (List.range 22).all (fun p => x_ck 125 p (x_c125 p)) = true := by decide +kernel
theorem x_g125 {m p : Nat} : Nat.beq m 125 = true → x_good m p (x_c125 p) := x_gk (n := 22) (fun p h => by unfold x_c125; rw [h]; rfl) x_o125
set_option maxRecDepth 100000 in
theorem x_o126 : (List.range 48).all (fun p => x_ck 126 p (x_c126 p)) = true := by decide +kernel
theorem x_g126 {m p : Nat} : Nat.beq m 126 = true → x_good m p (x_c126 p) := x_gk (n := 48) (fun p h => by unfold x_c126; rw [h]; rfl) x_o126
set_option maxRecDepth 100000 in
theorem x_o127 : (List.range 73).all (fun p => x_ck 127 p (x_c127 p)) = true := by decide +kernel
theorem x_g127 {m p : Nat} : Nat.beq m 127 = true → x_good m p (x_c127 p) := x_gk (n := 73) (fun p h => by unfold x_c127; rw [h]; rfl) x_o127
set_option maxRecDepth 100000 in
theorem x_o128 : (List.range 34).all (fun p => x_ck 128 p (x_c128 p)) = true := by decide +kernel
theorem x_g128 {m p : Nat} : Nat.beq m 128 = true → x_good m p (x_c128 p) := x_gk (n := 34) (fun p h => by unfold x_c128; rw [h]; rfl) x_o128
set_option maxRecDepth 100000 in
theorem x_o129 : (List.range 100).all (fun p => x_ck 129 p (x_c129 p)) = true := by decide +kernel
theorem x_g129 {m p : Nat} : Nat.beq m 129 = true → x_good m p (x_c129 p) := x_gk (n := 100) (fun p h => by unfold x_c129; rw [h]; rfl) x_o129
set_option maxRecDepth 100000 in
theorem x_o130 : (List.range 19).all (fun p => x_ck 130 p (x_c130 p)) = true := by decide +kernel
theorem x_g130 {m p : Nat} : Nat.beq m 130 = true → x_good m p (x_c130 p) := x_gk (n := 19) (fun p h => by unfold x_c130; rw [h]; rfl) x_o130
set_option maxRecDepth 100000 in
theorem x_o131 : (List.range 22).all (fun p => x_ck 131 p (x_c131 p)) = true := by decide +kernel
theorem x_g131 {m p : Nat} : Nat.beq m 131 = true → x_good m p (x_c131 p) := x_gk (n := 22) (fun p h => by unfold x_c131; rw [h]; rfl) x_o131
set_option maxRecDepth 100000 in
theorem x_o132 : (List.range 22).all (fun p => x_ck 132 p (x_c132 p)) = true := by decide +kernel
theorem x_g132 {m p : Nat} : Nat.beq m 132 = true → x_good m p (x_c132 p) := x_gk (n := 22) (fun p h => by unfold x_c132; rw [h]; rfl) x_o132
set_option maxRecDepth 100000 in
theorem x_o133 : (List.range 94).all (fun p => x_ck 133 p (x_c133 p)) = true := by decide +kernel
theorem x_g133 {m p : Nat} : Nat.beq m 133 = true → x_good m p (x_c133 p) := x_gk (n := 94) (fun p h => by unfold x_c133; rw [h]; rfl) x_o133
set_option maxRecDepth 100000 in
theorem x_o134 : (List.range 27).all (fun p => x_ck 134 p (x_c134 p)) = true := by decide +kernel
theorem x_g134 {m p : Nat} : Nat.beq m 134 = true → x_good m p (x_c134 p) := x_gk (n := 27) (fun p h => by unfold x_c134; rw [h]; rfl) x_o134
set_option maxRecDepth 100000 in
theorem x_o135 : (List.range 100).all (fun p => x_ck 135 p (x_c135 p)) = true := by decide +kernel
theorem x_g135 {m p : Nat} : Nat.beq m 135 = true → x_good m p (x_c135 p) := x_gk (n := 100) (fun p h => by unfold x_c135; rw [h]; rfl) x_o135
set_option maxRecDepth 100000 in
theorem x_o136 : (List.range 23).all (fun p => x_ck 136 p (x_c136 p)) = true := by decide +kernel
theorem x_g136 {m p : Nat} : Nat.beq m 136 = true → x_good m p (x_c136 p) := x_gk (n := 23) (fun p h => by unfold x_c136; rw [h]; rfl) x_o136
set_option maxRecDepth 100000 in
theorem x_o137 : (List.range 43).all (fun p => x_ck 137 p (x_c137 p)) = true := by decide +kernel
theorem x_g137 {m p : Nat} : Nat.beq m 137 = true → x_good m p (x_c137 p) := x_gk (n := 43) (fun p h => by unfold x_c137; rw [h]; rfl) x_o137
set_option maxRecDepth 100000 in
theorem x_o138 : (List.range 15).all (fun p => x_ck 138 p (x_c138 p)) = true := by decide +kernel
theorem x_g138 {m p : Nat} : Nat.beq m 138 = true → x_good m p (x_c138 p) := x_gk (n := 15) (fun p h => by unfold x_c138; rw [h]; rfl) x_o138
set_option maxRecDepth 100000 in
theorem x_o139 : (List.range 32).all (fun p => x_ck 139 p (x_c139 p)) = true := by decide +kernel
theorem x_g139 {m p : Nat} : Nat.beq m 139 = true → x_good m p (x_c139 p) := x_gk (n := 32) (fun p h => by unfold x_c139; rw [h]; rfl) x_o139
set_option maxRecDepth 100000 in
theorem x_o140 : (List.range 16).all (fun p => x_ck 140 p (x_c140 p)) = true := by decide +kernel
theorem x_g140 {m p : Nat} : Nat.beq m 140 = true → x_good m p (x_c140 p) := x_gk (n := 16) (fun p h => by unfold x_c140; rw [h]; rfl) x_o140
set_option maxRecDepth 100000 in
theorem x_o141 : (List.range 104).all (fun p => x_ck 141 p (x_c141 p)) = true := by decide +kernel
theorem x_g141 {m p : Nat} : Nat.beq m 141 = true → x_good m p (x_c141 p) := x_gk (n := 104) (fun p h => by unfold x_c141; rw [h]; rfl) x_o141
set_option maxRecDepth 100000 in
theorem x_o142 : (List.range 11).all (fun p => x_ck 142 p (x_c142 p)) = true := by decide +kernel
theorem x_g142 {m p : Nat} : Nat.beq m 142 = true → x_good m p (x_c142 p) := x_gk (n := 11) (fun p h => by unfold x_c142; rw [h]; rfl) x_o142
set_option maxRecDepth 100000 in
theorem x_o143 : (List.range 12).all (fun p => x_ck 143 p (x_c143 p)) = true := by decide +kernel
theorem x_g143 {m p : Nat} : Nat.beq m 143 = true → x_good m p (x_c143 p) := x_gk (n := 12) (fun p h => by unfold x_c143; rw [h]; rfl) x_o143
set_option maxRecDepth 100000 in
theorem x_o144 : (List.range 134).all (fun p => x_ck 144 p (x_c144 p)) = true := by decide +kernel
theorem x_g144 {m p : Nat} : Nat.beq m 144 = true → x_good m p (x_c144 p) := x_gk (n := 134) (fun p h => by unfold x_c144; rw [h]; rfl) x_o144
set_option maxRecDepth 100000 in
theorem x_o145 : (List.range 64).all (fun p => x_ck 145 p (x_c145 p)) = true := by decide +kernel
theorem x_g145 {m p : Nat} : Nat.beq m 145 = true → x_good m p (x_c145 p) := x_gk (n := 64) (fun p h => by unfold x_c145; rw [h]; rfl) x_o145
set_option maxRecDepth 100000 in
theorem x_o146 : (List.range 23).all (fun p => x_ck 146 p (x_c146 p)) = true := by decide +kernel
theorem x_g146 {m p : Nat} : Nat.beq m 146 = true → x_good m p (x_c146 p) := x_gk (n := 23) (fun p h => by unfold x_c146; rw [h]; rfl) x_o146
set_option maxRecDepth 100000 in
theorem x_o147 : (List.range 18).all (fun p => x_ck 147 p (x_c147 p)) = true := by decide +kernel
theorem x_g147 {m p : Nat} : Nat.beq m 147 = true → x_good m p (x_c147 p) := x_gk (n := 18) (fun p h => by unfold x_c147; rw [h]; rfl) x_o147
set_option maxRecDepth 100000 in
theorem x_o148 : (List.range 23).all (fun p => x_ck 148 p (x_c148 p)) = true := by decide +kernel
theorem x_g148 {m p : Nat} : Nat.beq m 148 = true → x_good m p (x_c148 p) := x_gk (n := 23) (fun p h => by unfold x_c148; rw [h]; rfl) x_o148
set_option maxRecDepth 100000 in
theorem x_o149 : (List.range 23).all (fun p => x_ck 149 p (x_c149 p)) = true := by decide +kernel
theorem x_g149 {m p : Nat} : Nat.beq m 149 = true → x_good m p (x_c149 p) := x_gk (n := 23) (fun p h => by unfold x_c149; rw [h]; rfl) x_o149
set_option maxRecDepth 100000 in
theorem x_o150 : (List.range 23).all (fun p => x_ck 150 p (x_c150 p)) = true := by decide +kernel
theorem x_g150 {m p : Nat} : Nat.beq m 150 = true → x_good m p (x_c150 p) := x_gk (n := 23) (fun p h => by unfold x_c150; rw [h]; rfl) x_o150
set_option maxRecDepth 100000 in
theorem x_o151 : (List.range 49).all (fun p => x_ck 151 p (x_c151 p)) = true := by decide +kernel
theorem x_g151 {m p : Nat} : Nat.beq m 151 = true → x_good m p (x_c151 p) := x_gk (n := 49) (fun p h => by unfold x_c151; rw [h]; rfl) x_o151
set_option maxRecDepth 100000 in
theorem x_o152 : (List.range 84).all (fun p => x_ck 152 p (x_c152 p)) = true := by decide +kernel
theorem x_g152 {m p : Nat} : Nat.beq m 152 = true → x_good m p (x_c152 p) := x_gk (n := 84) (fun p h => by unfold x_c152; rw [h]; rfl) x_o152
set_option maxRecDepth 100000 in
theorem x_o153 : (List.range 48).all (fun p => x_ck 153 p (x_c153 p)) = true := by decide +kernel
theorem x_g153 {m p : Nat} : Nat.beq m 153 = true → x_good m p (x_c153 p) := x_gk (n := 48) (fun p h => by unfold x_c153; rw [h]; rfl) x_o153
set_option maxRecDepth 100000 in
theorem x_o154 : (List.range 47).all (fun p => x_ck 154 p (x_c154 p)) = true := by decide +kernel
theorem x_g154 {m p : Nat} : Nat.beq m 154 = true → x_good m p (x_c154 p) := x_gk (n := 47) (fun p h => by unfold x_c154; rw [h]; rfl) x_o154
set_option maxRecDepth 100000 in
theorem x_o155 : (List.range 68).all (fun p => x_ck 155 p (x_c155 p)) = true := by decide +kernel
theorem x_g155 {m p : Nat} : Nat.beq m 155 = true → x_good m p (x_c155 p) := x_gk (n := 68) (fun p h => by unfold x_c155; rw [h]; rfl) x_o155
set_option maxRecDepth 100000 in
theorem x_o156 : (List.range 31).all (fun p => x_ck 156 p (x_c156 p)) = true := by decide +kernel
theorem x_g156 {m p : Nat} : Nat.beq m 156 = true → x_good m p (x_c156 p) := x_gk (n := 31) (fun p h => by unfold x_c156; rw [h]; rfl) x_o156
set_option maxRecDepth 100000 in
theorem x_o157 : (List.range 32).all (fun p => x_ck 157 p (x_c157 p)) = true := by decide +kernel
theorem x_g157 {m p : Nat} : Nat.beq m 157 = true → x_good m p (x_c157 p) := x_gk (n := 32) (fun p h => by unfold x_c157; rw [h]; rfl) x_o157
set_option maxRecDepth 100000 in
theorem x_o158 : (List.range 23).all (fun p => x_ck 158 p (x_c158 p)) = true := by decide +kernel
theorem x_g158 {m p : Nat} : Nat.beq m 158 = true → x_good m p (x_c158 p) := x_gk (n := 23) (fun p h => by unfold x_c158; rw [h]; rfl) x_o158
set_option maxRecDepth 100000 in
theorem x_o159 : (List.range 41).all (fun p => x_ck 159 p (x_c159 p)) = true := by decide +kernel
theorem x_g159 {m p : Nat} : Nat.beq m 159 = true → x_good m p (x_c159 p) := x_gk (n := 41) (fun p h => by unfold x_c159; rw [h]; rfl) x_o159
set_option maxRecDepth 100000 in
theorem x_o160 : (List.range 44).all (fun p => x_ck 160 p (x_c160 p)) = true := by decide +kernel
theorem x_g160 {m p : Nat} : Nat.beq m 160 = true → x_good m p (x_c160 p) := x_gk (n := 44) (fun p h => by unfold x_c160; rw [h]; rfl) x_o160
set_option maxRecDepth 100000 in
theorem x_o161 : (List.range 19).all (fun p => x_ck 161 p (x_c161 p)) = true := by decide +kernel
theorem x_g161 {m p : Nat} : Nat.beq m 161 = true → x_good m p (x_c161 p) := x_gk (n := 19) (fun p h => by unfold x_c161; rw [h]; rfl) x_o161
set_option maxRecDepth 100000 in
theorem x_o162 : (List.range 42).all (fun p => x_ck 162 p (x_c162 p)) = true := by decide +kernel
theorem x_g162 {m p : Nat} : Nat.beq m 162 = true → x_good m p (x_c162 p) := x_gk (n := 42) (fun p h => by unfold x_c162; rw [h]; rfl) x_o162
set_option maxRecDepth 100000 in
theorem x_o163 : (List.range 114).all (fun p => x_ck 163 p (x_c163 p)) = true := by decide +kernel
theorem x_g163 {m p : Nat} : Nat.beq m 163 = true → x_good m p (x_c163 p) := x_gk (n := 114) (fun p h => by unfold x_c163; rw [h]; rfl) x_o163
set_option maxRecDepth 100000 in
theorem x_o164 : (List.range 32).all (fun p => x_ck 164 p (x_c164 p)) = true := by decide +kernel
theorem x_g164 {m p : Nat} : Nat.beq m 164 = true → x_good m p (x_c164 p) := x_gk (n := 32) (fun p h => by unfold x_c164; rw [h]; rfl) x_o164
set_option maxRecDepth 100000 in
theorem x_o165 : (List.range 13).all (fun p => x_ck 165 p (x_c165 p)) = true := by decide +kernel
theorem x_g165 {m p : Nat} : Nat.beq m 165 = true → x_good m p (x_c165 p) := x_gk (n := 13) (fun p h => by unfold x_c165; rw [h]; rfl) x_o165
set_option maxRecDepth 100000 in
theorem x_o166 : (List.range 48).all (fun p => x_ck 166 p (x_c166 p)) = true := by decide +kernel
theorem x_g166 {m p : Nat} : Nat.beq m 166 = true → x_good m p (x_c166 p) := x_gk (n := 48) (fun p h => by unfold x_c166; rw [h]; rfl) x_o166
set_option maxRecDepth 100000 in
theorem x_o167 : (List.range 12).all (fun p => x_ck 167 p (x_c167 p)) = true := by decide +kernel
theorem x_g167 {m p : Nat} : Nat.beq m 167 = true → x_good m p (x_c167 p) := x_gk (n := 12) (fun p h => by unfold x_c167; rw [h]; rfl) x_o167
set_option maxRecDepth 100000 in
theorem x_o168 : (List.range 16).all (fun p => x_ck 168 p (x_c168 p)) = true := by decide +kernel
theorem x_g168 {m p : Nat} : Nat.beq m 168 = true → x_good m p (x_c168 p) := x_gk (n := 16) (fun p h => by unfold x_c168; rw [h]; rfl) x_o168
set_option maxRecDepth 100000 in
theorem x_o169 : (List.range 24).all (fun p => x_ck 169 p (x_c169 p)) = true := by decide +kernel
theorem x_g169 {m p : Nat} : Nat.beq m 169 = true → x_good m p (x_c169 p) := x_gk (n := 24) (fun p h => by unfold x_c169; rw [h]; rfl) x_o169
set_option maxRecDepth 100000 in
theorem x_o170 : (List.range 27).all (fun p => x_ck 170 p (x_c170 p)) = true := by decide +kernel
theorem x_g170 {m p : Nat} : Nat.beq m 170 = true → x_good m p (x_c170 p) := x_gk (n := 27) (fun p h => by unfold x_c170; rw [h]; rfl) x_o170
set_option maxRecDepth 100000 in
theorem x_o171 : (List.range 133).all (fun p => x_ck 171 p (x_c171 p)) = true := by decide +kernel
theorem x_g171 {m p : Nat} : Nat.beq m 171 = true → x_good m p (x_c171 p) := x_gk (n := 133) (fun p h => by unfold x_c171; rw [h]; rfl) x_o171
