set_option maxRecDepth 100000 in
theorem x_o172 : (List.range 70).all (fun p => x_ck 172 p (x_c172 p)) = true := by decide +kernel
theorem x_g172 {m p : Nat} : Nat.beq m 172 = true → x_good m p (x_c172 p) := x_gk (n := 70) (fun p h => by unfold x_c172; rw [h]; rfl) x_o172
set_option maxRecDepth 100000 in
theorem x_o173 : (List.range 20).all (fun p => x_ck 173 p (x_c173 p)) = true := by decide +kernel
theorem x_g173 {m p : Nat} : Nat.beq m 173 = true → x_good m p (x_c173 p) := x_gk (n := 20) (fun p h => by unfold x_c173; rw [h]; rfl) x_o173
set_option maxRecDepth 100000 in
theorem x_o174 : (List.range 52).all (fun p => x_ck 174 p (x_c174 p)) = true := by decide +kernel
theorem x_g174 {m p : Nat} : Nat.beq m 174 = true → x_good m p (x_c174 p) := x_gk (n := 52) (fun p h => by unfold x_c174; rw [h]; rfl) x_o174
set_option maxRecDepth 100000 in
theorem x_o175 : (List.range 15).all (fun p => x_ck 175 p (x_c175 p)) = true := by decide +kernel
theorem x_g175 {m p : Nat} : Nat.beq m 175 = true → x_good m p (x_c175 p) := x_gk (n := 15) (fun p h => by unfold x_c175; rw [h]; rfl) x_o175
set_option maxRecDepth 100000 in
theorem x_o176 : (List.range 53).all (fun p => x_ck 176 p (x_c176 p)) = true := by decide +kernel
theorem x_g176 {m p : Nat} : Nat.beq m 176 = true → x_good m p (x_c176 p) := x_gk (n := 53) (fun p h => by unfold x_c176; rw [h]; rfl) x_o176
set_option maxRecDepth 100000 in
theorem x_o177 : (List.range 110).all (fun p => x_ck 177 p (x_c177 p)) = true := by decide +kernel
theorem x_g177 {m p : Nat} : Nat.beq m 177 = true → x_good m p (x_c177 p) := x_gk (n := 110) (fun p h => by unfold x_c177; rw [h]; rfl) x_o177
set_option maxRecDepth 100000 in
theorem x_o178 : (List.range 68).all (fun p => x_ck 178 p (x_c178 p)) = true := by decide +kernel
theorem x_g178 {m p : Nat} : Nat.beq m 178 = true → x_good m p (x_c178 p) := x_gk (n := 68) (fun p h => by unfold x_c178; rw [h]; rfl) x_o178
set_option maxRecDepth 100000 in
theorem x_o179 : (List.range 32).all (fun p => x_ck 179 p (x_c179 p)) = true := by decide +kernel
theorem x_g179 {m p : Nat} : Nat.beq m 179 = true → x_good m p (x_c179 p) := x_gk (n := 32) (fun p h => by unfold x_c179; rw [h]; rfl) x_o179
set_option maxRecDepth 100000 in
theorem x_o180 : (List.range 42).all (fun p => x_ck 180 p (x_c180 p)) = true := by decide +kernel
theorem x_g180 {m p : Nat} : Nat.beq m 180 = true → x_good m p (x_c180 p) := x_gk (n := 42) (fun p h => by unfold x_c180; rw [h]; rfl) x_o180
set_option maxRecDepth 100000 in
theorem x_o181 : (List.range 90).all (fun p => x_ck 181 p (x_c181 p)) = true := by decide +kernel
theorem x_g181 {m p : Nat} : Nat.beq m 181 = true → x_good m p (x_c181 p) := x_gk (n := 90) (fun p h => by unfold x_c181; rw [h]; rfl) x_o181
set_option maxRecDepth 100000 in
theorem x_o182 : (List.range 48).all (fun p => x_ck 182 p (x_c182 p)) = true := by decide +kernel
theorem x_g182 {m p : Nat} : Nat.beq m 182 = true → x_good m p (x_c182 p) := x_gk (n := 48) (fun p h => by unfold x_c182; rw [h]; rfl) x_o182
set_option maxRecDepth 100000 in
theorem x_o183 : (List.range 61).all (fun p => x_ck 183 p (x_c183 p)) = true := by decide +kernel
theorem x_g183 {m p : Nat} : Nat.beq m 183 = true → x_good m p (x_c183 p) := x_gk (n := 61) (fun p h => by unfold x_c183; rw [h]; rfl) x_o183
set_option maxRecDepth 100000 in
theorem x_o184 : (List.range 47).all (fun p => x_ck 184 p (x_c184 p)) = true := by decide +kernel
theorem x_g184 {m p : Nat} : Nat.beq m 184 = true → x_good m p (x_c184 p) := x_gk (n := 47) (fun p h => by unfold x_c184; rw [h]; rfl) x_o184
set_option maxRecDepth 100000 in
theorem x_o185 : (List.range 39).all (fun p => x_ck 185 p (x_c185 p)) = true := by decide +kernel
theorem x_g185 {m p : Nat} : Nat.beq m 185 = true → x_good m p (x_c185 p) := x_gk (n := 39) (fun p h => by unfold x_c185; rw [h]; rfl) x_o185
set_option maxRecDepth 100000 in
theorem x_o186 : (List.range 51).all (fun p => x_ck 186 p (x_c186 p)) = true := by decide +kernel
theorem x_g186 {m p : Nat} : Nat.beq m 186 = true → x_good m p (x_c186 p) := x_gk (n := 51) (fun p h => by unfold x_c186; rw [h]; rfl) x_o186
set_option maxRecDepth 100000 in
theorem x_o187 : (List.range 35).all (fun p => x_ck 187 p (x_c187 p)) = true := by decide +kernel
theorem x_g187 {m p : Nat} : Nat.beq m 187 = true → x_good m p (x_c187 p) := x_gk (n := 35) (fun p h => by unfold x_c187; rw [h]; rfl) x_o187
set_option maxRecDepth 100000 in
theorem x_o188 : (List.range 59).all (fun p => x_ck 188 p (x_c188 p)) = true := by decide +kernel
theorem x_g188 {m p : Nat} : Nat.beq m 188 = true → x_good m p (x_c188 p) := x_gk (n := 59) (fun p h => by unfold x_c188; rw [h]; rfl) x_o188
set_option maxRecDepth 100000 in
theorem x_o189 : (List.range 16).all (fun p => x_ck 189 p (x_c189 p)) = true := by decide +kernel
theorem x_g189 {m p : Nat} : Nat.beq m 189 = true → x_good m p (x_c189 p) := x_gk (n := 16) (fun p h => by unfold x_c189; rw [h]; rfl) x_o189
set_option maxRecDepth 100000 in
theorem x_o190 : (List.range 84).all (fun p => x_ck 190 p (x_c190 p)) = true := by decide +kernel
theorem x_g190 {m p : Nat} : Nat.beq m 190 = true → x_good m p (x_c190 p) := x_gk (n := 84) (fun p h => by unfold x_c190; rw [h]; rfl) x_o190
set_option maxRecDepth 100000 in
theorem x_o191 : (List.range 31).all (fun p => x_ck 191 p (x_c191 p)) = true := by decide +kernel
theorem x_g191 {m p : Nat} : Nat.beq m 191 = true → x_good m p (x_c191 p) := x_gk (n := 31) (fun p h => by unfold x_c191; rw [h]; rfl) x_o191
set_option maxRecDepth 100000 in
theorem x_o192 : (List.range 44).all (fun p => x_ck 192 p (x_c192 p)) = true := by decide +kernel
theorem x_g192 {m p : Nat} : Nat.beq m 192 = true → x_good m p (x_c192 p) := x_gk (n := 44) (fun p h => by unfold x_c192; rw [h]; rfl) x_o192
set_option maxRecDepth 100000 in
theorem x_o193 : (List.range 72).all (fun p => x_ck 193 p (x_c193 p)) = true := by decide +kernel
theorem x_g193 {m p : Nat} : Nat.beq m 193 = true → x_good m p (x_c193 p) := x_gk (n := 72) (fun p h => by unfold x_c193; rw [h]; rfl) x_o193
set_option maxRecDepth 100000 in
theorem x_o194 : (List.range 60).all (fun p => x_ck 194 p (x_c194 p)) = true := by decide +kernel
theorem x_g194 {m p : Nat} : Nat.beq m 194 = true → x_good m p (x_c194 p) := x_gk (n := 60) (fun p h => by unfold x_c194; rw [h]; rfl) x_o194
set_option maxRecDepth 100000 in
theorem x_o195 : (List.range 138).all (fun p => x_ck 195 p (x_c195 p)) = true := by decide +kernel
theorem x_g195 {m p : Nat} : Nat.beq m 195 = true → x_good m p (x_c195 p) := x_gk (n := 138) (fun p h => by unfold x_c195; rw [h]; rfl) x_o195
set_option maxRecDepth 100000 in
theorem x_o196 : (List.range 33).all (fun p => x_ck 196 p (x_c196 p)) = true := by decide +kernel
theorem x_g196 {m p : Nat} : Nat.beq m 196 = true → x_good m p (x_c196 p) := x_gk (n := 33) (fun p h => by unfold x_c196; rw [h]; rfl) x_o196
set_option maxRecDepth 100000 in
theorem x_o197 : (List.range 39).all (fun p => x_ck 197 p (x_c197 p)) = true := by decide +kernel
theorem x_g197 {m p : Nat} : Nat.beq m 197 = true → x_good m p (x_c197 p) := x_gk (n := 39) (fun p h => by unfold x_c197; rw [h]; rfl) x_o197
set_option maxRecDepth 100000 in
theorem x_o198 : (List.range 45).all (fun p => x_ck 198 p (x_c198 p)) = true := by decide +kernel
theorem x_g198 {m p : Nat} : Nat.beq m 198 = true → x_good m p (x_c198 p) := x_gk (n := 45) (fun p h => by unfold x_c198; rw [h]; rfl) x_o198
set_option maxRecDepth 100000 in
theorem x_o199 : (List.range 50).all (fun p => x_ck 199 p (x_c199 p)) = true := by decide +kernel
theorem x_g199 {m p : Nat} : Nat.beq m 199 = true → x_good m p (x_c199 p) := x_gk (n := 50) (fun p h => by unfold x_c199; rw [h]; rfl) x_o199
set_option maxRecDepth 100000 in
theorem x_o200 : (List.range 15).all (fun p => x_ck 200 p (x_c200 p)) = true := by decide +kernel
theorem x_g200 {m p : Nat} : Nat.beq m 200 = true → x_good m p (x_c200 p) := x_gk (n := 15) (fun p h => by unfold x_c200; rw [h]; rfl) x_o200
set_option maxRecDepth 100000 in
theorem x_o201 : (List.range 50).all (fun p => x_ck 201 p (x_c201 p)) = true := by decide +kernel
theorem x_g201 {m p : Nat} : Nat.beq m 201 = true → x_good m p (x_c201 p) := x_gk (n := 50) (fun p h => by unfold x_c201; rw [h]; rfl) x_o201
set_option maxRecDepth 100000 in
theorem x_o202 : (List.range 48).all (fun p => x_ck 202 p (x_c202 p)) = true := by decide +kernel
theorem x_g202 {m p : Nat} : Nat.beq m 202 = true → x_good m p (x_c202 p) := x_gk (n := 48) (fun p h => by unfold x_c202; rw [h]; rfl) x_o202
set_option maxRecDepth 100000 in
theorem x_o203 : (List.range 40).all (fun p => x_ck 203 p (x_c203 p)) = true := by decide +kernel
theorem x_g203 {m p : Nat} : Nat.beq m 203 = true → x_good m p (x_c203 p) := x_gk (n := 40) (fun p h => by unfold x_c203; rw [h]; rfl) x_o203
set_option maxRecDepth 100000 in
theorem x_o204 : (List.range 44).all (fun p => x_ck 204 p (x_c204 p)) = true := by decide +kernel
theorem x_g204 {m p : Nat} : Nat.beq m 204 = true → x_good m p (x_c204 p) := x_gk (n := 44) (fun p h => by unfold x_c204; rw [h]; rfl) x_o204
set_option maxRecDepth 100000 in
theorem x_o205 : (List.range 89).all (fun p => x_ck 205 p (x_c205 p)) = true := by decide +kernel
theorem x_g205 {m p : Nat} : Nat.beq m 205 = true → x_good m p (x_c205 p) := x_gk (n := 89) (fun p h => by unfold x_c205; rw [h]; rfl) x_o205
set_option maxRecDepth 100000 in
theorem x_o206 : (List.range 21).all (fun p => x_ck 206 p (x_c206 p)) = true := by decide +kernel
theorem x_g206 {m p : Nat} : Nat.beq m 206 = true → x_good m p (x_c206 p) := x_gk (n := 21) (fun p h => by unfold x_c206; rw [h]; rfl) x_o206
set_option maxRecDepth 100000 in
theorem x_o207 : (List.range 53).all (fun p => x_ck 207 p (x_c207 p)) = true := by decide +kernel
theorem x_g207 {m p : Nat} : Nat.beq m 207 = true → x_good m p (x_c207 p) := x_gk (n := 53) (fun p h => by unfold x_c207; rw [h]; rfl) x_o207
set_option maxRecDepth 100000 in
theorem x_o208 : (List.range 30).all (fun p => x_ck 208 p (x_c208 p)) = true := by decide +kernel
theorem x_g208 {m p : Nat} : Nat.beq m 208 = true → x_good m p (x_c208 p) := x_gk (n := 30) (fun p h => by unfold x_c208; rw [h]; rfl) x_o208
set_option maxRecDepth 100000 in
theorem x_o209 : (List.range 231).all (fun p => x_ck 209 p (x_c209 p)) = true := by decide +kernel
theorem x_g209 {m p : Nat} : Nat.beq m 209 = true → x_good m p (x_c209 p) := x_gk (n := 231) (fun p h => by unfold x_c209; rw [h]; rfl) x_o209
set_option maxRecDepth 100000 in
theorem x_o210 : (List.range 84).all (fun p => x_ck 210 p (x_c210 p)) = true := by decide +kernel
theorem x_g210 {m p : Nat} : Nat.beq m 210 = true → x_good m p (x_c210 p) := x_gk (n := 84) (fun p h => by unfold x_c210; rw [h]; rfl) x_o210
set_option maxRecDepth 100000 in
theorem x_o211 : (List.range 10).all (fun p => x_ck 211 p (x_c211 p)) = true := by decide +kernel
theorem x_g211 {m p : Nat} : Nat.beq m 211 = true → x_good m p (x_c211 p) := x_gk (n := 10) (fun p h => by unfold x_c211; rw [h]; rfl) x_o211
set_option maxRecDepth 100000 in
theorem x_o212 : (List.range 19).all (fun p => x_ck 212 p (x_c212 p)) = true := by decide +kernel
theorem x_g212 {m p : Nat} : Nat.beq m 212 = true → x_good m p (x_c212 p) := x_gk (n := 19) (fun p h => by unfold x_c212; rw [h]; rfl) x_o212
set_option maxRecDepth 100000 in
theorem x_o213 : (List.range 72).all (fun p => x_ck 213 p (x_c213 p)) = true := by decide +kernel
theorem x_g213 {m p : Nat} : Nat.beq m 213 = true → x_good m p (x_c213 p) := x_gk (n := 72) (fun p h => by unfold x_c213; rw [h]; rfl) x_o213
set_option maxRecDepth 100000 in
theorem x_o214 : (List.range 36).all (fun p => x_ck 214 p (x_c214 p)) = true := by decide +kernel
theorem x_g214 {m p : Nat} : Nat.beq m 214 = true → x_good m p (x_c214 p) := x_gk (n := 36) (fun p h => by unfold x_c214; rw [h]; rfl) x_o214
set_option maxRecDepth 100000 in
theorem x_o215 : (List.range 192).all (fun p => x_ck 215 p (x_c215 p)) = true := by decide +kernel
theorem x_g215 {m p : Nat} : Nat.beq m 215 = true → x_good m p (x_c215 p) := x_gk (n := 192) (fun p h => by unfold x_c215; rw [h]; rfl) x_o215
set_option maxRecDepth 100000 in
theorem x_o216 : (List.range 52).all (fun p => x_ck 216 p (x_c216 p)) = true := by decide +kernel
theorem x_g216 {m p : Nat} : Nat.beq m 216 = true → x_good m p (x_c216 p) := x_gk (n := 52) (fun p h => by unfold x_c216; rw [h]; rfl) x_o216
set_option maxRecDepth 100000 in
theorem x_o217 : (List.range 37).all (fun p => x_ck 217 p (x_c217 p)) = true := by decide +kernel
theorem x_g217 {m p : Nat} : Nat.beq m 217 = true → x_good m p (x_c217 p) := x_gk (n := 37) (fun p h => by unfold x_c217; rw [h]; rfl) x_o217
set_option maxRecDepth 100000 in
theorem x_o218 : (List.range 28).all (fun p => x_ck 218 p (x_c218 p)) = true := by decide +kernel
theorem x_g218 {m p : Nat} : Nat.beq m 218 = true → x_good m p (x_c218 p) := x_gk (n := 28) (fun p h => by unfold x_c218; rw [h]; rfl) x_o218
set_option maxRecDepth 100000 in
theorem x_o219 : (List.range 30).all (fun p => x_ck 219 p (x_c219 p)) = true := by decide +kernel
theorem x_g219 {m p : Nat} : Nat.beq m 219 = true → x_good m p (x_c219 p) := x_gk (n := 30) (fun p h => by unfold x_c219; rw [h]; rfl) x_o219
set_option maxRecDepth 100000 in
theorem x_o220 : (List.range 145).all (fun p => x_ck 220 p (x_c220 p)) = true := by decide +kernel
theorem x_g220 {m p : Nat} : Nat.beq m 220 = true → x_good m p (x_c220 p) := x_gk (n := 145) (fun p h => by unfold x_c220; rw [h]; rfl) x_o220
