set_option maxRecDepth 100000 in
theorem x_o221 : (List.range 28).all (fun p => x_ck 221 p (x_c221 p)) = true := by decide +kernel
theorem x_g221 {m p : Nat} : Nat.beq m 221 = true → x_good m p (x_c221 p) := x_gk (n := 28) (fun p h => by unfold x_c221; rw [h]; rfl) x_o221
set_option maxRecDepth 100000 in
theorem x_o222 : (List.range 11).all (fun p => x_ck 222 p (x_c222 p)) = true := by decide +kernel
theorem x_g222 {m p : Nat} : Nat.beq m 222 = true → x_good m p (x_c222 p) := x_gk (n := 11) (fun p h => by unfold x_c222; rw [h]; rfl) x_o222
set_option maxRecDepth 100000 in
theorem x_o223 : (List.range 20).all (fun p => x_ck 223 p (x_c223 p)) = true := by decide +kernel
theorem x_g223 {m p : Nat} : Nat.beq m 223 = true → x_good m p (x_c223 p) := x_gk (n := 20) (fun p h => by unfold x_c223; rw [h]; rfl) x_o223
set_option maxRecDepth 100000 in
theorem x_o224 : (List.range 308).all (fun p => x_ck 224 p (x_c224 p)) = true := by decide +kernel
theorem x_g224 {m p : Nat} : Nat.beq m 224 = true → x_good m p (x_c224 p) := x_gk (n := 308) (fun p h => by unfold x_c224; rw [h]; rfl) x_o224
set_option maxRecDepth 100000 in
theorem x_o225 : (List.range 34).all (fun p => x_ck 225 p (x_c225 p)) = true := by decide +kernel
theorem x_g225 {m p : Nat} : Nat.beq m 225 = true → x_good m p (x_c225 p) := x_gk (n := 34) (fun p h => by unfold x_c225; rw [h]; rfl) x_o225
set_option maxRecDepth 100000 in
theorem x_o226 : (List.range 13).all (fun p => x_ck 226 p (x_c226 p)) = true := by decide +kernel
theorem x_g226 {m p : Nat} : Nat.beq m 226 = true → x_good m p (x_c226 p) := x_gk (n := 13) (fun p h => by unfold x_c226; rw [h]; rfl) x_o226
set_option maxRecDepth 100000 in
theorem x_o227 : (List.range 14).all (fun p => x_ck 227 p (x_c227 p)) = true := by decide +kernel
theorem x_g227 {m p : Nat} : Nat.beq m 227 = true → x_good m p (x_c227 p) := x_gk (n := 14) (fun p h => by unfold x_c227; rw [h]; rfl) x_o227
set_option maxRecDepth 100000 in
theorem x_o228 : (List.range 16).all (fun p => x_ck 228 p (x_c228 p)) = true := by decide +kernel
theorem x_g228 {m p : Nat} : Nat.beq m 228 = true → x_good m p (x_c228 p) := x_gk (n := 16) (fun p h => by unfold x_c228; rw [h]; rfl) x_o228
set_option maxRecDepth 100000 in
theorem x_o229 : (List.range 30).all (fun p => x_ck 229 p (x_c229 p)) = true := by decide +kernel
theorem x_g229 {m p : Nat} : Nat.beq m 229 = true → x_good m p (x_c229 p) := x_gk (n := 30) (fun p h => by unfold x_c229; rw [h]; rfl) x_o229
set_option maxRecDepth 100000 in
theorem x_o230 : (List.range 22).all (fun p => x_ck 230 p (x_c230 p)) = true := by decide +kernel
theorem x_g230 {m p : Nat} : Nat.beq m 230 = true → x_good m p (x_c230 p) := x_gk (n := 22) (fun p h => by unfold x_c230; rw [h]; rfl) x_o230
set_option maxRecDepth 100000 in
theorem x_o231 : (List.range 13).all (fun p => x_ck 231 p (x_c231 p)) = true := by decide +kernel
theorem x_g231 {m p : Nat} : Nat.beq m 231 = true → x_good m p (x_c231 p) := x_gk (n := 13) (fun p h => by unfold x_c231; rw [h]; rfl) x_o231
set_option maxRecDepth 100000 in
theorem x_o232 : (List.range 57).all (fun p => x_ck 232 p (x_c232 p)) = true := by decide +kernel
theorem x_g232 {m p : Nat} : Nat.beq m 232 = true → x_good m p (x_c232 p) := x_gk (n := 57) (fun p h => by unfold x_c232; rw [h]; rfl) x_o232
set_option maxRecDepth 100000 in
theorem x_o233 : (List.range 99).all (fun p => x_ck 233 p (x_c233 p)) = true := by decide +kernel
theorem x_g233 {m p : Nat} : Nat.beq m 233 = true → x_good m p (x_c233 p) := x_gk (n := 99) (fun p h => by unfold x_c233; rw [h]; rfl) x_o233
set_option maxRecDepth 100000 in
theorem x_o234 : (List.range 50).all (fun p => x_ck 234 p (x_c234 p)) = true := by decide +kernel
theorem x_g234 {m p : Nat} : Nat.beq m 234 = true → x_good m p (x_c234 p) := x_gk (n := 50) (fun p h => by unfold x_c234; rw [h]; rfl) x_o234
set_option maxRecDepth 100000 in
theorem x_o235 : (List.range 10).all (fun p => x_ck 235 p (x_c235 p)) = true := by decide +kernel
theorem x_g235 {m p : Nat} : Nat.beq m 235 = true → x_good m p (x_c235 p) := x_gk (n := 10) (fun p h => by unfold x_c235; rw [h]; rfl) x_o235
set_option maxRecDepth 100000 in
theorem x_o236 : (List.range 86).all (fun p => x_ck 236 p (x_c236 p)) = true := by decide +kernel
theorem x_g236 {m p : Nat} : Nat.beq m 236 = true → x_good m p (x_c236 p) := x_gk (n := 86) (fun p h => by unfold x_c236; rw [h]; rfl) x_o236
set_option maxRecDepth 100000 in
theorem x_o237 : (List.range 112).all (fun p => x_ck 237 p (x_c237 p)) = true := by decide +kernel
theorem x_g237 {m p : Nat} : Nat.beq m 237 = true → x_good m p (x_c237 p) := x_gk (n := 112) (fun p h => by unfold x_c237; rw [h]; rfl) x_o237
set_option maxRecDepth 100000 in
theorem x_o238 : (List.range 73).all (fun p => x_ck 238 p (x_c238 p)) = true := by decide +kernel
theorem x_g238 {m p : Nat} : Nat.beq m 238 = true → x_good m p (x_c238 p) := x_gk (n := 73) (fun p h => by unfold x_c238; rw [h]; rfl) x_o238
set_option maxRecDepth 100000 in
theorem x_o239 : (List.range 76).all (fun p => x_ck 239 p (x_c239 p)) = true := by decide +kernel
theorem x_g239 {m p : Nat} : Nat.beq m 239 = true → x_good m p (x_c239 p) := x_gk (n := 76) (fun p h => by unfold x_c239; rw [h]; rfl) x_o239
set_option maxRecDepth 100000 in
theorem x_o240 : (List.range 25).all (fun p => x_ck 240 p (x_c240 p)) = true := by decide +kernel
theorem x_g240 {m p : Nat} : Nat.beq m 240 = true → x_good m p (x_c240 p) := x_gk (n := 25) (fun p h => by unfold x_c240; rw [h]; rfl) x_o240
set_option maxRecDepth 100000 in
theorem x_o241 : (List.range 33).all (fun p => x_ck 241 p (x_c241 p)) = true := by decide +kernel
theorem x_g241 {m p : Nat} : Nat.beq m 241 = true → x_good m p (x_c241 p) := x_gk (n := 33) (fun p h => by unfold x_c241; rw [h]; rfl) x_o241
set_option maxRecDepth 100000 in
theorem x_o242 : (List.range 66).all (fun p => x_ck 242 p (x_c242 p)) = true := by decide +kernel
theorem x_g242 {m p : Nat} : Nat.beq m 242 = true → x_good m p (x_c242 p) := x_gk (n := 66) (fun p h => by unfold x_c242; rw [h]; rfl) x_o242
set_option maxRecDepth 100000 in
theorem x_o243 : (List.range 32).all (fun p => x_ck 243 p (x_c243 p)) = true := by decide +kernel
theorem x_g243 {m p : Nat} : Nat.beq m 243 = true → x_good m p (x_c243 p) := x_gk (n := 32) (fun p h => by unfold x_c243; rw [h]; rfl) x_o243
set_option maxRecDepth 100000 in
theorem x_o244 : (List.range 41).all (fun p => x_ck 244 p (x_c244 p)) = true := by decide +kernel
theorem x_g244 {m p : Nat} : Nat.beq m 244 = true → x_good m p (x_c244 p) := x_gk (n := 41) (fun p h => by unfold x_c244; rw [h]; rfl) x_o244
set_option maxRecDepth 100000 in
theorem x_o245 : (List.range 14).all (fun p => x_ck 245 p (x_c245 p)) = true := by decide +kernel
theorem x_g245 {m p : Nat} : Nat.beq m 245 = true → x_good m p (x_c245 p) := x_gk (n := 14) (fun p h => by unfold x_c245; rw [h]; rfl) x_o245
set_option maxRecDepth 100000 in
theorem x_o246 : (List.range 7).all (fun p => x_ck 246 p (x_c246 p)) = true := by decide +kernel
theorem x_g246 {m p : Nat} : Nat.beq m 246 = true → x_good m p (x_c246 p) := x_gk (n := 7) (fun p h => by unfold x_c246; rw [h]; rfl) x_o246
set_option maxRecDepth 100000 in
theorem x_o247 : (List.range 24).all (fun p => x_ck 247 p (x_c247 p)) = true := by decide +kernel
theorem x_g247 {m p : Nat} : Nat.beq m 247 = true → x_good m p (x_c247 p) := x_gk (n := 24) (fun p h => by unfold x_c247; rw [h]; rfl) x_o247
set_option maxRecDepth 100000 in
theorem x_o248 : (List.range 76).all (fun p => x_ck 248 p (x_c248 p)) = true := by decide +kernel
theorem x_g248 {m p : Nat} : Nat.beq m 248 = true → x_good m p (x_c248 p) := x_gk (n := 76) (fun p h => by unfold x_c248; rw [h]; rfl) x_o248
set_option maxRecDepth 100000 in
theorem x_o249 : (List.range 42).all (fun p => x_ck 249 p (x_c249 p)) = true := by decide +kernel
theorem x_g249 {m p : Nat} : Nat.beq m 249 = true → x_good m p (x_c249 p) := x_gk (n := 42) (fun p h => by unfold x_c249; rw [h]; rfl) x_o249
set_option maxRecDepth 100000 in
theorem x_o250 : (List.range 13).all (fun p => x_ck 250 p (x_c250 p)) = true := by decide +kernel
theorem x_g250 {m p : Nat} : Nat.beq m 250 = true → x_good m p (x_c250 p) := x_gk (n := 13) (fun p h => by unfold x_c250; rw [h]; rfl) x_o250
set_option maxRecDepth 100000 in
theorem x_o251 : (List.range 7).all (fun p => x_ck 251 p (x_c251 p)) = true := by decide +kernel
theorem x_g251 {m p : Nat} : Nat.beq m 251 = true → x_good m p (x_c251 p) := x_gk (n := 7) (fun p h => by unfold x_c251; rw [h]; rfl) x_o251
set_option maxRecDepth 100000 in
theorem x_o252 : (List.range 62).all (fun p => x_ck 252 p (x_c252 p)) = true := by decide +kernel
theorem x_g252 {m p : Nat} : Nat.beq m 252 = true → x_good m p (x_c252 p) := x_gk (n := 62) (fun p h => by unfold x_c252; rw [h]; rfl) x_o252
set_option maxRecDepth 100000 in
theorem x_o253 : (List.range 9).all (fun p => x_ck 253 p (x_c253 p)) = true := by decide +kernel
theorem x_g253 {m p : Nat} : Nat.beq m 253 = true → x_good m p (x_c253 p) := x_gk (n := 9) (fun p h => by unfold x_c253; rw [h]; rfl) x_o253
set_option maxRecDepth 100000 in
theorem x_o254 : (List.range 113).all (fun p => x_ck 254 p (x_c254 p)) = true := by decide +kernel
theorem x_g254 {m p : Nat} : Nat.beq m 254 = true → x_good m p (x_c254 p) := x_gk (n := 113) (fun p h => by unfold x_c254; rw [h]; rfl) x_o254
set_option maxRecDepth 100000 in
theorem x_o255 : (List.range 279).all (fun p => x_ck 255 p (x_c255 p)) = true := by decide +kernel
theorem x_g255 {m p : Nat} : Nat.beq m 255 = true → x_good m p (x_c255 p) := x_gk (n := 279) (fun p h => by unfold x_c255; rw [h]; rfl) x_o255
set_option maxRecDepth 100000 in
theorem x_o256 : (List.range 7).all (fun p => x_ck 256 p (x_c256 p)) = true := by decide +kernel
theorem x_g256 {m p : Nat} : Nat.beq m 256 = true → x_good m p (x_c256 p) := x_gk (n := 7) (fun p h => by unfold x_c256; rw [h]; rfl) x_o256
set_option maxRecDepth 100000 in
theorem x_o257 : (List.range 67).all (fun p => x_ck 257 p (x_c257 p)) = true := by decide +kernel
theorem x_g257 {m p : Nat} : Nat.beq m 257 = true → x_good m p (x_c257 p) := x_gk (n := 67) (fun p h => by unfold x_c257; rw [h]; rfl) x_o257
set_option maxRecDepth 100000 in
theorem x_o258 : (List.range 15).all (fun p => x_ck 258 p (x_c258 p)) = true := by decide +kernel
theorem x_g258 {m p : Nat} : Nat.beq m 258 = true → x_good m p (x_c258 p) := x_gk (n := 15) (fun p h => by unfold x_c258; rw [h]; rfl) x_o258
set_option maxRecDepth 100000 in
theorem x_o259 : (List.range 215).all (fun p => x_ck 259 p (x_c259 p)) = true := by decide +kernel
theorem x_g259 {m p : Nat} : Nat.beq m 259 = true → x_good m p (x_c259 p) := x_gk (n := 215) (fun p h => by unfold x_c259; rw [h]; rfl) x_o259
set_option maxRecDepth 100000 in
theorem x_o260 : (List.range 128).all (fun p => x_ck 260 p (x_c260 p)) = true := by decide +kernel
theorem x_g260 {m p : Nat} : Nat.beq m 260 = true → x_good m p (x_c260 p) := x_gk (n := 128) (fun p h => by unfold x_c260; rw [h]; rfl) x_o260
set_option maxRecDepth 100000 in
theorem x_o261 : (List.range 59).all (fun p => x_ck 261 p (x_c261 p)) = true := by decide +kernel
theorem x_g261 {m p : Nat} : Nat.beq m 261 = true → x_good m p (x_c261 p) := x_gk (n := 59) (fun p h => by unfold x_c261; rw [h]; rfl) x_o261
set_option maxRecDepth 100000 in
theorem x_o262 : (List.range 11).all (fun p => x_ck 262 p (x_c262 p)) = true := by decide +kernel
theorem x_g262 {m p : Nat} : Nat.beq m 262 = true → x_good m p (x_c262 p) := x_gk (n := 11) (fun p h => by unfold x_c262; rw [h]; rfl) x_o262
set_option maxRecDepth 100000 in
theorem x_o263 : (List.range 18).all (fun p => x_ck 263 p (x_c263 p)) = true := by decide +kernel
theorem x_g263 {m p : Nat} : Nat.beq m 263 = true → x_good m p (x_c263 p) := x_gk (n := 18) (fun p h => by unfold x_c263; rw [h]; rfl) x_o263
set_option maxRecDepth 100000 in
theorem x_o264 : (List.range 11).all (fun p => x_ck 264 p (x_c264 p)) = true := by decide +kernel
theorem x_g264 {m p : Nat} : Nat.beq m 264 = true → x_good m p (x_c264 p) := x_gk (n := 11) (fun p h => by unfold x_c264; rw [h]; rfl) x_o264
set_option maxRecDepth 100000 in
theorem x_o265 : (List.range 175).all (fun p => x_ck 265 p (x_c265 p)) = true := by decide +kernel
theorem x_g265 {m p : Nat} : Nat.beq m 265 = true → x_good m p (x_c265 p) := x_gk (n := 175) (fun p h => by unfold x_c265; rw [h]; rfl) x_o265
