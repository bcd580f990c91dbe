set_option maxRecDepth 100000 in
theorem x_o266 : (List.range 27).all (fun p => x_ck 266 p (x_c266 p)) = true := by decide +kernel
theorem x_g266 {m p : Nat} : Nat.beq m 266 = true → x_good m p (x_c266 p) := x_gk (n := 27) (fun p h => by unfold x_c266; rw [h]; rfl) x_o266
set_option maxRecDepth 100000 in
theorem x_o267 : (List.range 33).all (fun p => x_ck 267 p (x_c267 p)) = true := by decide +kernel
theorem x_g267 {m p : Nat} : Nat.beq m 267 = true → x_good m p (x_c267 p) := x_gk (n := 33) (fun p h => by unfold x_c267; rw [h]; rfl) x_o267
set_option maxRecDepth 100000 in
theorem x_o268 : (List.range 16).all (fun p => x_ck 268 p (x_c268 p)) = true := by decide +kernel
theorem x_g268 {m p : Nat} : Nat.beq m 268 = true → x_good m p (x_c268 p) := x_gk (n := 16) (fun p h => by unfold x_c268; rw [h]; rfl) x_o268
set_option maxRecDepth 100000 in
theorem x_o269 : (List.range 41).all (fun p => x_ck 269 p (x_c269 p)) = true := by decide +kernel
theorem x_g269 {m p : Nat} : Nat.beq m 269 = true → x_good m p (x_c269 p) := x_gk (n := 41) (fun p h => by unfold x_c269; rw [h]; rfl) x_o269
set_option maxRecDepth 100000 in
theorem x_o270 : (List.range 28).all (fun p => x_ck 270 p (x_c270 p)) = true := by decide +kernel
theorem x_g270 {m p : Nat} : Nat.beq m 270 = true → x_good m p (x_c270 p) := x_gk (n := 28) (fun p h => by unfold x_c270; rw [h]; rfl) x_o270
set_option maxRecDepth 100000 in
theorem x_o271 : (List.range 27).all (fun p => x_ck 271 p (x_c271 p)) = true := by decide +kernel
theorem x_g271 {m p : Nat} : Nat.beq m 271 = true → x_good m p (x_c271 p) := x_gk (n := 27) (fun p h => by unfold x_c271; rw [h]; rfl) x_o271
set_option maxRecDepth 100000 in
theorem x_o272 : (List.range 108).all (fun p => x_ck 272 p (x_c272 p)) = true := by decide +kernel
theorem x_g272 {m p : Nat} : Nat.beq m 272 = true → x_good m p (x_c272 p) := x_gk (n := 108) (fun p h => by unfold x_c272; rw [h]; rfl) x_o272
set_option maxRecDepth 100000 in
theorem x_o273 : (List.range 39).all (fun p => x_ck 273 p (x_c273 p)) = true := by decide +kernel
theorem x_g273 {m p : Nat} : Nat.beq m 273 = true → x_good m p (x_c273 p) := x_gk (n := 39) (fun p h => by unfold x_c273; rw [h]; rfl) x_o273
set_option maxRecDepth 100000 in
theorem x_o274 : (List.range 70).all (fun p => x_ck 274 p (x_c274 p)) = true := by decide +kernel
theorem x_g274 {m p : Nat} : Nat.beq m 274 = true → x_good m p (x_c274 p) := x_gk (n := 70) (fun p h => by unfold x_c274; rw [h]; rfl) x_o274
set_option maxRecDepth 100000 in
theorem x_o275 : (List.range 57).all (fun p => x_ck 275 p (x_c275 p)) = true := by decide +kernel
theorem x_g275 {m p : Nat} : Nat.beq m 275 = true → x_good m p (x_c275 p) := x_gk (n := 57) (fun p h => by unfold x_c275; rw [h]; rfl) x_o275
set_option maxRecDepth 100000 in
theorem x_o276 : (List.range 15).all (fun p => x_ck 276 p (x_c276 p)) = true := by decide +kernel
theorem x_g276 {m p : Nat} : Nat.beq m 276 = true → x_good m p (x_c276 p) := x_gk (n := 15) (fun p h => by unfold x_c276; rw [h]; rfl) x_o276
set_option maxRecDepth 100000 in
theorem x_o277 : (List.range 40).all (fun p => x_ck 277 p (x_c277 p)) = true := by decide +kernel
theorem x_g277 {m p : Nat} : Nat.beq m 277 = true → x_good m p (x_c277 p) := x_gk (n := 40) (fun p h => by unfold x_c277; rw [h]; rfl) x_o277
set_option maxRecDepth 100000 in
theorem x_o278 : (List.range 27).all (fun p => x_ck 278 p (x_c278 p)) = true := by decide +kernel
theorem x_g278 {m p : Nat} : Nat.beq m 278 = true → x_good m p (x_c278 p) := x_gk (n := 27) (fun p h => by unfold x_c278; rw [h]; rfl) x_o278
set_option maxRecDepth 100000 in
theorem x_o279 : (List.range 40).all (fun p => x_ck 279 p (x_c279 p)) = true := by decide +kernel
theorem x_g279 {m p : Nat} : Nat.beq m 279 = true → x_good m p (x_c279 p) := x_gk (n := 40) (fun p h => by unfold x_c279; rw [h]; rfl) x_o279
set_option maxRecDepth 100000 in
theorem x_o280 : (List.range 67).all (fun p => x_ck 280 p (x_c280 p)) = true := by decide +kernel
theorem x_g280 {m p : Nat} : Nat.beq m 280 = true → x_good m p (x_c280 p) := x_gk (n := 67) (fun p h => by unfold x_c280; rw [h]; rfl) x_o280
set_option maxRecDepth 100000 in
theorem x_o281 : (List.range 16).all (fun p => x_ck 281 p (x_c281 p)) = true := by decide +kernel
theorem x_g281 {m p : Nat} : Nat.beq m 281 = true → x_good m p (x_c281 p) := x_gk (n := 16) (fun p h => by unfold x_c281; rw [h]; rfl) x_o281
set_option maxRecDepth 100000 in
theorem x_o282 : (List.range 57).all (fun p => x_ck 282 p (x_c282 p)) = true := by decide +kernel
theorem x_g282 {m p : Nat} : Nat.beq m 282 = true → x_good m p (x_c282 p) := x_gk (n := 57) (fun p h => by unfold x_c282; rw [h]; rfl) x_o282
set_option maxRecDepth 100000 in
theorem x_o283 : (List.range 78).all (fun p => x_ck 283 p (x_c283 p)) = true := by decide +kernel
theorem x_g283 {m p : Nat} : Nat.beq m 283 = true → x_good m p (x_c283 p) := x_gk (n := 78) (fun p h => by unfold x_c283; rw [h]; rfl) x_o283
set_option maxRecDepth 100000 in
theorem x_o284 : (List.range 49).all (fun p => x_ck 284 p (x_c284 p)) = true := by decide +kernel
theorem x_g284 {m p : Nat} : Nat.beq m 284 = true → x_good m p (x_c284 p) := x_gk (n := 49) (fun p h => by unfold x_c284; rw [h]; rfl) x_o284
set_option maxRecDepth 100000 in
theorem x_o285 : (List.range 62).all (fun p => x_ck 285 p (x_c285 p)) = true := by decide +kernel
theorem x_g285 {m p : Nat} : Nat.beq m 285 = true → x_good m p (x_c285 p) := x_gk (n := 62) (fun p h => by unfold x_c285; rw [h]; rfl) x_o285
set_option maxRecDepth 100000 in
theorem x_o286 : (List.range 78).all (fun p => x_ck 286 p (x_c286 p)) = true := by decide +kernel
theorem x_g286 {m p : Nat} : Nat.beq m 286 = true → x_good m p (x_c286 p) := x_gk (n := 78) (fun p h => by unfold x_c286; rw [h]; rfl) x_o286
set_option maxRecDepth 100000 in
theorem x_o287 : (List.range 26).all (fun p => x_ck 287 p (x_c287 p)) = true := by decide +kernel
theorem x_g287 {m p : Nat} : Nat.beq m 287 = true → x_good m p (x_c287 p) := x_gk (n := 26) (fun p h => by unfold x_c287; rw [h]; rfl) x_o287
set_option maxRecDepth 100000 in
theorem x_o288 : (List.range 29).all (fun p => x_ck 288 p (x_c288 p)) = true := by decide +kernel
theorem x_g288 {m p : Nat} : Nat.beq m 288 = true → x_good m p (x_c288 p) := x_gk (n := 29) (fun p h => by unfold x_c288; rw [h]; rfl) x_o288
set_option maxRecDepth 100000 in
theorem x_o289 : (List.range 87).all (fun p => x_ck 289 p (x_c289 p)) = true := by decide +kernel
theorem x_g289 {m p : Nat} : Nat.beq m 289 = true → x_good m p (x_c289 p) := x_gk (n := 87) (fun p h => by unfold x_c289; rw [h]; rfl) x_o289
set_option maxRecDepth 100000 in
theorem x_o290 : (List.range 36).all (fun p => x_ck 290 p (x_c290 p)) = true := by decide +kernel
theorem x_g290 {m p : Nat} : Nat.beq m 290 = true → x_good m p (x_c290 p) := x_gk (n := 36) (fun p h => by unfold x_c290; rw [h]; rfl) x_o290
set_option maxRecDepth 100000 in
theorem x_o291 : (List.range 77).all (fun p => x_ck 291 p (x_c291 p)) = true := by decide +kernel
theorem x_g291 {m p : Nat} : Nat.beq m 291 = true → x_good m p (x_c291 p) := x_gk (n := 77) (fun p h => by unfold x_c291; rw [h]; rfl) x_o291
set_option maxRecDepth 100000 in
theorem x_o292 : (List.range 54).all (fun p => x_ck 292 p (x_c292 p)) = true := by decide +kernel
theorem x_g292 {m p : Nat} : Nat.beq m 292 = true → x_good m p (x_c292 p) := x_gk (n := 54) (fun p h => by unfold x_c292; rw [h]; rfl) x_o292
set_option maxRecDepth 100000 in
theorem x_o293 : (List.range 24).all (fun p => x_ck 293 p (x_c293 p)) = true := by decide +kernel
theorem x_g293 {m p : Nat} : Nat.beq m 293 = true → x_good m p (x_c293 p) := x_gk (n := 24) (fun p h => by unfold x_c293; rw [h]; rfl) x_o293
set_option maxRecDepth 100000 in
theorem x_o294 : (List.range 40).all (fun p => x_ck 294 p (x_c294 p)) = true := by decide +kernel
theorem x_g294 {m p : Nat} : Nat.beq m 294 = true → x_good m p (x_c294 p) := x_gk (n := 40) (fun p h => by unfold x_c294; rw [h]; rfl) x_o294
set_option maxRecDepth 100000 in
theorem x_o295 : (List.range 30).all (fun p => x_ck 295 p (x_c295 p)) = true := by decide +kernel
theorem x_g295 {m p : Nat} : Nat.beq m 295 = true → x_good m p (x_c295 p) := x_gk (n := 30) (fun p h => by unfold x_c295; rw [h]; rfl) x_o295
set_option maxRecDepth 100000 in
theorem x_o296 : (List.range 67).all (fun p => x_ck 296 p (x_c296 p)) = true := by decide +kernel
theorem x_g296 {m p : Nat} : Nat.beq m 296 = true → x_good m p (x_c296 p) := x_gk (n := 67) (fun p h => by unfold x_c296; rw [h]; rfl) x_o296
set_option maxRecDepth 100000 in
theorem x_o297 : (List.range 27).all (fun p => x_ck 297 p (x_c297 p)) = true := by decide +kernel
theorem x_g297 {m p : Nat} : Nat.beq m 297 = true → x_good m p (x_c297 p) := x_gk (n := 27) (fun p h => by unfold x_c297; rw [h]; rfl) x_o297
set_option maxRecDepth 100000 in
theorem x_o298 : (List.range 60).all (fun p => x_ck 298 p (x_c298 p)) = true := by decide +kernel
theorem x_g298 {m p : Nat} : Nat.beq m 298 = true → x_good m p (x_c298 p) := x_gk (n := 60) (fun p h => by unfold x_c298; rw [h]; rfl) x_o298
set_option maxRecDepth 100000 in
theorem x_o299 : (List.range 27).all (fun p => x_ck 299 p (x_c299 p)) = true := by decide +kernel
theorem x_g299 {m p : Nat} : Nat.beq m 299 = true → x_good m p (x_c299 p) := x_gk (n := 27) (fun p h => by unfold x_c299; rw [h]; rfl) x_o299
set_option maxRecDepth 100000 in
theorem x_o300 : (List.range 61).all (fun p => x_ck 300 p (x_c300 p)) = true := by decide +kernel
theorem x_g300 {m p : Nat} : Nat.beq m 300 = true → x_good m p (x_c300 p) := x_gk (n := 61) (fun p h => by unfold x_c300; rw [h]; rfl) x_o300
set_option maxRecDepth 100000 in
theorem x_o301 : (List.range 58).all (fun p => x_ck 301 p (x_c301 p)) = true := by decide +kernel
theorem x_g301 {m p : Nat} : Nat.beq m 301 = true → x_good m p (x_c301 p) := x_gk (n := 58) (fun p h => by unfold x_c301; rw [h]; rfl) x_o301
set_option maxRecDepth 100000 in
theorem x_o302 : (List.range 63).all (fun p => x_ck 302 p (x_c302 p)) = true := by decide +kernel
theorem x_g302 {m p : Nat} : Nat.beq m 302 = true → x_good m p (x_c302 p) := x_gk (n := 63) (fun p h => by unfold x_c302; rw [h]; rfl) x_o302
set_option maxRecDepth 100000 in
theorem x_o303 : (List.range 14).all (fun p => x_ck 303 p (x_c303 p)) = true := by decide +kernel
theorem x_g303 {m p : Nat} : Nat.beq m 303 = true → x_good m p (x_c303 p) := x_gk (n := 14) (fun p h => by unfold x_c303; rw [h]; rfl) x_o303
set_option maxRecDepth 100000 in
theorem x_o304 : (List.range 35).all (fun p => x_ck 304 p (x_c304 p)) = true := by decide +kernel
theorem x_g304 {m p : Nat} : Nat.beq m 304 = true → x_good m p (x_c304 p) := x_gk (n := 35) (fun p h => by unfold x_c304; rw [h]; rfl) x_o304
set_option maxRecDepth 100000 in
theorem x_o305 : (List.range 59).all (fun p => x_ck 305 p (x_c305 p)) = true := by decide +kernel
theorem x_g305 {m p : Nat} : Nat.beq m 305 = true → x_good m p (x_c305 p) := x_gk (n := 59) (fun p h => by unfold x_c305; rw [h]; rfl) x_o305
set_option maxRecDepth 100000 in
theorem x_o306 : (List.range 25).all (fun p => x_ck 306 p (x_c306 p)) = true := by decide +kernel
theorem x_g306 {m p : Nat} : Nat.beq m 306 = true → x_good m p (x_c306 p) := x_gk (n := 25) (fun p h => by unfold x_c306; rw [h]; rfl) x_o306
set_option maxRecDepth 100000 in
theorem x_o307 : (List.range 109).all (fun p => x_ck 307 p (x_c307 p)) = true := by decide +kernel
theorem x_g307 {m p : Nat} : Nat.beq m 307 = true → x_good m p (x_c307 p) := x_gk (n := 109) (fun p h => by unfold x_c307; rw [h]; rfl) x_o307
set_option maxRecDepth 100000 in
theorem x_o308 : (List.range 25).all (fun p => x_ck 308 p (x_c308 p)) = true := by decide +kernel
theorem x_g308 {m p : Nat} : Nat.beq m 308 = true → x_good m p (x_c308 p) := x_gk (n := 25) (fun p h => by unfold x_c308; rw [h]; rfl) x_o308
set_option maxRecDepth 100000 in
theorem x_o309 : (List.range 67).all (fun p => x_ck 309 p (x_c309 p)) = true := by decide +kernel
theorem x_g309 {m p : Nat} : Nat.beq m 309 = true → x_good m p (x_c309 p) := x_gk (n := 67) (fun p h => by unfold x_c309; rw [h]; rfl) x_o309
set_option maxRecDepth 100000 in
theorem x_o310 : (List.range 116).all (fun p => x_ck 310 p (x_c310 p)) = true := by decide +kernel
theorem x_g310 {m p : Nat} : Nat.beq m 310 = true → x_good m p (x_c310 p) := x_gk (n := 116) (fun p h => by unfold x_c310; rw [h]; rfl) x_o310
set_option maxRecDepth 100000 in
theorem x_o311 : (List.range 74).all (fun p => x_ck 311 p (x_c311 p)) = true := by decide +kernel
theorem x_g311 {m p : Nat} : Nat.beq m 311 = true → x_good m p (x_c311 p) := x_gk (n := 74) (fun p h => by unfold x_c311; rw [h]; rfl) x_o311
set_option maxRecDepth 100000 in
theorem x_o312 : (List.range 39).all (fun p => x_ck 312 p (x_c312 p)) = true := by decide +kernel
theorem x_g312 {m p : Nat} : Nat.beq m 312 = true → x_good m p (x_c312 p) := x_gk (n := 39) (fun p h => by unfold x_c312; rw [h]; rfl) x_o312
set_option maxRecDepth 100000 in
theorem x_o313 : (List.range 53).all (fun p => x_ck 313 p (x_c313 p)) = true := by decide +kernel
theorem x_g313 {m p : Nat} : Nat.beq m 313 = true → x_good m p (x_c313 p) := x_gk (n := 53) (fun p h => by unfold x_c313; rw [h]; rfl) x_o313
set_option maxRecDepth 100000 in
theorem x_o314 : (List.range 48).all (fun p => x_ck 314 p (x_c314 p)) = true := by decide +kernel
theorem x_g314 {m p : Nat} : Nat.beq m 314 = true → x_good m p (x_c314 p) := x_gk (n := 48) (fun p h => by unfold x_c314; rw [h]; rfl) x_o314
set_option maxRecDepth 100000 in
theorem x_o315 : (List.range 22).all (fun p => x_ck 315 p (x_c315 p)) = true := by decide +kernel
theorem x_g315 {m p : Nat} : Nat.beq m 315 = true → x_good m p (x_c315 p) := x_gk (n := 22) (fun p h => by unfold x_c315; rw [h]; rfl) x_o315
set_option maxRecDepth 100000 in
theorem x_o316 : (List.range 34).all (fun p => x_ck 316 p (x_c316 p)) = true := by decide +kernel
theorem x_g316 {m p : Nat} : Nat.beq m 316 = true → x_good m p (x_c316 p) := x_gk (n := 34) (fun p h => by unfold x_c316; rw [h]; rfl) x_o316
set_option maxRecDepth 100000 in
theorem x_o317 : (List.range 32).all (fun p => x_ck 317 p (x_c317 p)) = true := by decide +kernel
theorem x_g317 {m p : Nat} : Nat.beq m 317 = true → x_good m p (x_c317 p) := x_gk (n := 32) (fun p h => by unfold x_c317; rw [h]; rfl) x_o317
set_option maxRecDepth 100000 in
theorem x_o318 : (List.range 26).all (fun p => x_ck 318 p (x_c318 p)) = true := by decide +kernel
theorem x_g318 {m p : Nat} : Nat.beq m 318 = true → x_good m p (x_c318 p) := x_gk (n := 26) (fun p h => by unfold x_c318; rw [h]; rfl) x_o318
