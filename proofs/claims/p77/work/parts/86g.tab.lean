set_option maxRecDepth 100000 in
theorem x_o319 : (List.range 23).all (fun p => x_ck 319 p (x_c319 p)) = true := by decide +kernel
theorem x_g319 {m p : Nat} : Nat.beq m 319 = true → x_good m p (x_c319 p) := x_gk (n := 23) (fun p h => by unfold x_c319; rw [h]; rfl) x_o319
set_option maxRecDepth 100000 in
theorem x_o320 : (List.range 61).all (fun p => x_ck 320 p (x_c320 p)) = true := by decide +kernel
theorem x_g320 {m p : Nat} : Nat.beq m 320 = true → x_good m p (x_c320 p) := x_gk (n := 61) (fun p h => by unfold x_c320; rw [h]; rfl) x_o320
set_option maxRecDepth 100000 in
theorem x_o321 : (List.range 70).all (fun p => x_ck 321 p (x_c321 p)) = true := by decide +kernel
theorem x_g321 {m p : Nat} : Nat.beq m 321 = true → x_good m p (x_c321 p) := x_gk (n := 70) (fun p h => by unfold x_c321; rw [h]; rfl) x_o321
set_option maxRecDepth 100000 in
theorem x_o322 : (List.range 26).all (fun p => x_ck 322 p (x_c322 p)) = true := by decide +kernel
theorem x_g322 {m p : Nat} : Nat.beq m 322 = true → x_good m p (x_c322 p) := x_gk (n := 26) (fun p h => by unfold x_c322; rw [h]; rfl) x_o322
set_option maxRecDepth 100000 in
theorem x_o323 : (List.range 26).all (fun p => x_ck 323 p (x_c323 p)) = true := by decide +kernel
theorem x_g323 {m p : Nat} : Nat.beq m 323 = true → x_good m p (x_c323 p) := x_gk (n := 26) (fun p h => by unfold x_c323; rw [h]; rfl) x_o323
set_option maxRecDepth 100000 in
theorem x_o324 : (List.range 26).all (fun p => x_ck 324 p (x_c324 p)) = true := by decide +kernel
theorem x_g324 {m p : Nat} : Nat.beq m 324 = true → x_good m p (x_c324 p) := x_gk (n := 26) (fun p h => by unfold x_c324; rw [h]; rfl) x_o324
set_option maxRecDepth 100000 in
theorem x_o325 : (List.range 118).all (fun p => x_ck 325 p (x_c325 p)) = true := by decide +kernel
theorem x_g325 {m p : Nat} : Nat.beq m 325 = true → x_good m p (x_c325 p) := x_gk (n := 118) (fun p h => by unfold x_c325; rw [h]; rfl) x_o325
set_option maxRecDepth 100000 in
theorem x_o326 : (List.range 37).all (fun p => x_ck 326 p (x_c326 p)) = true := by decide +kernel
theorem x_g326 {m p : Nat} : Nat.beq m 326 = true → x_good m p (x_c326 p) := x_gk (n := 37) (fun p h => by unfold x_c326; rw [h]; rfl) x_o326
set_option maxRecDepth 100000 in
theorem x_o327 : (List.range 90).all (fun p => x_ck 327 p (x_c327 p)) = true := by decide +kernel
theorem x_g327 {m p : Nat} : Nat.beq m 327 = true → x_good m p (x_c327 p) := x_gk (n := 90) (fun p h => by unfold x_c327; rw [h]; rfl) x_o327
set_option maxRecDepth 100000 in
theorem x_o328 : (List.range 25).all (fun p => x_ck 328 p (x_c328 p)) = true := by decide +kernel
theorem x_g328 {m p : Nat} : Nat.beq m 328 = true → x_good m p (x_c328 p) := x_gk (n := 25) (fun p h => by unfold x_c328; rw [h]; rfl) x_o328
set_option maxRecDepth 100000 in
theorem x_o329 : (List.range 87).all (fun p => x_ck 329 p (x_c329 p)) = true := by decide +kernel
theorem x_g329 {m p : Nat} : Nat.beq m 329 = true → x_good m p (x_c329 p) := x_gk (n := 87) (fun p h => by unfold x_c329; rw [h]; rfl) x_o329
set_option maxRecDepth 100000 in
theorem x_o330 : (List.range 100).all (fun p => x_ck 330 p (x_c330 p)) = true := by decide +kernel
theorem x_g330 {m p : Nat} : Nat.beq m 330 = true → x_good m p (x_c330 p) := x_gk (n := 100) (fun p h => by unfold x_c330; rw [h]; rfl) x_o330
set_option maxRecDepth 100000 in
theorem x_o331 : (List.range 33).all (fun p => x_ck 331 p (x_c331 p)) = true := by decide +kernel
theorem x_g331 {m p : Nat} : Nat.beq m 331 = true → x_good m p (x_c331 p) := x_gk (n := 33) (fun p h => by unfold x_c331; rw [h]; rfl) x_o331
set_option maxRecDepth 100000 in
theorem x_o332 : (List.range 114).all (fun p => x_ck 332 p (x_c332 p)) = true := by decide +kernel
theorem x_g332 {m p : Nat} : Nat.beq m 332 = true → x_good m p (x_c332 p) := x_gk (n := 114) (fun p h => by unfold x_c332; rw [h]; rfl) x_o332
set_option maxRecDepth 100000 in
theorem x_o333 : (List.range 150).all (fun p => x_ck 333 p (x_c333 p)) = true := by decide +kernel
theorem x_g333 {m p : Nat} : Nat.beq m 333 = true → x_good m p (x_c333 p) := x_gk (n := 150) (fun p h => by unfold x_c333; rw [h]; rfl) x_o333
set_option maxRecDepth 100000 in
theorem x_o334 : (List.range 56).all (fun p => x_ck 334 p (x_c334 p)) = true := by decide +kernel
theorem x_g334 {m p : Nat} : Nat.beq m 334 = true → x_good m p (x_c334 p) := x_gk (n := 56) (fun p h => by unfold x_c334; rw [h]; rfl) x_o334
set_option maxRecDepth 100000 in
theorem x_o335 : (List.range 34).all (fun p => x_ck 335 p (x_c335 p)) = true := by decide +kernel
theorem x_g335 {m p : Nat} : Nat.beq m 335 = true → x_good m p (x_c335 p) := x_gk (n := 34) (fun p h => by unfold x_c335; rw [h]; rfl) x_o335
set_option maxRecDepth 100000 in
theorem x_o336 : (List.range 19).all (fun p => x_ck 336 p (x_c336 p)) = true := by decide +kernel
theorem x_g336 {m p : Nat} : Nat.beq m 336 = true → x_good m p (x_c336 p) := x_gk (n := 19) (fun p h => by unfold x_c336; rw [h]; rfl) x_o336
set_option maxRecDepth 100000 in
theorem x_o337 : (List.range 97).all (fun p => x_ck 337 p (x_c337 p)) = true := by decide +kernel
theorem x_g337 {m p : Nat} : Nat.beq m 337 = true → x_good m p (x_c337 p) := x_gk (n := 97) (fun p h => by unfold x_c337; rw [h]; rfl) x_o337
set_option maxRecDepth 100000 in
theorem x_o338 : (List.range 58).all (fun p => x_ck 338 p (x_c338 p)) = true := by decide +kernel
theorem x_g338 {m p : Nat} : Nat.beq m 338 = true → x_good m p (x_c338 p) := x_gk (n := 58) (fun p h => by unfold x_c338; rw [h]; rfl) x_o338
set_option maxRecDepth 100000 in
theorem x_o339 : (List.range 57).all (fun p => x_ck 339 p (x_c339 p)) = true := by decide +kernel
theorem x_g339 {m p : Nat} : Nat.beq m 339 = true → x_good m p (x_c339 p) := x_gk (n := 57) (fun p h => by unfold x_c339; rw [h]; rfl) x_o339
set_option maxRecDepth 100000 in
theorem x_o340 : (List.range 33).all (fun p => x_ck 340 p (x_c340 p)) = true := by decide +kernel
theorem x_g340 {m p : Nat} : Nat.beq m 340 = true → x_good m p (x_c340 p) := x_gk (n := 33) (fun p h => by unfold x_c340; rw [h]; rfl) x_o340
set_option maxRecDepth 100000 in
theorem x_o341 : (List.range 33).all (fun p => x_ck 341 p (x_c341 p)) = true := by decide +kernel
theorem x_g341 {m p : Nat} : Nat.beq m 341 = true → x_good m p (x_c341 p) := x_gk (n := 33) (fun p h => by unfold x_c341; rw [h]; rfl) x_o341
set_option maxRecDepth 100000 in
theorem x_o342 : (List.range 63).all (fun p => x_ck 342 p (x_c342 p)) = true := by decide +kernel
theorem x_g342 {m p : Nat} : Nat.beq m 342 = true → x_good m p (x_c342 p) := x_gk (n := 63) (fun p h => by unfold x_c342; rw [h]; rfl) x_o342
set_option maxRecDepth 100000 in
theorem x_o343 : (List.range 18).all (fun p => x_ck 343 p (x_c343 p)) = true := by decide +kernel
theorem x_g343 {m p : Nat} : Nat.beq m 343 = true → x_good m p (x_c343 p) := x_gk (n := 18) (fun p h => by unfold x_c343; rw [h]; rfl) x_o343
set_option maxRecDepth 100000 in
theorem x_o344 : (List.range 35).all (fun p => x_ck 344 p (x_c344 p)) = true := by decide +kernel
theorem x_g344 {m p : Nat} : Nat.beq m 344 = true → x_good m p (x_c344 p) := x_gk (n := 35) (fun p h => by unfold x_c344; rw [h]; rfl) x_o344
set_option maxRecDepth 100000 in
theorem x_o345 : (List.range 47).all (fun p => x_ck 345 p (x_c345 p)) = true := by decide +kernel
theorem x_g345 {m p : Nat} : Nat.beq m 345 = true → x_good m p (x_c345 p) := x_gk (n := 47) (fun p h => by unfold x_c345; rw [h]; rfl) x_o345
set_option maxRecDepth 100000 in
theorem x_o346 : (List.range 41).all (fun p => x_ck 346 p (x_c346 p)) = true := by decide +kernel
theorem x_g346 {m p : Nat} : Nat.beq m 346 = true → x_good m p (x_c346 p) := x_gk (n := 41) (fun p h => by unfold x_c346; rw [h]; rfl) x_o346
set_option maxRecDepth 100000 in
theorem x_o347 : (List.range 29).all (fun p => x_ck 347 p (x_c347 p)) = true := by decide +kernel
theorem x_g347 {m p : Nat} : Nat.beq m 347 = true → x_good m p (x_c347 p) := x_gk (n := 29) (fun p h => by unfold x_c347; rw [h]; rfl) x_o347
set_option maxRecDepth 100000 in
theorem x_o348 : (List.range 122).all (fun p => x_ck 348 p (x_c348 p)) = true := by decide +kernel
theorem x_g348 {m p : Nat} : Nat.beq m 348 = true → x_good m p (x_c348 p) := x_gk (n := 122) (fun p h => by unfold x_c348; rw [h]; rfl) x_o348
set_option maxRecDepth 100000 in
theorem x_o349 : (List.range 8).all (fun p => x_ck 349 p (x_c349 p)) = true := by decide +kernel
theorem x_g349 {m p : Nat} : Nat.beq m 349 = true → x_good m p (x_c349 p) := x_gk (n := 8) (fun p h => by unfold x_c349; rw [h]; rfl) x_o349
set_option maxRecDepth 100000 in
theorem x_o350 : (List.range 18).all (fun p => x_ck 350 p (x_c350 p)) = true := by decide +kernel
theorem x_g350 {m p : Nat} : Nat.beq m 350 = true → x_good m p (x_c350 p) := x_gk (n := 18) (fun p h => by unfold x_c350; rw [h]; rfl) x_o350
set_option maxRecDepth 100000 in
theorem x_o351 : (List.range 17).all (fun p => x_ck 351 p (x_c351 p)) = true := by decide +kernel
theorem x_g351 {m p : Nat} : Nat.beq m 351 = true → x_good m p (x_c351 p) := x_gk (n := 17) (fun p h => by unfold x_c351; rw [h]; rfl) x_o351
set_option maxRecDepth 100000 in
theorem x_o352 : (List.range 29).all (fun p => x_ck 352 p (x_c352 p)) = true := by decide +kernel
theorem x_g352 {m p : Nat} : Nat.beq m 352 = true → x_good m p (x_c352 p) := x_gk (n := 29) (fun p h => by unfold x_c352; rw [h]; rfl) x_o352
set_option maxRecDepth 100000 in
theorem x_o353 : (List.range 125).all (fun p => x_ck 353 p (x_c353 p)) = true := by decide +kernel
theorem x_g353 {m p : Nat} : Nat.beq m 353 = true → x_good m p (x_c353 p) := x_gk (n := 125) (fun p h => by unfold x_c353; rw [h]; rfl) x_o353
set_option maxRecDepth 100000 in
theorem x_o354 : (List.range 29).all (fun p => x_ck 354 p (x_c354 p)) = true := by decide +kernel
theorem x_g354 {m p : Nat} : Nat.beq m 354 = true → x_good m p (x_c354 p) := x_gk (n := 29) (fun p h => by unfold x_c354; rw [h]; rfl) x_o354
set_option maxRecDepth 100000 in
theorem x_o355 : (List.range 110).all (fun p => x_ck 355 p (x_c355 p)) = true := by decide +kernel
theorem x_g355 {m p : Nat} : Nat.beq m 355 = true → x_good m p (x_c355 p) := x_gk (n := 110) (fun p h => by unfold x_c355; rw [h]; rfl) x_o355
set_option maxRecDepth 100000 in
theorem x_o356 : (List.range 46).all (fun p => x_ck 356 p (x_c356 p)) = true := by decide +kernel
theorem x_g356 {m p : Nat} : Nat.beq m 356 = true → x_good m p (x_c356 p) := x_gk (n := 46) (fun p h => by unfold x_c356; rw [h]; rfl) x_o356
set_option maxRecDepth 100000 in
theorem x_o357 : (List.range 60).all (fun p => x_ck 357 p (x_c357 p)) = true := by decide +kernel
theorem x_g357 {m p : Nat} : Nat.beq m 357 = true → x_good m p (x_c357 p) := x_gk (n := 60) (fun p h => by unfold x_c357; rw [h]; rfl) x_o357
set_option maxRecDepth 100000 in
theorem x_o358 : (List.range 113).all (fun p => x_ck 358 p (x_c358 p)) = true := by decide +kernel
theorem x_g358 {m p : Nat} : Nat.beq m 358 = true → x_good m p (x_c358 p) := x_gk (n := 113) (fun p h => by unfold x_c358; rw [h]; rfl) x_o358
set_option maxRecDepth 100000 in
theorem x_o359 : (List.range 18).all (fun p => x_ck 359 p (x_c359 p)) = true := by decide +kernel
theorem x_g359 {m p : Nat} : Nat.beq m 359 = true → x_good m p (x_c359 p) := x_gk (n := 18) (fun p h => by unfold x_c359; rw [h]; rfl) x_o359
set_option maxRecDepth 100000 in
theorem x_o360 : (List.range 46).all (fun p => x_ck 360 p (x_c360 p)) = true := by decide +kernel
theorem x_g360 {m p : Nat} : Nat.beq m 360 = true → x_good m p (x_c360 p) := x_gk (n := 46) (fun p h => by unfold x_c360; rw [h]; rfl) x_o360
set_option maxRecDepth 100000 in
theorem x_o361 : (List.range 49).all (fun p => x_ck 361 p (x_c361 p)) = true := by decide +kernel
theorem x_g361 {m p : Nat} : Nat.beq m 361 = true → x_good m p (x_c361 p) := x_gk (n := 49) (fun p h => by unfold x_c361; rw [h]; rfl) x_o361
set_option maxRecDepth 100000 in
theorem x_o362 : (List.range 10).all (fun p => x_ck 362 p (x_c362 p)) = true := by decide +kernel
theorem x_g362 {m p : Nat} : Nat.beq m 362 = true → x_good m p (x_c362 p) := x_gk (n := 10) (fun p h => by unfold x_c362; rw [h]; rfl) x_o362
set_option maxRecDepth 100000 in
theorem x_o363 : (List.range 89).all (fun p => x_ck 363 p (x_c363 p)) = true := by decide +kernel
theorem x_g363 {m p : Nat} : Nat.beq m 363 = true → x_good m p (x_c363 p) := x_gk (n := 89) (fun p h => by unfold x_c363; rw [h]; rfl) x_o363
set_option maxRecDepth 100000 in
theorem x_o364 : (List.range 86).all (fun p => x_ck 364 p (x_c364 p)) = true := by decide +kernel
theorem x_g364 {m p : Nat} : Nat.beq m 364 = true → x_good m p (x_c364 p) := x_gk (n := 86) (fun p h => by unfold x_c364; rw [h]; rfl) x_o364
set_option maxRecDepth 100000 in
theorem x_o365 : (List.range 53).all (fun p => x_ck 365 p (x_c365 p)) = true := by decide +kernel
theorem x_g365 {m p : Nat} : Nat.beq m 365 = true → x_good m p (x_c365 p) := x_gk (n := 53) (fun p h => by unfold x_c365; rw [h]; rfl) x_o365
