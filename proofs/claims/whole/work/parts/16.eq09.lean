section EQ
variable {Ls : Nat} {xs : Nat → Int32} {d : Nat} {l0 l1 l2 l3 l4 l5 l6 l7 l8 l9 l10 l11 l12 : Option mV} {st : List mV} {H : mH} {S : mS} {I : mI} {R : mR} {x y z i : Int32} {a b : Nat} {k : Nat} {v w : mV} {u : mr} {v0 v1 v2 v3 v4 v5 v6 v7 v8 v9 v10 v11 : mV}
set_option maxRecDepth 20000 in
theorem e_L_law_364 : rn Ls xs d 0 364 [l0, l1, l2, l3] (.inl i :: .inr (.inr 0) :: st) H = if 0 ≤ i.toInt ∧ i.toInt < (Ls : Int) then rn Ls xs d 0 365 [l0, l1, l2, l3] (.inl (xs i.toNatClampNeg) :: st) H else none := rn_pc rfl rfl
set_option maxRecDepth 20000 in
theorem e_L_law_365 : rn Ls xs d 0 365 [some (.inr u), l1, l2, l3] st H = rn Ls xs d 0 366 [some (.inr u), l1, l2, l3] (.inr u :: st) H := rn_nx rfl rfl
set_option maxRecDepth 20000 in
theorem e_L_law_366 : rn Ls xs d 0 366 [l0, l1, l2, some (.inl x)] st H = rn Ls xs d 0 367 [l0, l1, l2, some (.inl x)] (.inl x :: st) H := rn_nx rfl rfl
set_option maxRecDepth 20000 in
theorem e_L_law_367 : rn Ls xs d 0 367 [l0, l1, l2, l3]  st H = rn Ls xs d 0 368 [l0, l1, l2, l3] (.inl 2 :: st) H := rn_nx rfl rfl
set_option maxRecDepth 20000 in
theorem e_L_law_368 : rn Ls xs d 0 368 [l0, l1, l2, l3] (.inl y :: .inl x :: st) H = rn Ls xs d 0 369 [l0, l1, l2, l3] (.inl (x + y) :: st) H := rn_nx rfl rfl
set_option maxRecDepth 20000 in
theorem e_L_law_369 : rn Ls xs d 0 369 [l0, l1, l2, l3] (.inl i :: .inr (.inr 0) :: st) H = if 0 ≤ i.toInt ∧ i.toInt < (Ls : Int) then rn Ls xs d 0 370 [l0, l1, l2, l3] (.inl (xs i.toNatClampNeg) :: st) H else none := rn_pc rfl rfl
set_option maxRecDepth 20000 in
theorem e_L_law_370 : rn Ls xs (d + 1) 0 370 [l0, l1, l2, l3] [v2, v1, (.inr (.inl (some a))), v3] (S, I, R) = if h_is S a 9 36 then rb Ls xs (d + 1) 0 373 [l0, l1, l2, l3] [v3] (rn Ls xs d 10 0 [some (.inr (.inl (some a))), some v1, some v2] [] (S, I, R)) else none := rn_callO rfl rfl (Nat.le_of_ble_eq_true rfl) rfl rfl
set_option maxRecDepth 20000 in
theorem e_L_law_373 : rn Ls xs d 0 373 [l0, l1, l2, l3] (.inl y :: .inl x :: st) H = if x = y then rn Ls xs d 0 1462 [l0, l1, l2, l3] st H else rn Ls xs d 0 376 [l0, l1, l2, l3] st H := rn_cmp (p := fun x y => x = y) rfl
set_option maxRecDepth 20000 in
theorem e_L_law_376 : rn Ls xs d 0 376 [l0, l1, l2, l3]  st H = rn Ls xs d 0 377 [l0, l1, l2, l3] (.inl 0 :: st) H := rn_nx rfl rfl
set_option maxRecDepth 20000 in
theorem e_L_law_377 : rn Ls xs d 0 377 [l0, l1, l2, l3] [.inl x] H = if h_bo x then some (some (.inl x), H) else none := rn_zret rfl
set_option maxRecDepth 20000 in
theorem e_L_law_378 : rn Ls xs d 0 378 [l0, some (.inr u), l2, l3] st H = rn Ls xs d 0 379 [l0, some (.inr u), l2, l3] (.inr u :: st) H := rn_nx rfl rfl
set_option maxRecDepth 20000 in
theorem e_L_law_379 : rn Ls xs d 0 379 [some (.inr u), l1, l2, l3] st H = rn Ls xs d 0 380 [some (.inr u), l1, l2, l3] (.inr u :: st) H := rn_nx rfl rfl
set_option maxRecDepth 20000 in
theorem e_L_law_380 : rn Ls xs d 0 380 [l0, l1, l2, some (.inl x)] st H = rn Ls xs d 0 381 [l0, l1, l2, some (.inl x)] (.inl x :: st) H := rn_nx rfl rfl
set_option maxRecDepth 20000 in
theorem e_L_law_381 : rn Ls xs d 0 381 [l0, l1, l2, l3]  st H = rn Ls xs d 0 382 [l0, l1, l2, l3] (.inl 1 :: st) H := rn_nx rfl rfl
set_option maxRecDepth 20000 in
theorem e_L_law_382 : rn Ls xs d 0 382 [l0, l1, l2, l3] (.inl y :: .inl x :: st) H = rn Ls xs d 0 383 [l0, l1, l2, l3] (.inl (x + y) :: st) H := rn_nx rfl rfl
set_option maxRecDepth 20000 in
theorem e_L_law_383 : rn Ls xs d 0 383 [l0, l1, l2, l3] (.inl i :: .inr (.inr 0) :: st) H = if 0 ≤ i.toInt ∧ i.toInt < (Ls : Int) then rn Ls xs d 0 384 [l0, l1, l2, l3] (.inl (xs i.toNatClampNeg) :: st) H else none := rn_pc rfl rfl
set_option maxRecDepth 20000 in
theorem e_L_law_384 : rn Ls xs d 0 384 [some (.inr u), l1, l2, l3] st H = rn Ls xs d 0 385 [some (.inr u), l1, l2, l3] (.inr u :: st) H := rn_nx rfl rfl
set_option maxRecDepth 20000 in
theorem e_L_law_385 : rn Ls xs d 0 385 [l0, l1, l2, some (.inl x)] st H = rn Ls xs d 0 386 [l0, l1, l2, some (.inl x)] (.inl x :: st) H := rn_nx rfl rfl
set_option maxRecDepth 20000 in
theorem e_L_law_386 : rn Ls xs d 0 386 [l0, l1, l2, l3]  st H = rn Ls xs d 0 387 [l0, l1, l2, l3] (.inl 2 :: st) H := rn_nx rfl rfl
set_option maxRecDepth 20000 in
theorem e_L_law_387 : rn Ls xs d 0 387 [l0, l1, l2, l3] (.inl y :: .inl x :: st) H = rn Ls xs d 0 388 [l0, l1, l2, l3] (.inl (x + y) :: st) H := rn_nx rfl rfl
set_option maxRecDepth 20000 in
theorem e_L_law_388 : rn Ls xs d 0 388 [l0, l1, l2, l3] (.inl i :: .inr (.inr 0) :: st) H = if 0 ≤ i.toInt ∧ i.toInt < (Ls : Int) then rn Ls xs d 0 389 [l0, l1, l2, l3] (.inl (xs i.toNatClampNeg) :: st) H else none := rn_pc rfl rfl
set_option maxRecDepth 20000 in
theorem e_L_law_389 : rn Ls xs d 0 389 [some (.inr u), l1, l2, l3] st H = rn Ls xs d 0 390 [some (.inr u), l1, l2, l3] (.inr u :: st) H := rn_nx rfl rfl
set_option maxRecDepth 20000 in
theorem e_L_law_390 : rn Ls xs d 0 390 [l0, l1, l2, some (.inl x)] st H = rn Ls xs d 0 391 [l0, l1, l2, some (.inl x)] (.inl x :: st) H := rn_nx rfl rfl
set_option maxRecDepth 20000 in
theorem e_L_law_391 : rn Ls xs d 0 391 [l0, l1, l2, l3]  st H = rn Ls xs d 0 392 [l0, l1, l2, l3] (.inl 3 :: st) H := rn_nx rfl rfl
set_option maxRecDepth 20000 in
theorem e_L_law_392 : rn Ls xs d 0 392 [l0, l1, l2, l3] (.inl y :: .inl x :: st) H = rn Ls xs d 0 393 [l0, l1, l2, l3] (.inl (x + y) :: st) H := rn_nx rfl rfl
set_option maxRecDepth 20000 in
theorem e_L_law_393 : rn Ls xs d 0 393 [l0, l1, l2, l3] (.inl i :: .inr (.inr 0) :: st) H = if 0 ≤ i.toInt ∧ i.toInt < (Ls : Int) then rn Ls xs d 0 394 [l0, l1, l2, l3] (.inl (xs i.toNatClampNeg) :: st) H else none := rn_pc rfl rfl
set_option maxRecDepth 20000 in
theorem e_L_law_394 : rn Ls xs (d + 1) 0 394 [l0, l1, l2, l3] [v3, v2, v1, (.inr (.inl (some a)))] (S, I, R) = if h_is S a 8 10 then rb Ls xs (d + 1) 0 397 [l0, l1, l2, l3] [] (rn Ls xs d 11 0 [some (.inr (.inl (some a))), some v1, some v2, some v3, none, none] [] (S, I, R)) else none := rn_callO rfl rfl (Nat.le_of_ble_eq_true rfl) rfl rfl
set_option maxRecDepth 20000 in
theorem e_L_law_397 : rn Ls xs d 0 397 [l0, l1, some (.inr u), l3] st H = rn Ls xs d 0 398 [l0, l1, some (.inr u), l3] (.inr u :: st) H := rn_nx rfl rfl
set_option maxRecDepth 20000 in
theorem e_L_law_398 : rn Ls xs d 0 398 [some (.inr u), l1, l2, l3] st H = rn Ls xs d 0 399 [some (.inr u), l1, l2, l3] (.inr u :: st) H := rn_nx rfl rfl
set_option maxRecDepth 20000 in
theorem e_L_law_399 : rn Ls xs d 0 399 [l0, l1, l2, some (.inl x)] st H = rn Ls xs d 0 400 [l0, l1, l2, some (.inl x)] (.inl x :: st) H := rn_nx rfl rfl
set_option maxRecDepth 20000 in
theorem e_L_law_400 : rn Ls xs d 0 400 [l0, l1, l2, l3]  st H = rn Ls xs d 0 401 [l0, l1, l2, l3] (.inl 1 :: st) H := rn_nx rfl rfl
set_option maxRecDepth 20000 in
theorem e_L_law_401 : rn Ls xs d 0 401 [l0, l1, l2, l3] (.inl y :: .inl x :: st) H = rn Ls xs d 0 402 [l0, l1, l2, l3] (.inl (x + y) :: st) H := rn_nx rfl rfl
set_option maxRecDepth 20000 in
theorem e_L_law_402 : rn Ls xs d 0 402 [l0, l1, l2, l3] (.inl i :: .inr (.inr 0) :: st) H = if 0 ≤ i.toInt ∧ i.toInt < (Ls : Int) then rn Ls xs d 0 403 [l0, l1, l2, l3] (.inl (xs i.toNatClampNeg) :: st) H else none := rn_pc rfl rfl
set_option maxRecDepth 20000 in
theorem e_L_law_403 : rn Ls xs d 0 403 [some (.inr u), l1, l2, l3] st H = rn Ls xs d 0 404 [some (.inr u), l1, l2, l3] (.inr u :: st) H := rn_nx rfl rfl
set_option maxRecDepth 20000 in
theorem e_L_law_404 : rn Ls xs d 0 404 [l0, l1, l2, some (.inl x)] st H = rn Ls xs d 0 405 [l0, l1, l2, some (.inl x)] (.inl x :: st) H := rn_nx rfl rfl
set_option maxRecDepth 20000 in
theorem e_L_law_405 : rn Ls xs d 0 405 [l0, l1, l2, l3]  st H = rn Ls xs d 0 406 [l0, l1, l2, l3] (.inl 2 :: st) H := rn_nx rfl rfl
set_option maxRecDepth 20000 in
theorem e_L_law_406 : rn Ls xs d 0 406 [l0, l1, l2, l3] (.inl y :: .inl x :: st) H = rn Ls xs d 0 407 [l0, l1, l2, l3] (.inl (x + y) :: st) H := rn_nx rfl rfl
set_option maxRecDepth 20000 in
theorem e_L_law_407 : rn Ls xs d 0 407 [l0, l1, l2, l3] (.inl i :: .inr (.inr 0) :: st) H = if 0 ≤ i.toInt ∧ i.toInt < (Ls : Int) then rn Ls xs d 0 408 [l0, l1, l2, l3] (.inl (xs i.toNatClampNeg) :: st) H else none := rn_pc rfl rfl
set_option maxRecDepth 20000 in
theorem e_L_law_408 : rn Ls xs d 0 408 [some (.inr u), l1, l2, l3] st H = rn Ls xs d 0 409 [some (.inr u), l1, l2, l3] (.inr u :: st) H := rn_nx rfl rfl
set_option maxRecDepth 20000 in
theorem e_L_law_409 : rn Ls xs d 0 409 [l0, l1, l2, some (.inl x)] st H = rn Ls xs d 0 410 [l0, l1, l2, some (.inl x)] (.inl x :: st) H := rn_nx rfl rfl
set_option maxRecDepth 20000 in
theorem e_L_law_410 : rn Ls xs d 0 410 [l0, l1, l2, l3]  st H = rn Ls xs d 0 411 [l0, l1, l2, l3] (.inl 3 :: st) H := rn_nx rfl rfl
set_option maxRecDepth 20000 in
theorem e_L_law_411 : rn Ls xs d 0 411 [l0, l1, l2, l3] (.inl y :: .inl x :: st) H = rn Ls xs d 0 412 [l0, l1, l2, l3] (.inl (x + y) :: st) H := rn_nx rfl rfl
set_option maxRecDepth 20000 in
theorem e_L_law_412 : rn Ls xs d 0 412 [l0, l1, l2, l3] (.inl i :: .inr (.inr 0) :: st) H = if 0 ≤ i.toInt ∧ i.toInt < (Ls : Int) then rn Ls xs d 0 413 [l0, l1, l2, l3] (.inl (xs i.toNatClampNeg) :: st) H else none := rn_pc rfl rfl
set_option maxRecDepth 20000 in
theorem e_L_law_413 : rn Ls xs (d + 1) 0 413 [l0, l1, l2, l3] [v3, v2, v1, (.inr (.inl (some a))), v4] (S, I, R) = if h_is S a 9 36 then rb Ls xs (d + 1) 0 416 [l0, l1, l2, l3] [v4] (rn Ls xs d 12 0 [some (.inr (.inl (some a))), some v1, some v2, some v3] [] (S, I, R)) else none := rn_callO rfl rfl (Nat.le_of_ble_eq_true rfl) rfl rfl
set_option maxRecDepth 20000 in
theorem e_L_law_416 : rn Ls xs d 0 416 [l0, l1, l2, l3] (.inl y :: .inl x :: st) H = if x = y then rn Ls xs d 0 1462 [l0, l1, l2, l3] st H else rn Ls xs d 0 419 [l0, l1, l2, l3] st H := rn_cmp (p := fun x y => x = y) rfl
set_option maxRecDepth 20000 in
theorem e_L_law_419 : rn Ls xs d 0 419 [l0, l1, l2, l3]  st H = rn Ls xs d 0 420 [l0, l1, l2, l3] (.inl 0 :: st) H := rn_nx rfl rfl
set_option maxRecDepth 20000 in
theorem e_L_law_420 : rn Ls xs d 0 420 [l0, l1, l2, l3] [.inl x] H = if h_bo x then some (some (.inl x), H) else none := rn_zret rfl
set_option maxRecDepth 20000 in
theorem e_L_law_421 : rn Ls xs d 0 421 [l0, some (.inr u), l2, l3] st H = rn Ls xs d 0 422 [l0, some (.inr u), l2, l3] (.inr u :: st) H := rn_nx rfl rfl
set_option maxRecDepth 20000 in
theorem e_L_law_422 : rn Ls xs d 0 422 [some (.inr u), l1, l2, l3] st H = rn Ls xs d 0 423 [some (.inr u), l1, l2, l3] (.inr u :: st) H := rn_nx rfl rfl
set_option maxRecDepth 20000 in
theorem e_L_law_423 : rn Ls xs d 0 423 [l0, l1, l2, some (.inl x)] st H = rn Ls xs d 0 424 [l0, l1, l2, some (.inl x)] (.inl x :: st) H := rn_nx rfl rfl
set_option maxRecDepth 20000 in
theorem e_L_law_424 : rn Ls xs d 0 424 [l0, l1, l2, l3]  st H = rn Ls xs d 0 425 [l0, l1, l2, l3] (.inl 1 :: st) H := rn_nx rfl rfl
set_option maxRecDepth 20000 in
theorem e_L_law_425 : rn Ls xs d 0 425 [l0, l1, l2, l3] (.inl y :: .inl x :: st) H = rn Ls xs d 0 426 [l0, l1, l2, l3] (.inl (x + y) :: st) H := rn_nx rfl rfl
set_option maxRecDepth 20000 in
theorem e_L_law_426 : rn Ls xs d 0 426 [l0, l1, l2, l3] (.inl i :: .inr (.inr 0) :: st) H = if 0 ≤ i.toInt ∧ i.toInt < (Ls : Int) then rn Ls xs d 0 427 [l0, l1, l2, l3] (.inl (xs i.toNatClampNeg) :: st) H else none := rn_pc rfl rfl
set_option maxRecDepth 20000 in
theorem e_L_law_427 : rn Ls xs (d + 1) 0 427 [l0, l1, l2, l3] [v1, (.inr (.inl (some a)))] (S, I, R) = if h_is S a 8 10 then rb Ls xs (d + 1) 0 430 [l0, l1, l2, l3] [] (rn Ls xs d 13 0 [some (.inr (.inl (some a))), some v1, none] [] (S, I, R)) else none := rn_callO rfl rfl (Nat.le_of_ble_eq_true rfl) rfl rfl
set_option maxRecDepth 20000 in
theorem e_L_law_430 : rn Ls xs d 0 430 [l0, l1, some (.inr u), l3] st H = rn Ls xs d 0 431 [l0, l1, some (.inr u), l3] (.inr u :: st) H := rn_nx rfl rfl
set_option maxRecDepth 20000 in
theorem e_L_law_431 : rn Ls xs d 0 431 [some (.inr u), l1, l2, l3] st H = rn Ls xs d 0 432 [some (.inr u), l1, l2, l3] (.inr u :: st) H := rn_nx rfl rfl
set_option maxRecDepth 20000 in
theorem e_L_law_432 : rn Ls xs d 0 432 [l0, l1, l2, some (.inl x)] st H = rn Ls xs d 0 433 [l0, l1, l2, some (.inl x)] (.inl x :: st) H := rn_nx rfl rfl
set_option maxRecDepth 20000 in
theorem e_L_law_433 : rn Ls xs d 0 433 [l0, l1, l2, l3]  st H = rn Ls xs d 0 434 [l0, l1, l2, l3] (.inl 1 :: st) H := rn_nx rfl rfl
set_option maxRecDepth 20000 in
theorem e_L_law_434 : rn Ls xs d 0 434 [l0, l1, l2, l3] (.inl y :: .inl x :: st) H = rn Ls xs d 0 435 [l0, l1, l2, l3] (.inl (x + y) :: st) H := rn_nx rfl rfl
set_option maxRecDepth 20000 in
theorem e_L_law_435 : rn Ls xs d 0 435 [l0, l1, l2, l3] (.inl i :: .inr (.inr 0) :: st) H = if 0 ≤ i.toInt ∧ i.toInt < (Ls : Int) then rn Ls xs d 0 436 [l0, l1, l2, l3] (.inl (xs i.toNatClampNeg) :: st) H else none := rn_pc rfl rfl
set_option maxRecDepth 20000 in
theorem e_L_law_436 : rn Ls xs (d + 1) 0 436 [l0, l1, l2, l3] [v1, (.inr (.inl (some a))), v2] (S, I, R) = if h_is S a 9 36 then rb Ls xs (d + 1) 0 439 [l0, l1, l2, l3] [v2] (rn Ls xs d 14 0 [some (.inr (.inl (some a))), some v1] [] (S, I, R)) else none := rn_callO rfl rfl (Nat.le_of_ble_eq_true rfl) rfl rfl
set_option maxRecDepth 20000 in
theorem e_L_law_439 : rn Ls xs d 0 439 [l0, l1, l2, l3] (.inl y :: .inl x :: st) H = if x = y then rn Ls xs d 0 1462 [l0, l1, l2, l3] st H else rn Ls xs d 0 442 [l0, l1, l2, l3] st H := rn_cmp (p := fun x y => x = y) rfl
set_option maxRecDepth 20000 in
theorem e_L_law_442 : rn Ls xs d 0 442 [l0, l1, l2, l3]  st H = rn Ls xs d 0 443 [l0, l1, l2, l3] (.inl 0 :: st) H := rn_nx rfl rfl
set_option maxRecDepth 20000 in
theorem e_L_law_443 : rn Ls xs d 0 443 [l0, l1, l2, l3] [.inl x] H = if h_bo x then some (some (.inl x), H) else none := rn_zret rfl
set_option maxRecDepth 20000 in
theorem e_L_law_444 : rn Ls xs d 0 444 [l0, some (.inr u), l2, l3] st H = rn Ls xs d 0 445 [l0, some (.inr u), l2, l3] (.inr u :: st) H := rn_nx rfl rfl
set_option maxRecDepth 20000 in
theorem e_L_law_445 : rn Ls xs d 0 445 [some (.inr u), l1, l2, l3] st H = rn Ls xs d 0 446 [some (.inr u), l1, l2, l3] (.inr u :: st) H := rn_nx rfl rfl
set_option maxRecDepth 20000 in
theorem e_L_law_446 : rn Ls xs d 0 446 [l0, l1, l2, some (.inl x)] st H = rn Ls xs d 0 447 [l0, l1, l2, some (.inl x)] (.inl x :: st) H := rn_nx rfl rfl
set_option maxRecDepth 20000 in
theorem e_L_law_447 : rn Ls xs d 0 447 [l0, l1, l2, l3]  st H = rn Ls xs d 0 448 [l0, l1, l2, l3] (.inl 1 :: st) H := rn_nx rfl rfl
set_option maxRecDepth 20000 in
theorem e_L_law_448 : rn Ls xs d 0 448 [l0, l1, l2, l3] (.inl y :: .inl x :: st) H = rn Ls xs d 0 449 [l0, l1, l2, l3] (.inl (x + y) :: st) H := rn_nx rfl rfl
set_option maxRecDepth 20000 in
theorem e_L_law_449 : rn Ls xs d 0 449 [l0, l1, l2, l3] (.inl i :: .inr (.inr 0) :: st) H = if 0 ≤ i.toInt ∧ i.toInt < (Ls : Int) then rn Ls xs d 0 450 [l0, l1, l2, l3] (.inl (xs i.toNatClampNeg) :: st) H else none := rn_pc rfl rfl
set_option maxRecDepth 20000 in
theorem e_L_law_450 : rn Ls xs (d + 1) 0 450 [l0, l1, l2, l3] [v1, (.inr (.inl (some a)))] (S, I, R) = if h_is S a 8 10 then rb Ls xs (d + 1) 0 453 [l0, l1, l2, l3] [] (rn Ls xs d 15 0 [some (.inr (.inl (some a))), some v1, none] [] (S, I, R)) else none := rn_callO rfl rfl (Nat.le_of_ble_eq_true rfl) rfl rfl
set_option maxRecDepth 20000 in
theorem e_L_law_453 : rn Ls xs d 0 453 [l0, l1, some (.inr u), l3] st H = rn Ls xs d 0 454 [l0, l1, some (.inr u), l3] (.inr u :: st) H := rn_nx rfl rfl
set_option maxRecDepth 20000 in
theorem e_L_law_454 : rn Ls xs d 0 454 [some (.inr u), l1, l2, l3] st H = rn Ls xs d 0 455 [some (.inr u), l1, l2, l3] (.inr u :: st) H := rn_nx rfl rfl
set_option maxRecDepth 20000 in
theorem e_L_law_455 : rn Ls xs d 0 455 [l0, l1, l2, some (.inl x)] st H = rn Ls xs d 0 456 [l0, l1, l2, some (.inl x)] (.inl x :: st) H := rn_nx rfl rfl
set_option maxRecDepth 20000 in
theorem e_L_law_456 : rn Ls xs d 0 456 [l0, l1, l2, l3]  st H = rn Ls xs d 0 457 [l0, l1, l2, l3] (.inl 1 :: st) H := rn_nx rfl rfl
set_option maxRecDepth 20000 in
theorem e_L_law_457 : rn Ls xs d 0 457 [l0, l1, l2, l3] (.inl y :: .inl x :: st) H = rn Ls xs d 0 458 [l0, l1, l2, l3] (.inl (x + y) :: st) H := rn_nx rfl rfl
set_option maxRecDepth 20000 in
theorem e_L_law_458 : rn Ls xs d 0 458 [l0, l1, l2, l3] (.inl i :: .inr (.inr 0) :: st) H = if 0 ≤ i.toInt ∧ i.toInt < (Ls : Int) then rn Ls xs d 0 459 [l0, l1, l2, l3] (.inl (xs i.toNatClampNeg) :: st) H else none := rn_pc rfl rfl
set_option maxRecDepth 20000 in
theorem e_L_law_459 : rn Ls xs (d + 1) 0 459 [l0, l1, l2, l3] [v1, (.inr (.inl (some a))), v2] (S, I, R) = if h_is S a 9 36 then rb Ls xs (d + 1) 0 462 [l0, l1, l2, l3] [v2] (rn Ls xs d 16 0 [some (.inr (.inl (some a))), some v1] [] (S, I, R)) else none := rn_callO rfl rfl (Nat.le_of_ble_eq_true rfl) rfl rfl
set_option maxRecDepth 20000 in
theorem e_L_law_462 : rn Ls xs d 0 462 [l0, l1, l2, l3] (.inl y :: .inl x :: st) H = if x = y then rn Ls xs d 0 1462 [l0, l1, l2, l3] st H else rn Ls xs d 0 465 [l0, l1, l2, l3] st H := rn_cmp (p := fun x y => x = y) rfl
set_option maxRecDepth 20000 in
theorem e_L_law_465 : rn Ls xs d 0 465 [l0, l1, l2, l3]  st H = rn Ls xs d 0 466 [l0, l1, l2, l3] (.inl 0 :: st) H := rn_nx rfl rfl
set_option maxRecDepth 20000 in
theorem e_L_law_466 : rn Ls xs d 0 466 [l0, l1, l2, l3] [.inl x] H = if h_bo x then some (some (.inl x), H) else none := rn_zret rfl
set_option maxRecDepth 20000 in
theorem e_L_law_467 : rn Ls xs d 0 467 [l0, some (.inr u), l2, l3] st H = rn Ls xs d 0 468 [l0, some (.inr u), l2, l3] (.inr u :: st) H := rn_nx rfl rfl
set_option maxRecDepth 20000 in
theorem e_L_law_468 : rn Ls xs d 0 468 [some (.inr u), l1, l2, l3] st H = rn Ls xs d 0 469 [some (.inr u), l1, l2, l3] (.inr u :: st) H := rn_nx rfl rfl
set_option maxRecDepth 20000 in
theorem e_L_law_469 : rn Ls xs d 0 469 [l0, l1, l2, some (.inl x)] st H = rn Ls xs d 0 470 [l0, l1, l2, some (.inl x)] (.inl x :: st) H := rn_nx rfl rfl
set_option maxRecDepth 20000 in
theorem e_L_law_470 : rn Ls xs d 0 470 [l0, l1, l2, l3]  st H = rn Ls xs d 0 471 [l0, l1, l2, l3] (.inl 1 :: st) H := rn_nx rfl rfl
set_option maxRecDepth 20000 in
theorem e_L_law_471 : rn Ls xs d 0 471 [l0, l1, l2, l3] (.inl y :: .inl x :: st) H = rn Ls xs d 0 472 [l0, l1, l2, l3] (.inl (x + y) :: st) H := rn_nx rfl rfl
set_option maxRecDepth 20000 in
theorem e_L_law_472 : rn Ls xs d 0 472 [l0, l1, l2, l3] (.inl i :: .inr (.inr 0) :: st) H = if 0 ≤ i.toInt ∧ i.toInt < (Ls : Int) then rn Ls xs d 0 473 [l0, l1, l2, l3] (.inl (xs i.toNatClampNeg) :: st) H else none := rn_pc rfl rfl
set_option maxRecDepth 20000 in
theorem e_L_law_473 : rn Ls xs d 0 473 [some (.inr u), l1, l2, l3] st H = rn Ls xs d 0 474 [some (.inr u), l1, l2, l3] (.inr u :: st) H := rn_nx rfl rfl
set_option maxRecDepth 20000 in
theorem e_L_law_474 : rn Ls xs d 0 474 [l0, l1, l2, some (.inl x)] st H = rn Ls xs d 0 475 [l0, l1, l2, some (.inl x)] (.inl x :: st) H := rn_nx rfl rfl
set_option maxRecDepth 20000 in
theorem e_L_law_475 : rn Ls xs d 0 475 [l0, l1, l2, l3]  st H = rn Ls xs d 0 476 [l0, l1, l2, l3] (.inl 2 :: st) H := rn_nx rfl rfl
set_option maxRecDepth 20000 in
theorem e_L_law_476 : rn Ls xs d 0 476 [l0, l1, l2, l3] (.inl y :: .inl x :: st) H = rn Ls xs d 0 477 [l0, l1, l2, l3] (.inl (x + y) :: st) H := rn_nx rfl rfl
set_option maxRecDepth 20000 in
theorem e_L_law_477 : rn Ls xs d 0 477 [l0, l1, l2, l3] (.inl i :: .inr (.inr 0) :: st) H = if 0 ≤ i.toInt ∧ i.toInt < (Ls : Int) then rn Ls xs d 0 478 [l0, l1, l2, l3] (.inl (xs i.toNatClampNeg) :: st) H else none := rn_pc rfl rfl
set_option maxRecDepth 20000 in
theorem e_L_law_478 : rn Ls xs (d + 1) 0 478 [l0, l1, l2, l3] [v2, v1, (.inr (.inl (some a)))] (S, I, R) = if h_is S a 8 10 then rb Ls xs (d + 1) 0 481 [l0, l1, l2, l3] [] (rn Ls xs d 17 0 [some (.inr (.inl (some a))), some v1, some v2, none, none, none] [] (S, I, R)) else none := rn_callO rfl rfl (Nat.le_of_ble_eq_true rfl) rfl rfl
set_option maxRecDepth 20000 in
theorem e_L_law_481 : rn Ls xs d 0 481 [l0, l1, some (.inr u), l3] st H = rn Ls xs d 0 482 [l0, l1, some (.inr u), l3] (.inr u :: st) H := rn_nx rfl rfl
set_option maxRecDepth 20000 in
theorem e_L_law_482 : rn Ls xs d 0 482 [some (.inr u), l1, l2, l3] st H = rn Ls xs d 0 483 [some (.inr u), l1, l2, l3] (.inr u :: st) H := rn_nx rfl rfl
set_option maxRecDepth 20000 in
theorem e_L_law_483 : rn Ls xs d 0 483 [l0, l1, l2, some (.inl x)] st H = rn Ls xs d 0 484 [l0, l1, l2, some (.inl x)] (.inl x :: st) H := rn_nx rfl rfl
set_option maxRecDepth 20000 in
theorem e_L_law_484 : rn Ls xs d 0 484 [l0, l1, l2, l3]  st H = rn Ls xs d 0 485 [l0, l1, l2, l3] (.inl 1 :: st) H := rn_nx rfl rfl
set_option maxRecDepth 20000 in
theorem e_L_law_485 : rn Ls xs d 0 485 [l0, l1, l2, l3] (.inl y :: .inl x :: st) H = rn Ls xs d 0 486 [l0, l1, l2, l3] (.inl (x + y) :: st) H := rn_nx rfl rfl
set_option maxRecDepth 20000 in
theorem e_L_law_486 : rn Ls xs d 0 486 [l0, l1, l2, l3] (.inl i :: .inr (.inr 0) :: st) H = if 0 ≤ i.toInt ∧ i.toInt < (Ls : Int) then rn Ls xs d 0 487 [l0, l1, l2, l3] (.inl (xs i.toNatClampNeg) :: st) H else none := rn_pc rfl rfl
set_option maxRecDepth 20000 in
theorem e_L_law_487 : rn Ls xs d 0 487 [some (.inr u), l1, l2, l3] st H = rn Ls xs d 0 488 [some (.inr u), l1, l2, l3] (.inr u :: st) H := rn_nx rfl rfl
set_option maxRecDepth 20000 in
theorem e_L_law_488 : rn Ls xs d 0 488 [l0, l1, l2, some (.inl x)] st H = rn Ls xs d 0 489 [l0, l1, l2, some (.inl x)] (.inl x :: st) H := rn_nx rfl rfl
set_option maxRecDepth 20000 in
theorem e_L_law_489 : rn Ls xs d 0 489 [l0, l1, l2, l3]  st H = rn Ls xs d 0 490 [l0, l1, l2, l3] (.inl 2 :: st) H := rn_nx rfl rfl
set_option maxRecDepth 20000 in
theorem e_L_law_490 : rn Ls xs d 0 490 [l0, l1, l2, l3] (.inl y :: .inl x :: st) H = rn Ls xs d 0 491 [l0, l1, l2, l3] (.inl (x + y) :: st) H := rn_nx rfl rfl
set_option maxRecDepth 20000 in
theorem e_L_law_491 : rn Ls xs d 0 491 [l0, l1, l2, l3] (.inl i :: .inr (.inr 0) :: st) H = if 0 ≤ i.toInt ∧ i.toInt < (Ls : Int) then rn Ls xs d 0 492 [l0, l1, l2, l3] (.inl (xs i.toNatClampNeg) :: st) H else none := rn_pc rfl rfl
set_option maxRecDepth 20000 in
theorem e_L_law_492 : rn Ls xs (d + 1) 0 492 [l0, l1, l2, l3] [v2, v1, (.inr (.inl (some a))), v3] (S, I, R) = if h_is S a 9 36 then rb Ls xs (d + 1) 0 495 [l0, l1, l2, l3] [v3] (rn Ls xs d 18 0 [some (.inr (.inl (some a))), some v1, some v2] [] (S, I, R)) else none := rn_callO rfl rfl (Nat.le_of_ble_eq_true rfl) rfl rfl
set_option maxRecDepth 20000 in
theorem e_L_law_495 : rn Ls xs d 0 495 [l0, l1, l2, l3] (.inl y :: .inl x :: st) H = if x = y then rn Ls xs d 0 1462 [l0, l1, l2, l3] st H else rn Ls xs d 0 498 [l0, l1, l2, l3] st H := rn_cmp (p := fun x y => x = y) rfl
set_option maxRecDepth 20000 in
theorem e_L_law_498 : rn Ls xs d 0 498 [l0, l1, l2, l3]  st H = rn Ls xs d 0 499 [l0, l1, l2, l3] (.inl 0 :: st) H := rn_nx rfl rfl
set_option maxRecDepth 20000 in
theorem e_L_law_499 : rn Ls xs d 0 499 [l0, l1, l2, l3] [.inl x] H = if h_bo x then some (some (.inl x), H) else none := rn_zret rfl
set_option maxRecDepth 20000 in
theorem e_L_law_500 : rn Ls xs d 0 500 [l0, some (.inr u), l2, l3] st H = rn Ls xs d 0 501 [l0, some (.inr u), l2, l3] (.inr u :: st) H := rn_nx rfl rfl
set_option maxRecDepth 20000 in
theorem e_L_law_501 : rn Ls xs d 0 501 [some (.inr u), l1, l2, l3] st H = rn Ls xs d 0 502 [some (.inr u), l1, l2, l3] (.inr u :: st) H := rn_nx rfl rfl
set_option maxRecDepth 20000 in
theorem e_L_law_502 : rn Ls xs d 0 502 [l0, l1, l2, some (.inl x)] st H = rn Ls xs d 0 503 [l0, l1, l2, some (.inl x)] (.inl x :: st) H := rn_nx rfl rfl
set_option maxRecDepth 20000 in
theorem e_L_law_503 : rn Ls xs d 0 503 [l0, l1, l2, l3]  st H = rn Ls xs d 0 504 [l0, l1, l2, l3] (.inl 1 :: st) H := rn_nx rfl rfl
set_option maxRecDepth 20000 in
theorem e_L_law_504 : rn Ls xs d 0 504 [l0, l1, l2, l3] (.inl y :: .inl x :: st) H = rn Ls xs d 0 505 [l0, l1, l2, l3] (.inl (x + y) :: st) H := rn_nx rfl rfl
set_option maxRecDepth 20000 in
theorem e_L_law_505 : rn Ls xs d 0 505 [l0, l1, l2, l3] (.inl i :: .inr (.inr 0) :: st) H = if 0 ≤ i.toInt ∧ i.toInt < (Ls : Int) then rn Ls xs d 0 506 [l0, l1, l2, l3] (.inl (xs i.toNatClampNeg) :: st) H else none := rn_pc rfl rfl
set_option maxRecDepth 20000 in
theorem e_L_law_506 : rn Ls xs (d + 1) 0 506 [l0, l1, l2, l3] [v1, (.inr (.inl (some a)))] (S, I, R) = if h_is S a 8 10 then rb Ls xs (d + 1) 0 509 [l0, l1, l2, l3] [] (rn Ls xs d 19 0 [some (.inr (.inl (some a))), some v1, none, none] [] (S, I, R)) else none := rn_callO rfl rfl (Nat.le_of_ble_eq_true rfl) rfl rfl
set_option maxRecDepth 20000 in
theorem e_L_law_509 : rn Ls xs d 0 509 [l0, l1, some (.inr u), l3] st H = rn Ls xs d 0 510 [l0, l1, some (.inr u), l3] (.inr u :: st) H := rn_nx rfl rfl
set_option maxRecDepth 20000 in
theorem e_L_law_510 : rn Ls xs d 0 510 [some (.inr u), l1, l2, l3] st H = rn Ls xs d 0 511 [some (.inr u), l1, l2, l3] (.inr u :: st) H := rn_nx rfl rfl
set_option maxRecDepth 20000 in
theorem e_L_law_511 : rn Ls xs d 0 511 [l0, l1, l2, some (.inl x)] st H = rn Ls xs d 0 512 [l0, l1, l2, some (.inl x)] (.inl x :: st) H := rn_nx rfl rfl
set_option maxRecDepth 20000 in
theorem e_L_law_512 : rn Ls xs d 0 512 [l0, l1, l2, l3]  st H = rn Ls xs d 0 513 [l0, l1, l2, l3] (.inl 1 :: st) H := rn_nx rfl rfl
set_option maxRecDepth 20000 in
theorem e_L_law_513 : rn Ls xs d 0 513 [l0, l1, l2, l3] (.inl y :: .inl x :: st) H = rn Ls xs d 0 514 [l0, l1, l2, l3] (.inl (x + y) :: st) H := rn_nx rfl rfl
set_option maxRecDepth 20000 in
theorem e_L_law_514 : rn Ls xs d 0 514 [l0, l1, l2, l3] (.inl i :: .inr (.inr 0) :: st) H = if 0 ≤ i.toInt ∧ i.toInt < (Ls : Int) then rn Ls xs d 0 515 [l0, l1, l2, l3] (.inl (xs i.toNatClampNeg) :: st) H else none := rn_pc rfl rfl
set_option maxRecDepth 20000 in
theorem e_L_law_515 : rn Ls xs (d + 1) 0 515 [l0, l1, l2, l3] [v1, (.inr (.inl (some a))), v2] (S, I, R) = if h_is S a 9 36 then rb Ls xs (d + 1) 0 518 [l0, l1, l2, l3] [v2] (rn Ls xs d 20 0 [some (.inr (.inl (some a))), some v1, none, none, none, none, none, none] [] (S, I, R)) else none := rn_callO rfl rfl (Nat.le_of_ble_eq_true rfl) rfl rfl
set_option maxRecDepth 20000 in
theorem e_L_law_518 : rn Ls xs d 0 518 [l0, l1, l2, l3] (.inl y :: .inl x :: st) H = if x = y then rn Ls xs d 0 1462 [l0, l1, l2, l3] st H else rn Ls xs d 0 521 [l0, l1, l2, l3] st H := rn_cmp (p := fun x y => x = y) rfl
set_option maxRecDepth 20000 in
theorem e_L_law_521 : rn Ls xs d 0 521 [l0, l1, l2, l3]  st H = rn Ls xs d 0 522 [l0, l1, l2, l3] (.inl 0 :: st) H := rn_nx rfl rfl
set_option maxRecDepth 20000 in
theorem e_L_law_522 : rn Ls xs d 0 522 [l0, l1, l2, l3] [.inl x] H = if h_bo x then some (some (.inl x), H) else none := rn_zret rfl
set_option maxRecDepth 20000 in
theorem e_L_law_523 : rn Ls xs d 0 523 [l0, some (.inr u), l2, l3] st H = rn Ls xs d 0 524 [l0, some (.inr u), l2, l3] (.inr u :: st) H := rn_nx rfl rfl
set_option maxRecDepth 20000 in
theorem e_L_law_524 : rn Ls xs d 0 524 [some (.inr u), l1, l2, l3] st H = rn Ls xs d 0 525 [some (.inr u), l1, l2, l3] (.inr u :: st) H := rn_nx rfl rfl
set_option maxRecDepth 20000 in
theorem e_L_law_525 : rn Ls xs d 0 525 [l0, l1, l2, some (.inl x)] st H = rn Ls xs d 0 526 [l0, l1, l2, some (.inl x)] (.inl x :: st) H := rn_nx rfl rfl
set_option maxRecDepth 20000 in
theorem e_L_law_526 : rn Ls xs d 0 526 [l0, l1, l2, l3]  st H = rn Ls xs d 0 527 [l0, l1, l2, l3] (.inl 1 :: st) H := rn_nx rfl rfl
set_option maxRecDepth 20000 in
theorem e_L_law_527 : rn Ls xs d 0 527 [l0, l1, l2, l3] (.inl y :: .inl x :: st) H = rn Ls xs d 0 528 [l0, l1, l2, l3] (.inl (x + y) :: st) H := rn_nx rfl rfl
set_option maxRecDepth 20000 in
theorem e_L_law_528 : rn Ls xs d 0 528 [l0, l1, l2, l3] (.inl i :: .inr (.inr 0) :: st) H = if 0 ≤ i.toInt ∧ i.toInt < (Ls : Int) then rn Ls xs d 0 529 [l0, l1, l2, l3] (.inl (xs i.toNatClampNeg) :: st) H else none := rn_pc rfl rfl
set_option maxRecDepth 20000 in
theorem e_L_law_529 : rn Ls xs (d + 1) 0 529 [l0, l1, l2, l3] [v1, (.inr (.inl (some a)))] (S, I, R) = if h_is S a 8 10 then rb Ls xs (d + 1) 0 532 [l0, l1, l2, l3] [] (rn Ls xs d 21 0 [some (.inr (.inl (some a))), some v1, none] [] (S, I, R)) else none := rn_callO rfl rfl (Nat.le_of_ble_eq_true rfl) rfl rfl
set_option maxRecDepth 20000 in
theorem e_L_law_532 : rn Ls xs d 0 532 [l0, l1, some (.inr u), l3] st H = rn Ls xs d 0 533 [l0, l1, some (.inr u), l3] (.inr u :: st) H := rn_nx rfl rfl
set_option maxRecDepth 20000 in
theorem e_L_law_533 : rn Ls xs d 0 533 [some (.inr u), l1, l2, l3] st H = rn Ls xs d 0 534 [some (.inr u), l1, l2, l3] (.inr u :: st) H := rn_nx rfl rfl
set_option maxRecDepth 20000 in
theorem e_L_law_534 : rn Ls xs d 0 534 [l0, l1, l2, some (.inl x)] st H = rn Ls xs d 0 535 [l0, l1, l2, some (.inl x)] (.inl x :: st) H := rn_nx rfl rfl
set_option maxRecDepth 20000 in
theorem e_L_law_535 : rn Ls xs d 0 535 [l0, l1, l2, l3]  st H = rn Ls xs d 0 536 [l0, l1, l2, l3] (.inl 1 :: st) H := rn_nx rfl rfl
set_option maxRecDepth 20000 in
theorem e_L_law_536 : rn Ls xs d 0 536 [l0, l1, l2, l3] (.inl y :: .inl x :: st) H = rn Ls xs d 0 537 [l0, l1, l2, l3] (.inl (x + y) :: st) H := rn_nx rfl rfl
set_option maxRecDepth 20000 in
theorem e_L_law_537 : rn Ls xs d 0 537 [l0, l1, l2, l3] (.inl i :: .inr (.inr 0) :: st) H = if 0 ≤ i.toInt ∧ i.toInt < (Ls : Int) then rn Ls xs d 0 538 [l0, l1, l2, l3] (.inl (xs i.toNatClampNeg) :: st) H else none := rn_pc rfl rfl
set_option maxRecDepth 20000 in
theorem e_L_law_538 : rn Ls xs (d + 1) 0 538 [l0, l1, l2, l3] [v1, (.inr (.inl (some a))), v2] (S, I, R) = if h_is S a 9 36 then rb Ls xs (d + 1) 0 541 [l0, l1, l2, l3] [v2] (rn Ls xs d 22 0 [some (.inr (.inl (some a))), some v1] [] (S, I, R)) else none := rn_callO rfl rfl (Nat.le_of_ble_eq_true rfl) rfl rfl
set_option maxRecDepth 20000 in
theorem e_L_law_541 : rn Ls xs d 0 541 [l0, l1, l2, l3] (.inl y :: .inl x :: st) H = if x = y then rn Ls xs d 0 1462 [l0, l1, l2, l3] st H else rn Ls xs d 0 544 [l0, l1, l2, l3] st H := rn_cmp (p := fun x y => x = y) rfl
set_option maxRecDepth 20000 in
theorem e_L_law_544 : rn Ls xs d 0 544 [l0, l1, l2, l3]  st H = rn Ls xs d 0 545 [l0, l1, l2, l3] (.inl 0 :: st) H := rn_nx rfl rfl
set_option maxRecDepth 20000 in
theorem e_L_law_545 : rn Ls xs d 0 545 [l0, l1, l2, l3] [.inl x] H = if h_bo x then some (some (.inl x), H) else none := rn_zret rfl
set_option maxRecDepth 20000 in
theorem e_L_law_546 : rn Ls xs d 0 546 [l0, some (.inr u), l2, l3] st H = rn Ls xs d 0 547 [l0, some (.inr u), l2, l3] (.inr u :: st) H := rn_nx rfl rfl
set_option maxRecDepth 20000 in
theorem e_L_law_547 : rn Ls xs d 0 547 [some (.inr u), l1, l2, l3] st H = rn Ls xs d 0 548 [some (.inr u), l1, l2, l3] (.inr u :: st) H := rn_nx rfl rfl
set_option maxRecDepth 20000 in
theorem e_L_law_548 : rn Ls xs d 0 548 [l0, l1, l2, some (.inl x)] st H = rn Ls xs d 0 549 [l0, l1, l2, some (.inl x)] (.inl x :: st) H := rn_nx rfl rfl
set_option maxRecDepth 20000 in
theorem e_L_law_549 : rn Ls xs d 0 549 [l0, l1, l2, l3]  st H = rn Ls xs d 0 550 [l0, l1, l2, l3] (.inl 1 :: st) H := rn_nx rfl rfl
set_option maxRecDepth 20000 in
theorem e_L_law_550 : rn Ls xs d 0 550 [l0, l1, l2, l3] (.inl y :: .inl x :: st) H = rn Ls xs d 0 551 [l0, l1, l2, l3] (.inl (x + y) :: st) H := rn_nx rfl rfl
set_option maxRecDepth 20000 in
theorem e_L_law_551 : rn Ls xs d 0 551 [l0, l1, l2, l3] (.inl i :: .inr (.inr 0) :: st) H = if 0 ≤ i.toInt ∧ i.toInt < (Ls : Int) then rn Ls xs d 0 552 [l0, l1, l2, l3] (.inl (xs i.toNatClampNeg) :: st) H else none := rn_pc rfl rfl
set_option maxRecDepth 20000 in
theorem e_L_law_552 : rn Ls xs (d + 1) 0 552 [l0, l1, l2, l3] [v1, (.inr (.inl (some a)))] (S, I, R) = if h_is S a 8 10 then rb Ls xs (d + 1) 0 555 [l0, l1, l2, l3] [] (rn Ls xs d 23 0 [some (.inr (.inl (some a))), some v1, none] [] (S, I, R)) else none := rn_callO rfl rfl (Nat.le_of_ble_eq_true rfl) rfl rfl
set_option maxRecDepth 20000 in
theorem e_L_law_555 : rn Ls xs d 0 555 [l0, l1, some (.inr u), l3] st H = rn Ls xs d 0 556 [l0, l1, some (.inr u), l3] (.inr u :: st) H := rn_nx rfl rfl
set_option maxRecDepth 20000 in
theorem e_L_law_556 : rn Ls xs d 0 556 [some (.inr u), l1, l2, l3] st H = rn Ls xs d 0 557 [some (.inr u), l1, l2, l3] (.inr u :: st) H := rn_nx rfl rfl
set_option maxRecDepth 20000 in
theorem e_L_law_557 : rn Ls xs d 0 557 [l0, l1, l2, some (.inl x)] st H = rn Ls xs d 0 558 [l0, l1, l2, some (.inl x)] (.inl x :: st) H := rn_nx rfl rfl
set_option maxRecDepth 20000 in
theorem e_L_law_558 : rn Ls xs d 0 558 [l0, l1, l2, l3]  st H = rn Ls xs d 0 559 [l0, l1, l2, l3] (.inl 1 :: st) H := rn_nx rfl rfl
set_option maxRecDepth 20000 in
theorem e_L_law_559 : rn Ls xs d 0 559 [l0, l1, l2, l3] (.inl y :: .inl x :: st) H = rn Ls xs d 0 560 [l0, l1, l2, l3] (.inl (x + y) :: st) H := rn_nx rfl rfl
set_option maxRecDepth 20000 in
theorem e_L_law_560 : rn Ls xs d 0 560 [l0, l1, l2, l3] (.inl i :: .inr (.inr 0) :: st) H = if 0 ≤ i.toInt ∧ i.toInt < (Ls : Int) then rn Ls xs d 0 561 [l0, l1, l2, l3] (.inl (xs i.toNatClampNeg) :: st) H else none := rn_pc rfl rfl
set_option maxRecDepth 20000 in
theorem e_L_law_561 : rn Ls xs (d + 1) 0 561 [l0, l1, l2, l3] [v1, (.inr (.inl (some a))), v2] (S, I, R) = if h_is S a 9 36 then rb Ls xs (d + 1) 0 564 [l0, l1, l2, l3] [v2] (rn Ls xs d 24 0 [some (.inr (.inl (some a))), some v1, none] [] (S, I, R)) else none := rn_callO rfl rfl (Nat.le_of_ble_eq_true rfl) rfl rfl
set_option maxRecDepth 20000 in
theorem e_L_law_564 : rn Ls xs d 0 564 [l0, l1, l2, l3] (.inl y :: .inl x :: st) H = if x = y then rn Ls xs d 0 1462 [l0, l1, l2, l3] st H else rn Ls xs d 0 567 [l0, l1, l2, l3] st H := rn_cmp (p := fun x y => x = y) rfl
set_option maxRecDepth 20000 in
theorem e_L_law_567 : rn Ls xs d 0 567 [l0, l1, l2, l3]  st H = rn Ls xs d 0 568 [l0, l1, l2, l3] (.inl 0 :: st) H := rn_nx rfl rfl
set_option maxRecDepth 20000 in
theorem e_L_law_568 : rn Ls xs d 0 568 [l0, l1, l2, l3] [.inl x] H = if h_bo x then some (some (.inl x), H) else none := rn_zret rfl
set_option maxRecDepth 20000 in
theorem e_L_law_569 : rn Ls xs d 0 569 [l0, some (.inr u), l2, l3] st H = rn Ls xs d 0 570 [l0, some (.inr u), l2, l3] (.inr u :: st) H := rn_nx rfl rfl
set_option maxRecDepth 20000 in
theorem e_L_law_570 : rn Ls xs d 0 570 [some (.inr u), l1, l2, l3] st H = rn Ls xs d 0 571 [some (.inr u), l1, l2, l3] (.inr u :: st) H := rn_nx rfl rfl
set_option maxRecDepth 20000 in
theorem e_L_law_571 : rn Ls xs d 0 571 [l0, l1, l2, some (.inl x)] st H = rn Ls xs d 0 572 [l0, l1, l2, some (.inl x)] (.inl x :: st) H := rn_nx rfl rfl
set_option maxRecDepth 20000 in
theorem e_L_law_572 : rn Ls xs d 0 572 [l0, l1, l2, l3]  st H = rn Ls xs d 0 573 [l0, l1, l2, l3] (.inl 1 :: st) H := rn_nx rfl rfl
set_option maxRecDepth 20000 in
theorem e_L_law_573 : rn Ls xs d 0 573 [l0, l1, l2, l3] (.inl y :: .inl x :: st) H = rn Ls xs d 0 574 [l0, l1, l2, l3] (.inl (x + y) :: st) H := rn_nx rfl rfl
set_option maxRecDepth 20000 in
theorem e_L_law_574 : rn Ls xs d 0 574 [l0, l1, l2, l3] (.inl i :: .inr (.inr 0) :: st) H = if 0 ≤ i.toInt ∧ i.toInt < (Ls : Int) then rn Ls xs d 0 575 [l0, l1, l2, l3] (.inl (xs i.toNatClampNeg) :: st) H else none := rn_pc rfl rfl
set_option maxRecDepth 20000 in
theorem e_L_law_575 : rn Ls xs (d + 1) 0 575 [l0, l1, l2, l3] [v1, (.inr (.inl (some a)))] (S, I, R) = if h_is S a 8 10 then rb Ls xs (d + 1) 0 578 [l0, l1, l2, l3] [] (rn Ls xs d 25 0 [some (.inr (.inl (some a))), some v1] [] (S, I, R)) else none := rn_callO rfl rfl (Nat.le_of_ble_eq_true rfl) rfl rfl
set_option maxRecDepth 20000 in
theorem e_L_law_578 : rn Ls xs d 0 578 [l0, l1, some (.inr u), l3] st H = rn Ls xs d 0 579 [l0, l1, some (.inr u), l3] (.inr u :: st) H := rn_nx rfl rfl
set_option maxRecDepth 20000 in
theorem e_L_law_579 : rn Ls xs d 0 579 [some (.inr u), l1, l2, l3] st H = rn Ls xs d 0 580 [some (.inr u), l1, l2, l3] (.inr u :: st) H := rn_nx rfl rfl
set_option maxRecDepth 20000 in
theorem e_L_law_580 : rn Ls xs d 0 580 [l0, l1, l2, some (.inl x)] st H = rn Ls xs d 0 581 [l0, l1, l2, some (.inl x)] (.inl x :: st) H := rn_nx rfl rfl
set_option maxRecDepth 20000 in
theorem e_L_law_581 : rn Ls xs d 0 581 [l0, l1, l2, l3]  st H = rn Ls xs d 0 582 [l0, l1, l2, l3] (.inl 1 :: st) H := rn_nx rfl rfl
set_option maxRecDepth 20000 in
theorem e_L_law_582 : rn Ls xs d 0 582 [l0, l1, l2, l3] (.inl y :: .inl x :: st) H = rn Ls xs d 0 583 [l0, l1, l2, l3] (.inl (x + y) :: st) H := rn_nx rfl rfl
set_option maxRecDepth 20000 in
theorem e_L_law_583 : rn Ls xs d 0 583 [l0, l1, l2, l3] (.inl i :: .inr (.inr 0) :: st) H = if 0 ≤ i.toInt ∧ i.toInt < (Ls : Int) then rn Ls xs d 0 584 [l0, l1, l2, l3] (.inl (xs i.toNatClampNeg) :: st) H else none := rn_pc rfl rfl
set_option maxRecDepth 20000 in
theorem e_L_law_584 : rn Ls xs (d + 1) 0 584 [l0, l1, l2, l3] [v1, (.inr (.inl (some a))), v2] (S, I, R) = if h_is S a 9 36 then rb Ls xs (d + 1) 0 587 [l0, l1, l2, l3] [v2] (rn Ls xs d 26 0 [some (.inr (.inl (some a))), some v1] [] (S, I, R)) else none := rn_callO rfl rfl (Nat.le_of_ble_eq_true rfl) rfl rfl
set_option maxRecDepth 20000 in
theorem e_L_law_587 : rn Ls xs d 0 587 [l0, l1, l2, l3] (.inl y :: .inl x :: st) H = if x = y then rn Ls xs d 0 1462 [l0, l1, l2, l3] st H else rn Ls xs d 0 590 [l0, l1, l2, l3] st H := rn_cmp (p := fun x y => x = y) rfl
set_option maxRecDepth 20000 in
theorem e_L_law_590 : rn Ls xs d 0 590 [l0, l1, l2, l3]  st H = rn Ls xs d 0 591 [l0, l1, l2, l3] (.inl 0 :: st) H := rn_nx rfl rfl
set_option maxRecDepth 20000 in
theorem e_L_law_591 : rn Ls xs d 0 591 [l0, l1, l2, l3] [.inl x] H = if h_bo x then some (some (.inl x), H) else none := rn_zret rfl
set_option maxRecDepth 20000 in
theorem e_L_law_592 : rn Ls xs d 0 592 [l0, some (.inr u), l2, l3] st H = rn Ls xs d 0 593 [l0, some (.inr u), l2, l3] (.inr u :: st) H := rn_nx rfl rfl
set_option maxRecDepth 20000 in
theorem e_L_law_593 : rn Ls xs d 0 593 [some (.inr u), l1, l2, l3] st H = rn Ls xs d 0 594 [some (.inr u), l1, l2, l3] (.inr u :: st) H := rn_nx rfl rfl
set_option maxRecDepth 20000 in
theorem e_L_law_594 : rn Ls xs d 0 594 [l0, l1, l2, some (.inl x)] st H = rn Ls xs d 0 595 [l0, l1, l2, some (.inl x)] (.inl x :: st) H := rn_nx rfl rfl
set_option maxRecDepth 20000 in
theorem e_L_law_595 : rn Ls xs d 0 595 [l0, l1, l2, l3]  st H = rn Ls xs d 0 596 [l0, l1, l2, l3] (.inl 1 :: st) H := rn_nx rfl rfl
set_option maxRecDepth 20000 in
theorem e_L_law_596 : rn Ls xs d 0 596 [l0, l1, l2, l3] (.inl y :: .inl x :: st) H = rn Ls xs d 0 597 [l0, l1, l2, l3] (.inl (x + y) :: st) H := rn_nx rfl rfl
set_option maxRecDepth 20000 in
theorem e_L_law_597 : rn Ls xs d 0 597 [l0, l1, l2, l3] (.inl i :: .inr (.inr 0) :: st) H = if 0 ≤ i.toInt ∧ i.toInt < (Ls : Int) then rn Ls xs d 0 598 [l0, l1, l2, l3] (.inl (xs i.toNatClampNeg) :: st) H else none := rn_pc rfl rfl
set_option maxRecDepth 20000 in
theorem e_L_law_598 : rn Ls xs d 0 598 [some (.inr u), l1, l2, l3] st H = rn Ls xs d 0 599 [some (.inr u), l1, l2, l3] (.inr u :: st) H := rn_nx rfl rfl
set_option maxRecDepth 20000 in
theorem e_L_law_599 : rn Ls xs d 0 599 [l0, l1, l2, some (.inl x)] st H = rn Ls xs d 0 600 [l0, l1, l2, some (.inl x)] (.inl x :: st) H := rn_nx rfl rfl
set_option maxRecDepth 20000 in
theorem e_L_law_600 : rn Ls xs d 0 600 [l0, l1, l2, l3]  st H = rn Ls xs d 0 601 [l0, l1, l2, l3] (.inl 2 :: st) H := rn_nx rfl rfl
set_option maxRecDepth 20000 in
theorem e_L_law_601 : rn Ls xs d 0 601 [l0, l1, l2, l3] (.inl y :: .inl x :: st) H = rn Ls xs d 0 602 [l0, l1, l2, l3] (.inl (x + y) :: st) H := rn_nx rfl rfl
set_option maxRecDepth 20000 in
theorem e_L_law_602 : rn Ls xs d 0 602 [l0, l1, l2, l3] (.inl i :: .inr (.inr 0) :: st) H = if 0 ≤ i.toInt ∧ i.toInt < (Ls : Int) then rn Ls xs d 0 603 [l0, l1, l2, l3] (.inl (xs i.toNatClampNeg) :: st) H else none := rn_pc rfl rfl
set_option maxRecDepth 20000 in
theorem e_L_law_603 : rn Ls xs (d + 1) 0 603 [l0, l1, l2, l3] [v2, v1, (.inr (.inl (some a)))] (S, I, R) = if h_is S a 8 10 then rb Ls xs (d + 1) 0 606 [l0, l1, l2, l3] [] (rn Ls xs d 27 0 [some (.inr (.inl (some a))), some v1, some v2, none] [] (S, I, R)) else none := rn_callO rfl rfl (Nat.le_of_ble_eq_true rfl) rfl rfl
set_option maxRecDepth 20000 in
theorem e_L_law_606 : rn Ls xs d 0 606 [l0, l1, some (.inr u), l3] st H = rn Ls xs d 0 607 [l0, l1, some (.inr u), l3] (.inr u :: st) H := rn_nx rfl rfl
set_option maxRecDepth 20000 in
theorem e_L_law_607 : rn Ls xs d 0 607 [some (.inr u), l1, l2, l3] st H = rn Ls xs d 0 608 [some (.inr u), l1, l2, l3] (.inr u :: st) H := rn_nx rfl rfl
set_option maxRecDepth 20000 in
theorem e_L_law_608 : rn Ls xs d 0 608 [l0, l1, l2, some (.inl x)] st H = rn Ls xs d 0 609 [l0, l1, l2, some (.inl x)] (.inl x :: st) H := rn_nx rfl rfl
set_option maxRecDepth 20000 in
theorem e_L_law_609 : rn Ls xs d 0 609 [l0, l1, l2, l3]  st H = rn Ls xs d 0 610 [l0, l1, l2, l3] (.inl 1 :: st) H := rn_nx rfl rfl
set_option maxRecDepth 20000 in
theorem e_L_law_610 : rn Ls xs d 0 610 [l0, l1, l2, l3] (.inl y :: .inl x :: st) H = rn Ls xs d 0 611 [l0, l1, l2, l3] (.inl (x + y) :: st) H := rn_nx rfl rfl
set_option maxRecDepth 20000 in
theorem e_L_law_611 : rn Ls xs d 0 611 [l0, l1, l2, l3] (.inl i :: .inr (.inr 0) :: st) H = if 0 ≤ i.toInt ∧ i.toInt < (Ls : Int) then rn Ls xs d 0 612 [l0, l1, l2, l3] (.inl (xs i.toNatClampNeg) :: st) H else none := rn_pc rfl rfl
set_option maxRecDepth 20000 in
theorem e_L_law_612 : rn Ls xs d 0 612 [some (.inr u), l1, l2, l3] st H = rn Ls xs d 0 613 [some (.inr u), l1, l2, l3] (.inr u :: st) H := rn_nx rfl rfl
set_option maxRecDepth 20000 in
theorem e_L_law_613 : rn Ls xs d 0 613 [l0, l1, l2, some (.inl x)] st H = rn Ls xs d 0 614 [l0, l1, l2, some (.inl x)] (.inl x :: st) H := rn_nx rfl rfl
set_option maxRecDepth 20000 in
theorem e_L_law_614 : rn Ls xs d 0 614 [l0, l1, l2, l3]  st H = rn Ls xs d 0 615 [l0, l1, l2, l3] (.inl 2 :: st) H := rn_nx rfl rfl
set_option maxRecDepth 20000 in
theorem e_L_law_615 : rn Ls xs d 0 615 [l0, l1, l2, l3] (.inl y :: .inl x :: st) H = rn Ls xs d 0 616 [l0, l1, l2, l3] (.inl (x + y) :: st) H := rn_nx rfl rfl
set_option maxRecDepth 20000 in
theorem e_L_law_616 : rn Ls xs d 0 616 [l0, l1, l2, l3] (.inl i :: .inr (.inr 0) :: st) H = if 0 ≤ i.toInt ∧ i.toInt < (Ls : Int) then rn Ls xs d 0 617 [l0, l1, l2, l3] (.inl (xs i.toNatClampNeg) :: st) H else none := rn_pc rfl rfl
set_option maxRecDepth 20000 in
theorem e_L_law_617 : rn Ls xs (d + 1) 0 617 [l0, l1, l2, l3] [v2, v1, (.inr (.inl (some a))), v3] (S, I, R) = if h_is S a 9 36 then rb Ls xs (d + 1) 0 620 [l0, l1, l2, l3] [v3] (rn Ls xs d 28 0 [some (.inr (.inl (some a))), some v1, some v2, none] [] (S, I, R)) else none := rn_callO rfl rfl (Nat.le_of_ble_eq_true rfl) rfl rfl
set_option maxRecDepth 20000 in
theorem e_L_law_620 : rn Ls xs d 0 620 [l0, l1, l2, l3] (.inl y :: .inl x :: st) H = if x = y then rn Ls xs d 0 1462 [l0, l1, l2, l3] st H else rn Ls xs d 0 623 [l0, l1, l2, l3] st H := rn_cmp (p := fun x y => x = y) rfl
set_option maxRecDepth 20000 in
theorem e_L_law_623 : rn Ls xs d 0 623 [l0, l1, l2, l3]  st H = rn Ls xs d 0 624 [l0, l1, l2, l3] (.inl 0 :: st) H := rn_nx rfl rfl
set_option maxRecDepth 20000 in
theorem e_L_law_624 : rn Ls xs d 0 624 [l0, l1, l2, l3] [.inl x] H = if h_bo x then some (some (.inl x), H) else none := rn_zret rfl
set_option maxRecDepth 20000 in
theorem e_L_law_625 : rn Ls xs d 0 625 [l0, some (.inr u), l2, l3] st H = rn Ls xs d 0 626 [l0, some (.inr u), l2, l3] (.inr u :: st) H := rn_nx rfl rfl
set_option maxRecDepth 20000 in
theorem e_L_law_626 : rn Ls xs (d + 1) 0 626 [l0, l1, l2, l3] [(.inr (.inl (some a)))] (S, I, R) = if h_is S a 8 10 then rb Ls xs (d + 1) 0 629 [l0, l1, l2, l3] [] (rn Ls xs d 29 0 [some (.inr (.inl (some a)))] [] (S, I, R)) else none := rn_callO rfl rfl (Nat.le_of_ble_eq_true rfl) rfl rfl
set_option maxRecDepth 20000 in
theorem e_L_law_629 : rn Ls xs d 0 629 [l0, l1, some (.inr u), l3] st H = rn Ls xs d 0 630 [l0, l1, some (.inr u), l3] (.inr u :: st) H := rn_nx rfl rfl
set_option maxRecDepth 20000 in
theorem e_L_law_630 : rn Ls xs (d + 1) 0 630 [l0, l1, l2, l3] [(.inr (.inl (some a))), v1] (S, I, R) = if h_is S a 9 36 then rb Ls xs (d + 1) 0 633 [l0, l1, l2, l3] [v1] (rn Ls xs d 30 0 [some (.inr (.inl (some a))), none] [] (S, I, R)) else none := rn_callO rfl rfl (Nat.le_of_ble_eq_true rfl) rfl rfl
set_option maxRecDepth 20000 in
theorem e_L_law_633 : rn Ls xs d 0 633 [l0, l1, l2, l3] (.inl y :: .inl x :: st) H = if x = y then rn Ls xs d 0 1462 [l0, l1, l2, l3] st H else rn Ls xs d 0 636 [l0, l1, l2, l3] st H := rn_cmp (p := fun x y => x = y) rfl
set_option maxRecDepth 20000 in
theorem e_L_law_636 : rn Ls xs d 0 636 [l0, l1, l2, l3]  st H = rn Ls xs d 0 637 [l0, l1, l2, l3] (.inl 0 :: st) H := rn_nx rfl rfl
set_option maxRecDepth 20000 in
theorem e_L_law_637 : rn Ls xs d 0 637 [l0, l1, l2, l3] [.inl x] H = if h_bo x then some (some (.inl x), H) else none := rn_zret rfl
set_option maxRecDepth 20000 in
theorem e_L_law_638 : rn Ls xs d 0 638 [l0, some (.inr u), l2, l3] st H = rn Ls xs d 0 639 [l0, some (.inr u), l2, l3] (.inr u :: st) H := rn_nx rfl rfl
set_option maxRecDepth 20000 in
theorem e_L_law_639 : rn Ls xs d 0 639 [some (.inr u), l1, l2, l3] st H = rn Ls xs d 0 640 [some (.inr u), l1, l2, l3] (.inr u :: st) H := rn_nx rfl rfl
set_option maxRecDepth 20000 in
theorem e_L_law_640 : rn Ls xs d 0 640 [l0, l1, l2, some (.inl x)] st H = rn Ls xs d 0 641 [l0, l1, l2, some (.inl x)] (.inl x :: st) H := rn_nx rfl rfl
set_option maxRecDepth 20000 in
theorem e_L_law_641 : rn Ls xs d 0 641 [l0, l1, l2, l3]  st H = rn Ls xs d 0 642 [l0, l1, l2, l3] (.inl 1 :: st) H := rn_nx rfl rfl
set_option maxRecDepth 20000 in
theorem e_L_law_642 : rn Ls xs d 0 642 [l0, l1, l2, l3] (.inl y :: .inl x :: st) H = rn Ls xs d 0 643 [l0, l1, l2, l3] (.inl (x + y) :: st) H := rn_nx rfl rfl
set_option maxRecDepth 20000 in
theorem e_L_law_643 : rn Ls xs d 0 643 [l0, l1, l2, l3] (.inl i :: .inr (.inr 0) :: st) H = if 0 ≤ i.toInt ∧ i.toInt < (Ls : Int) then rn Ls xs d 0 644 [l0, l1, l2, l3] (.inl (xs i.toNatClampNeg) :: st) H else none := rn_pc rfl rfl
set_option maxRecDepth 20000 in
theorem e_L_law_644 : rn Ls xs (d + 1) 0 644 [l0, l1, l2, l3] [v1, (.inr (.inl (some a)))] (S, I, R) = if h_is S a 8 10 then rb Ls xs (d + 1) 0 647 [l0, l1, l2, l3] [] (rn Ls xs d 31 0 [some (.inr (.inl (some a))), some v1] [] (S, I, R)) else none := rn_callO rfl rfl (Nat.le_of_ble_eq_true rfl) rfl rfl
set_option maxRecDepth 20000 in
theorem e_L_law_647 : rn Ls xs d 0 647 [l0, l1, some (.inr u), l3] st H = rn Ls xs d 0 648 [l0, l1, some (.inr u), l3] (.inr u :: st) H := rn_nx rfl rfl
set_option maxRecDepth 20000 in
theorem e_L_law_648 : rn Ls xs d 0 648 [some (.inr u), l1, l2, l3] st H = rn Ls xs d 0 649 [some (.inr u), l1, l2, l3] (.inr u :: st) H := rn_nx rfl rfl
set_option maxRecDepth 20000 in
theorem e_L_law_649 : rn Ls xs d 0 649 [l0, l1, l2, some (.inl x)] st H = rn Ls xs d 0 650 [l0, l1, l2, some (.inl x)] (.inl x :: st) H := rn_nx rfl rfl
set_option maxRecDepth 20000 in
theorem e_L_law_650 : rn Ls xs d 0 650 [l0, l1, l2, l3]  st H = rn Ls xs d 0 651 [l0, l1, l2, l3] (.inl 1 :: st) H := rn_nx rfl rfl
set_option maxRecDepth 20000 in
theorem e_L_law_651 : rn Ls xs d 0 651 [l0, l1, l2, l3] (.inl y :: .inl x :: st) H = rn Ls xs d 0 652 [l0, l1, l2, l3] (.inl (x + y) :: st) H := rn_nx rfl rfl
set_option maxRecDepth 20000 in
theorem e_L_law_652 : rn Ls xs d 0 652 [l0, l1, l2, l3] (.inl i :: .inr (.inr 0) :: st) H = if 0 ≤ i.toInt ∧ i.toInt < (Ls : Int) then rn Ls xs d 0 653 [l0, l1, l2, l3] (.inl (xs i.toNatClampNeg) :: st) H else none := rn_pc rfl rfl
set_option maxRecDepth 20000 in
theorem e_L_law_653 : rn Ls xs (d + 1) 0 653 [l0, l1, l2, l3] [v1, (.inr (.inl (some a))), v2] (S, I, R) = if h_is S a 9 36 then rb Ls xs (d + 1) 0 656 [l0, l1, l2, l3] [v2] (rn Ls xs d 32 0 [some (.inr (.inl (some a))), some v1] [] (S, I, R)) else none := rn_callO rfl rfl (Nat.le_of_ble_eq_true rfl) rfl rfl
set_option maxRecDepth 20000 in
theorem e_L_law_656 : rn Ls xs d 0 656 [l0, l1, l2, l3] (.inl y :: .inl x :: st) H = if x = y then rn Ls xs d 0 1462 [l0, l1, l2, l3] st H else rn Ls xs d 0 659 [l0, l1, l2, l3] st H := rn_cmp (p := fun x y => x = y) rfl
set_option maxRecDepth 20000 in
theorem e_L_law_659 : rn Ls xs d 0 659 [l0, l1, l2, l3]  st H = rn Ls xs d 0 660 [l0, l1, l2, l3] (.inl 0 :: st) H := rn_nx rfl rfl
set_option maxRecDepth 20000 in
theorem e_L_law_660 : rn Ls xs d 0 660 [l0, l1, l2, l3] [.inl x] H = if h_bo x then some (some (.inl x), H) else none := rn_zret rfl
set_option maxRecDepth 20000 in
theorem e_L_law_661 : rn Ls xs d 0 661 [l0, some (.inr u), l2, l3] st H = rn Ls xs d 0 662 [l0, some (.inr u), l2, l3] (.inr u :: st) H := rn_nx rfl rfl
set_option maxRecDepth 20000 in
theorem e_L_law_662 : rn Ls xs d 0 662 [some (.inr u), l1, l2, l3] st H = rn Ls xs d 0 663 [some (.inr u), l1, l2, l3] (.inr u :: st) H := rn_nx rfl rfl
set_option maxRecDepth 20000 in
theorem e_L_law_663 : rn Ls xs d 0 663 [l0, l1, l2, some (.inl x)] st H = rn Ls xs d 0 664 [l0, l1, l2, some (.inl x)] (.inl x :: st) H := rn_nx rfl rfl
set_option maxRecDepth 20000 in
theorem e_L_law_664 : rn Ls xs d 0 664 [l0, l1, l2, l3]  st H = rn Ls xs d 0 665 [l0, l1, l2, l3] (.inl 1 :: st) H := rn_nx rfl rfl
set_option maxRecDepth 20000 in
theorem e_L_law_665 : rn Ls xs d 0 665 [l0, l1, l2, l3] (.inl y :: .inl x :: st) H = rn Ls xs d 0 666 [l0, l1, l2, l3] (.inl (x + y) :: st) H := rn_nx rfl rfl
set_option maxRecDepth 20000 in
theorem e_L_law_666 : rn Ls xs d 0 666 [l0, l1, l2, l3] (.inl i :: .inr (.inr 0) :: st) H = if 0 ≤ i.toInt ∧ i.toInt < (Ls : Int) then rn Ls xs d 0 667 [l0, l1, l2, l3] (.inl (xs i.toNatClampNeg) :: st) H else none := rn_pc rfl rfl
set_option maxRecDepth 20000 in
theorem e_L_law_667 : rn Ls xs (d + 1) 0 667 [l0, l1, l2, l3] [v1, (.inr (.inl (some a)))] (S, I, R) = if h_is S a 8 10 then rb Ls xs (d + 1) 0 670 [l0, l1, l2, l3] [] (rn Ls xs d 33 0 [some (.inr (.inl (some a))), some v1, none, none] [] (S, I, R)) else none := rn_callO rfl rfl (Nat.le_of_ble_eq_true rfl) rfl rfl
set_option maxRecDepth 20000 in
theorem e_L_law_670 : rn Ls xs d 0 670 [l0, l1, some (.inr u), l3] st H = rn Ls xs d 0 671 [l0, l1, some (.inr u), l3] (.inr u :: st) H := rn_nx rfl rfl
set_option maxRecDepth 20000 in
theorem e_L_law_671 : rn Ls xs d 0 671 [some (.inr u), l1, l2, l3] st H = rn Ls xs d 0 672 [some (.inr u), l1, l2, l3] (.inr u :: st) H := rn_nx rfl rfl
set_option maxRecDepth 20000 in
theorem e_L_law_672 : rn Ls xs d 0 672 [l0, l1, l2, some (.inl x)] st H = rn Ls xs d 0 673 [l0, l1, l2, some (.inl x)] (.inl x :: st) H := rn_nx rfl rfl
set_option maxRecDepth 20000 in
theorem e_L_law_673 : rn Ls xs d 0 673 [l0, l1, l2, l3]  st H = rn Ls xs d 0 674 [l0, l1, l2, l3] (.inl 1 :: st) H := rn_nx rfl rfl
set_option maxRecDepth 20000 in
theorem e_L_law_674 : rn Ls xs d 0 674 [l0, l1, l2, l3] (.inl y :: .inl x :: st) H = rn Ls xs d 0 675 [l0, l1, l2, l3] (.inl (x + y) :: st) H := rn_nx rfl rfl
set_option maxRecDepth 20000 in
theorem e_L_law_675 : rn Ls xs d 0 675 [l0, l1, l2, l3] (.inl i :: .inr (.inr 0) :: st) H = if 0 ≤ i.toInt ∧ i.toInt < (Ls : Int) then rn Ls xs d 0 676 [l0, l1, l2, l3] (.inl (xs i.toNatClampNeg) :: st) H else none := rn_pc rfl rfl
set_option maxRecDepth 20000 in
theorem e_L_law_676 : rn Ls xs (d + 1) 0 676 [l0, l1, l2, l3] [v1, (.inr (.inl (some a))), v2] (S, I, R) = if h_is S a 9 36 then rb Ls xs (d + 1) 0 679 [l0, l1, l2, l3] [v2] (rn Ls xs d 34 0 [some (.inr (.inl (some a))), some v1, none, none] [] (S, I, R)) else none := rn_callO rfl rfl (Nat.le_of_ble_eq_true rfl) rfl rfl
set_option maxRecDepth 20000 in
theorem e_L_law_679 : rn Ls xs d 0 679 [l0, l1, l2, l3] (.inl y :: .inl x :: st) H = if x = y then rn Ls xs d 0 1462 [l0, l1, l2, l3] st H else rn Ls xs d 0 682 [l0, l1, l2, l3] st H := rn_cmp (p := fun x y => x = y) rfl
set_option maxRecDepth 20000 in
theorem e_L_law_682 : rn Ls xs d 0 682 [l0, l1, l2, l3]  st H = rn Ls xs d 0 683 [l0, l1, l2, l3] (.inl 0 :: st) H := rn_nx rfl rfl
set_option maxRecDepth 20000 in
theorem e_L_law_683 : rn Ls xs d 0 683 [l0, l1, l2, l3] [.inl x] H = if h_bo x then some (some (.inl x), H) else none := rn_zret rfl
set_option maxRecDepth 20000 in
theorem e_L_law_684 : rn Ls xs d 0 684 [l0, some (.inr u), l2, l3] st H = rn Ls xs d 0 685 [l0, some (.inr u), l2, l3] (.inr u :: st) H := rn_nx rfl rfl
set_option maxRecDepth 20000 in
theorem e_L_law_685 : rn Ls xs d 0 685 [some (.inr u), l1, l2, l3] st H = rn Ls xs d 0 686 [some (.inr u), l1, l2, l3] (.inr u :: st) H := rn_nx rfl rfl
set_option maxRecDepth 20000 in
theorem e_L_law_686 : rn Ls xs d 0 686 [l0, l1, l2, some (.inl x)] st H = rn Ls xs d 0 687 [l0, l1, l2, some (.inl x)] (.inl x :: st) H := rn_nx rfl rfl
set_option maxRecDepth 20000 in
theorem e_L_law_687 : rn Ls xs d 0 687 [l0, l1, l2, l3]  st H = rn Ls xs d 0 688 [l0, l1, l2, l3] (.inl 1 :: st) H := rn_nx rfl rfl
set_option maxRecDepth 20000 in
theorem e_L_law_688 : rn Ls xs d 0 688 [l0, l1, l2, l3] (.inl y :: .inl x :: st) H = rn Ls xs d 0 689 [l0, l1, l2, l3] (.inl (x + y) :: st) H := rn_nx rfl rfl
set_option maxRecDepth 20000 in
theorem e_L_law_689 : rn Ls xs d 0 689 [l0, l1, l2, l3] (.inl i :: .inr (.inr 0) :: st) H = if 0 ≤ i.toInt ∧ i.toInt < (Ls : Int) then rn Ls xs d 0 690 [l0, l1, l2, l3] (.inl (xs i.toNatClampNeg) :: st) H else none := rn_pc rfl rfl
set_option maxRecDepth 20000 in
theorem e_L_law_690 : rn Ls xs d 0 690 [some (.inr u), l1, l2, l3] st H = rn Ls xs d 0 691 [some (.inr u), l1, l2, l3] (.inr u :: st) H := rn_nx rfl rfl
set_option maxRecDepth 20000 in
theorem e_L_law_691 : rn Ls xs d 0 691 [l0, l1, l2, some (.inl x)] st H = rn Ls xs d 0 692 [l0, l1, l2, some (.inl x)] (.inl x :: st) H := rn_nx rfl rfl
set_option maxRecDepth 20000 in
theorem e_L_law_692 : rn Ls xs d 0 692 [l0, l1, l2, l3]  st H = rn Ls xs d 0 693 [l0, l1, l2, l3] (.inl 2 :: st) H := rn_nx rfl rfl
set_option maxRecDepth 20000 in
theorem e_L_law_693 : rn Ls xs d 0 693 [l0, l1, l2, l3] (.inl y :: .inl x :: st) H = rn Ls xs d 0 694 [l0, l1, l2, l3] (.inl (x + y) :: st) H := rn_nx rfl rfl
set_option maxRecDepth 20000 in
theorem e_L_law_694 : rn Ls xs d 0 694 [l0, l1, l2, l3] (.inl i :: .inr (.inr 0) :: st) H = if 0 ≤ i.toInt ∧ i.toInt < (Ls : Int) then rn Ls xs d 0 695 [l0, l1, l2, l3] (.inl (xs i.toNatClampNeg) :: st) H else none := rn_pc rfl rfl
set_option maxRecDepth 20000 in
theorem e_L_law_695 : rn Ls xs (d + 1) 0 695 [l0, l1, l2, l3] [v2, v1, (.inr (.inl (some a)))] (S, I, R) = if h_is S a 8 10 then rb Ls xs (d + 1) 0 698 [l0, l1, l2, l3] [] (rn Ls xs d 35 0 [some (.inr (.inl (some a))), some v1, some v2] [] (S, I, R)) else none := rn_callO rfl rfl (Nat.le_of_ble_eq_true rfl) rfl rfl
set_option maxRecDepth 20000 in
theorem e_L_law_698 : rn Ls xs d 0 698 [l0, l1, some (.inr u), l3] st H = rn Ls xs d 0 699 [l0, l1, some (.inr u), l3] (.inr u :: st) H := rn_nx rfl rfl
set_option maxRecDepth 20000 in
theorem e_L_law_699 : rn Ls xs d 0 699 [some (.inr u), l1, l2, l3] st H = rn Ls xs d 0 700 [some (.inr u), l1, l2, l3] (.inr u :: st) H := rn_nx rfl rfl
set_option maxRecDepth 20000 in
theorem e_L_law_700 : rn Ls xs d 0 700 [l0, l1, l2, some (.inl x)] st H = rn Ls xs d 0 701 [l0, l1, l2, some (.inl x)] (.inl x :: st) H := rn_nx rfl rfl
set_option maxRecDepth 20000 in
theorem e_L_law_701 : rn Ls xs d 0 701 [l0, l1, l2, l3]  st H = rn Ls xs d 0 702 [l0, l1, l2, l3] (.inl 1 :: st) H := rn_nx rfl rfl
set_option maxRecDepth 20000 in
theorem e_L_law_702 : rn Ls xs d 0 702 [l0, l1, l2, l3] (.inl y :: .inl x :: st) H = rn Ls xs d 0 703 [l0, l1, l2, l3] (.inl (x + y) :: st) H := rn_nx rfl rfl
set_option maxRecDepth 20000 in
theorem e_L_law_703 : rn Ls xs d 0 703 [l0, l1, l2, l3] (.inl i :: .inr (.inr 0) :: st) H = if 0 ≤ i.toInt ∧ i.toInt < (Ls : Int) then rn Ls xs d 0 704 [l0, l1, l2, l3] (.inl (xs i.toNatClampNeg) :: st) H else none := rn_pc rfl rfl
set_option maxRecDepth 20000 in
theorem e_L_law_704 : rn Ls xs d 0 704 [some (.inr u), l1, l2, l3] st H = rn Ls xs d 0 705 [some (.inr u), l1, l2, l3] (.inr u :: st) H := rn_nx rfl rfl
set_option maxRecDepth 20000 in
theorem e_L_law_705 : rn Ls xs d 0 705 [l0, l1, l2, some (.inl x)] st H = rn Ls xs d 0 706 [l0, l1, l2, some (.inl x)] (.inl x :: st) H := rn_nx rfl rfl
set_option maxRecDepth 20000 in
theorem e_L_law_706 : rn Ls xs d 0 706 [l0, l1, l2, l3]  st H = rn Ls xs d 0 707 [l0, l1, l2, l3] (.inl 2 :: st) H := rn_nx rfl rfl
set_option maxRecDepth 20000 in
theorem e_L_law_707 : rn Ls xs d 0 707 [l0, l1, l2, l3] (.inl y :: .inl x :: st) H = rn Ls xs d 0 708 [l0, l1, l2, l3] (.inl (x + y) :: st) H := rn_nx rfl rfl
set_option maxRecDepth 20000 in
theorem e_L_law_708 : rn Ls xs d 0 708 [l0, l1, l2, l3] (.inl i :: .inr (.inr 0) :: st) H = if 0 ≤ i.toInt ∧ i.toInt < (Ls : Int) then rn Ls xs d 0 709 [l0, l1, l2, l3] (.inl (xs i.toNatClampNeg) :: st) H else none := rn_pc rfl rfl
set_option maxRecDepth 20000 in
theorem e_L_law_709 : rn Ls xs (d + 1) 0 709 [l0, l1, l2, l3] [v2, v1, (.inr (.inl (some a))), v3] (S, I, R) = if h_is S a 9 36 then rb Ls xs (d + 1) 0 712 [l0, l1, l2, l3] [v3] (rn Ls xs d 36 0 [some (.inr (.inl (some a))), some v1, some v2, none, none, none, none] [] (S, I, R)) else none := rn_callO rfl rfl (Nat.le_of_ble_eq_true rfl) rfl rfl
set_option maxRecDepth 20000 in
theorem e_L_law_712 : rn Ls xs d 0 712 [l0, l1, l2, l3] (.inl y :: .inl x :: st) H = if x = y then rn Ls xs d 0 1462 [l0, l1, l2, l3] st H else rn Ls xs d 0 715 [l0, l1, l2, l3] st H := rn_cmp (p := fun x y => x = y) rfl
set_option maxRecDepth 20000 in
theorem e_L_law_715 : rn Ls xs d 0 715 [l0, l1, l2, l3]  st H = rn Ls xs d 0 716 [l0, l1, l2, l3] (.inl 0 :: st) H := rn_nx rfl rfl
set_option maxRecDepth 20000 in
theorem e_L_law_716 : rn Ls xs d 0 716 [l0, l1, l2, l3] [.inl x] H = if h_bo x then some (some (.inl x), H) else none := rn_zret rfl
set_option maxRecDepth 20000 in
theorem e_L_law_717 : rn Ls xs d 0 717 [l0, some (.inr u), l2, l3] st H = rn Ls xs d 0 718 [l0, some (.inr u), l2, l3] (.inr u :: st) H := rn_nx rfl rfl
set_option maxRecDepth 20000 in
theorem e_L_law_718 : rn Ls xs d 0 718 [some (.inr u), l1, l2, l3] st H = rn Ls xs d 0 719 [some (.inr u), l1, l2, l3] (.inr u :: st) H := rn_nx rfl rfl
set_option maxRecDepth 20000 in
theorem e_L_law_719 : rn Ls xs d 0 719 [l0, l1, l2, some (.inl x)] st H = rn Ls xs d 0 720 [l0, l1, l2, some (.inl x)] (.inl x :: st) H := rn_nx rfl rfl
set_option maxRecDepth 20000 in
theorem e_L_law_720 : rn Ls xs d 0 720 [l0, l1, l2, l3]  st H = rn Ls xs d 0 721 [l0, l1, l2, l3] (.inl 1 :: st) H := rn_nx rfl rfl
set_option maxRecDepth 20000 in
theorem e_L_law_721 : rn Ls xs d 0 721 [l0, l1, l2, l3] (.inl y :: .inl x :: st) H = rn Ls xs d 0 722 [l0, l1, l2, l3] (.inl (x + y) :: st) H := rn_nx rfl rfl
set_option maxRecDepth 20000 in
theorem e_L_law_722 : rn Ls xs d 0 722 [l0, l1, l2, l3] (.inl i :: .inr (.inr 0) :: st) H = if 0 ≤ i.toInt ∧ i.toInt < (Ls : Int) then rn Ls xs d 0 723 [l0, l1, l2, l3] (.inl (xs i.toNatClampNeg) :: st) H else none := rn_pc rfl rfl
set_option maxRecDepth 20000 in
theorem e_L_law_723 : rn Ls xs d 0 723 [some (.inr u), l1, l2, l3] st H = rn Ls xs d 0 724 [some (.inr u), l1, l2, l3] (.inr u :: st) H := rn_nx rfl rfl
set_option maxRecDepth 20000 in
theorem e_L_law_724 : rn Ls xs d 0 724 [l0, l1, l2, some (.inl x)] st H = rn Ls xs d 0 725 [l0, l1, l2, some (.inl x)] (.inl x :: st) H := rn_nx rfl rfl
set_option maxRecDepth 20000 in
theorem e_L_law_725 : rn Ls xs d 0 725 [l0, l1, l2, l3]  st H = rn Ls xs d 0 726 [l0, l1, l2, l3] (.inl 2 :: st) H := rn_nx rfl rfl
set_option maxRecDepth 20000 in
theorem e_L_law_726 : rn Ls xs d 0 726 [l0, l1, l2, l3] (.inl y :: .inl x :: st) H = rn Ls xs d 0 727 [l0, l1, l2, l3] (.inl (x + y) :: st) H := rn_nx rfl rfl
set_option maxRecDepth 20000 in
theorem e_L_law_727 : rn Ls xs d 0 727 [l0, l1, l2, l3] (.inl i :: .inr (.inr 0) :: st) H = if 0 ≤ i.toInt ∧ i.toInt < (Ls : Int) then rn Ls xs d 0 728 [l0, l1, l2, l3] (.inl (xs i.toNatClampNeg) :: st) H else none := rn_pc rfl rfl
set_option maxRecDepth 20000 in
theorem e_L_law_728 : rn Ls xs d 0 728 [some (.inr u), l1, l2, l3] st H = rn Ls xs d 0 729 [some (.inr u), l1, l2, l3] (.inr u :: st) H := rn_nx rfl rfl
set_option maxRecDepth 20000 in
theorem e_L_law_729 : rn Ls xs d 0 729 [l0, l1, l2, some (.inl x)] st H = rn Ls xs d 0 730 [l0, l1, l2, some (.inl x)] (.inl x :: st) H := rn_nx rfl rfl
set_option maxRecDepth 20000 in
theorem e_L_law_730 : rn Ls xs d 0 730 [l0, l1, l2, l3]  st H = rn Ls xs d 0 731 [l0, l1, l2, l3] (.inl 3 :: st) H := rn_nx rfl rfl
set_option maxRecDepth 20000 in
theorem e_L_law_731 : rn Ls xs d 0 731 [l0, l1, l2, l3] (.inl y :: .inl x :: st) H = rn Ls xs d 0 732 [l0, l1, l2, l3] (.inl (x + y) :: st) H := rn_nx rfl rfl
set_option maxRecDepth 20000 in
theorem e_L_law_732 : rn Ls xs d 0 732 [l0, l1, l2, l3] (.inl i :: .inr (.inr 0) :: st) H = if 0 ≤ i.toInt ∧ i.toInt < (Ls : Int) then rn Ls xs d 0 733 [l0, l1, l2, l3] (.inl (xs i.toNatClampNeg) :: st) H else none := rn_pc rfl rfl
set_option maxRecDepth 20000 in
theorem e_L_law_733 : rn Ls xs (d + 1) 0 733 [l0, l1, l2, l3] [v3, v2, v1, (.inr (.inl (some a)))] (S, I, R) = if h_is S a 8 10 then rb Ls xs (d + 1) 0 736 [l0, l1, l2, l3] [] (rn Ls xs d 37 0 [some (.inr (.inl (some a))), some v1, some v2, some v3] [] (S, I, R)) else none := rn_callO rfl rfl (Nat.le_of_ble_eq_true rfl) rfl rfl
set_option maxRecDepth 20000 in
theorem e_L_law_736 : rn Ls xs d 0 736 [l0, l1, some (.inr u), l3] st H = rn Ls xs d 0 737 [l0, l1, some (.inr u), l3] (.inr u :: st) H := rn_nx rfl rfl
set_option maxRecDepth 20000 in
theorem e_L_law_737 : rn Ls xs d 0 737 [some (.inr u), l1, l2, l3] st H = rn Ls xs d 0 738 [some (.inr u), l1, l2, l3] (.inr u :: st) H := rn_nx rfl rfl
set_option maxRecDepth 20000 in
theorem e_L_law_738 : rn Ls xs d 0 738 [l0, l1, l2, some (.inl x)] st H = rn Ls xs d 0 739 [l0, l1, l2, some (.inl x)] (.inl x :: st) H := rn_nx rfl rfl
set_option maxRecDepth 20000 in
theorem e_L_law_739 : rn Ls xs d 0 739 [l0, l1, l2, l3]  st H = rn Ls xs d 0 740 [l0, l1, l2, l3] (.inl 1 :: st) H := rn_nx rfl rfl
set_option maxRecDepth 20000 in
theorem e_L_law_740 : rn Ls xs d 0 740 [l0, l1, l2, l3] (.inl y :: .inl x :: st) H = rn Ls xs d 0 741 [l0, l1, l2, l3] (.inl (x + y) :: st) H := rn_nx rfl rfl
set_option maxRecDepth 20000 in
theorem e_L_law_741 : rn Ls xs d 0 741 [l0, l1, l2, l3] (.inl i :: .inr (.inr 0) :: st) H = if 0 ≤ i.toInt ∧ i.toInt < (Ls : Int) then rn Ls xs d 0 742 [l0, l1, l2, l3] (.inl (xs i.toNatClampNeg) :: st) H else none := rn_pc rfl rfl
set_option maxRecDepth 20000 in
theorem e_L_law_742 : rn Ls xs d 0 742 [some (.inr u), l1, l2, l3] st H = rn Ls xs d 0 743 [some (.inr u), l1, l2, l3] (.inr u :: st) H := rn_nx rfl rfl
set_option maxRecDepth 20000 in
theorem e_L_law_743 : rn Ls xs d 0 743 [l0, l1, l2, some (.inl x)] st H = rn Ls xs d 0 744 [l0, l1, l2, some (.inl x)] (.inl x :: st) H := rn_nx rfl rfl
set_option maxRecDepth 20000 in
theorem e_L_law_744 : rn Ls xs d 0 744 [l0, l1, l2, l3]  st H = rn Ls xs d 0 745 [l0, l1, l2, l3] (.inl 2 :: st) H := rn_nx rfl rfl
set_option maxRecDepth 20000 in
theorem e_L_law_745 : rn Ls xs d 0 745 [l0, l1, l2, l3] (.inl y :: .inl x :: st) H = rn Ls xs d 0 746 [l0, l1, l2, l3] (.inl (x + y) :: st) H := rn_nx rfl rfl
set_option maxRecDepth 20000 in
theorem e_L_law_746 : rn Ls xs d 0 746 [l0, l1, l2, l3] (.inl i :: .inr (.inr 0) :: st) H = if 0 ≤ i.toInt ∧ i.toInt < (Ls : Int) then rn Ls xs d 0 747 [l0, l1, l2, l3] (.inl (xs i.toNatClampNeg) :: st) H else none := rn_pc rfl rfl
set_option maxRecDepth 20000 in
theorem e_L_law_747 : rn Ls xs d 0 747 [some (.inr u), l1, l2, l3] st H = rn Ls xs d 0 748 [some (.inr u), l1, l2, l3] (.inr u :: st) H := rn_nx rfl rfl
set_option maxRecDepth 20000 in
theorem e_L_law_748 : rn Ls xs d 0 748 [l0, l1, l2, some (.inl x)] st H = rn Ls xs d 0 749 [l0, l1, l2, some (.inl x)] (.inl x :: st) H := rn_nx rfl rfl
set_option maxRecDepth 20000 in
theorem e_L_law_749 : rn Ls xs d 0 749 [l0, l1, l2, l3]  st H = rn Ls xs d 0 750 [l0, l1, l2, l3] (.inl 3 :: st) H := rn_nx rfl rfl
set_option maxRecDepth 20000 in
theorem e_L_law_750 : rn Ls xs d 0 750 [l0, l1, l2, l3] (.inl y :: .inl x :: st) H = rn Ls xs d 0 751 [l0, l1, l2, l3] (.inl (x + y) :: st) H := rn_nx rfl rfl
set_option maxRecDepth 20000 in
theorem e_L_law_751 : rn Ls xs d 0 751 [l0, l1, l2, l3] (.inl i :: .inr (.inr 0) :: st) H = if 0 ≤ i.toInt ∧ i.toInt < (Ls : Int) then rn Ls xs d 0 752 [l0, l1, l2, l3] (.inl (xs i.toNatClampNeg) :: st) H else none := rn_pc rfl rfl
set_option maxRecDepth 20000 in
theorem e_L_law_752 : rn Ls xs (d + 1) 0 752 [l0, l1, l2, l3] [v3, v2, v1, (.inr (.inl (some a))), v4] (S, I, R) = if h_is S a 9 36 then rb Ls xs (d + 1) 0 755 [l0, l1, l2, l3] [v4] (rn Ls xs d 38 0 [some (.inr (.inl (some a))), some v1, some v2, some v3, none, none, none, none] [] (S, I, R)) else none := rn_callO rfl rfl (Nat.le_of_ble_eq_true rfl) rfl rfl
set_option maxRecDepth 20000 in
theorem e_L_law_755 : rn Ls xs d 0 755 [l0, l1, l2, l3] (.inl y :: .inl x :: st) H = if x = y then rn Ls xs d 0 1462 [l0, l1, l2, l3] st H else rn Ls xs d 0 758 [l0, l1, l2, l3] st H := rn_cmp (p := fun x y => x = y) rfl
set_option maxRecDepth 20000 in
theorem e_L_law_758 : rn Ls xs d 0 758 [l0, l1, l2, l3]  st H = rn Ls xs d 0 759 [l0, l1, l2, l3] (.inl 0 :: st) H := rn_nx rfl rfl
set_option maxRecDepth 20000 in
theorem e_L_law_759 : rn Ls xs d 0 759 [l0, l1, l2, l3] [.inl x] H = if h_bo x then some (some (.inl x), H) else none := rn_zret rfl
set_option maxRecDepth 20000 in
theorem e_L_law_760 : rn Ls xs d 0 760 [l0, some (.inr u), l2, l3] st H = rn Ls xs d 0 761 [l0, some (.inr u), l2, l3] (.inr u :: st) H := rn_nx rfl rfl
set_option maxRecDepth 20000 in
theorem e_L_law_761 : rn Ls xs d 0 761 [some (.inr u), l1, l2, l3] st H = rn Ls xs d 0 762 [some (.inr u), l1, l2, l3] (.inr u :: st) H := rn_nx rfl rfl
set_option maxRecDepth 20000 in
theorem e_L_law_762 : rn Ls xs d 0 762 [l0, l1, l2, some (.inl x)] st H = rn Ls xs d 0 763 [l0, l1, l2, some (.inl x)] (.inl x :: st) H := rn_nx rfl rfl
set_option maxRecDepth 20000 in
theorem e_L_law_763 : rn Ls xs d 0 763 [l0, l1, l2, l3]  st H = rn Ls xs d 0 764 [l0, l1, l2, l3] (.inl 1 :: st) H := rn_nx rfl rfl
set_option maxRecDepth 20000 in
theorem e_L_law_764 : rn Ls xs d 0 764 [l0, l1, l2, l3] (.inl y :: .inl x :: st) H = rn Ls xs d 0 765 [l0, l1, l2, l3] (.inl (x + y) :: st) H := rn_nx rfl rfl
set_option maxRecDepth 20000 in
theorem e_L_law_765 : rn Ls xs d 0 765 [l0, l1, l2, l3] (.inl i :: .inr (.inr 0) :: st) H = if 0 ≤ i.toInt ∧ i.toInt < (Ls : Int) then rn Ls xs d 0 766 [l0, l1, l2, l3] (.inl (xs i.toNatClampNeg) :: st) H else none := rn_pc rfl rfl
set_option maxRecDepth 20000 in
theorem e_L_law_766 : rn Ls xs d 0 766 [some (.inr u), l1, l2, l3] st H = rn Ls xs d 0 767 [some (.inr u), l1, l2, l3] (.inr u :: st) H := rn_nx rfl rfl
set_option maxRecDepth 20000 in
theorem e_L_law_767 : rn Ls xs d 0 767 [l0, l1, l2, some (.inl x)] st H = rn Ls xs d 0 768 [l0, l1, l2, some (.inl x)] (.inl x :: st) H := rn_nx rfl rfl
set_option maxRecDepth 20000 in
theorem e_L_law_768 : rn Ls xs d 0 768 [l0, l1, l2, l3]  st H = rn Ls xs d 0 769 [l0, l1, l2, l3] (.inl 2 :: st) H := rn_nx rfl rfl
set_option maxRecDepth 20000 in
theorem e_L_law_769 : rn Ls xs d 0 769 [l0, l1, l2, l3] (.inl y :: .inl x :: st) H = rn Ls xs d 0 770 [l0, l1, l2, l3] (.inl (x + y) :: st) H := rn_nx rfl rfl
set_option maxRecDepth 20000 in
theorem e_L_law_770 : rn Ls xs d 0 770 [l0, l1, l2, l3] (.inl i :: .inr (.inr 0) :: st) H = if 0 ≤ i.toInt ∧ i.toInt < (Ls : Int) then rn Ls xs d 0 771 [l0, l1, l2, l3] (.inl (xs i.toNatClampNeg) :: st) H else none := rn_pc rfl rfl
set_option maxRecDepth 20000 in
theorem e_L_law_771 : rn Ls xs (d + 1) 0 771 [l0, l1, l2, l3] [v2, v1, (.inr (.inl (some a)))] (S, I, R) = if h_is S a 8 10 then rb Ls xs (d + 1) 0 774 [l0, l1, l2, l3] [] (rn Ls xs d 39 0 [some (.inr (.inl (some a))), some v1, some v2] [] (S, I, R)) else none := rn_callO rfl rfl (Nat.le_of_ble_eq_true rfl) rfl rfl
set_option maxRecDepth 20000 in
theorem e_L_law_774 : rn Ls xs d 0 774 [l0, l1, some (.inr u), l3] st H = rn Ls xs d 0 775 [l0, l1, some (.inr u), l3] (.inr u :: st) H := rn_nx rfl rfl
set_option maxRecDepth 20000 in
theorem e_L_law_775 : rn Ls xs d 0 775 [some (.inr u), l1, l2, l3] st H = rn Ls xs d 0 776 [some (.inr u), l1, l2, l3] (.inr u :: st) H := rn_nx rfl rfl
set_option maxRecDepth 20000 in
theorem e_L_law_776 : rn Ls xs d 0 776 [l0, l1, l2, some (.inl x)] st H = rn Ls xs d 0 777 [l0, l1, l2, some (.inl x)] (.inl x :: st) H := rn_nx rfl rfl
set_option maxRecDepth 20000 in
theorem e_L_law_777 : rn Ls xs d 0 777 [l0, l1, l2, l3]  st H = rn Ls xs d 0 778 [l0, l1, l2, l3] (.inl 1 :: st) H := rn_nx rfl rfl
set_option maxRecDepth 20000 in
theorem e_L_law_778 : rn Ls xs d 0 778 [l0, l1, l2, l3] (.inl y :: .inl x :: st) H = rn Ls xs d 0 779 [l0, l1, l2, l3] (.inl (x + y) :: st) H := rn_nx rfl rfl
set_option maxRecDepth 20000 in
theorem e_L_law_779 : rn Ls xs d 0 779 [l0, l1, l2, l3] (.inl i :: .inr (.inr 0) :: st) H = if 0 ≤ i.toInt ∧ i.toInt < (Ls : Int) then rn Ls xs d 0 780 [l0, l1, l2, l3] (.inl (xs i.toNatClampNeg) :: st) H else none := rn_pc rfl rfl
set_option maxRecDepth 20000 in
theorem e_L_law_780 : rn Ls xs d 0 780 [some (.inr u), l1, l2, l3] st H = rn Ls xs d 0 781 [some (.inr u), l1, l2, l3] (.inr u :: st) H := rn_nx rfl rfl
set_option maxRecDepth 20000 in
theorem e_L_law_781 : rn Ls xs d 0 781 [l0, l1, l2, some (.inl x)] st H = rn Ls xs d 0 782 [l0, l1, l2, some (.inl x)] (.inl x :: st) H := rn_nx rfl rfl
set_option maxRecDepth 20000 in
theorem e_L_law_782 : rn Ls xs d 0 782 [l0, l1, l2, l3]  st H = rn Ls xs d 0 783 [l0, l1, l2, l3] (.inl 2 :: st) H := rn_nx rfl rfl
set_option maxRecDepth 20000 in
theorem e_L_law_783 : rn Ls xs d 0 783 [l0, l1, l2, l3] (.inl y :: .inl x :: st) H = rn Ls xs d 0 784 [l0, l1, l2, l3] (.inl (x + y) :: st) H := rn_nx rfl rfl
set_option maxRecDepth 20000 in
theorem e_L_law_784 : rn Ls xs d 0 784 [l0, l1, l2, l3] (.inl i :: .inr (.inr 0) :: st) H = if 0 ≤ i.toInt ∧ i.toInt < (Ls : Int) then rn Ls xs d 0 785 [l0, l1, l2, l3] (.inl (xs i.toNatClampNeg) :: st) H else none := rn_pc rfl rfl
set_option maxRecDepth 20000 in
theorem e_L_law_785 : rn Ls xs (d + 1) 0 785 [l0, l1, l2, l3] [v2, v1, (.inr (.inl (some a))), v3] (S, I, R) = if h_is S a 9 36 then rb Ls xs (d + 1) 0 788 [l0, l1, l2, l3] [v3] (rn Ls xs d 40 0 [some (.inr (.inl (some a))), some v1, some v2, none, none, none] [] (S, I, R)) else none := rn_callO rfl rfl (Nat.le_of_ble_eq_true rfl) rfl rfl
set_option maxRecDepth 20000 in
theorem e_L_law_788 : rn Ls xs d 0 788 [l0, l1, l2, l3] (.inl y :: .inl x :: st) H = if x = y then rn Ls xs d 0 1462 [l0, l1, l2, l3] st H else rn Ls xs d 0 791 [l0, l1, l2, l3] st H := rn_cmp (p := fun x y => x = y) rfl
set_option maxRecDepth 20000 in
theorem e_L_law_791 : rn Ls xs d 0 791 [l0, l1, l2, l3]  st H = rn Ls xs d 0 792 [l0, l1, l2, l3] (.inl 0 :: st) H := rn_nx rfl rfl
set_option maxRecDepth 20000 in
theorem e_L_law_792 : rn Ls xs d 0 792 [l0, l1, l2, l3] [.inl x] H = if h_bo x then some (some (.inl x), H) else none := rn_zret rfl
set_option maxRecDepth 20000 in
theorem e_L_law_793 : rn Ls xs d 0 793 [l0, some (.inr u), l2, l3] st H = rn Ls xs d 0 794 [l0, some (.inr u), l2, l3] (.inr u :: st) H := rn_nx rfl rfl
set_option maxRecDepth 20000 in
theorem e_L_law_794 : rn Ls xs d 0 794 [some (.inr u), l1, l2, l3] st H = rn Ls xs d 0 795 [some (.inr u), l1, l2, l3] (.inr u :: st) H := rn_nx rfl rfl
set_option maxRecDepth 20000 in
theorem e_L_law_795 : rn Ls xs d 0 795 [l0, l1, l2, some (.inl x)] st H = rn Ls xs d 0 796 [l0, l1, l2, some (.inl x)] (.inl x :: st) H := rn_nx rfl rfl
set_option maxRecDepth 20000 in
theorem e_L_law_796 : rn Ls xs d 0 796 [l0, l1, l2, l3]  st H = rn Ls xs d 0 797 [l0, l1, l2, l3] (.inl 1 :: st) H := rn_nx rfl rfl
set_option maxRecDepth 20000 in
theorem e_L_law_797 : rn Ls xs d 0 797 [l0, l1, l2, l3] (.inl y :: .inl x :: st) H = rn Ls xs d 0 798 [l0, l1, l2, l3] (.inl (x + y) :: st) H := rn_nx rfl rfl
set_option maxRecDepth 20000 in
theorem e_L_law_798 : rn Ls xs d 0 798 [l0, l1, l2, l3] (.inl i :: .inr (.inr 0) :: st) H = if 0 ≤ i.toInt ∧ i.toInt < (Ls : Int) then rn Ls xs d 0 799 [l0, l1, l2, l3] (.inl (xs i.toNatClampNeg) :: st) H else none := rn_pc rfl rfl
set_option maxRecDepth 20000 in
theorem e_L_law_799 : rn Ls xs d 0 799 [some (.inr u), l1, l2, l3] st H = rn Ls xs d 0 800 [some (.inr u), l1, l2, l3] (.inr u :: st) H := rn_nx rfl rfl
set_option maxRecDepth 20000 in
theorem e_L_law_800 : rn Ls xs d 0 800 [l0, l1, l2, some (.inl x)] st H = rn Ls xs d 0 801 [l0, l1, l2, some (.inl x)] (.inl x :: st) H := rn_nx rfl rfl
set_option maxRecDepth 20000 in
theorem e_L_law_801 : rn Ls xs d 0 801 [l0, l1, l2, l3]  st H = rn Ls xs d 0 802 [l0, l1, l2, l3] (.inl 2 :: st) H := rn_nx rfl rfl
set_option maxRecDepth 20000 in
theorem e_L_law_802 : rn Ls xs d 0 802 [l0, l1, l2, l3] (.inl y :: .inl x :: st) H = rn Ls xs d 0 803 [l0, l1, l2, l3] (.inl (x + y) :: st) H := rn_nx rfl rfl
set_option maxRecDepth 20000 in
theorem e_L_law_803 : rn Ls xs d 0 803 [l0, l1, l2, l3] (.inl i :: .inr (.inr 0) :: st) H = if 0 ≤ i.toInt ∧ i.toInt < (Ls : Int) then rn Ls xs d 0 804 [l0, l1, l2, l3] (.inl (xs i.toNatClampNeg) :: st) H else none := rn_pc rfl rfl
set_option maxRecDepth 20000 in
theorem e_L_law_804 : rn Ls xs (d + 1) 0 804 [l0, l1, l2, l3] [v2, v1, (.inr (.inl (some a)))] (S, I, R) = if h_is S a 8 10 then rb Ls xs (d + 1) 0 807 [l0, l1, l2, l3] [] (rn Ls xs d 41 0 [some (.inr (.inl (some a))), some v1, some v2] [] (S, I, R)) else none := rn_callO rfl rfl (Nat.le_of_ble_eq_true rfl) rfl rfl
set_option maxRecDepth 20000 in
theorem e_L_law_807 : rn Ls xs d 0 807 [l0, l1, some (.inr u), l3] st H = rn Ls xs d 0 808 [l0, l1, some (.inr u), l3] (.inr u :: st) H := rn_nx rfl rfl
set_option maxRecDepth 20000 in
theorem e_L_law_808 : rn Ls xs d 0 808 [some (.inr u), l1, l2, l3] st H = rn Ls xs d 0 809 [some (.inr u), l1, l2, l3] (.inr u :: st) H := rn_nx rfl rfl
set_option maxRecDepth 20000 in
theorem e_L_law_809 : rn Ls xs d 0 809 [l0, l1, l2, some (.inl x)] st H = rn Ls xs d 0 810 [l0, l1, l2, some (.inl x)] (.inl x :: st) H := rn_nx rfl rfl
set_option maxRecDepth 20000 in
theorem e_L_law_810 : rn Ls xs d 0 810 [l0, l1, l2, l3]  st H = rn Ls xs d 0 811 [l0, l1, l2, l3] (.inl 1 :: st) H := rn_nx rfl rfl
set_option maxRecDepth 20000 in
theorem e_L_law_811 : rn Ls xs d 0 811 [l0, l1, l2, l3] (.inl y :: .inl x :: st) H = rn Ls xs d 0 812 [l0, l1, l2, l3] (.inl (x + y) :: st) H := rn_nx rfl rfl
set_option maxRecDepth 20000 in
theorem e_L_law_812 : rn Ls xs d 0 812 [l0, l1, l2, l3] (.inl i :: .inr (.inr 0) :: st) H = if 0 ≤ i.toInt ∧ i.toInt < (Ls : Int) then rn Ls xs d 0 813 [l0, l1, l2, l3] (.inl (xs i.toNatClampNeg) :: st) H else none := rn_pc rfl rfl
set_option maxRecDepth 20000 in
theorem e_L_law_813 : rn Ls xs d 0 813 [some (.inr u), l1, l2, l3] st H = rn Ls xs d 0 814 [some (.inr u), l1, l2, l3] (.inr u :: st) H := rn_nx rfl rfl
set_option maxRecDepth 20000 in
theorem e_L_law_814 : rn Ls xs d 0 814 [l0, l1, l2, some (.inl x)] st H = rn Ls xs d 0 815 [l0, l1, l2, some (.inl x)] (.inl x :: st) H := rn_nx rfl rfl
set_option maxRecDepth 20000 in
theorem e_L_law_815 : rn Ls xs d 0 815 [l0, l1, l2, l3]  st H = rn Ls xs d 0 816 [l0, l1, l2, l3] (.inl 2 :: st) H := rn_nx rfl rfl
set_option maxRecDepth 20000 in
theorem e_L_law_816 : rn Ls xs d 0 816 [l0, l1, l2, l3] (.inl y :: .inl x :: st) H = rn Ls xs d 0 817 [l0, l1, l2, l3] (.inl (x + y) :: st) H := rn_nx rfl rfl
set_option maxRecDepth 20000 in
theorem e_L_law_817 : rn Ls xs d 0 817 [l0, l1, l2, l3] (.inl i :: .inr (.inr 0) :: st) H = if 0 ≤ i.toInt ∧ i.toInt < (Ls : Int) then rn Ls xs d 0 818 [l0, l1, l2, l3] (.inl (xs i.toNatClampNeg) :: st) H else none := rn_pc rfl rfl
set_option maxRecDepth 20000 in
theorem e_L_law_818 : rn Ls xs (d + 1) 0 818 [l0, l1, l2, l3] [v2, v1, (.inr (.inl (some a))), v3] (S, I, R) = if h_is S a 9 36 then rb Ls xs (d + 1) 0 821 [l0, l1, l2, l3] [v3] (rn Ls xs d 42 0 [some (.inr (.inl (some a))), some v1, some v2, none, none] [] (S, I, R)) else none := rn_callO rfl rfl (Nat.le_of_ble_eq_true rfl) rfl rfl
set_option maxRecDepth 20000 in
theorem e_L_law_821 : rn Ls xs d 0 821 [l0, l1, l2, l3] (.inl y :: .inl x :: st) H = if x = y then rn Ls xs d 0 1462 [l0, l1, l2, l3] st H else rn Ls xs d 0 824 [l0, l1, l2, l3] st H := rn_cmp (p := fun x y => x = y) rfl
set_option maxRecDepth 20000 in
theorem e_L_law_824 : rn Ls xs d 0 824 [l0, l1, l2, l3]  st H = rn Ls xs d 0 825 [l0, l1, l2, l3] (.inl 0 :: st) H := rn_nx rfl rfl
set_option maxRecDepth 20000 in
theorem e_L_law_825 : rn Ls xs d 0 825 [l0, l1, l2, l3] [.inl x] H = if h_bo x then some (some (.inl x), H) else none := rn_zret rfl
set_option maxRecDepth 20000 in
theorem e_L_law_826 : rn Ls xs d 0 826 [l0, some (.inr u), l2, l3] st H = rn Ls xs d 0 827 [l0, some (.inr u), l2, l3] (.inr u :: st) H := rn_nx rfl rfl
set_option maxRecDepth 20000 in
theorem e_L_law_827 : rn Ls xs d 0 827 [some (.inr u), l1, l2, l3] st H = rn Ls xs d 0 828 [some (.inr u), l1, l2, l3] (.inr u :: st) H := rn_nx rfl rfl
set_option maxRecDepth 20000 in
theorem e_L_law_828 : rn Ls xs d 0 828 [l0, l1, l2, some (.inl x)] st H = rn Ls xs d 0 829 [l0, l1, l2, some (.inl x)] (.inl x :: st) H := rn_nx rfl rfl
set_option maxRecDepth 20000 in
theorem e_L_law_829 : rn Ls xs d 0 829 [l0, l1, l2, l3]  st H = rn Ls xs d 0 830 [l0, l1, l2, l3] (.inl 1 :: st) H := rn_nx rfl rfl
set_option maxRecDepth 20000 in
theorem e_L_law_830 : rn Ls xs d 0 830 [l0, l1, l2, l3] (.inl y :: .inl x :: st) H = rn Ls xs d 0 831 [l0, l1, l2, l3] (.inl (x + y) :: st) H := rn_nx rfl rfl
set_option maxRecDepth 20000 in
theorem e_L_law_831 : rn Ls xs d 0 831 [l0, l1, l2, l3] (.inl i :: .inr (.inr 0) :: st) H = if 0 ≤ i.toInt ∧ i.toInt < (Ls : Int) then rn Ls xs d 0 832 [l0, l1, l2, l3] (.inl (xs i.toNatClampNeg) :: st) H else none := rn_pc rfl rfl
set_option maxRecDepth 20000 in
theorem e_L_law_832 : rn Ls xs d 0 832 [some (.inr u), l1, l2, l3] st H = rn Ls xs d 0 833 [some (.inr u), l1, l2, l3] (.inr u :: st) H := rn_nx rfl rfl
set_option maxRecDepth 20000 in
theorem e_L_law_833 : rn Ls xs d 0 833 [l0, l1, l2, some (.inl x)] st H = rn Ls xs d 0 834 [l0, l1, l2, some (.inl x)] (.inl x :: st) H := rn_nx rfl rfl
set_option maxRecDepth 20000 in
theorem e_L_law_834 : rn Ls xs d 0 834 [l0, l1, l2, l3]  st H = rn Ls xs d 0 835 [l0, l1, l2, l3] (.inl 2 :: st) H := rn_nx rfl rfl
set_option maxRecDepth 20000 in
theorem e_L_law_835 : rn Ls xs d 0 835 [l0, l1, l2, l3] (.inl y :: .inl x :: st) H = rn Ls xs d 0 836 [l0, l1, l2, l3] (.inl (x + y) :: st) H := rn_nx rfl rfl
set_option maxRecDepth 20000 in
theorem e_L_law_836 : rn Ls xs d 0 836 [l0, l1, l2, l3] (.inl i :: .inr (.inr 0) :: st) H = if 0 ≤ i.toInt ∧ i.toInt < (Ls : Int) then rn Ls xs d 0 837 [l0, l1, l2, l3] (.inl (xs i.toNatClampNeg) :: st) H else none := rn_pc rfl rfl
set_option maxRecDepth 20000 in
theorem e_L_law_837 : rn Ls xs (d + 1) 0 837 [l0, l1, l2, l3] [v2, v1, (.inr (.inl (some a)))] (S, I, R) = if h_is S a 8 10 then rb Ls xs (d + 1) 0 840 [l0, l1, l2, l3] [] (rn Ls xs d 43 0 [some (.inr (.inl (some a))), some v1, some v2] [] (S, I, R)) else none := rn_callO rfl rfl (Nat.le_of_ble_eq_true rfl) rfl rfl
set_option maxRecDepth 20000 in
theorem e_L_law_840 : rn Ls xs d 0 840 [l0, l1, some (.inr u), l3] st H = rn Ls xs d 0 841 [l0, l1, some (.inr u), l3] (.inr u :: st) H := rn_nx rfl rfl
set_option maxRecDepth 20000 in
theorem e_L_law_841 : rn Ls xs d 0 841 [some (.inr u), l1, l2, l3] st H = rn Ls xs d 0 842 [some (.inr u), l1, l2, l3] (.inr u :: st) H := rn_nx rfl rfl
set_option maxRecDepth 20000 in
theorem e_L_law_842 : rn Ls xs d 0 842 [l0, l1, l2, some (.inl x)] st H = rn Ls xs d 0 843 [l0, l1, l2, some (.inl x)] (.inl x :: st) H := rn_nx rfl rfl
set_option maxRecDepth 20000 in
theorem e_L_law_843 : rn Ls xs d 0 843 [l0, l1, l2, l3]  st H = rn Ls xs d 0 844 [l0, l1, l2, l3] (.inl 1 :: st) H := rn_nx rfl rfl
set_option maxRecDepth 20000 in
theorem e_L_law_844 : rn Ls xs d 0 844 [l0, l1, l2, l3] (.inl y :: .inl x :: st) H = rn Ls xs d 0 845 [l0, l1, l2, l3] (.inl (x + y) :: st) H := rn_nx rfl rfl
set_option maxRecDepth 20000 in
theorem e_L_law_845 : rn Ls xs d 0 845 [l0, l1, l2, l3] (.inl i :: .inr (.inr 0) :: st) H = if 0 ≤ i.toInt ∧ i.toInt < (Ls : Int) then rn Ls xs d 0 846 [l0, l1, l2, l3] (.inl (xs i.toNatClampNeg) :: st) H else none := rn_pc rfl rfl
set_option maxRecDepth 20000 in
theorem e_L_law_846 : rn Ls xs d 0 846 [some (.inr u), l1, l2, l3] st H = rn Ls xs d 0 847 [some (.inr u), l1, l2, l3] (.inr u :: st) H := rn_nx rfl rfl
set_option maxRecDepth 20000 in
theorem e_L_law_847 : rn Ls xs d 0 847 [l0, l1, l2, some (.inl x)] st H = rn Ls xs d 0 848 [l0, l1, l2, some (.inl x)] (.inl x :: st) H := rn_nx rfl rfl
set_option maxRecDepth 20000 in
theorem e_L_law_848 : rn Ls xs d 0 848 [l0, l1, l2, l3]  st H = rn Ls xs d 0 849 [l0, l1, l2, l3] (.inl 2 :: st) H := rn_nx rfl rfl
set_option maxRecDepth 20000 in
theorem e_L_law_849 : rn Ls xs d 0 849 [l0, l1, l2, l3] (.inl y :: .inl x :: st) H = rn Ls xs d 0 850 [l0, l1, l2, l3] (.inl (x + y) :: st) H := rn_nx rfl rfl
set_option maxRecDepth 20000 in
theorem e_L_law_850 : rn Ls xs d 0 850 [l0, l1, l2, l3] (.inl i :: .inr (.inr 0) :: st) H = if 0 ≤ i.toInt ∧ i.toInt < (Ls : Int) then rn Ls xs d 0 851 [l0, l1, l2, l3] (.inl (xs i.toNatClampNeg) :: st) H else none := rn_pc rfl rfl
set_option maxRecDepth 20000 in
theorem e_L_law_851 : rn Ls xs (d + 1) 0 851 [l0, l1, l2, l3] [v2, v1, (.inr (.inl (some a))), v3] (S, I, R) = if h_is S a 9 36 then rb Ls xs (d + 1) 0 854 [l0, l1, l2, l3] [v3] (rn Ls xs d 44 0 [some (.inr (.inl (some a))), some v1, some v2, none, none, none, none] [] (S, I, R)) else none := rn_callO rfl rfl (Nat.le_of_ble_eq_true rfl) rfl rfl
set_option maxRecDepth 20000 in
theorem e_L_law_854 : rn Ls xs d 0 854 [l0, l1, l2, l3] (.inl y :: .inl x :: st) H = if x = y then rn Ls xs d 0 1462 [l0, l1, l2, l3] st H else rn Ls xs d 0 857 [l0, l1, l2, l3] st H := rn_cmp (p := fun x y => x = y) rfl
set_option maxRecDepth 20000 in
theorem e_L_law_857 : rn Ls xs d 0 857 [l0, l1, l2, l3]  st H = rn Ls xs d 0 858 [l0, l1, l2, l3] (.inl 0 :: st) H := rn_nx rfl rfl
set_option maxRecDepth 20000 in
theorem e_L_law_858 : rn Ls xs d 0 858 [l0, l1, l2, l3] [.inl x] H = if h_bo x then some (some (.inl x), H) else none := rn_zret rfl
set_option maxRecDepth 20000 in
theorem e_L_law_859 : rn Ls xs d 0 859 [l0, some (.inr u), l2, l3] st H = rn Ls xs d 0 860 [l0, some (.inr u), l2, l3] (.inr u :: st) H := rn_nx rfl rfl
set_option maxRecDepth 20000 in
theorem e_L_law_860 : rn Ls xs (d + 1) 0 860 [l0, l1, l2, l3] [(.inr (.inl (some a)))] (S, I, R) = if h_is S a 8 10 then rb Ls xs (d + 1) 0 863 [l0, l1, l2, l3] [] (rn Ls xs d 45 0 [some (.inr (.inl (some a))), none] [] (S, I, R)) else none := rn_callO rfl rfl (Nat.le_of_ble_eq_true rfl) rfl rfl
set_option maxRecDepth 20000 in
theorem e_L_law_863 : rn Ls xs d 0 863 [l0, l1, some (.inr u), l3] st H = rn Ls xs d 0 864 [l0, l1, some (.inr u), l3] (.inr u :: st) H := rn_nx rfl rfl
set_option maxRecDepth 20000 in
theorem e_L_law_864 : rn Ls xs (d + 1) 0 864 [l0, l1, l2, l3] [(.inr (.inl (some a))), v1] (S, I, R) = if h_is S a 9 36 then rb Ls xs (d + 1) 0 867 [l0, l1, l2, l3] [v1] (rn Ls xs d 46 0 [some (.inr (.inl (some a))), none] [] (S, I, R)) else none := rn_callO rfl rfl (Nat.le_of_ble_eq_true rfl) rfl rfl
set_option maxRecDepth 20000 in
theorem e_L_law_867 : rn Ls xs d 0 867 [l0, l1, l2, l3] (.inl y :: .inl x :: st) H = if x = y then rn Ls xs d 0 1462 [l0, l1, l2, l3] st H else rn Ls xs d 0 870 [l0, l1, l2, l3] st H := rn_cmp (p := fun x y => x = y) rfl
set_option maxRecDepth 20000 in
theorem e_L_law_870 : rn Ls xs d 0 870 [l0, l1, l2, l3]  st H = rn Ls xs d 0 871 [l0, l1, l2, l3] (.inl 0 :: st) H := rn_nx rfl rfl
set_option maxRecDepth 20000 in
theorem e_L_law_871 : rn Ls xs d 0 871 [l0, l1, l2, l3] [.inl x] H = if h_bo x then some (some (.inl x), H) else none := rn_zret rfl
set_option maxRecDepth 20000 in
theorem e_L_law_872 : rn Ls xs d 0 872 [l0, some (.inr u), l2, l3] st H = rn Ls xs d 0 873 [l0, some (.inr u), l2, l3] (.inr u :: st) H := rn_nx rfl rfl
set_option maxRecDepth 20000 in
theorem e_L_law_873 : rn Ls xs d 0 873 [some (.inr u), l1, l2, l3] st H = rn Ls xs d 0 874 [some (.inr u), l1, l2, l3] (.inr u :: st) H := rn_nx rfl rfl
set_option maxRecDepth 20000 in
theorem e_L_law_874 : rn Ls xs d 0 874 [l0, l1, l2, some (.inl x)] st H = rn Ls xs d 0 875 [l0, l1, l2, some (.inl x)] (.inl x :: st) H := rn_nx rfl rfl
set_option maxRecDepth 20000 in
theorem e_L_law_875 : rn Ls xs d 0 875 [l0, l1, l2, l3]  st H = rn Ls xs d 0 876 [l0, l1, l2, l3] (.inl 1 :: st) H := rn_nx rfl rfl
set_option maxRecDepth 20000 in
theorem e_L_law_876 : rn Ls xs d 0 876 [l0, l1, l2, l3] (.inl y :: .inl x :: st) H = rn Ls xs d 0 877 [l0, l1, l2, l3] (.inl (x + y) :: st) H := rn_nx rfl rfl
set_option maxRecDepth 20000 in
theorem e_L_law_877 : rn Ls xs d 0 877 [l0, l1, l2, l3] (.inl i :: .inr (.inr 0) :: st) H = if 0 ≤ i.toInt ∧ i.toInt < (Ls : Int) then rn Ls xs d 0 878 [l0, l1, l2, l3] (.inl (xs i.toNatClampNeg) :: st) H else none := rn_pc rfl rfl
set_option maxRecDepth 20000 in
theorem e_L_law_878 : rn Ls xs (d + 1) 0 878 [l0, l1, l2, l3] [v1, (.inr (.inl (some a)))] (S, I, R) = if h_is S a 8 10 then rb Ls xs (d + 1) 0 881 [l0, l1, l2, l3] [] (rn Ls xs d 47 0 [some (.inr (.inl (some a))), some v1, none, none] [] (S, I, R)) else none := rn_callO rfl rfl (Nat.le_of_ble_eq_true rfl) rfl rfl
set_option maxRecDepth 20000 in
theorem e_L_law_881 : rn Ls xs d 0 881 [l0, l1, some (.inr u), l3] st H = rn Ls xs d 0 882 [l0, l1, some (.inr u), l3] (.inr u :: st) H := rn_nx rfl rfl
set_option maxRecDepth 20000 in
theorem e_L_law_882 : rn Ls xs d 0 882 [some (.inr u), l1, l2, l3] st H = rn Ls xs d 0 883 [some (.inr u), l1, l2, l3] (.inr u :: st) H := rn_nx rfl rfl
set_option maxRecDepth 20000 in
theorem e_L_law_883 : rn Ls xs d 0 883 [l0, l1, l2, some (.inl x)] st H = rn Ls xs d 0 884 [l0, l1, l2, some (.inl x)] (.inl x :: st) H := rn_nx rfl rfl
set_option maxRecDepth 20000 in
theorem e_L_law_884 : rn Ls xs d 0 884 [l0, l1, l2, l3]  st H = rn Ls xs d 0 885 [l0, l1, l2, l3] (.inl 1 :: st) H := rn_nx rfl rfl
set_option maxRecDepth 20000 in
theorem e_L_law_885 : rn Ls xs d 0 885 [l0, l1, l2, l3] (.inl y :: .inl x :: st) H = rn Ls xs d 0 886 [l0, l1, l2, l3] (.inl (x + y) :: st) H := rn_nx rfl rfl
set_option maxRecDepth 20000 in
theorem e_L_law_886 : rn Ls xs d 0 886 [l0, l1, l2, l3] (.inl i :: .inr (.inr 0) :: st) H = if 0 ≤ i.toInt ∧ i.toInt < (Ls : Int) then rn Ls xs d 0 887 [l0, l1, l2, l3] (.inl (xs i.toNatClampNeg) :: st) H else none := rn_pc rfl rfl
set_option maxRecDepth 20000 in
theorem e_L_law_887 : rn Ls xs (d + 1) 0 887 [l0, l1, l2, l3] [v1, (.inr (.inl (some a))), v2] (S, I, R) = if h_is S a 9 36 then rb Ls xs (d + 1) 0 890 [l0, l1, l2, l3] [v2] (rn Ls xs d 48 0 [some (.inr (.inl (some a))), some v1, none] [] (S, I, R)) else none := rn_callO rfl rfl (Nat.le_of_ble_eq_true rfl) rfl rfl
set_option maxRecDepth 20000 in
theorem e_L_law_890 : rn Ls xs d 0 890 [l0, l1, l2, l3] (.inl y :: .inl x :: st) H = if x = y then rn Ls xs d 0 1462 [l0, l1, l2, l3] st H else rn Ls xs d 0 893 [l0, l1, l2, l3] st H := rn_cmp (p := fun x y => x = y) rfl
set_option maxRecDepth 20000 in
theorem e_L_law_893 : rn Ls xs d 0 893 [l0, l1, l2, l3]  st H = rn Ls xs d 0 894 [l0, l1, l2, l3] (.inl 0 :: st) H := rn_nx rfl rfl
set_option maxRecDepth 20000 in
theorem e_L_law_894 : rn Ls xs d 0 894 [l0, l1, l2, l3] [.inl x] H = if h_bo x then some (some (.inl x), H) else none := rn_zret rfl
set_option maxRecDepth 20000 in
theorem e_L_law_895 : rn Ls xs d 0 895 [l0, some (.inr u), l2, l3] st H = rn Ls xs d 0 896 [l0, some (.inr u), l2, l3] (.inr u :: st) H := rn_nx rfl rfl
set_option maxRecDepth 20000 in
theorem e_L_law_896 : rn Ls xs d 0 896 [some (.inr u), l1, l2, l3] st H = rn Ls xs d 0 897 [some (.inr u), l1, l2, l3] (.inr u :: st) H := rn_nx rfl rfl
set_option maxRecDepth 20000 in
theorem e_L_law_897 : rn Ls xs d 0 897 [l0, l1, l2, some (.inl x)] st H = rn Ls xs d 0 898 [l0, l1, l2, some (.inl x)] (.inl x :: st) H := rn_nx rfl rfl
set_option maxRecDepth 20000 in
theorem e_L_law_898 : rn Ls xs d 0 898 [l0, l1, l2, l3]  st H = rn Ls xs d 0 899 [l0, l1, l2, l3] (.inl 1 :: st) H := rn_nx rfl rfl
set_option maxRecDepth 20000 in
theorem e_L_law_899 : rn Ls xs d 0 899 [l0, l1, l2, l3] (.inl y :: .inl x :: st) H = rn Ls xs d 0 900 [l0, l1, l2, l3] (.inl (x + y) :: st) H := rn_nx rfl rfl
set_option maxRecDepth 20000 in
theorem e_L_law_900 : rn Ls xs d 0 900 [l0, l1, l2, l3] (.inl i :: .inr (.inr 0) :: st) H = if 0 ≤ i.toInt ∧ i.toInt < (Ls : Int) then rn Ls xs d 0 901 [l0, l1, l2, l3] (.inl (xs i.toNatClampNeg) :: st) H else none := rn_pc rfl rfl
set_option maxRecDepth 20000 in
theorem e_L_law_901 : rn Ls xs d 0 901 [some (.inr u), l1, l2, l3] st H = rn Ls xs d 0 902 [some (.inr u), l1, l2, l3] (.inr u :: st) H := rn_nx rfl rfl
set_option maxRecDepth 20000 in
theorem e_L_law_902 : rn Ls xs d 0 902 [l0, l1, l2, some (.inl x)] st H = rn Ls xs d 0 903 [l0, l1, l2, some (.inl x)] (.inl x :: st) H := rn_nx rfl rfl
set_option maxRecDepth 20000 in
theorem e_L_law_903 : rn Ls xs d 0 903 [l0, l1, l2, l3]  st H = rn Ls xs d 0 904 [l0, l1, l2, l3] (.inl 2 :: st) H := rn_nx rfl rfl
set_option maxRecDepth 20000 in
theorem e_L_law_904 : rn Ls xs d 0 904 [l0, l1, l2, l3] (.inl y :: .inl x :: st) H = rn Ls xs d 0 905 [l0, l1, l2, l3] (.inl (x + y) :: st) H := rn_nx rfl rfl
set_option maxRecDepth 20000 in
theorem e_L_law_905 : rn Ls xs d 0 905 [l0, l1, l2, l3] (.inl i :: .inr (.inr 0) :: st) H = if 0 ≤ i.toInt ∧ i.toInt < (Ls : Int) then rn Ls xs d 0 906 [l0, l1, l2, l3] (.inl (xs i.toNatClampNeg) :: st) H else none := rn_pc rfl rfl
set_option maxRecDepth 20000 in
theorem e_L_law_906 : rn Ls xs d 0 906 [some (.inr u), l1, l2, l3] st H = rn Ls xs d 0 907 [some (.inr u), l1, l2, l3] (.inr u :: st) H := rn_nx rfl rfl
set_option maxRecDepth 20000 in
theorem e_L_law_907 : rn Ls xs d 0 907 [l0, l1, l2, some (.inl x)] st H = rn Ls xs d 0 908 [l0, l1, l2, some (.inl x)] (.inl x :: st) H := rn_nx rfl rfl
set_option maxRecDepth 20000 in
theorem e_L_law_908 : rn Ls xs d 0 908 [l0, l1, l2, l3]  st H = rn Ls xs d 0 909 [l0, l1, l2, l3] (.inl 3 :: st) H := rn_nx rfl rfl
set_option maxRecDepth 20000 in
theorem e_L_law_909 : rn Ls xs d 0 909 [l0, l1, l2, l3] (.inl y :: .inl x :: st) H = rn Ls xs d 0 910 [l0, l1, l2, l3] (.inl (x + y) :: st) H := rn_nx rfl rfl
set_option maxRecDepth 20000 in
theorem e_L_law_910 : rn Ls xs d 0 910 [l0, l1, l2, l3] (.inl i :: .inr (.inr 0) :: st) H = if 0 ≤ i.toInt ∧ i.toInt < (Ls : Int) then rn Ls xs d 0 911 [l0, l1, l2, l3] (.inl (xs i.toNatClampNeg) :: st) H else none := rn_pc rfl rfl
set_option maxRecDepth 20000 in
theorem e_L_law_911 : rn Ls xs (d + 1) 0 911 [l0, l1, l2, l3] [v3, v2, v1, (.inr (.inl (some a)))] (S, I, R) = if h_is S a 8 10 then rb Ls xs (d + 1) 0 914 [l0, l1, l2, l3] [] (rn Ls xs d 49 0 [some (.inr (.inl (some a))), some v1, some v2, some v3] [] (S, I, R)) else none := rn_callO rfl rfl (Nat.le_of_ble_eq_true rfl) rfl rfl
set_option maxRecDepth 20000 in
theorem e_L_law_914 : rn Ls xs d 0 914 [l0, l1, some (.inr u), l3] st H = rn Ls xs d 0 915 [l0, l1, some (.inr u), l3] (.inr u :: st) H := rn_nx rfl rfl
set_option maxRecDepth 20000 in
theorem e_L_law_915 : rn Ls xs d 0 915 [some (.inr u), l1, l2, l3] st H = rn Ls xs d 0 916 [some (.inr u), l1, l2, l3] (.inr u :: st) H := rn_nx rfl rfl
set_option maxRecDepth 20000 in
theorem e_L_law_916 : rn Ls xs d 0 916 [l0, l1, l2, some (.inl x)] st H = rn Ls xs d 0 917 [l0, l1, l2, some (.inl x)] (.inl x :: st) H := rn_nx rfl rfl
set_option maxRecDepth 20000 in
theorem e_L_law_917 : rn Ls xs d 0 917 [l0, l1, l2, l3]  st H = rn Ls xs d 0 918 [l0, l1, l2, l3] (.inl 1 :: st) H := rn_nx rfl rfl
set_option maxRecDepth 20000 in
theorem e_L_law_918 : rn Ls xs d 0 918 [l0, l1, l2, l3] (.inl y :: .inl x :: st) H = rn Ls xs d 0 919 [l0, l1, l2, l3] (.inl (x + y) :: st) H := rn_nx rfl rfl
set_option maxRecDepth 20000 in
theorem e_L_law_919 : rn Ls xs d 0 919 [l0, l1, l2, l3] (.inl i :: .inr (.inr 0) :: st) H = if 0 ≤ i.toInt ∧ i.toInt < (Ls : Int) then rn Ls xs d 0 920 [l0, l1, l2, l3] (.inl (xs i.toNatClampNeg) :: st) H else none := rn_pc rfl rfl
set_option maxRecDepth 20000 in
theorem e_L_law_920 : rn Ls xs d 0 920 [some (.inr u), l1, l2, l3] st H = rn Ls xs d 0 921 [some (.inr u), l1, l2, l3] (.inr u :: st) H := rn_nx rfl rfl
set_option maxRecDepth 20000 in
theorem e_L_law_921 : rn Ls xs d 0 921 [l0, l1, l2, some (.inl x)] st H = rn Ls xs d 0 922 [l0, l1, l2, some (.inl x)] (.inl x :: st) H := rn_nx rfl rfl
set_option maxRecDepth 20000 in
theorem e_L_law_922 : rn Ls xs d 0 922 [l0, l1, l2, l3]  st H = rn Ls xs d 0 923 [l0, l1, l2, l3] (.inl 2 :: st) H := rn_nx rfl rfl
set_option maxRecDepth 20000 in
theorem e_L_law_923 : rn Ls xs d 0 923 [l0, l1, l2, l3] (.inl y :: .inl x :: st) H = rn Ls xs d 0 924 [l0, l1, l2, l3] (.inl (x + y) :: st) H := rn_nx rfl rfl
set_option maxRecDepth 20000 in
theorem e_L_law_924 : rn Ls xs d 0 924 [l0, l1, l2, l3] (.inl i :: .inr (.inr 0) :: st) H = if 0 ≤ i.toInt ∧ i.toInt < (Ls : Int) then rn Ls xs d 0 925 [l0, l1, l2, l3] (.inl (xs i.toNatClampNeg) :: st) H else none := rn_pc rfl rfl
set_option maxRecDepth 20000 in
theorem e_L_law_925 : rn Ls xs d 0 925 [some (.inr u), l1, l2, l3] st H = rn Ls xs d 0 926 [some (.inr u), l1, l2, l3] (.inr u :: st) H := rn_nx rfl rfl
set_option maxRecDepth 20000 in
theorem e_L_law_926 : rn Ls xs d 0 926 [l0, l1, l2, some (.inl x)] st H = rn Ls xs d 0 927 [l0, l1, l2, some (.inl x)] (.inl x :: st) H := rn_nx rfl rfl
set_option maxRecDepth 20000 in
theorem e_L_law_927 : rn Ls xs d 0 927 [l0, l1, l2, l3]  st H = rn Ls xs d 0 928 [l0, l1, l2, l3] (.inl 3 :: st) H := rn_nx rfl rfl
set_option maxRecDepth 20000 in
theorem e_L_law_928 : rn Ls xs d 0 928 [l0, l1, l2, l3] (.inl y :: .inl x :: st) H = rn Ls xs d 0 929 [l0, l1, l2, l3] (.inl (x + y) :: st) H := rn_nx rfl rfl
set_option maxRecDepth 20000 in
theorem e_L_law_929 : rn Ls xs d 0 929 [l0, l1, l2, l3] (.inl i :: .inr (.inr 0) :: st) H = if 0 ≤ i.toInt ∧ i.toInt < (Ls : Int) then rn Ls xs d 0 930 [l0, l1, l2, l3] (.inl (xs i.toNatClampNeg) :: st) H else none := rn_pc rfl rfl
set_option maxRecDepth 20000 in
theorem e_L_law_930 : rn Ls xs (d + 1) 0 930 [l0, l1, l2, l3] [v3, v2, v1, (.inr (.inl (some a))), v4] (S, I, R) = if h_is S a 9 36 then rb Ls xs (d + 1) 0 933 [l0, l1, l2, l3] [v4] (rn Ls xs d 50 0 [some (.inr (.inl (some a))), some v1, some v2, some v3, none, none] [] (S, I, R)) else none := rn_callO rfl rfl (Nat.le_of_ble_eq_true rfl) rfl rfl
set_option maxRecDepth 20000 in
theorem e_L_law_933 : rn Ls xs d 0 933 [l0, l1, l2, l3] (.inl y :: .inl x :: st) H = if x = y then rn Ls xs d 0 1462 [l0, l1, l2, l3] st H else rn Ls xs d 0 936 [l0, l1, l2, l3] st H := rn_cmp (p := fun x y => x = y) rfl
set_option maxRecDepth 20000 in
theorem e_L_law_936 : rn Ls xs d 0 936 [l0, l1, l2, l3]  st H = rn Ls xs d 0 937 [l0, l1, l2, l3] (.inl 0 :: st) H := rn_nx rfl rfl
set_option maxRecDepth 20000 in
theorem e_L_law_937 : rn Ls xs d 0 937 [l0, l1, l2, l3] [.inl x] H = if h_bo x then some (some (.inl x), H) else none := rn_zret rfl
set_option maxRecDepth 20000 in
theorem e_L_law_938 : rn Ls xs d 0 938 [l0, some (.inr u), l2, l3] st H = rn Ls xs d 0 939 [l0, some (.inr u), l2, l3] (.inr u :: st) H := rn_nx rfl rfl
set_option maxRecDepth 20000 in
theorem e_L_law_939 : rn Ls xs d 0 939 [some (.inr u), l1, l2, l3] st H = rn Ls xs d 0 940 [some (.inr u), l1, l2, l3] (.inr u :: st) H := rn_nx rfl rfl
set_option maxRecDepth 20000 in
theorem e_L_law_940 : rn Ls xs d 0 940 [l0, l1, l2, some (.inl x)] st H = rn Ls xs d 0 941 [l0, l1, l2, some (.inl x)] (.inl x :: st) H := rn_nx rfl rfl
set_option maxRecDepth 20000 in
theorem e_L_law_941 : rn Ls xs d 0 941 [l0, l1, l2, l3]  st H = rn Ls xs d 0 942 [l0, l1, l2, l3] (.inl 1 :: st) H := rn_nx rfl rfl
set_option maxRecDepth 20000 in
theorem e_L_law_942 : rn Ls xs d 0 942 [l0, l1, l2, l3] (.inl y :: .inl x :: st) H = rn Ls xs d 0 943 [l0, l1, l2, l3] (.inl (x + y) :: st) H := rn_nx rfl rfl
set_option maxRecDepth 20000 in
theorem e_L_law_943 : rn Ls xs d 0 943 [l0, l1, l2, l3] (.inl i :: .inr (.inr 0) :: st) H = if 0 ≤ i.toInt ∧ i.toInt < (Ls : Int) then rn Ls xs d 0 944 [l0, l1, l2, l3] (.inl (xs i.toNatClampNeg) :: st) H else none := rn_pc rfl rfl
set_option maxRecDepth 20000 in
theorem e_L_law_944 : rn Ls xs (d + 1) 0 944 [l0, l1, l2, l3] [v1, (.inr (.inl (some a)))] (S, I, R) = if h_is S a 8 10 then rb Ls xs (d + 1) 0 947 [l0, l1, l2, l3] [] (rn Ls xs d 51 0 [some (.inr (.inl (some a))), some v1] [] (S, I, R)) else none := rn_callO rfl rfl (Nat.le_of_ble_eq_true rfl) rfl rfl
set_option maxRecDepth 20000 in
theorem e_L_law_947 : rn Ls xs d 0 947 [l0, l1, some (.inr u), l3] st H = rn Ls xs d 0 948 [l0, l1, some (.inr u), l3] (.inr u :: st) H := rn_nx rfl rfl
set_option maxRecDepth 20000 in
theorem e_L_law_948 : rn Ls xs d 0 948 [some (.inr u), l1, l2, l3] st H = rn Ls xs d 0 949 [some (.inr u), l1, l2, l3] (.inr u :: st) H := rn_nx rfl rfl
set_option maxRecDepth 20000 in
theorem e_L_law_949 : rn Ls xs d 0 949 [l0, l1, l2, some (.inl x)] st H = rn Ls xs d 0 950 [l0, l1, l2, some (.inl x)] (.inl x :: st) H := rn_nx rfl rfl
set_option maxRecDepth 20000 in
theorem e_L_law_950 : rn Ls xs d 0 950 [l0, l1, l2, l3]  st H = rn Ls xs d 0 951 [l0, l1, l2, l3] (.inl 1 :: st) H := rn_nx rfl rfl
set_option maxRecDepth 20000 in
theorem e_L_law_951 : rn Ls xs d 0 951 [l0, l1, l2, l3] (.inl y :: .inl x :: st) H = rn Ls xs d 0 952 [l0, l1, l2, l3] (.inl (x + y) :: st) H := rn_nx rfl rfl
set_option maxRecDepth 20000 in
theorem e_L_law_952 : rn Ls xs d 0 952 [l0, l1, l2, l3] (.inl i :: .inr (.inr 0) :: st) H = if 0 ≤ i.toInt ∧ i.toInt < (Ls : Int) then rn Ls xs d 0 953 [l0, l1, l2, l3] (.inl (xs i.toNatClampNeg) :: st) H else none := rn_pc rfl rfl
set_option maxRecDepth 20000 in
theorem e_L_law_953 : rn Ls xs (d + 1) 0 953 [l0, l1, l2, l3] [v1, (.inr (.inl (some a))), v2] (S, I, R) = if h_is S a 9 36 then rb Ls xs (d + 1) 0 956 [l0, l1, l2, l3] [v2] (rn Ls xs d 52 0 [some (.inr (.inl (some a))), some v1] [] (S, I, R)) else none := rn_callO rfl rfl (Nat.le_of_ble_eq_true rfl) rfl rfl
set_option maxRecDepth 20000 in
theorem e_L_law_956 : rn Ls xs d 0 956 [l0, l1, l2, l3] (.inl y :: .inl x :: st) H = if x = y then rn Ls xs d 0 1462 [l0, l1, l2, l3] st H else rn Ls xs d 0 959 [l0, l1, l2, l3] st H := rn_cmp (p := fun x y => x = y) rfl
set_option maxRecDepth 20000 in
theorem e_L_law_959 : rn Ls xs d 0 959 [l0, l1, l2, l3]  st H = rn Ls xs d 0 960 [l0, l1, l2, l3] (.inl 0 :: st) H := rn_nx rfl rfl
set_option maxRecDepth 20000 in
theorem e_L_law_960 : rn Ls xs d 0 960 [l0, l1, l2, l3] [.inl x] H = if h_bo x then some (some (.inl x), H) else none := rn_zret rfl
set_option maxRecDepth 20000 in
theorem e_L_law_961 : rn Ls xs d 0 961 [l0, some (.inr u), l2, l3] st H = rn Ls xs d 0 962 [l0, some (.inr u), l2, l3] (.inr u :: st) H := rn_nx rfl rfl
set_option maxRecDepth 20000 in
theorem e_L_law_962 : rn Ls xs (d + 1) 0 962 [l0, l1, l2, l3] [(.inr (.inl (some a)))] (S, I, R) = if h_is S a 8 10 then rb Ls xs (d + 1) 0 965 [l0, l1, l2, l3] [] (rn Ls xs d 53 0 [some (.inr (.inl (some a))), none] [] (S, I, R)) else none := rn_callO rfl rfl (Nat.le_of_ble_eq_true rfl) rfl rfl
set_option maxRecDepth 20000 in
theorem e_L_law_965 : rn Ls xs d 0 965 [l0, l1, some (.inr u), l3] st H = rn Ls xs d 0 966 [l0, l1, some (.inr u), l3] (.inr u :: st) H := rn_nx rfl rfl
set_option maxRecDepth 20000 in
theorem e_L_law_966 : rn Ls xs (d + 1) 0 966 [l0, l1, l2, l3] [(.inr (.inl (some a))), v1] (S, I, R) = if h_is S a 9 36 then rb Ls xs (d + 1) 0 969 [l0, l1, l2, l3] [v1] (rn Ls xs d 54 0 [some (.inr (.inl (some a))), none, none, none] [] (S, I, R)) else none := rn_callO rfl rfl (Nat.le_of_ble_eq_true rfl) rfl rfl
set_option maxRecDepth 20000 in
theorem e_L_law_969 : rn Ls xs d 0 969 [l0, l1, l2, l3] (.inl y :: .inl x :: st) H = if x = y then rn Ls xs d 0 1462 [l0, l1, l2, l3] st H else rn Ls xs d 0 972 [l0, l1, l2, l3] st H := rn_cmp (p := fun x y => x = y) rfl
set_option maxRecDepth 20000 in
theorem e_L_law_972 : rn Ls xs d 0 972 [l0, l1, l2, l3]  st H = rn Ls xs d 0 973 [l0, l1, l2, l3] (.inl 0 :: st) H := rn_nx rfl rfl
set_option maxRecDepth 20000 in
theorem e_L_law_973 : rn Ls xs d 0 973 [l0, l1, l2, l3] [.inl x] H = if h_bo x then some (some (.inl x), H) else none := rn_zret rfl
set_option maxRecDepth 20000 in
theorem e_L_law_974 : rn Ls xs d 0 974 [l0, some (.inr u), l2, l3] st H = rn Ls xs d 0 975 [l0, some (.inr u), l2, l3] (.inr u :: st) H := rn_nx rfl rfl
set_option maxRecDepth 20000 in
theorem e_L_law_975 : rn Ls xs d 0 975 [some (.inr u), l1, l2, l3] st H = rn Ls xs d 0 976 [some (.inr u), l1, l2, l3] (.inr u :: st) H := rn_nx rfl rfl
set_option maxRecDepth 20000 in
theorem e_L_law_976 : rn Ls xs d 0 976 [l0, l1, l2, some (.inl x)] st H = rn Ls xs d 0 977 [l0, l1, l2, some (.inl x)] (.inl x :: st) H := rn_nx rfl rfl
set_option maxRecDepth 20000 in
theorem e_L_law_977 : rn Ls xs d 0 977 [l0, l1, l2, l3]  st H = rn Ls xs d 0 978 [l0, l1, l2, l3] (.inl 1 :: st) H := rn_nx rfl rfl
set_option maxRecDepth 20000 in
theorem e_L_law_978 : rn Ls xs d 0 978 [l0, l1, l2, l3] (.inl y :: .inl x :: st) H = rn Ls xs d 0 979 [l0, l1, l2, l3] (.inl (x + y) :: st) H := rn_nx rfl rfl
set_option maxRecDepth 20000 in
theorem e_L_law_979 : rn Ls xs d 0 979 [l0, l1, l2, l3] (.inl i :: .inr (.inr 0) :: st) H = if 0 ≤ i.toInt ∧ i.toInt < (Ls : Int) then rn Ls xs d 0 980 [l0, l1, l2, l3] (.inl (xs i.toNatClampNeg) :: st) H else none := rn_pc rfl rfl
set_option maxRecDepth 20000 in
theorem e_L_law_980 : rn Ls xs d 0 980 [some (.inr u), l1, l2, l3] st H = rn Ls xs d 0 981 [some (.inr u), l1, l2, l3] (.inr u :: st) H := rn_nx rfl rfl
set_option maxRecDepth 20000 in
theorem e_L_law_981 : rn Ls xs d 0 981 [l0, l1, l2, some (.inl x)] st H = rn Ls xs d 0 982 [l0, l1, l2, some (.inl x)] (.inl x :: st) H := rn_nx rfl rfl
set_option maxRecDepth 20000 in
theorem e_L_law_982 : rn Ls xs d 0 982 [l0, l1, l2, l3]  st H = rn Ls xs d 0 983 [l0, l1, l2, l3] (.inl 2 :: st) H := rn_nx rfl rfl
set_option maxRecDepth 20000 in
theorem e_L_law_983 : rn Ls xs d 0 983 [l0, l1, l2, l3] (.inl y :: .inl x :: st) H = rn Ls xs d 0 984 [l0, l1, l2, l3] (.inl (x + y) :: st) H := rn_nx rfl rfl
set_option maxRecDepth 20000 in
theorem e_L_law_984 : rn Ls xs d 0 984 [l0, l1, l2, l3] (.inl i :: .inr (.inr 0) :: st) H = if 0 ≤ i.toInt ∧ i.toInt < (Ls : Int) then rn Ls xs d 0 985 [l0, l1, l2, l3] (.inl (xs i.toNatClampNeg) :: st) H else none := rn_pc rfl rfl
set_option maxRecDepth 20000 in
theorem e_L_law_985 : rn Ls xs (d + 1) 0 985 [l0, l1, l2, l3] [v2, v1, (.inr (.inl (some a)))] (S, I, R) = if h_is S a 8 10 then rb Ls xs (d + 1) 0 988 [l0, l1, l2, l3] [] (rn Ls xs d 55 0 [some (.inr (.inl (some a))), some v1, some v2] [] (S, I, R)) else none := rn_callO rfl rfl (Nat.le_of_ble_eq_true rfl) rfl rfl
set_option maxRecDepth 20000 in
theorem e_L_law_988 : rn Ls xs d 0 988 [l0, l1, some (.inr u), l3] st H = rn Ls xs d 0 989 [l0, l1, some (.inr u), l3] (.inr u :: st) H := rn_nx rfl rfl
set_option maxRecDepth 20000 in
theorem e_L_law_989 : rn Ls xs d 0 989 [some (.inr u), l1, l2, l3] st H = rn Ls xs d 0 990 [some (.inr u), l1, l2, l3] (.inr u :: st) H := rn_nx rfl rfl
set_option maxRecDepth 20000 in
theorem e_L_law_990 : rn Ls xs d 0 990 [l0, l1, l2, some (.inl x)] st H = rn Ls xs d 0 991 [l0, l1, l2, some (.inl x)] (.inl x :: st) H := rn_nx rfl rfl
set_option maxRecDepth 20000 in
theorem e_L_law_991 : rn Ls xs d 0 991 [l0, l1, l2, l3]  st H = rn Ls xs d 0 992 [l0, l1, l2, l3] (.inl 1 :: st) H := rn_nx rfl rfl
set_option maxRecDepth 20000 in
theorem e_L_law_992 : rn Ls xs d 0 992 [l0, l1, l2, l3] (.inl y :: .inl x :: st) H = rn Ls xs d 0 993 [l0, l1, l2, l3] (.inl (x + y) :: st) H := rn_nx rfl rfl
set_option maxRecDepth 20000 in
theorem e_L_law_993 : rn Ls xs d 0 993 [l0, l1, l2, l3] (.inl i :: .inr (.inr 0) :: st) H = if 0 ≤ i.toInt ∧ i.toInt < (Ls : Int) then rn Ls xs d 0 994 [l0, l1, l2, l3] (.inl (xs i.toNatClampNeg) :: st) H else none := rn_pc rfl rfl
set_option maxRecDepth 20000 in
theorem e_L_law_994 : rn Ls xs d 0 994 [some (.inr u), l1, l2, l3] st H = rn Ls xs d 0 995 [some (.inr u), l1, l2, l3] (.inr u :: st) H := rn_nx rfl rfl
set_option maxRecDepth 20000 in
theorem e_L_law_995 : rn Ls xs d 0 995 [l0, l1, l2, some (.inl x)] st H = rn Ls xs d 0 996 [l0, l1, l2, some (.inl x)] (.inl x :: st) H := rn_nx rfl rfl
set_option maxRecDepth 20000 in
theorem e_L_law_996 : rn Ls xs d 0 996 [l0, l1, l2, l3]  st H = rn Ls xs d 0 997 [l0, l1, l2, l3] (.inl 2 :: st) H := rn_nx rfl rfl
set_option maxRecDepth 20000 in
theorem e_L_law_997 : rn Ls xs d 0 997 [l0, l1, l2, l3] (.inl y :: .inl x :: st) H = rn Ls xs d 0 998 [l0, l1, l2, l3] (.inl (x + y) :: st) H := rn_nx rfl rfl
set_option maxRecDepth 20000 in
theorem e_L_law_998 : rn Ls xs d 0 998 [l0, l1, l2, l3] (.inl i :: .inr (.inr 0) :: st) H = if 0 ≤ i.toInt ∧ i.toInt < (Ls : Int) then rn Ls xs d 0 999 [l0, l1, l2, l3] (.inl (xs i.toNatClampNeg) :: st) H else none := rn_pc rfl rfl
set_option maxRecDepth 20000 in
theorem e_L_law_999 : rn Ls xs (d + 1) 0 999 [l0, l1, l2, l3] [v2, v1, (.inr (.inl (some a))), v3] (S, I, R) = if h_is S a 9 36 then rb Ls xs (d + 1) 0 1002 [l0, l1, l2, l3] [v3] (rn Ls xs d 56 0 [some (.inr (.inl (some a))), some v1, some v2] [] (S, I, R)) else none := rn_callO rfl rfl (Nat.le_of_ble_eq_true rfl) rfl rfl
set_option maxRecDepth 20000 in
theorem e_L_law_1002 : rn Ls xs d 0 1002 [l0, l1, l2, l3] (.inl y :: .inl x :: st) H = if x = y then rn Ls xs d 0 1462 [l0, l1, l2, l3] st H else rn Ls xs d 0 1005 [l0, l1, l2, l3] st H := rn_cmp (p := fun x y => x = y) rfl
set_option maxRecDepth 20000 in
theorem e_L_law_1005 : rn Ls xs d 0 1005 [l0, l1, l2, l3]  st H = rn Ls xs d 0 1006 [l0, l1, l2, l3] (.inl 0 :: st) H := rn_nx rfl rfl
set_option maxRecDepth 20000 in
theorem e_L_law_1006 : rn Ls xs d 0 1006 [l0, l1, l2, l3] [.inl x] H = if h_bo x then some (some (.inl x), H) else none := rn_zret rfl
set_option maxRecDepth 20000 in
theorem e_L_law_1007 : rn Ls xs d 0 1007 [l0, some (.inr u), l2, l3] st H = rn Ls xs d 0 1008 [l0, some (.inr u), l2, l3] (.inr u :: st) H := rn_nx rfl rfl
set_option maxRecDepth 20000 in
theorem e_L_law_1008 : rn Ls xs d 0 1008 [some (.inr u), l1, l2, l3] st H = rn Ls xs d 0 1009 [some (.inr u), l1, l2, l3] (.inr u :: st) H := rn_nx rfl rfl
set_option maxRecDepth 20000 in
theorem e_L_law_1009 : rn Ls xs d 0 1009 [l0, l1, l2, some (.inl x)] st H = rn Ls xs d 0 1010 [l0, l1, l2, some (.inl x)] (.inl x :: st) H := rn_nx rfl rfl
set_option maxRecDepth 20000 in
theorem e_L_law_1010 : rn Ls xs d 0 1010 [l0, l1, l2, l3]  st H = rn Ls xs d 0 1011 [l0, l1, l2, l3] (.inl 1 :: st) H := rn_nx rfl rfl
set_option maxRecDepth 20000 in
theorem e_L_law_1011 : rn Ls xs d 0 1011 [l0, l1, l2, l3] (.inl y :: .inl x :: st) H = rn Ls xs d 0 1012 [l0, l1, l2, l3] (.inl (x + y) :: st) H := rn_nx rfl rfl
set_option maxRecDepth 20000 in
theorem e_L_law_1012 : rn Ls xs d 0 1012 [l0, l1, l2, l3] (.inl i :: .inr (.inr 0) :: st) H = if 0 ≤ i.toInt ∧ i.toInt < (Ls : Int) then rn Ls xs d 0 1013 [l0, l1, l2, l3] (.inl (xs i.toNatClampNeg) :: st) H else none := rn_pc rfl rfl
set_option maxRecDepth 20000 in
theorem e_L_law_1013 : rn Ls xs (d + 1) 0 1013 [l0, l1, l2, l3] [v1, (.inr (.inl (some a)))] (S, I, R) = if h_is S a 8 10 then rb Ls xs (d + 1) 0 1016 [l0, l1, l2, l3] [] (rn Ls xs d 57 0 [some (.inr (.inl (some a))), some v1, none] [] (S, I, R)) else none := rn_callO rfl rfl (Nat.le_of_ble_eq_true rfl) rfl rfl
set_option maxRecDepth 20000 in
theorem e_L_law_1016 : rn Ls xs d 0 1016 [l0, l1, some (.inr u), l3] st H = rn Ls xs d 0 1017 [l0, l1, some (.inr u), l3] (.inr u :: st) H := rn_nx rfl rfl
set_option maxRecDepth 20000 in
theorem e_L_law_1017 : rn Ls xs d 0 1017 [some (.inr u), l1, l2, l3] st H = rn Ls xs d 0 1018 [some (.inr u), l1, l2, l3] (.inr u :: st) H := rn_nx rfl rfl
set_option maxRecDepth 20000 in
theorem e_L_law_1018 : rn Ls xs d 0 1018 [l0, l1, l2, some (.inl x)] st H = rn Ls xs d 0 1019 [l0, l1, l2, some (.inl x)] (.inl x :: st) H := rn_nx rfl rfl
set_option maxRecDepth 20000 in
theorem e_L_law_1019 : rn Ls xs d 0 1019 [l0, l1, l2, l3]  st H = rn Ls xs d 0 1020 [l0, l1, l2, l3] (.inl 1 :: st) H := rn_nx rfl rfl
set_option maxRecDepth 20000 in
theorem e_L_law_1020 : rn Ls xs d 0 1020 [l0, l1, l2, l3] (.inl y :: .inl x :: st) H = rn Ls xs d 0 1021 [l0, l1, l2, l3] (.inl (x + y) :: st) H := rn_nx rfl rfl
set_option maxRecDepth 20000 in
theorem e_L_law_1021 : rn Ls xs d 0 1021 [l0, l1, l2, l3] (.inl i :: .inr (.inr 0) :: st) H = if 0 ≤ i.toInt ∧ i.toInt < (Ls : Int) then rn Ls xs d 0 1022 [l0, l1, l2, l3] (.inl (xs i.toNatClampNeg) :: st) H else none := rn_pc rfl rfl
set_option maxRecDepth 20000 in
theorem e_L_law_1022 : rn Ls xs (d + 1) 0 1022 [l0, l1, l2, l3] [v1, (.inr (.inl (some a))), v2] (S, I, R) = if h_is S a 9 36 then rb Ls xs (d + 1) 0 1025 [l0, l1, l2, l3] [v2] (rn Ls xs d 58 0 [some (.inr (.inl (some a))), some v1, none] [] (S, I, R)) else none := rn_callO rfl rfl (Nat.le_of_ble_eq_true rfl) rfl rfl
set_option maxRecDepth 20000 in
theorem e_L_law_1025 : rn Ls xs d 0 1025 [l0, l1, l2, l3] (.inl y :: .inl x :: st) H = if x = y then rn Ls xs d 0 1462 [l0, l1, l2, l3] st H else rn Ls xs d 0 1028 [l0, l1, l2, l3] st H := rn_cmp (p := fun x y => x = y) rfl
set_option maxRecDepth 20000 in
theorem e_L_law_1028 : rn Ls xs d 0 1028 [l0, l1, l2, l3]  st H = rn Ls xs d 0 1029 [l0, l1, l2, l3] (.inl 0 :: st) H := rn_nx rfl rfl
set_option maxRecDepth 20000 in
theorem e_L_law_1029 : rn Ls xs d 0 1029 [l0, l1, l2, l3] [.inl x] H = if h_bo x then some (some (.inl x), H) else none := rn_zret rfl
set_option maxRecDepth 20000 in
theorem e_L_law_1030 : rn Ls xs d 0 1030 [l0, some (.inr u), l2, l3] st H = rn Ls xs d 0 1031 [l0, some (.inr u), l2, l3] (.inr u :: st) H := rn_nx rfl rfl
set_option maxRecDepth 20000 in
theorem e_L_law_1031 : rn Ls xs d 0 1031 [some (.inr u), l1, l2, l3] st H = rn Ls xs d 0 1032 [some (.inr u), l1, l2, l3] (.inr u :: st) H := rn_nx rfl rfl
set_option maxRecDepth 20000 in
theorem e_L_law_1032 : rn Ls xs d 0 1032 [l0, l1, l2, some (.inl x)] st H = rn Ls xs d 0 1033 [l0, l1, l2, some (.inl x)] (.inl x :: st) H := rn_nx rfl rfl
set_option maxRecDepth 20000 in
theorem e_L_law_1033 : rn Ls xs d 0 1033 [l0, l1, l2, l3]  st H = rn Ls xs d 0 1034 [l0, l1, l2, l3] (.inl 1 :: st) H := rn_nx rfl rfl
set_option maxRecDepth 20000 in
theorem e_L_law_1034 : rn Ls xs d 0 1034 [l0, l1, l2, l3] (.inl y :: .inl x :: st) H = rn Ls xs d 0 1035 [l0, l1, l2, l3] (.inl (x + y) :: st) H := rn_nx rfl rfl
set_option maxRecDepth 20000 in
theorem e_L_law_1035 : rn Ls xs d 0 1035 [l0, l1, l2, l3] (.inl i :: .inr (.inr 0) :: st) H = if 0 ≤ i.toInt ∧ i.toInt < (Ls : Int) then rn Ls xs d 0 1036 [l0, l1, l2, l3] (.inl (xs i.toNatClampNeg) :: st) H else none := rn_pc rfl rfl
set_option maxRecDepth 20000 in
theorem e_L_law_1036 : rn Ls xs d 0 1036 [some (.inr u), l1, l2, l3] st H = rn Ls xs d 0 1037 [some (.inr u), l1, l2, l3] (.inr u :: st) H := rn_nx rfl rfl
set_option maxRecDepth 20000 in
theorem e_L_law_1037 : rn Ls xs d 0 1037 [l0, l1, l2, some (.inl x)] st H = rn Ls xs d 0 1038 [l0, l1, l2, some (.inl x)] (.inl x :: st) H := rn_nx rfl rfl
set_option maxRecDepth 20000 in
theorem e_L_law_1038 : rn Ls xs d 0 1038 [l0, l1, l2, l3]  st H = rn Ls xs d 0 1039 [l0, l1, l2, l3] (.inl 2 :: st) H := rn_nx rfl rfl
set_option maxRecDepth 20000 in
theorem e_L_law_1039 : rn Ls xs d 0 1039 [l0, l1, l2, l3] (.inl y :: .inl x :: st) H = rn Ls xs d 0 1040 [l0, l1, l2, l3] (.inl (x + y) :: st) H := rn_nx rfl rfl
set_option maxRecDepth 20000 in
theorem e_L_law_1040 : rn Ls xs d 0 1040 [l0, l1, l2, l3] (.inl i :: .inr (.inr 0) :: st) H = if 0 ≤ i.toInt ∧ i.toInt < (Ls : Int) then rn Ls xs d 0 1041 [l0, l1, l2, l3] (.inl (xs i.toNatClampNeg) :: st) H else none := rn_pc rfl rfl
set_option maxRecDepth 20000 in
theorem e_L_law_1041 : rn Ls xs d 0 1041 [some (.inr u), l1, l2, l3] st H = rn Ls xs d 0 1042 [some (.inr u), l1, l2, l3] (.inr u :: st) H := rn_nx rfl rfl
set_option maxRecDepth 20000 in
theorem e_L_law_1042 : rn Ls xs d 0 1042 [l0, l1, l2, some (.inl x)] st H = rn Ls xs d 0 1043 [l0, l1, l2, some (.inl x)] (.inl x :: st) H := rn_nx rfl rfl
set_option maxRecDepth 20000 in
theorem e_L_law_1043 : rn Ls xs d 0 1043 [l0, l1, l2, l3]  st H = rn Ls xs d 0 1044 [l0, l1, l2, l3] (.inl 3 :: st) H := rn_nx rfl rfl
set_option maxRecDepth 20000 in
theorem e_L_law_1044 : rn Ls xs d 0 1044 [l0, l1, l2, l3] (.inl y :: .inl x :: st) H = rn Ls xs d 0 1045 [l0, l1, l2, l3] (.inl (x + y) :: st) H := rn_nx rfl rfl
set_option maxRecDepth 20000 in
theorem e_L_law_1045 : rn Ls xs d 0 1045 [l0, l1, l2, l3] (.inl i :: .inr (.inr 0) :: st) H = if 0 ≤ i.toInt ∧ i.toInt < (Ls : Int) then rn Ls xs d 0 1046 [l0, l1, l2, l3] (.inl (xs i.toNatClampNeg) :: st) H else none := rn_pc rfl rfl
set_option maxRecDepth 20000 in
theorem e_L_law_1046 : rn Ls xs (d + 1) 0 1046 [l0, l1, l2, l3] [v3, v2, v1, (.inr (.inl (some a)))] (S, I, R) = if h_is S a 8 10 then rb Ls xs (d + 1) 0 1049 [l0, l1, l2, l3] [] (rn Ls xs d 59 0 [some (.inr (.inl (some a))), some v1, some v2, some v3, none] [] (S, I, R)) else none := rn_callO rfl rfl (Nat.le_of_ble_eq_true rfl) rfl rfl
set_option maxRecDepth 20000 in
theorem e_L_law_1049 : rn Ls xs d 0 1049 [l0, l1, some (.inr u), l3] st H = rn Ls xs d 0 1050 [l0, l1, some (.inr u), l3] (.inr u :: st) H := rn_nx rfl rfl
set_option maxRecDepth 20000 in
theorem e_L_law_1050 : rn Ls xs d 0 1050 [some (.inr u), l1, l2, l3] st H = rn Ls xs d 0 1051 [some (.inr u), l1, l2, l3] (.inr u :: st) H := rn_nx rfl rfl
set_option maxRecDepth 20000 in
theorem e_L_law_1051 : rn Ls xs d 0 1051 [l0, l1, l2, some (.inl x)] st H = rn Ls xs d 0 1052 [l0, l1, l2, some (.inl x)] (.inl x :: st) H := rn_nx rfl rfl
set_option maxRecDepth 20000 in
theorem e_L_law_1052 : rn Ls xs d 0 1052 [l0, l1, l2, l3]  st H = rn Ls xs d 0 1053 [l0, l1, l2, l3] (.inl 1 :: st) H := rn_nx rfl rfl
set_option maxRecDepth 20000 in
theorem e_L_law_1053 : rn Ls xs d 0 1053 [l0, l1, l2, l3] (.inl y :: .inl x :: st) H = rn Ls xs d 0 1054 [l0, l1, l2, l3] (.inl (x + y) :: st) H := rn_nx rfl rfl
set_option maxRecDepth 20000 in
theorem e_L_law_1054 : rn Ls xs d 0 1054 [l0, l1, l2, l3] (.inl i :: .inr (.inr 0) :: st) H = if 0 ≤ i.toInt ∧ i.toInt < (Ls : Int) then rn Ls xs d 0 1055 [l0, l1, l2, l3] (.inl (xs i.toNatClampNeg) :: st) H else none := rn_pc rfl rfl
set_option maxRecDepth 20000 in
theorem e_L_law_1055 : rn Ls xs d 0 1055 [some (.inr u), l1, l2, l3] st H = rn Ls xs d 0 1056 [some (.inr u), l1, l2, l3] (.inr u :: st) H := rn_nx rfl rfl
set_option maxRecDepth 20000 in
theorem e_L_law_1056 : rn Ls xs d 0 1056 [l0, l1, l2, some (.inl x)] st H = rn Ls xs d 0 1057 [l0, l1, l2, some (.inl x)] (.inl x :: st) H := rn_nx rfl rfl
set_option maxRecDepth 20000 in
theorem e_L_law_1057 : rn Ls xs d 0 1057 [l0, l1, l2, l3]  st H = rn Ls xs d 0 1058 [l0, l1, l2, l3] (.inl 2 :: st) H := rn_nx rfl rfl
set_option maxRecDepth 20000 in
theorem e_L_law_1058 : rn Ls xs d 0 1058 [l0, l1, l2, l3] (.inl y :: .inl x :: st) H = rn Ls xs d 0 1059 [l0, l1, l2, l3] (.inl (x + y) :: st) H := rn_nx rfl rfl
set_option maxRecDepth 20000 in
theorem e_L_law_1059 : rn Ls xs d 0 1059 [l0, l1, l2, l3] (.inl i :: .inr (.inr 0) :: st) H = if 0 ≤ i.toInt ∧ i.toInt < (Ls : Int) then rn Ls xs d 0 1060 [l0, l1, l2, l3] (.inl (xs i.toNatClampNeg) :: st) H else none := rn_pc rfl rfl
set_option maxRecDepth 20000 in
theorem e_L_law_1060 : rn Ls xs d 0 1060 [some (.inr u), l1, l2, l3] st H = rn Ls xs d 0 1061 [some (.inr u), l1, l2, l3] (.inr u :: st) H := rn_nx rfl rfl
set_option maxRecDepth 20000 in
theorem e_L_law_1061 : rn Ls xs d 0 1061 [l0, l1, l2, some (.inl x)] st H = rn Ls xs d 0 1062 [l0, l1, l2, some (.inl x)] (.inl x :: st) H := rn_nx rfl rfl
set_option maxRecDepth 20000 in
theorem e_L_law_1062 : rn Ls xs d 0 1062 [l0, l1, l2, l3]  st H = rn Ls xs d 0 1063 [l0, l1, l2, l3] (.inl 3 :: st) H := rn_nx rfl rfl
set_option maxRecDepth 20000 in
theorem e_L_law_1063 : rn Ls xs d 0 1063 [l0, l1, l2, l3] (.inl y :: .inl x :: st) H = rn Ls xs d 0 1064 [l0, l1, l2, l3] (.inl (x + y) :: st) H := rn_nx rfl rfl
set_option maxRecDepth 20000 in
theorem e_L_law_1064 : rn Ls xs d 0 1064 [l0, l1, l2, l3] (.inl i :: .inr (.inr 0) :: st) H = if 0 ≤ i.toInt ∧ i.toInt < (Ls : Int) then rn Ls xs d 0 1065 [l0, l1, l2, l3] (.inl (xs i.toNatClampNeg) :: st) H else none := rn_pc rfl rfl
set_option maxRecDepth 20000 in
theorem e_L_law_1065 : rn Ls xs (d + 1) 0 1065 [l0, l1, l2, l3] [v3, v2, v1, (.inr (.inl (some a))), v4] (S, I, R) = if h_is S a 9 36 then rb Ls xs (d + 1) 0 1068 [l0, l1, l2, l3] [v4] (rn Ls xs d 60 0 [some (.inr (.inl (some a))), some v1, some v2, some v3, none] [] (S, I, R)) else none := rn_callO rfl rfl (Nat.le_of_ble_eq_true rfl) rfl rfl
set_option maxRecDepth 20000 in
theorem e_L_law_1068 : rn Ls xs d 0 1068 [l0, l1, l2, l3] (.inl y :: .inl x :: st) H = if x = y then rn Ls xs d 0 1462 [l0, l1, l2, l3] st H else rn Ls xs d 0 1071 [l0, l1, l2, l3] st H := rn_cmp (p := fun x y => x = y) rfl
set_option maxRecDepth 20000 in
theorem e_L_law_1071 : rn Ls xs d 0 1071 [l0, l1, l2, l3]  st H = rn Ls xs d 0 1072 [l0, l1, l2, l3] (.inl 0 :: st) H := rn_nx rfl rfl
set_option maxRecDepth 20000 in
theorem e_L_law_1072 : rn Ls xs d 0 1072 [l0, l1, l2, l3] [.inl x] H = if h_bo x then some (some (.inl x), H) else none := rn_zret rfl
set_option maxRecDepth 20000 in
theorem e_L_law_1073 : rn Ls xs d 0 1073 [l0, some (.inr u), l2, l3] st H = rn Ls xs d 0 1074 [l0, some (.inr u), l2, l3] (.inr u :: st) H := rn_nx rfl rfl
set_option maxRecDepth 20000 in
theorem e_L_law_1074 : rn Ls xs d 0 1074 [some (.inr u), l1, l2, l3] st H = rn Ls xs d 0 1075 [some (.inr u), l1, l2, l3] (.inr u :: st) H := rn_nx rfl rfl
set_option maxRecDepth 20000 in
theorem e_L_law_1075 : rn Ls xs d 0 1075 [l0, l1, l2, some (.inl x)] st H = rn Ls xs d 0 1076 [l0, l1, l2, some (.inl x)] (.inl x :: st) H := rn_nx rfl rfl
set_option maxRecDepth 20000 in
theorem e_L_law_1076 : rn Ls xs d 0 1076 [l0, l1, l2, l3]  st H = rn Ls xs d 0 1077 [l0, l1, l2, l3] (.inl 1 :: st) H := rn_nx rfl rfl
set_option maxRecDepth 20000 in
theorem e_L_law_1077 : rn Ls xs d 0 1077 [l0, l1, l2, l3] (.inl y :: .inl x :: st) H = rn Ls xs d 0 1078 [l0, l1, l2, l3] (.inl (x + y) :: st) H := rn_nx rfl rfl
set_option maxRecDepth 20000 in
theorem e_L_law_1078 : rn Ls xs d 0 1078 [l0, l1, l2, l3] (.inl i :: .inr (.inr 0) :: st) H = if 0 ≤ i.toInt ∧ i.toInt < (Ls : Int) then rn Ls xs d 0 1079 [l0, l1, l2, l3] (.inl (xs i.toNatClampNeg) :: st) H else none := rn_pc rfl rfl
set_option maxRecDepth 20000 in
theorem e_L_law_1079 : rn Ls xs d 0 1079 [some (.inr u), l1, l2, l3] st H = rn Ls xs d 0 1080 [some (.inr u), l1, l2, l3] (.inr u :: st) H := rn_nx rfl rfl
set_option maxRecDepth 20000 in
theorem e_L_law_1080 : rn Ls xs d 0 1080 [l0, l1, l2, some (.inl x)] st H = rn Ls xs d 0 1081 [l0, l1, l2, some (.inl x)] (.inl x :: st) H := rn_nx rfl rfl
set_option maxRecDepth 20000 in
theorem e_L_law_1081 : rn Ls xs d 0 1081 [l0, l1, l2, l3]  st H = rn Ls xs d 0 1082 [l0, l1, l2, l3] (.inl 2 :: st) H := rn_nx rfl rfl
set_option maxRecDepth 20000 in
theorem e_L_law_1082 : rn Ls xs d 0 1082 [l0, l1, l2, l3] (.inl y :: .inl x :: st) H = rn Ls xs d 0 1083 [l0, l1, l2, l3] (.inl (x + y) :: st) H := rn_nx rfl rfl
set_option maxRecDepth 20000 in
theorem e_L_law_1083 : rn Ls xs d 0 1083 [l0, l1, l2, l3] (.inl i :: .inr (.inr 0) :: st) H = if 0 ≤ i.toInt ∧ i.toInt < (Ls : Int) then rn Ls xs d 0 1084 [l0, l1, l2, l3] (.inl (xs i.toNatClampNeg) :: st) H else none := rn_pc rfl rfl
set_option maxRecDepth 20000 in
theorem e_L_law_1084 : rn Ls xs d 0 1084 [some (.inr u), l1, l2, l3] st H = rn Ls xs d 0 1085 [some (.inr u), l1, l2, l3] (.inr u :: st) H := rn_nx rfl rfl
set_option maxRecDepth 20000 in
theorem e_L_law_1085 : rn Ls xs d 0 1085 [l0, l1, l2, some (.inl x)] st H = rn Ls xs d 0 1086 [l0, l1, l2, some (.inl x)] (.inl x :: st) H := rn_nx rfl rfl
set_option maxRecDepth 20000 in
theorem e_L_law_1086 : rn Ls xs d 0 1086 [l0, l1, l2, l3]  st H = rn Ls xs d 0 1087 [l0, l1, l2, l3] (.inl 3 :: st) H := rn_nx rfl rfl
set_option maxRecDepth 20000 in
theorem e_L_law_1087 : rn Ls xs d 0 1087 [l0, l1, l2, l3] (.inl y :: .inl x :: st) H = rn Ls xs d 0 1088 [l0, l1, l2, l3] (.inl (x + y) :: st) H := rn_nx rfl rfl
set_option maxRecDepth 20000 in
theorem e_L_law_1088 : rn Ls xs d 0 1088 [l0, l1, l2, l3] (.inl i :: .inr (.inr 0) :: st) H = if 0 ≤ i.toInt ∧ i.toInt < (Ls : Int) then rn Ls xs d 0 1089 [l0, l1, l2, l3] (.inl (xs i.toNatClampNeg) :: st) H else none := rn_pc rfl rfl
set_option maxRecDepth 20000 in
theorem e_L_law_1089 : rn Ls xs (d + 1) 0 1089 [l0, l1, l2, l3] [v3, v2, v1, (.inr (.inl (some a)))] (S, I, R) = if h_is S a 8 10 then rb Ls xs (d + 1) 0 1092 [l0, l1, l2, l3] [] (rn Ls xs d 61 0 [some (.inr (.inl (some a))), some v1, some v2, some v3, none] [] (S, I, R)) else none := rn_callO rfl rfl (Nat.le_of_ble_eq_true rfl) rfl rfl
set_option maxRecDepth 20000 in
theorem e_L_law_1092 : rn Ls xs d 0 1092 [l0, l1, some (.inr u), l3] st H = rn Ls xs d 0 1093 [l0, l1, some (.inr u), l3] (.inr u :: st) H := rn_nx rfl rfl
set_option maxRecDepth 20000 in
theorem e_L_law_1093 : rn Ls xs d 0 1093 [some (.inr u), l1, l2, l3] st H = rn Ls xs d 0 1094 [some (.inr u), l1, l2, l3] (.inr u :: st) H := rn_nx rfl rfl
set_option maxRecDepth 20000 in
theorem e_L_law_1094 : rn Ls xs d 0 1094 [l0, l1, l2, some (.inl x)] st H = rn Ls xs d 0 1095 [l0, l1, l2, some (.inl x)] (.inl x :: st) H := rn_nx rfl rfl
set_option maxRecDepth 20000 in
theorem e_L_law_1095 : rn Ls xs d 0 1095 [l0, l1, l2, l3]  st H = rn Ls xs d 0 1096 [l0, l1, l2, l3] (.inl 1 :: st) H := rn_nx rfl rfl
set_option maxRecDepth 20000 in
theorem e_L_law_1096 : rn Ls xs d 0 1096 [l0, l1, l2, l3] (.inl y :: .inl x :: st) H = rn Ls xs d 0 1097 [l0, l1, l2, l3] (.inl (x + y) :: st) H := rn_nx rfl rfl
set_option maxRecDepth 20000 in
theorem e_L_law_1097 : rn Ls xs d 0 1097 [l0, l1, l2, l3] (.inl i :: .inr (.inr 0) :: st) H = if 0 ≤ i.toInt ∧ i.toInt < (Ls : Int) then rn Ls xs d 0 1098 [l0, l1, l2, l3] (.inl (xs i.toNatClampNeg) :: st) H else none := rn_pc rfl rfl
set_option maxRecDepth 20000 in
theorem e_L_law_1098 : rn Ls xs d 0 1098 [some (.inr u), l1, l2, l3] st H = rn Ls xs d 0 1099 [some (.inr u), l1, l2, l3] (.inr u :: st) H := rn_nx rfl rfl
set_option maxRecDepth 20000 in
theorem e_L_law_1099 : rn Ls xs d 0 1099 [l0, l1, l2, some (.inl x)] st H = rn Ls xs d 0 1100 [l0, l1, l2, some (.inl x)] (.inl x :: st) H := rn_nx rfl rfl
set_option maxRecDepth 20000 in
theorem e_L_law_1100 : rn Ls xs d 0 1100 [l0, l1, l2, l3]  st H = rn Ls xs d 0 1101 [l0, l1, l2, l3] (.inl 2 :: st) H := rn_nx rfl rfl
set_option maxRecDepth 20000 in
theorem e_L_law_1101 : rn Ls xs d 0 1101 [l0, l1, l2, l3] (.inl y :: .inl x :: st) H = rn Ls xs d 0 1102 [l0, l1, l2, l3] (.inl (x + y) :: st) H := rn_nx rfl rfl
set_option maxRecDepth 20000 in
theorem e_L_law_1102 : rn Ls xs d 0 1102 [l0, l1, l2, l3] (.inl i :: .inr (.inr 0) :: st) H = if 0 ≤ i.toInt ∧ i.toInt < (Ls : Int) then rn Ls xs d 0 1103 [l0, l1, l2, l3] (.inl (xs i.toNatClampNeg) :: st) H else none := rn_pc rfl rfl
set_option maxRecDepth 20000 in
theorem e_L_law_1103 : rn Ls xs d 0 1103 [some (.inr u), l1, l2, l3] st H = rn Ls xs d 0 1104 [some (.inr u), l1, l2, l3] (.inr u :: st) H := rn_nx rfl rfl
set_option maxRecDepth 20000 in
theorem e_L_law_1104 : rn Ls xs d 0 1104 [l0, l1, l2, some (.inl x)] st H = rn Ls xs d 0 1105 [l0, l1, l2, some (.inl x)] (.inl x :: st) H := rn_nx rfl rfl
set_option maxRecDepth 20000 in
theorem e_L_law_1105 : rn Ls xs d 0 1105 [l0, l1, l2, l3]  st H = rn Ls xs d 0 1106 [l0, l1, l2, l3] (.inl 3 :: st) H := rn_nx rfl rfl
set_option maxRecDepth 20000 in
theorem e_L_law_1106 : rn Ls xs d 0 1106 [l0, l1, l2, l3] (.inl y :: .inl x :: st) H = rn Ls xs d 0 1107 [l0, l1, l2, l3] (.inl (x + y) :: st) H := rn_nx rfl rfl
set_option maxRecDepth 20000 in
theorem e_L_law_1107 : rn Ls xs d 0 1107 [l0, l1, l2, l3] (.inl i :: .inr (.inr 0) :: st) H = if 0 ≤ i.toInt ∧ i.toInt < (Ls : Int) then rn Ls xs d 0 1108 [l0, l1, l2, l3] (.inl (xs i.toNatClampNeg) :: st) H else none := rn_pc rfl rfl
set_option maxRecDepth 20000 in
theorem e_L_law_1108 : rn Ls xs (d + 1) 0 1108 [l0, l1, l2, l3] [v3, v2, v1, (.inr (.inl (some a))), v4] (S, I, R) = if h_is S a 9 36 then rb Ls xs (d + 1) 0 1111 [l0, l1, l2, l3] [v4] (rn Ls xs d 62 0 [some (.inr (.inl (some a))), some v1, some v2, some v3] [] (S, I, R)) else none := rn_callO rfl rfl (Nat.le_of_ble_eq_true rfl) rfl rfl
set_option maxRecDepth 20000 in
theorem e_L_law_1111 : rn Ls xs d 0 1111 [l0, l1, l2, l3] (.inl y :: .inl x :: st) H = if x = y then rn Ls xs d 0 1462 [l0, l1, l2, l3] st H else rn Ls xs d 0 1114 [l0, l1, l2, l3] st H := rn_cmp (p := fun x y => x = y) rfl
set_option maxRecDepth 20000 in
theorem e_L_law_1114 : rn Ls xs d 0 1114 [l0, l1, l2, l3]  st H = rn Ls xs d 0 1115 [l0, l1, l2, l3] (.inl 0 :: st) H := rn_nx rfl rfl
set_option maxRecDepth 20000 in
theorem e_L_law_1115 : rn Ls xs d 0 1115 [l0, l1, l2, l3] [.inl x] H = if h_bo x then some (some (.inl x), H) else none := rn_zret rfl
set_option maxRecDepth 20000 in
theorem e_L_law_1116 : rn Ls xs d 0 1116 [l0, some (.inr u), l2, l3] st H = rn Ls xs d 0 1117 [l0, some (.inr u), l2, l3] (.inr u :: st) H := rn_nx rfl rfl
set_option maxRecDepth 20000 in
theorem e_L_law_1117 : rn Ls xs d 0 1117 [some (.inr u), l1, l2, l3] st H = rn Ls xs d 0 1118 [some (.inr u), l1, l2, l3] (.inr u :: st) H := rn_nx rfl rfl
set_option maxRecDepth 20000 in
theorem e_L_law_1118 : rn Ls xs d 0 1118 [l0, l1, l2, some (.inl x)] st H = rn Ls xs d 0 1119 [l0, l1, l2, some (.inl x)] (.inl x :: st) H := rn_nx rfl rfl
set_option maxRecDepth 20000 in
theorem e_L_law_1119 : rn Ls xs d 0 1119 [l0, l1, l2, l3]  st H = rn Ls xs d 0 1120 [l0, l1, l2, l3] (.inl 1 :: st) H := rn_nx rfl rfl
set_option maxRecDepth 20000 in
theorem e_L_law_1120 : rn Ls xs d 0 1120 [l0, l1, l2, l3] (.inl y :: .inl x :: st) H = rn Ls xs d 0 1121 [l0, l1, l2, l3] (.inl (x + y) :: st) H := rn_nx rfl rfl
set_option maxRecDepth 20000 in
theorem e_L_law_1121 : rn Ls xs d 0 1121 [l0, l1, l2, l3] (.inl i :: .inr (.inr 0) :: st) H = if 0 ≤ i.toInt ∧ i.toInt < (Ls : Int) then rn Ls xs d 0 1122 [l0, l1, l2, l3] (.inl (xs i.toNatClampNeg) :: st) H else none := rn_pc rfl rfl
set_option maxRecDepth 20000 in
theorem e_L_law_1122 : rn Ls xs (d + 1) 0 1122 [l0, l1, l2, l3] [v1, (.inr (.inl (some a)))] (S, I, R) = if h_is S a 8 10 then rb Ls xs (d + 1) 0 1125 [l0, l1, l2, l3] [] (rn Ls xs d 63 0 [some (.inr (.inl (some a))), some v1, none, none, none, none] [] (S, I, R)) else none := rn_callO rfl rfl (Nat.le_of_ble_eq_true rfl) rfl rfl
set_option maxRecDepth 20000 in
theorem e_L_law_1125 : rn Ls xs d 0 1125 [l0, l1, some (.inr u), l3] st H = rn Ls xs d 0 1126 [l0, l1, some (.inr u), l3] (.inr u :: st) H := rn_nx rfl rfl
set_option maxRecDepth 20000 in
theorem e_L_law_1126 : rn Ls xs d 0 1126 [some (.inr u), l1, l2, l3] st H = rn Ls xs d 0 1127 [some (.inr u), l1, l2, l3] (.inr u :: st) H := rn_nx rfl rfl
set_option maxRecDepth 20000 in
theorem e_L_law_1127 : rn Ls xs d 0 1127 [l0, l1, l2, some (.inl x)] st H = rn Ls xs d 0 1128 [l0, l1, l2, some (.inl x)] (.inl x :: st) H := rn_nx rfl rfl
set_option maxRecDepth 20000 in
theorem e_L_law_1128 : rn Ls xs d 0 1128 [l0, l1, l2, l3]  st H = rn Ls xs d 0 1129 [l0, l1, l2, l3] (.inl 1 :: st) H := rn_nx rfl rfl
set_option maxRecDepth 20000 in
theorem e_L_law_1129 : rn Ls xs d 0 1129 [l0, l1, l2, l3] (.inl y :: .inl x :: st) H = rn Ls xs d 0 1130 [l0, l1, l2, l3] (.inl (x + y) :: st) H := rn_nx rfl rfl
set_option maxRecDepth 20000 in
theorem e_L_law_1130 : rn Ls xs d 0 1130 [l0, l1, l2, l3] (.inl i :: .inr (.inr 0) :: st) H = if 0 ≤ i.toInt ∧ i.toInt < (Ls : Int) then rn Ls xs d 0 1131 [l0, l1, l2, l3] (.inl (xs i.toNatClampNeg) :: st) H else none := rn_pc rfl rfl
set_option maxRecDepth 20000 in
theorem e_L_law_1131 : rn Ls xs (d + 1) 0 1131 [l0, l1, l2, l3] [v1, (.inr (.inl (some a))), v2] (S, I, R) = if h_is S a 9 36 then rb Ls xs (d + 1) 0 1134 [l0, l1, l2, l3] [v2] (rn Ls xs d 64 0 [some (.inr (.inl (some a))), some v1, none, none, none, none] [] (S, I, R)) else none := rn_callO rfl rfl (Nat.le_of_ble_eq_true rfl) rfl rfl
set_option maxRecDepth 20000 in
theorem e_L_law_1134 : rn Ls xs d 0 1134 [l0, l1, l2, l3] (.inl y :: .inl x :: st) H = if x = y then rn Ls xs d 0 1462 [l0, l1, l2, l3] st H else rn Ls xs d 0 1137 [l0, l1, l2, l3] st H := rn_cmp (p := fun x y => x = y) rfl
set_option maxRecDepth 20000 in
theorem e_L_law_1137 : rn Ls xs d 0 1137 [l0, l1, l2, l3]  st H = rn Ls xs d 0 1138 [l0, l1, l2, l3] (.inl 0 :: st) H := rn_nx rfl rfl
set_option maxRecDepth 20000 in
theorem e_L_law_1138 : rn Ls xs d 0 1138 [l0, l1, l2, l3] [.inl x] H = if h_bo x then some (some (.inl x), H) else none := rn_zret rfl
set_option maxRecDepth 20000 in
theorem e_L_law_1139 : rn Ls xs d 0 1139 [l0, some (.inr u), l2, l3] st H = rn Ls xs d 0 1140 [l0, some (.inr u), l2, l3] (.inr u :: st) H := rn_nx rfl rfl
set_option maxRecDepth 20000 in
theorem e_L_law_1140 : rn Ls xs d 0 1140 [some (.inr u), l1, l2, l3] st H = rn Ls xs d 0 1141 [some (.inr u), l1, l2, l3] (.inr u :: st) H := rn_nx rfl rfl
set_option maxRecDepth 20000 in
theorem e_L_law_1141 : rn Ls xs d 0 1141 [l0, l1, l2, some (.inl x)] st H = rn Ls xs d 0 1142 [l0, l1, l2, some (.inl x)] (.inl x :: st) H := rn_nx rfl rfl
set_option maxRecDepth 20000 in
theorem e_L_law_1142 : rn Ls xs d 0 1142 [l0, l1, l2, l3]  st H = rn Ls xs d 0 1143 [l0, l1, l2, l3] (.inl 1 :: st) H := rn_nx rfl rfl
set_option maxRecDepth 20000 in
theorem e_L_law_1143 : rn Ls xs d 0 1143 [l0, l1, l2, l3] (.inl y :: .inl x :: st) H = rn Ls xs d 0 1144 [l0, l1, l2, l3] (.inl (x + y) :: st) H := rn_nx rfl rfl
set_option maxRecDepth 20000 in
theorem e_L_law_1144 : rn Ls xs d 0 1144 [l0, l1, l2, l3] (.inl i :: .inr (.inr 0) :: st) H = if 0 ≤ i.toInt ∧ i.toInt < (Ls : Int) then rn Ls xs d 0 1145 [l0, l1, l2, l3] (.inl (xs i.toNatClampNeg) :: st) H else none := rn_pc rfl rfl
set_option maxRecDepth 20000 in
theorem e_L_law_1145 : rn Ls xs (d + 1) 0 1145 [l0, l1, l2, l3] [v1, (.inr (.inl (some a)))] (S, I, R) = if h_is S a 8 10 then rb Ls xs (d + 1) 0 1148 [l0, l1, l2, l3] [] (rn Ls xs d 65 0 [some (.inr (.inl (some a))), some v1, none, none] [] (S, I, R)) else none := rn_callO rfl rfl (Nat.le_of_ble_eq_true rfl) rfl rfl
set_option maxRecDepth 20000 in
theorem e_L_law_1148 : rn Ls xs d 0 1148 [l0, l1, some (.inr u), l3] st H = rn Ls xs d 0 1149 [l0, l1, some (.inr u), l3] (.inr u :: st) H := rn_nx rfl rfl
set_option maxRecDepth 20000 in
theorem e_L_law_1149 : rn Ls xs d 0 1149 [some (.inr u), l1, l2, l3] st H = rn Ls xs d 0 1150 [some (.inr u), l1, l2, l3] (.inr u :: st) H := rn_nx rfl rfl
set_option maxRecDepth 20000 in
theorem e_L_law_1150 : rn Ls xs d 0 1150 [l0, l1, l2, some (.inl x)] st H = rn Ls xs d 0 1151 [l0, l1, l2, some (.inl x)] (.inl x :: st) H := rn_nx rfl rfl
set_option maxRecDepth 20000 in
theorem e_L_law_1151 : rn Ls xs d 0 1151 [l0, l1, l2, l3]  st H = rn Ls xs d 0 1152 [l0, l1, l2, l3] (.inl 1 :: st) H := rn_nx rfl rfl
set_option maxRecDepth 20000 in
theorem e_L_law_1152 : rn Ls xs d 0 1152 [l0, l1, l2, l3] (.inl y :: .inl x :: st) H = rn Ls xs d 0 1153 [l0, l1, l2, l3] (.inl (x + y) :: st) H := rn_nx rfl rfl
set_option maxRecDepth 20000 in
theorem e_L_law_1153 : rn Ls xs d 0 1153 [l0, l1, l2, l3] (.inl i :: .inr (.inr 0) :: st) H = if 0 ≤ i.toInt ∧ i.toInt < (Ls : Int) then rn Ls xs d 0 1154 [l0, l1, l2, l3] (.inl (xs i.toNatClampNeg) :: st) H else none := rn_pc rfl rfl
set_option maxRecDepth 20000 in
theorem e_L_law_1154 : rn Ls xs (d + 1) 0 1154 [l0, l1, l2, l3] [v1, (.inr (.inl (some a))), v2] (S, I, R) = if h_is S a 9 36 then rb Ls xs (d + 1) 0 1157 [l0, l1, l2, l3] [v2] (rn Ls xs d 66 0 [some (.inr (.inl (some a))), some v1, none, none] [] (S, I, R)) else none := rn_callO rfl rfl (Nat.le_of_ble_eq_true rfl) rfl rfl
set_option maxRecDepth 20000 in
theorem e_L_law_1157 : rn Ls xs d 0 1157 [l0, l1, l2, l3] (.inl y :: .inl x :: st) H = if x = y then rn Ls xs d 0 1462 [l0, l1, l2, l3] st H else rn Ls xs d 0 1160 [l0, l1, l2, l3] st H := rn_cmp (p := fun x y => x = y) rfl
set_option maxRecDepth 20000 in
theorem e_L_law_1160 : rn Ls xs d 0 1160 [l0, l1, l2, l3]  st H = rn Ls xs d 0 1161 [l0, l1, l2, l3] (.inl 0 :: st) H := rn_nx rfl rfl
set_option maxRecDepth 20000 in
theorem e_L_law_1161 : rn Ls xs d 0 1161 [l0, l1, l2, l3] [.inl x] H = if h_bo x then some (some (.inl x), H) else none := rn_zret rfl
set_option maxRecDepth 20000 in
theorem e_L_law_1162 : rn Ls xs d 0 1162 [l0, some (.inr u), l2, l3] st H = rn Ls xs d 0 1163 [l0, some (.inr u), l2, l3] (.inr u :: st) H := rn_nx rfl rfl
set_option maxRecDepth 20000 in
theorem e_L_law_1163 : rn Ls xs d 0 1163 [some (.inr u), l1, l2, l3] st H = rn Ls xs d 0 1164 [some (.inr u), l1, l2, l3] (.inr u :: st) H := rn_nx rfl rfl
set_option maxRecDepth 20000 in
theorem e_L_law_1164 : rn Ls xs d 0 1164 [l0, l1, l2, some (.inl x)] st H = rn Ls xs d 0 1165 [l0, l1, l2, some (.inl x)] (.inl x :: st) H := rn_nx rfl rfl
set_option maxRecDepth 20000 in
theorem e_L_law_1165 : rn Ls xs d 0 1165 [l0, l1, l2, l3]  st H = rn Ls xs d 0 1166 [l0, l1, l2, l3] (.inl 1 :: st) H := rn_nx rfl rfl
set_option maxRecDepth 20000 in
theorem e_L_law_1166 : rn Ls xs d 0 1166 [l0, l1, l2, l3] (.inl y :: .inl x :: st) H = rn Ls xs d 0 1167 [l0, l1, l2, l3] (.inl (x + y) :: st) H := rn_nx rfl rfl
set_option maxRecDepth 20000 in
theorem e_L_law_1167 : rn Ls xs d 0 1167 [l0, l1, l2, l3] (.inl i :: .inr (.inr 0) :: st) H = if 0 ≤ i.toInt ∧ i.toInt < (Ls : Int) then rn Ls xs d 0 1168 [l0, l1, l2, l3] (.inl (xs i.toNatClampNeg) :: st) H else none := rn_pc rfl rfl
set_option maxRecDepth 20000 in
theorem e_L_law_1168 : rn Ls xs d 0 1168 [some (.inr u), l1, l2, l3] st H = rn Ls xs d 0 1169 [some (.inr u), l1, l2, l3] (.inr u :: st) H := rn_nx rfl rfl
set_option maxRecDepth 20000 in
theorem e_L_law_1169 : rn Ls xs d 0 1169 [l0, l1, l2, some (.inl x)] st H = rn Ls xs d 0 1170 [l0, l1, l2, some (.inl x)] (.inl x :: st) H := rn_nx rfl rfl
set_option maxRecDepth 20000 in
theorem e_L_law_1170 : rn Ls xs d 0 1170 [l0, l1, l2, l3]  st H = rn Ls xs d 0 1171 [l0, l1, l2, l3] (.inl 2 :: st) H := rn_nx rfl rfl
set_option maxRecDepth 20000 in
theorem e_L_law_1171 : rn Ls xs d 0 1171 [l0, l1, l2, l3] (.inl y :: .inl x :: st) H = rn Ls xs d 0 1172 [l0, l1, l2, l3] (.inl (x + y) :: st) H := rn_nx rfl rfl
set_option maxRecDepth 20000 in
theorem e_L_law_1172 : rn Ls xs d 0 1172 [l0, l1, l2, l3] (.inl i :: .inr (.inr 0) :: st) H = if 0 ≤ i.toInt ∧ i.toInt < (Ls : Int) then rn Ls xs d 0 1173 [l0, l1, l2, l3] (.inl (xs i.toNatClampNeg) :: st) H else none := rn_pc rfl rfl
set_option maxRecDepth 20000 in
theorem e_L_law_1173 : rn Ls xs d 0 1173 [some (.inr u), l1, l2, l3] st H = rn Ls xs d 0 1174 [some (.inr u), l1, l2, l3] (.inr u :: st) H := rn_nx rfl rfl
set_option maxRecDepth 20000 in
theorem e_L_law_1174 : rn Ls xs d 0 1174 [l0, l1, l2, some (.inl x)] st H = rn Ls xs d 0 1175 [l0, l1, l2, some (.inl x)] (.inl x :: st) H := rn_nx rfl rfl
set_option maxRecDepth 20000 in
theorem e_L_law_1175 : rn Ls xs d 0 1175 [l0, l1, l2, l3]  st H = rn Ls xs d 0 1176 [l0, l1, l2, l3] (.inl 3 :: st) H := rn_nx rfl rfl
set_option maxRecDepth 20000 in
theorem e_L_law_1176 : rn Ls xs d 0 1176 [l0, l1, l2, l3] (.inl y :: .inl x :: st) H = rn Ls xs d 0 1177 [l0, l1, l2, l3] (.inl (x + y) :: st) H := rn_nx rfl rfl
set_option maxRecDepth 20000 in
theorem e_L_law_1177 : rn Ls xs d 0 1177 [l0, l1, l2, l3] (.inl i :: .inr (.inr 0) :: st) H = if 0 ≤ i.toInt ∧ i.toInt < (Ls : Int) then rn Ls xs d 0 1178 [l0, l1, l2, l3] (.inl (xs i.toNatClampNeg) :: st) H else none := rn_pc rfl rfl
set_option maxRecDepth 20000 in
theorem e_L_law_1178 : rn Ls xs d 0 1178 [some (.inr u), l1, l2, l3] st H = rn Ls xs d 0 1179 [some (.inr u), l1, l2, l3] (.inr u :: st) H := rn_nx rfl rfl
set_option maxRecDepth 20000 in
theorem e_L_law_1179 : rn Ls xs d 0 1179 [l0, l1, l2, some (.inl x)] st H = rn Ls xs d 0 1180 [l0, l1, l2, some (.inl x)] (.inl x :: st) H := rn_nx rfl rfl
set_option maxRecDepth 20000 in
theorem e_L_law_1180 : rn Ls xs d 0 1180 [l0, l1, l2, l3]  st H = rn Ls xs d 0 1181 [l0, l1, l2, l3] (.inl 4 :: st) H := rn_nx rfl rfl
set_option maxRecDepth 20000 in
theorem e_L_law_1181 : rn Ls xs d 0 1181 [l0, l1, l2, l3] (.inl y :: .inl x :: st) H = rn Ls xs d 0 1182 [l0, l1, l2, l3] (.inl (x + y) :: st) H := rn_nx rfl rfl
set_option maxRecDepth 20000 in
theorem e_L_law_1182 : rn Ls xs d 0 1182 [l0, l1, l2, l3] (.inl i :: .inr (.inr 0) :: st) H = if 0 ≤ i.toInt ∧ i.toInt < (Ls : Int) then rn Ls xs d 0 1183 [l0, l1, l2, l3] (.inl (xs i.toNatClampNeg) :: st) H else none := rn_pc rfl rfl
set_option maxRecDepth 20000 in
theorem e_L_law_1183 : rn Ls xs d 0 1183 [some (.inr u), l1, l2, l3] st H = rn Ls xs d 0 1184 [some (.inr u), l1, l2, l3] (.inr u :: st) H := rn_nx rfl rfl
set_option maxRecDepth 20000 in
theorem e_L_law_1184 : rn Ls xs d 0 1184 [l0, l1, l2, some (.inl x)] st H = rn Ls xs d 0 1185 [l0, l1, l2, some (.inl x)] (.inl x :: st) H := rn_nx rfl rfl
set_option maxRecDepth 20000 in
theorem e_L_law_1185 : rn Ls xs d 0 1185 [l0, l1, l2, l3]  st H = rn Ls xs d 0 1186 [l0, l1, l2, l3] (.inl 5 :: st) H := rn_nx rfl rfl
set_option maxRecDepth 20000 in
theorem e_L_law_1186 : rn Ls xs d 0 1186 [l0, l1, l2, l3] (.inl y :: .inl x :: st) H = rn Ls xs d 0 1187 [l0, l1, l2, l3] (.inl (x + y) :: st) H := rn_nx rfl rfl
set_option maxRecDepth 20000 in
theorem e_L_law_1187 : rn Ls xs d 0 1187 [l0, l1, l2, l3] (.inl i :: .inr (.inr 0) :: st) H = if 0 ≤ i.toInt ∧ i.toInt < (Ls : Int) then rn Ls xs d 0 1188 [l0, l1, l2, l3] (.inl (xs i.toNatClampNeg) :: st) H else none := rn_pc rfl rfl
set_option maxRecDepth 20000 in
theorem e_L_law_1188 : rn Ls xs (d + 1) 0 1188 [l0, l1, l2, l3] [v5, v4, v3, v2, v1, (.inr (.inl (some a)))] (S, I, R) = if h_is S a 8 10 then rb Ls xs (d + 1) 0 1191 [l0, l1, l2, l3] [] (rn Ls xs d 67 0 [some (.inr (.inl (some a))), some v1, some v2, some v3, some v4, some v5, none, none] [] (S, I, R)) else none := rn_callO rfl rfl (Nat.le_of_ble_eq_true rfl) rfl rfl
set_option maxRecDepth 20000 in
theorem e_L_law_1191 : rn Ls xs d 0 1191 [l0, l1, some (.inr u), l3] st H = rn Ls xs d 0 1192 [l0, l1, some (.inr u), l3] (.inr u :: st) H := rn_nx rfl rfl
set_option maxRecDepth 20000 in
theorem e_L_law_1192 : rn Ls xs d 0 1192 [some (.inr u), l1, l2, l3] st H = rn Ls xs d 0 1193 [some (.inr u), l1, l2, l3] (.inr u :: st) H := rn_nx rfl rfl
set_option maxRecDepth 20000 in
theorem e_L_law_1193 : rn Ls xs d 0 1193 [l0, l1, l2, some (.inl x)] st H = rn Ls xs d 0 1194 [l0, l1, l2, some (.inl x)] (.inl x :: st) H := rn_nx rfl rfl
set_option maxRecDepth 20000 in
theorem e_L_law_1194 : rn Ls xs d 0 1194 [l0, l1, l2, l3]  st H = rn Ls xs d 0 1195 [l0, l1, l2, l3] (.inl 1 :: st) H := rn_nx rfl rfl
set_option maxRecDepth 20000 in
theorem e_L_law_1195 : rn Ls xs d 0 1195 [l0, l1, l2, l3] (.inl y :: .inl x :: st) H = rn Ls xs d 0 1196 [l0, l1, l2, l3] (.inl (x + y) :: st) H := rn_nx rfl rfl
set_option maxRecDepth 20000 in
theorem e_L_law_1196 : rn Ls xs d 0 1196 [l0, l1, l2, l3] (.inl i :: .inr (.inr 0) :: st) H = if 0 ≤ i.toInt ∧ i.toInt < (Ls : Int) then rn Ls xs d 0 1197 [l0, l1, l2, l3] (.inl (xs i.toNatClampNeg) :: st) H else none := rn_pc rfl rfl
set_option maxRecDepth 20000 in
theorem e_L_law_1197 : rn Ls xs d 0 1197 [some (.inr u), l1, l2, l3] st H = rn Ls xs d 0 1198 [some (.inr u), l1, l2, l3] (.inr u :: st) H := rn_nx rfl rfl
set_option maxRecDepth 20000 in
theorem e_L_law_1198 : rn Ls xs d 0 1198 [l0, l1, l2, some (.inl x)] st H = rn Ls xs d 0 1199 [l0, l1, l2, some (.inl x)] (.inl x :: st) H := rn_nx rfl rfl
set_option maxRecDepth 20000 in
theorem e_L_law_1199 : rn Ls xs d 0 1199 [l0, l1, l2, l3]  st H = rn Ls xs d 0 1200 [l0, l1, l2, l3] (.inl 2 :: st) H := rn_nx rfl rfl
set_option maxRecDepth 20000 in
theorem e_L_law_1200 : rn Ls xs d 0 1200 [l0, l1, l2, l3] (.inl y :: .inl x :: st) H = rn Ls xs d 0 1201 [l0, l1, l2, l3] (.inl (x + y) :: st) H := rn_nx rfl rfl
set_option maxRecDepth 20000 in
theorem e_L_law_1201 : rn Ls xs d 0 1201 [l0, l1, l2, l3] (.inl i :: .inr (.inr 0) :: st) H = if 0 ≤ i.toInt ∧ i.toInt < (Ls : Int) then rn Ls xs d 0 1202 [l0, l1, l2, l3] (.inl (xs i.toNatClampNeg) :: st) H else none := rn_pc rfl rfl
set_option maxRecDepth 20000 in
theorem e_L_law_1202 : rn Ls xs d 0 1202 [some (.inr u), l1, l2, l3] st H = rn Ls xs d 0 1203 [some (.inr u), l1, l2, l3] (.inr u :: st) H := rn_nx rfl rfl
set_option maxRecDepth 20000 in
theorem e_L_law_1203 : rn Ls xs d 0 1203 [l0, l1, l2, some (.inl x)] st H = rn Ls xs d 0 1204 [l0, l1, l2, some (.inl x)] (.inl x :: st) H := rn_nx rfl rfl
set_option maxRecDepth 20000 in
theorem e_L_law_1204 : rn Ls xs d 0 1204 [l0, l1, l2, l3]  st H = rn Ls xs d 0 1205 [l0, l1, l2, l3] (.inl 3 :: st) H := rn_nx rfl rfl
set_option maxRecDepth 20000 in
theorem e_L_law_1205 : rn Ls xs d 0 1205 [l0, l1, l2, l3] (.inl y :: .inl x :: st) H = rn Ls xs d 0 1206 [l0, l1, l2, l3] (.inl (x + y) :: st) H := rn_nx rfl rfl
set_option maxRecDepth 20000 in
theorem e_L_law_1206 : rn Ls xs d 0 1206 [l0, l1, l2, l3] (.inl i :: .inr (.inr 0) :: st) H = if 0 ≤ i.toInt ∧ i.toInt < (Ls : Int) then rn Ls xs d 0 1207 [l0, l1, l2, l3] (.inl (xs i.toNatClampNeg) :: st) H else none := rn_pc rfl rfl
set_option maxRecDepth 20000 in
theorem e_L_law_1207 : rn Ls xs d 0 1207 [some (.inr u), l1, l2, l3] st H = rn Ls xs d 0 1208 [some (.inr u), l1, l2, l3] (.inr u :: st) H := rn_nx rfl rfl
set_option maxRecDepth 20000 in
theorem e_L_law_1208 : rn Ls xs d 0 1208 [l0, l1, l2, some (.inl x)] st H = rn Ls xs d 0 1209 [l0, l1, l2, some (.inl x)] (.inl x :: st) H := rn_nx rfl rfl
set_option maxRecDepth 20000 in
theorem e_L_law_1209 : rn Ls xs d 0 1209 [l0, l1, l2, l3]  st H = rn Ls xs d 0 1210 [l0, l1, l2, l3] (.inl 4 :: st) H := rn_nx rfl rfl
set_option maxRecDepth 20000 in
theorem e_L_law_1210 : rn Ls xs d 0 1210 [l0, l1, l2, l3] (.inl y :: .inl x :: st) H = rn Ls xs d 0 1211 [l0, l1, l2, l3] (.inl (x + y) :: st) H := rn_nx rfl rfl
set_option maxRecDepth 20000 in
theorem e_L_law_1211 : rn Ls xs d 0 1211 [l0, l1, l2, l3] (.inl i :: .inr (.inr 0) :: st) H = if 0 ≤ i.toInt ∧ i.toInt < (Ls : Int) then rn Ls xs d 0 1212 [l0, l1, l2, l3] (.inl (xs i.toNatClampNeg) :: st) H else none := rn_pc rfl rfl
set_option maxRecDepth 20000 in
theorem e_L_law_1212 : rn Ls xs d 0 1212 [some (.inr u), l1, l2, l3] st H = rn Ls xs d 0 1213 [some (.inr u), l1, l2, l3] (.inr u :: st) H := rn_nx rfl rfl
set_option maxRecDepth 20000 in
theorem e_L_law_1213 : rn Ls xs d 0 1213 [l0, l1, l2, some (.inl x)] st H = rn Ls xs d 0 1214 [l0, l1, l2, some (.inl x)] (.inl x :: st) H := rn_nx rfl rfl
set_option maxRecDepth 20000 in
theorem e_L_law_1214 : rn Ls xs d 0 1214 [l0, l1, l2, l3]  st H = rn Ls xs d 0 1215 [l0, l1, l2, l3] (.inl 5 :: st) H := rn_nx rfl rfl
set_option maxRecDepth 20000 in
theorem e_L_law_1215 : rn Ls xs d 0 1215 [l0, l1, l2, l3] (.inl y :: .inl x :: st) H = rn Ls xs d 0 1216 [l0, l1, l2, l3] (.inl (x + y) :: st) H := rn_nx rfl rfl
set_option maxRecDepth 20000 in
theorem e_L_law_1216 : rn Ls xs d 0 1216 [l0, l1, l2, l3] (.inl i :: .inr (.inr 0) :: st) H = if 0 ≤ i.toInt ∧ i.toInt < (Ls : Int) then rn Ls xs d 0 1217 [l0, l1, l2, l3] (.inl (xs i.toNatClampNeg) :: st) H else none := rn_pc rfl rfl
set_option maxRecDepth 20000 in
theorem e_L_law_1217 : rn Ls xs (d + 1) 0 1217 [l0, l1, l2, l3] [v5, v4, v3, v2, v1, (.inr (.inl (some a))), v6] (S, I, R) = if h_is S a 9 36 then rb Ls xs (d + 1) 0 1220 [l0, l1, l2, l3] [v6] (rn Ls xs d 68 0 [some (.inr (.inl (some a))), some v1, some v2, some v3, some v4, some v5, none] [] (S, I, R)) else none := rn_callO rfl rfl (Nat.le_of_ble_eq_true rfl) rfl rfl
set_option maxRecDepth 20000 in
theorem e_L_law_1220 : rn Ls xs d 0 1220 [l0, l1, l2, l3] (.inl y :: .inl x :: st) H = if x = y then rn Ls xs d 0 1462 [l0, l1, l2, l3] st H else rn Ls xs d 0 1223 [l0, l1, l2, l3] st H := rn_cmp (p := fun x y => x = y) rfl
set_option maxRecDepth 20000 in
theorem e_L_law_1223 : rn Ls xs d 0 1223 [l0, l1, l2, l3]  st H = rn Ls xs d 0 1224 [l0, l1, l2, l3] (.inl 0 :: st) H := rn_nx rfl rfl
set_option maxRecDepth 20000 in
theorem e_L_law_1224 : rn Ls xs d 0 1224 [l0, l1, l2, l3] [.inl x] H = if h_bo x then some (some (.inl x), H) else none := rn_zret rfl
set_option maxRecDepth 20000 in
theorem e_L_law_1225 : rn Ls xs d 0 1225 [l0, some (.inr u), l2, l3] st H = rn Ls xs d 0 1226 [l0, some (.inr u), l2, l3] (.inr u :: st) H := rn_nx rfl rfl
set_option maxRecDepth 20000 in
theorem e_L_law_1226 : rn Ls xs d 0 1226 [some (.inr u), l1, l2, l3] st H = rn Ls xs d 0 1227 [some (.inr u), l1, l2, l3] (.inr u :: st) H := rn_nx rfl rfl
set_option maxRecDepth 20000 in
theorem e_L_law_1227 : rn Ls xs d 0 1227 [l0, l1, l2, some (.inl x)] st H = rn Ls xs d 0 1228 [l0, l1, l2, some (.inl x)] (.inl x :: st) H := rn_nx rfl rfl
set_option maxRecDepth 20000 in
theorem e_L_law_1228 : rn Ls xs d 0 1228 [l0, l1, l2, l3]  st H = rn Ls xs d 0 1229 [l0, l1, l2, l3] (.inl 1 :: st) H := rn_nx rfl rfl
set_option maxRecDepth 20000 in
theorem e_L_law_1229 : rn Ls xs d 0 1229 [l0, l1, l2, l3] (.inl y :: .inl x :: st) H = rn Ls xs d 0 1230 [l0, l1, l2, l3] (.inl (x + y) :: st) H := rn_nx rfl rfl
set_option maxRecDepth 20000 in
theorem e_L_law_1230 : rn Ls xs d 0 1230 [l0, l1, l2, l3] (.inl i :: .inr (.inr 0) :: st) H = if 0 ≤ i.toInt ∧ i.toInt < (Ls : Int) then rn Ls xs d 0 1231 [l0, l1, l2, l3] (.inl (xs i.toNatClampNeg) :: st) H else none := rn_pc rfl rfl
set_option maxRecDepth 20000 in
theorem e_L_law_1231 : rn Ls xs d 0 1231 [some (.inr u), l1, l2, l3] st H = rn Ls xs d 0 1232 [some (.inr u), l1, l2, l3] (.inr u :: st) H := rn_nx rfl rfl
set_option maxRecDepth 20000 in
theorem e_L_law_1232 : rn Ls xs d 0 1232 [l0, l1, l2, some (.inl x)] st H = rn Ls xs d 0 1233 [l0, l1, l2, some (.inl x)] (.inl x :: st) H := rn_nx rfl rfl
set_option maxRecDepth 20000 in
theorem e_L_law_1233 : rn Ls xs d 0 1233 [l0, l1, l2, l3]  st H = rn Ls xs d 0 1234 [l0, l1, l2, l3] (.inl 2 :: st) H := rn_nx rfl rfl
set_option maxRecDepth 20000 in
theorem e_L_law_1234 : rn Ls xs d 0 1234 [l0, l1, l2, l3] (.inl y :: .inl x :: st) H = rn Ls xs d 0 1235 [l0, l1, l2, l3] (.inl (x + y) :: st) H := rn_nx rfl rfl
set_option maxRecDepth 20000 in
theorem e_L_law_1235 : rn Ls xs d 0 1235 [l0, l1, l2, l3] (.inl i :: .inr (.inr 0) :: st) H = if 0 ≤ i.toInt ∧ i.toInt < (Ls : Int) then rn Ls xs d 0 1236 [l0, l1, l2, l3] (.inl (xs i.toNatClampNeg) :: st) H else none := rn_pc rfl rfl
set_option maxRecDepth 20000 in
theorem e_L_law_1236 : rn Ls xs d 0 1236 [some (.inr u), l1, l2, l3] st H = rn Ls xs d 0 1237 [some (.inr u), l1, l2, l3] (.inr u :: st) H := rn_nx rfl rfl
set_option maxRecDepth 20000 in
theorem e_L_law_1237 : rn Ls xs d 0 1237 [l0, l1, l2, some (.inl x)] st H = rn Ls xs d 0 1238 [l0, l1, l2, some (.inl x)] (.inl x :: st) H := rn_nx rfl rfl
set_option maxRecDepth 20000 in
theorem e_L_law_1238 : rn Ls xs d 0 1238 [l0, l1, l2, l3]  st H = rn Ls xs d 0 1239 [l0, l1, l2, l3] (.inl 3 :: st) H := rn_nx rfl rfl
set_option maxRecDepth 20000 in
theorem e_L_law_1239 : rn Ls xs d 0 1239 [l0, l1, l2, l3] (.inl y :: .inl x :: st) H = rn Ls xs d 0 1240 [l0, l1, l2, l3] (.inl (x + y) :: st) H := rn_nx rfl rfl
set_option maxRecDepth 20000 in
theorem e_L_law_1240 : rn Ls xs d 0 1240 [l0, l1, l2, l3] (.inl i :: .inr (.inr 0) :: st) H = if 0 ≤ i.toInt ∧ i.toInt < (Ls : Int) then rn Ls xs d 0 1241 [l0, l1, l2, l3] (.inl (xs i.toNatClampNeg) :: st) H else none := rn_pc rfl rfl
set_option maxRecDepth 20000 in
theorem e_L_law_1241 : rn Ls xs (d + 1) 0 1241 [l0, l1, l2, l3] [v3, v2, v1, (.inr (.inl (some a)))] (S, I, R) = if h_is S a 8 10 then rb Ls xs (d + 1) 0 1244 [l0, l1, l2, l3] [] (rn Ls xs d 69 0 [some (.inr (.inl (some a))), some v1, some v2, some v3, none, none] [] (S, I, R)) else none := rn_callO rfl rfl (Nat.le_of_ble_eq_true rfl) rfl rfl
set_option maxRecDepth 20000 in
theorem e_L_law_1244 : rn Ls xs d 0 1244 [l0, l1, some (.inr u), l3] st H = rn Ls xs d 0 1245 [l0, l1, some (.inr u), l3] (.inr u :: st) H := rn_nx rfl rfl
set_option maxRecDepth 20000 in
theorem e_L_law_1245 : rn Ls xs d 0 1245 [some (.inr u), l1, l2, l3] st H = rn Ls xs d 0 1246 [some (.inr u), l1, l2, l3] (.inr u :: st) H := rn_nx rfl rfl
set_option maxRecDepth 20000 in
theorem e_L_law_1246 : rn Ls xs d 0 1246 [l0, l1, l2, some (.inl x)] st H = rn Ls xs d 0 1247 [l0, l1, l2, some (.inl x)] (.inl x :: st) H := rn_nx rfl rfl
set_option maxRecDepth 20000 in
theorem e_L_law_1247 : rn Ls xs d 0 1247 [l0, l1, l2, l3]  st H = rn Ls xs d 0 1248 [l0, l1, l2, l3] (.inl 1 :: st) H := rn_nx rfl rfl
set_option maxRecDepth 20000 in
theorem e_L_law_1248 : rn Ls xs d 0 1248 [l0, l1, l2, l3] (.inl y :: .inl x :: st) H = rn Ls xs d 0 1249 [l0, l1, l2, l3] (.inl (x + y) :: st) H := rn_nx rfl rfl
set_option maxRecDepth 20000 in
theorem e_L_law_1249 : rn Ls xs d 0 1249 [l0, l1, l2, l3] (.inl i :: .inr (.inr 0) :: st) H = if 0 ≤ i.toInt ∧ i.toInt < (Ls : Int) then rn Ls xs d 0 1250 [l0, l1, l2, l3] (.inl (xs i.toNatClampNeg) :: st) H else none := rn_pc rfl rfl
set_option maxRecDepth 20000 in
theorem e_L_law_1250 : rn Ls xs d 0 1250 [some (.inr u), l1, l2, l3] st H = rn Ls xs d 0 1251 [some (.inr u), l1, l2, l3] (.inr u :: st) H := rn_nx rfl rfl
set_option maxRecDepth 20000 in
theorem e_L_law_1251 : rn Ls xs d 0 1251 [l0, l1, l2, some (.inl x)] st H = rn Ls xs d 0 1252 [l0, l1, l2, some (.inl x)] (.inl x :: st) H := rn_nx rfl rfl
set_option maxRecDepth 20000 in
theorem e_L_law_1252 : rn Ls xs d 0 1252 [l0, l1, l2, l3]  st H = rn Ls xs d 0 1253 [l0, l1, l2, l3] (.inl 2 :: st) H := rn_nx rfl rfl
set_option maxRecDepth 20000 in
theorem e_L_law_1253 : rn Ls xs d 0 1253 [l0, l1, l2, l3] (.inl y :: .inl x :: st) H = rn Ls xs d 0 1254 [l0, l1, l2, l3] (.inl (x + y) :: st) H := rn_nx rfl rfl
set_option maxRecDepth 20000 in
theorem e_L_law_1254 : rn Ls xs d 0 1254 [l0, l1, l2, l3] (.inl i :: .inr (.inr 0) :: st) H = if 0 ≤ i.toInt ∧ i.toInt < (Ls : Int) then rn Ls xs d 0 1255 [l0, l1, l2, l3] (.inl (xs i.toNatClampNeg) :: st) H else none := rn_pc rfl rfl
set_option maxRecDepth 20000 in
theorem e_L_law_1255 : rn Ls xs d 0 1255 [some (.inr u), l1, l2, l3] st H = rn Ls xs d 0 1256 [some (.inr u), l1, l2, l3] (.inr u :: st) H := rn_nx rfl rfl
set_option maxRecDepth 20000 in
theorem e_L_law_1256 : rn Ls xs d 0 1256 [l0, l1, l2, some (.inl x)] st H = rn Ls xs d 0 1257 [l0, l1, l2, some (.inl x)] (.inl x :: st) H := rn_nx rfl rfl
set_option maxRecDepth 20000 in
theorem e_L_law_1257 : rn Ls xs d 0 1257 [l0, l1, l2, l3]  st H = rn Ls xs d 0 1258 [l0, l1, l2, l3] (.inl 3 :: st) H := rn_nx rfl rfl
set_option maxRecDepth 20000 in
theorem e_L_law_1258 : rn Ls xs d 0 1258 [l0, l1, l2, l3] (.inl y :: .inl x :: st) H = rn Ls xs d 0 1259 [l0, l1, l2, l3] (.inl (x + y) :: st) H := rn_nx rfl rfl
set_option maxRecDepth 20000 in
theorem e_L_law_1259 : rn Ls xs d 0 1259 [l0, l1, l2, l3] (.inl i :: .inr (.inr 0) :: st) H = if 0 ≤ i.toInt ∧ i.toInt < (Ls : Int) then rn Ls xs d 0 1260 [l0, l1, l2, l3] (.inl (xs i.toNatClampNeg) :: st) H else none := rn_pc rfl rfl
set_option maxRecDepth 20000 in
theorem e_L_law_1260 : rn Ls xs (d + 1) 0 1260 [l0, l1, l2, l3] [v3, v2, v1, (.inr (.inl (some a))), v4] (S, I, R) = if h_is S a 9 36 then rb Ls xs (d + 1) 0 1263 [l0, l1, l2, l3] [v4] (rn Ls xs d 70 0 [some (.inr (.inl (some a))), some v1, some v2, some v3, none, none] [] (S, I, R)) else none := rn_callO rfl rfl (Nat.le_of_ble_eq_true rfl) rfl rfl
set_option maxRecDepth 20000 in
theorem e_L_law_1263 : rn Ls xs d 0 1263 [l0, l1, l2, l3] (.inl y :: .inl x :: st) H = if x = y then rn Ls xs d 0 1462 [l0, l1, l2, l3] st H else rn Ls xs d 0 1266 [l0, l1, l2, l3] st H := rn_cmp (p := fun x y => x = y) rfl
set_option maxRecDepth 20000 in
theorem e_L_law_1266 : rn Ls xs d 0 1266 [l0, l1, l2, l3]  st H = rn Ls xs d 0 1267 [l0, l1, l2, l3] (.inl 0 :: st) H := rn_nx rfl rfl
set_option maxRecDepth 20000 in
theorem e_L_law_1267 : rn Ls xs d 0 1267 [l0, l1, l2, l3] [.inl x] H = if h_bo x then some (some (.inl x), H) else none := rn_zret rfl
set_option maxRecDepth 20000 in
theorem e_L_law_1268 : rn Ls xs d 0 1268 [l0, some (.inr u), l2, l3] st H = rn Ls xs d 0 1269 [l0, some (.inr u), l2, l3] (.inr u :: st) H := rn_nx rfl rfl
set_option maxRecDepth 20000 in
theorem e_L_law_1269 : rn Ls xs d 0 1269 [some (.inr u), l1, l2, l3] st H = rn Ls xs d 0 1270 [some (.inr u), l1, l2, l3] (.inr u :: st) H := rn_nx rfl rfl
set_option maxRecDepth 20000 in
theorem e_L_law_1270 : rn Ls xs d 0 1270 [l0, l1, l2, some (.inl x)] st H = rn Ls xs d 0 1271 [l0, l1, l2, some (.inl x)] (.inl x :: st) H := rn_nx rfl rfl
set_option maxRecDepth 20000 in
theorem e_L_law_1271 : rn Ls xs d 0 1271 [l0, l1, l2, l3]  st H = rn Ls xs d 0 1272 [l0, l1, l2, l3] (.inl 1 :: st) H := rn_nx rfl rfl
set_option maxRecDepth 20000 in
theorem e_L_law_1272 : rn Ls xs d 0 1272 [l0, l1, l2, l3] (.inl y :: .inl x :: st) H = rn Ls xs d 0 1273 [l0, l1, l2, l3] (.inl (x + y) :: st) H := rn_nx rfl rfl
set_option maxRecDepth 20000 in
theorem e_L_law_1273 : rn Ls xs d 0 1273 [l0, l1, l2, l3] (.inl i :: .inr (.inr 0) :: st) H = if 0 ≤ i.toInt ∧ i.toInt < (Ls : Int) then rn Ls xs d 0 1274 [l0, l1, l2, l3] (.inl (xs i.toNatClampNeg) :: st) H else none := rn_pc rfl rfl
set_option maxRecDepth 20000 in
theorem e_L_law_1274 : rn Ls xs d 0 1274 [some (.inr u), l1, l2, l3] st H = rn Ls xs d 0 1275 [some (.inr u), l1, l2, l3] (.inr u :: st) H := rn_nx rfl rfl
set_option maxRecDepth 20000 in
theorem e_L_law_1275 : rn Ls xs d 0 1275 [l0, l1, l2, some (.inl x)] st H = rn Ls xs d 0 1276 [l0, l1, l2, some (.inl x)] (.inl x :: st) H := rn_nx rfl rfl
set_option maxRecDepth 20000 in
theorem e_L_law_1276 : rn Ls xs d 0 1276 [l0, l1, l2, l3]  st H = rn Ls xs d 0 1277 [l0, l1, l2, l3] (.inl 2 :: st) H := rn_nx rfl rfl
set_option maxRecDepth 20000 in
theorem e_L_law_1277 : rn Ls xs d 0 1277 [l0, l1, l2, l3] (.inl y :: .inl x :: st) H = rn Ls xs d 0 1278 [l0, l1, l2, l3] (.inl (x + y) :: st) H := rn_nx rfl rfl
set_option maxRecDepth 20000 in
theorem e_L_law_1278 : rn Ls xs d 0 1278 [l0, l1, l2, l3] (.inl i :: .inr (.inr 0) :: st) H = if 0 ≤ i.toInt ∧ i.toInt < (Ls : Int) then rn Ls xs d 0 1279 [l0, l1, l2, l3] (.inl (xs i.toNatClampNeg) :: st) H else none := rn_pc rfl rfl
set_option maxRecDepth 20000 in
theorem e_L_law_1279 : rn Ls xs (d + 1) 0 1279 [l0, l1, l2, l3] [v2, v1, (.inr (.inl (some a)))] (S, I, R) = if h_is S a 8 10 then rb Ls xs (d + 1) 0 1282 [l0, l1, l2, l3] [] (rn Ls xs d 71 0 [some (.inr (.inl (some a))), some v1, some v2, none, none] [] (S, I, R)) else none := rn_callO rfl rfl (Nat.le_of_ble_eq_true rfl) rfl rfl
set_option maxRecDepth 20000 in
theorem e_L_law_1282 : rn Ls xs d 0 1282 [l0, l1, some (.inr u), l3] st H = rn Ls xs d 0 1283 [l0, l1, some (.inr u), l3] (.inr u :: st) H := rn_nx rfl rfl
set_option maxRecDepth 20000 in
theorem e_L_law_1283 : rn Ls xs d 0 1283 [some (.inr u), l1, l2, l3] st H = rn Ls xs d 0 1284 [some (.inr u), l1, l2, l3] (.inr u :: st) H := rn_nx rfl rfl
set_option maxRecDepth 20000 in
theorem e_L_law_1284 : rn Ls xs d 0 1284 [l0, l1, l2, some (.inl x)] st H = rn Ls xs d 0 1285 [l0, l1, l2, some (.inl x)] (.inl x :: st) H := rn_nx rfl rfl
set_option maxRecDepth 20000 in
theorem e_L_law_1285 : rn Ls xs d 0 1285 [l0, l1, l2, l3]  st H = rn Ls xs d 0 1286 [l0, l1, l2, l3] (.inl 1 :: st) H := rn_nx rfl rfl
set_option maxRecDepth 20000 in
theorem e_L_law_1286 : rn Ls xs d 0 1286 [l0, l1, l2, l3] (.inl y :: .inl x :: st) H = rn Ls xs d 0 1287 [l0, l1, l2, l3] (.inl (x + y) :: st) H := rn_nx rfl rfl
set_option maxRecDepth 20000 in
theorem e_L_law_1287 : rn Ls xs d 0 1287 [l0, l1, l2, l3] (.inl i :: .inr (.inr 0) :: st) H = if 0 ≤ i.toInt ∧ i.toInt < (Ls : Int) then rn Ls xs d 0 1288 [l0, l1, l2, l3] (.inl (xs i.toNatClampNeg) :: st) H else none := rn_pc rfl rfl
set_option maxRecDepth 20000 in
theorem e_L_law_1288 : rn Ls xs d 0 1288 [some (.inr u), l1, l2, l3] st H = rn Ls xs d 0 1289 [some (.inr u), l1, l2, l3] (.inr u :: st) H := rn_nx rfl rfl
set_option maxRecDepth 20000 in
theorem e_L_law_1289 : rn Ls xs d 0 1289 [l0, l1, l2, some (.inl x)] st H = rn Ls xs d 0 1290 [l0, l1, l2, some (.inl x)] (.inl x :: st) H := rn_nx rfl rfl
set_option maxRecDepth 20000 in
theorem e_L_law_1290 : rn Ls xs d 0 1290 [l0, l1, l2, l3]  st H = rn Ls xs d 0 1291 [l0, l1, l2, l3] (.inl 2 :: st) H := rn_nx rfl rfl
set_option maxRecDepth 20000 in
theorem e_L_law_1291 : rn Ls xs d 0 1291 [l0, l1, l2, l3] (.inl y :: .inl x :: st) H = rn Ls xs d 0 1292 [l0, l1, l2, l3] (.inl (x + y) :: st) H := rn_nx rfl rfl
set_option maxRecDepth 20000 in
theorem e_L_law_1292 : rn Ls xs d 0 1292 [l0, l1, l2, l3] (.inl i :: .inr (.inr 0) :: st) H = if 0 ≤ i.toInt ∧ i.toInt < (Ls : Int) then rn Ls xs d 0 1293 [l0, l1, l2, l3] (.inl (xs i.toNatClampNeg) :: st) H else none := rn_pc rfl rfl
set_option maxRecDepth 20000 in
theorem e_L_law_1293 : rn Ls xs (d + 1) 0 1293 [l0, l1, l2, l3] [v2, v1, (.inr (.inl (some a))), v3] (S, I, R) = if h_is S a 9 36 then rb Ls xs (d + 1) 0 1296 [l0, l1, l2, l3] [v3] (rn Ls xs d 72 0 [some (.inr (.inl (some a))), some v1, some v2] [] (S, I, R)) else none := rn_callO rfl rfl (Nat.le_of_ble_eq_true rfl) rfl rfl
set_option maxRecDepth 20000 in
theorem e_L_law_1296 : rn Ls xs d 0 1296 [l0, l1, l2, l3] (.inl y :: .inl x :: st) H = if x = y then rn Ls xs d 0 1462 [l0, l1, l2, l3] st H else rn Ls xs d 0 1299 [l0, l1, l2, l3] st H := rn_cmp (p := fun x y => x = y) rfl
set_option maxRecDepth 20000 in
theorem e_L_law_1299 : rn Ls xs d 0 1299 [l0, l1, l2, l3]  st H = rn Ls xs d 0 1300 [l0, l1, l2, l3] (.inl 0 :: st) H := rn_nx rfl rfl
set_option maxRecDepth 20000 in
theorem e_L_law_1300 : rn Ls xs d 0 1300 [l0, l1, l2, l3] [.inl x] H = if h_bo x then some (some (.inl x), H) else none := rn_zret rfl
set_option maxRecDepth 20000 in
theorem e_L_law_1301 : rn Ls xs d 0 1301 [l0, some (.inr u), l2, l3] st H = rn Ls xs d 0 1302 [l0, some (.inr u), l2, l3] (.inr u :: st) H := rn_nx rfl rfl
set_option maxRecDepth 20000 in
theorem e_L_law_1302 : rn Ls xs d 0 1302 [some (.inr u), l1, l2, l3] st H = rn Ls xs d 0 1303 [some (.inr u), l1, l2, l3] (.inr u :: st) H := rn_nx rfl rfl
set_option maxRecDepth 20000 in
theorem e_L_law_1303 : rn Ls xs d 0 1303 [l0, l1, l2, some (.inl x)] st H = rn Ls xs d 0 1304 [l0, l1, l2, some (.inl x)] (.inl x :: st) H := rn_nx rfl rfl
set_option maxRecDepth 20000 in
theorem e_L_law_1304 : rn Ls xs d 0 1304 [l0, l1, l2, l3]  st H = rn Ls xs d 0 1305 [l0, l1, l2, l3] (.inl 1 :: st) H := rn_nx rfl rfl
set_option maxRecDepth 20000 in
theorem e_L_law_1305 : rn Ls xs d 0 1305 [l0, l1, l2, l3] (.inl y :: .inl x :: st) H = rn Ls xs d 0 1306 [l0, l1, l2, l3] (.inl (x + y) :: st) H := rn_nx rfl rfl
set_option maxRecDepth 20000 in
theorem e_L_law_1306 : rn Ls xs d 0 1306 [l0, l1, l2, l3] (.inl i :: .inr (.inr 0) :: st) H = if 0 ≤ i.toInt ∧ i.toInt < (Ls : Int) then rn Ls xs d 0 1307 [l0, l1, l2, l3] (.inl (xs i.toNatClampNeg) :: st) H else none := rn_pc rfl rfl
set_option maxRecDepth 20000 in
theorem e_L_law_1307 : rn Ls xs d 0 1307 [some (.inr u), l1, l2, l3] st H = rn Ls xs d 0 1308 [some (.inr u), l1, l2, l3] (.inr u :: st) H := rn_nx rfl rfl
set_option maxRecDepth 20000 in
theorem e_L_law_1308 : rn Ls xs d 0 1308 [l0, l1, l2, some (.inl x)] st H = rn Ls xs d 0 1309 [l0, l1, l2, some (.inl x)] (.inl x :: st) H := rn_nx rfl rfl
set_option maxRecDepth 20000 in
theorem e_L_law_1309 : rn Ls xs d 0 1309 [l0, l1, l2, l3]  st H = rn Ls xs d 0 1310 [l0, l1, l2, l3] (.inl 2 :: st) H := rn_nx rfl rfl
set_option maxRecDepth 20000 in
theorem e_L_law_1310 : rn Ls xs d 0 1310 [l0, l1, l2, l3] (.inl y :: .inl x :: st) H = rn Ls xs d 0 1311 [l0, l1, l2, l3] (.inl (x + y) :: st) H := rn_nx rfl rfl
set_option maxRecDepth 20000 in
theorem e_L_law_1311 : rn Ls xs d 0 1311 [l0, l1, l2, l3] (.inl i :: .inr (.inr 0) :: st) H = if 0 ≤ i.toInt ∧ i.toInt < (Ls : Int) then rn Ls xs d 0 1312 [l0, l1, l2, l3] (.inl (xs i.toNatClampNeg) :: st) H else none := rn_pc rfl rfl
set_option maxRecDepth 20000 in
theorem e_L_law_1312 : rn Ls xs (d + 1) 0 1312 [l0, l1, l2, l3] [v2, v1, (.inr (.inl (some a)))] (S, I, R) = if h_is S a 8 10 then rb Ls xs (d + 1) 0 1315 [l0, l1, l2, l3] [] (rn Ls xs d 73 0 [some (.inr (.inl (some a))), some v1, some v2, none, none] [] (S, I, R)) else none := rn_callO rfl rfl (Nat.le_of_ble_eq_true rfl) rfl rfl
set_option maxRecDepth 20000 in
theorem e_L_law_1315 : rn Ls xs d 0 1315 [l0, l1, some (.inr u), l3] st H = rn Ls xs d 0 1316 [l0, l1, some (.inr u), l3] (.inr u :: st) H := rn_nx rfl rfl
set_option maxRecDepth 20000 in
theorem e_L_law_1316 : rn Ls xs d 0 1316 [some (.inr u), l1, l2, l3] st H = rn Ls xs d 0 1317 [some (.inr u), l1, l2, l3] (.inr u :: st) H := rn_nx rfl rfl
set_option maxRecDepth 20000 in
theorem e_L_law_1317 : rn Ls xs d 0 1317 [l0, l1, l2, some (.inl x)] st H = rn Ls xs d 0 1318 [l0, l1, l2, some (.inl x)] (.inl x :: st) H := rn_nx rfl rfl
set_option maxRecDepth 20000 in
theorem e_L_law_1318 : rn Ls xs d 0 1318 [l0, l1, l2, l3]  st H = rn Ls xs d 0 1319 [l0, l1, l2, l3] (.inl 1 :: st) H := rn_nx rfl rfl
set_option maxRecDepth 20000 in
theorem e_L_law_1319 : rn Ls xs d 0 1319 [l0, l1, l2, l3] (.inl y :: .inl x :: st) H = rn Ls xs d 0 1320 [l0, l1, l2, l3] (.inl (x + y) :: st) H := rn_nx rfl rfl
set_option maxRecDepth 20000 in
theorem e_L_law_1320 : rn Ls xs d 0 1320 [l0, l1, l2, l3] (.inl i :: .inr (.inr 0) :: st) H = if 0 ≤ i.toInt ∧ i.toInt < (Ls : Int) then rn Ls xs d 0 1321 [l0, l1, l2, l3] (.inl (xs i.toNatClampNeg) :: st) H else none := rn_pc rfl rfl
set_option maxRecDepth 20000 in
theorem e_L_law_1321 : rn Ls xs d 0 1321 [some (.inr u), l1, l2, l3] st H = rn Ls xs d 0 1322 [some (.inr u), l1, l2, l3] (.inr u :: st) H := rn_nx rfl rfl
set_option maxRecDepth 20000 in
theorem e_L_law_1322 : rn Ls xs d 0 1322 [l0, l1, l2, some (.inl x)] st H = rn Ls xs d 0 1323 [l0, l1, l2, some (.inl x)] (.inl x :: st) H := rn_nx rfl rfl
set_option maxRecDepth 20000 in
theorem e_L_law_1323 : rn Ls xs d 0 1323 [l0, l1, l2, l3]  st H = rn Ls xs d 0 1324 [l0, l1, l2, l3] (.inl 2 :: st) H := rn_nx rfl rfl
set_option maxRecDepth 20000 in
theorem e_L_law_1324 : rn Ls xs d 0 1324 [l0, l1, l2, l3] (.inl y :: .inl x :: st) H = rn Ls xs d 0 1325 [l0, l1, l2, l3] (.inl (x + y) :: st) H := rn_nx rfl rfl
set_option maxRecDepth 20000 in
theorem e_L_law_1325 : rn Ls xs d 0 1325 [l0, l1, l2, l3] (.inl i :: .inr (.inr 0) :: st) H = if 0 ≤ i.toInt ∧ i.toInt < (Ls : Int) then rn Ls xs d 0 1326 [l0, l1, l2, l3] (.inl (xs i.toNatClampNeg) :: st) H else none := rn_pc rfl rfl
set_option maxRecDepth 20000 in
theorem e_L_law_1326 : rn Ls xs (d + 1) 0 1326 [l0, l1, l2, l3] [v2, v1, (.inr (.inl (some a))), v3] (S, I, R) = if h_is S a 9 36 then rb Ls xs (d + 1) 0 1329 [l0, l1, l2, l3] [v3] (rn Ls xs d 74 0 [some (.inr (.inl (some a))), some v1, some v2, none] [] (S, I, R)) else none := rn_callO rfl rfl (Nat.le_of_ble_eq_true rfl) rfl rfl
set_option maxRecDepth 20000 in
theorem e_L_law_1329 : rn Ls xs d 0 1329 [l0, l1, l2, l3] (.inl y :: .inl x :: st) H = if x = y then rn Ls xs d 0 1462 [l0, l1, l2, l3] st H else rn Ls xs d 0 1332 [l0, l1, l2, l3] st H := rn_cmp (p := fun x y => x = y) rfl
set_option maxRecDepth 20000 in
theorem e_L_law_1332 : rn Ls xs d 0 1332 [l0, l1, l2, l3]  st H = rn Ls xs d 0 1333 [l0, l1, l2, l3] (.inl 0 :: st) H := rn_nx rfl rfl
set_option maxRecDepth 20000 in
theorem e_L_law_1333 : rn Ls xs d 0 1333 [l0, l1, l2, l3] [.inl x] H = if h_bo x then some (some (.inl x), H) else none := rn_zret rfl
set_option maxRecDepth 20000 in
theorem e_L_law_1334 : rn Ls xs d 0 1334 [l0, some (.inr u), l2, l3] st H = rn Ls xs d 0 1335 [l0, some (.inr u), l2, l3] (.inr u :: st) H := rn_nx rfl rfl
set_option maxRecDepth 20000 in
theorem e_L_law_1335 : rn Ls xs d 0 1335 [some (.inr u), l1, l2, l3] st H = rn Ls xs d 0 1336 [some (.inr u), l1, l2, l3] (.inr u :: st) H := rn_nx rfl rfl
set_option maxRecDepth 20000 in
theorem e_L_law_1336 : rn Ls xs d 0 1336 [l0, l1, l2, some (.inl x)] st H = rn Ls xs d 0 1337 [l0, l1, l2, some (.inl x)] (.inl x :: st) H := rn_nx rfl rfl
set_option maxRecDepth 20000 in
theorem e_L_law_1337 : rn Ls xs d 0 1337 [l0, l1, l2, l3]  st H = rn Ls xs d 0 1338 [l0, l1, l2, l3] (.inl 1 :: st) H := rn_nx rfl rfl
set_option maxRecDepth 20000 in
theorem e_L_law_1338 : rn Ls xs d 0 1338 [l0, l1, l2, l3] (.inl y :: .inl x :: st) H = rn Ls xs d 0 1339 [l0, l1, l2, l3] (.inl (x + y) :: st) H := rn_nx rfl rfl
set_option maxRecDepth 20000 in
theorem e_L_law_1339 : rn Ls xs d 0 1339 [l0, l1, l2, l3] (.inl i :: .inr (.inr 0) :: st) H = if 0 ≤ i.toInt ∧ i.toInt < (Ls : Int) then rn Ls xs d 0 1340 [l0, l1, l2, l3] (.inl (xs i.toNatClampNeg) :: st) H else none := rn_pc rfl rfl
set_option maxRecDepth 20000 in
theorem e_L_law_1340 : rn Ls xs d 0 1340 [some (.inr u), l1, l2, l3] st H = rn Ls xs d 0 1341 [some (.inr u), l1, l2, l3] (.inr u :: st) H := rn_nx rfl rfl
set_option maxRecDepth 20000 in
theorem e_L_law_1341 : rn Ls xs d 0 1341 [l0, l1, l2, some (.inl x)] st H = rn Ls xs d 0 1342 [l0, l1, l2, some (.inl x)] (.inl x :: st) H := rn_nx rfl rfl
set_option maxRecDepth 20000 in
theorem e_L_law_1342 : rn Ls xs d 0 1342 [l0, l1, l2, l3]  st H = rn Ls xs d 0 1343 [l0, l1, l2, l3] (.inl 2 :: st) H := rn_nx rfl rfl
set_option maxRecDepth 20000 in
theorem e_L_law_1343 : rn Ls xs d 0 1343 [l0, l1, l2, l3] (.inl y :: .inl x :: st) H = rn Ls xs d 0 1344 [l0, l1, l2, l3] (.inl (x + y) :: st) H := rn_nx rfl rfl
set_option maxRecDepth 20000 in
theorem e_L_law_1344 : rn Ls xs d 0 1344 [l0, l1, l2, l3] (.inl i :: .inr (.inr 0) :: st) H = if 0 ≤ i.toInt ∧ i.toInt < (Ls : Int) then rn Ls xs d 0 1345 [l0, l1, l2, l3] (.inl (xs i.toNatClampNeg) :: st) H else none := rn_pc rfl rfl
set_option maxRecDepth 20000 in
theorem e_L_law_1345 : rn Ls xs (d + 1) 0 1345 [l0, l1, l2, l3] [v2, v1, (.inr (.inl (some a)))] (S, I, R) = if h_is S a 8 10 then rb Ls xs (d + 1) 0 1348 [l0, l1, l2, l3] [] (rn Ls xs d 75 0 [some (.inr (.inl (some a))), some v1, some v2, none] [] (S, I, R)) else none := rn_callO rfl rfl (Nat.le_of_ble_eq_true rfl) rfl rfl
set_option maxRecDepth 20000 in
theorem e_L_law_1348 : rn Ls xs d 0 1348 [l0, l1, some (.inr u), l3] st H = rn Ls xs d 0 1349 [l0, l1, some (.inr u), l3] (.inr u :: st) H := rn_nx rfl rfl
set_option maxRecDepth 20000 in
theorem e_L_law_1349 : rn Ls xs d 0 1349 [some (.inr u), l1, l2, l3] st H = rn Ls xs d 0 1350 [some (.inr u), l1, l2, l3] (.inr u :: st) H := rn_nx rfl rfl
set_option maxRecDepth 20000 in
theorem e_L_law_1350 : rn Ls xs d 0 1350 [l0, l1, l2, some (.inl x)] st H = rn Ls xs d 0 1351 [l0, l1, l2, some (.inl x)] (.inl x :: st) H := rn_nx rfl rfl
set_option maxRecDepth 20000 in
theorem e_L_law_1351 : rn Ls xs d 0 1351 [l0, l1, l2, l3]  st H = rn Ls xs d 0 1352 [l0, l1, l2, l3] (.inl 1 :: st) H := rn_nx rfl rfl
set_option maxRecDepth 20000 in
theorem e_L_law_1352 : rn Ls xs d 0 1352 [l0, l1, l2, l3] (.inl y :: .inl x :: st) H = rn Ls xs d 0 1353 [l0, l1, l2, l3] (.inl (x + y) :: st) H := rn_nx rfl rfl
set_option maxRecDepth 20000 in
theorem e_L_law_1353 : rn Ls xs d 0 1353 [l0, l1, l2, l3] (.inl i :: .inr (.inr 0) :: st) H = if 0 ≤ i.toInt ∧ i.toInt < (Ls : Int) then rn Ls xs d 0 1354 [l0, l1, l2, l3] (.inl (xs i.toNatClampNeg) :: st) H else none := rn_pc rfl rfl
set_option maxRecDepth 20000 in
theorem e_L_law_1354 : rn Ls xs d 0 1354 [some (.inr u), l1, l2, l3] st H = rn Ls xs d 0 1355 [some (.inr u), l1, l2, l3] (.inr u :: st) H := rn_nx rfl rfl
set_option maxRecDepth 20000 in
theorem e_L_law_1355 : rn Ls xs d 0 1355 [l0, l1, l2, some (.inl x)] st H = rn Ls xs d 0 1356 [l0, l1, l2, some (.inl x)] (.inl x :: st) H := rn_nx rfl rfl
set_option maxRecDepth 20000 in
theorem e_L_law_1356 : rn Ls xs d 0 1356 [l0, l1, l2, l3]  st H = rn Ls xs d 0 1357 [l0, l1, l2, l3] (.inl 2 :: st) H := rn_nx rfl rfl
set_option maxRecDepth 20000 in
theorem e_L_law_1357 : rn Ls xs d 0 1357 [l0, l1, l2, l3] (.inl y :: .inl x :: st) H = rn Ls xs d 0 1358 [l0, l1, l2, l3] (.inl (x + y) :: st) H := rn_nx rfl rfl
set_option maxRecDepth 20000 in
theorem e_L_law_1358 : rn Ls xs d 0 1358 [l0, l1, l2, l3] (.inl i :: .inr (.inr 0) :: st) H = if 0 ≤ i.toInt ∧ i.toInt < (Ls : Int) then rn Ls xs d 0 1359 [l0, l1, l2, l3] (.inl (xs i.toNatClampNeg) :: st) H else none := rn_pc rfl rfl
set_option maxRecDepth 20000 in
theorem e_L_law_1359 : rn Ls xs (d + 1) 0 1359 [l0, l1, l2, l3] [v2, v1, (.inr (.inl (some a))), v3] (S, I, R) = if h_is S a 9 36 then rb Ls xs (d + 1) 0 1362 [l0, l1, l2, l3] [v3] (rn Ls xs d 76 0 [some (.inr (.inl (some a))), some v1, some v2] [] (S, I, R)) else none := rn_callO rfl rfl (Nat.le_of_ble_eq_true rfl) rfl rfl
set_option maxRecDepth 20000 in
theorem e_L_law_1362 : rn Ls xs d 0 1362 [l0, l1, l2, l3] (.inl y :: .inl x :: st) H = if x = y then rn Ls xs d 0 1462 [l0, l1, l2, l3] st H else rn Ls xs d 0 1365 [l0, l1, l2, l3] st H := rn_cmp (p := fun x y => x = y) rfl
set_option maxRecDepth 20000 in
theorem e_L_law_1365 : rn Ls xs d 0 1365 [l0, l1, l2, l3]  st H = rn Ls xs d 0 1366 [l0, l1, l2, l3] (.inl 0 :: st) H := rn_nx rfl rfl
set_option maxRecDepth 20000 in
theorem e_L_law_1366 : rn Ls xs d 0 1366 [l0, l1, l2, l3] [.inl x] H = if h_bo x then some (some (.inl x), H) else none := rn_zret rfl
set_option maxRecDepth 20000 in
theorem e_L_law_1367 : rn Ls xs d 0 1367 [l0, some (.inr u), l2, l3] st H = rn Ls xs d 0 1368 [l0, some (.inr u), l2, l3] (.inr u :: st) H := rn_nx rfl rfl
set_option maxRecDepth 20000 in
theorem e_L_law_1368 : rn Ls xs d 0 1368 [some (.inr u), l1, l2, l3] st H = rn Ls xs d 0 1369 [some (.inr u), l1, l2, l3] (.inr u :: st) H := rn_nx rfl rfl
set_option maxRecDepth 20000 in
theorem e_L_law_1369 : rn Ls xs d 0 1369 [l0, l1, l2, some (.inl x)] st H = rn Ls xs d 0 1370 [l0, l1, l2, some (.inl x)] (.inl x :: st) H := rn_nx rfl rfl
set_option maxRecDepth 20000 in
theorem e_L_law_1370 : rn Ls xs d 0 1370 [l0, l1, l2, l3]  st H = rn Ls xs d 0 1371 [l0, l1, l2, l3] (.inl 1 :: st) H := rn_nx rfl rfl
set_option maxRecDepth 20000 in
theorem e_L_law_1371 : rn Ls xs d 0 1371 [l0, l1, l2, l3] (.inl y :: .inl x :: st) H = rn Ls xs d 0 1372 [l0, l1, l2, l3] (.inl (x + y) :: st) H := rn_nx rfl rfl
set_option maxRecDepth 20000 in
theorem e_L_law_1372 : rn Ls xs d 0 1372 [l0, l1, l2, l3] (.inl i :: .inr (.inr 0) :: st) H = if 0 ≤ i.toInt ∧ i.toInt < (Ls : Int) then rn Ls xs d 0 1373 [l0, l1, l2, l3] (.inl (xs i.toNatClampNeg) :: st) H else none := rn_pc rfl rfl
set_option maxRecDepth 20000 in
theorem e_L_law_1373 : rn Ls xs (d + 1) 0 1373 [l0, l1, l2, l3] [v1, (.inr (.inl (some a)))] (S, I, R) = if h_is S a 8 10 then rb Ls xs (d + 1) 0 1376 [l0, l1, l2, l3] [] (rn Ls xs d 77 0 [some (.inr (.inl (some a))), some v1] [] (S, I, R)) else none := rn_callO rfl rfl (Nat.le_of_ble_eq_true rfl) rfl rfl
set_option maxRecDepth 20000 in
theorem e_L_law_1376 : rn Ls xs d 0 1376 [l0, l1, some (.inr u), l3] st H = rn Ls xs d 0 1377 [l0, l1, some (.inr u), l3] (.inr u :: st) H := rn_nx rfl rfl
set_option maxRecDepth 20000 in
theorem e_L_law_1377 : rn Ls xs d 0 1377 [some (.inr u), l1, l2, l3] st H = rn Ls xs d 0 1378 [some (.inr u), l1, l2, l3] (.inr u :: st) H := rn_nx rfl rfl
set_option maxRecDepth 20000 in
theorem e_L_law_1378 : rn Ls xs d 0 1378 [l0, l1, l2, some (.inl x)] st H = rn Ls xs d 0 1379 [l0, l1, l2, some (.inl x)] (.inl x :: st) H := rn_nx rfl rfl
set_option maxRecDepth 20000 in
theorem e_L_law_1379 : rn Ls xs d 0 1379 [l0, l1, l2, l3]  st H = rn Ls xs d 0 1380 [l0, l1, l2, l3] (.inl 1 :: st) H := rn_nx rfl rfl
set_option maxRecDepth 20000 in
theorem e_L_law_1380 : rn Ls xs d 0 1380 [l0, l1, l2, l3] (.inl y :: .inl x :: st) H = rn Ls xs d 0 1381 [l0, l1, l2, l3] (.inl (x + y) :: st) H := rn_nx rfl rfl
set_option maxRecDepth 20000 in
theorem e_L_law_1381 : rn Ls xs d 0 1381 [l0, l1, l2, l3] (.inl i :: .inr (.inr 0) :: st) H = if 0 ≤ i.toInt ∧ i.toInt < (Ls : Int) then rn Ls xs d 0 1382 [l0, l1, l2, l3] (.inl (xs i.toNatClampNeg) :: st) H else none := rn_pc rfl rfl
set_option maxRecDepth 20000 in
theorem e_L_law_1382 : rn Ls xs (d + 1) 0 1382 [l0, l1, l2, l3] [v1, (.inr (.inl (some a))), v2] (S, I, R) = if h_is S a 9 36 then rb Ls xs (d + 1) 0 1385 [l0, l1, l2, l3] [v2] (rn Ls xs d 78 0 [some (.inr (.inl (some a))), some v1] [] (S, I, R)) else none := rn_callO rfl rfl (Nat.le_of_ble_eq_true rfl) rfl rfl
set_option maxRecDepth 20000 in
theorem e_L_law_1385 : rn Ls xs d 0 1385 [l0, l1, l2, l3] (.inl y :: .inl x :: st) H = if x = y then rn Ls xs d 0 1462 [l0, l1, l2, l3] st H else rn Ls xs d 0 1388 [l0, l1, l2, l3] st H := rn_cmp (p := fun x y => x = y) rfl
set_option maxRecDepth 20000 in
theorem e_L_law_1388 : rn Ls xs d 0 1388 [l0, l1, l2, l3]  st H = rn Ls xs d 0 1389 [l0, l1, l2, l3] (.inl 0 :: st) H := rn_nx rfl rfl
set_option maxRecDepth 20000 in
theorem e_L_law_1389 : rn Ls xs d 0 1389 [l0, l1, l2, l3] [.inl x] H = if h_bo x then some (some (.inl x), H) else none := rn_zret rfl
set_option maxRecDepth 20000 in
theorem e_L_law_1390 : rn Ls xs d 0 1390 [l0, some (.inr u), l2, l3] st H = rn Ls xs d 0 1391 [l0, some (.inr u), l2, l3] (.inr u :: st) H := rn_nx rfl rfl
set_option maxRecDepth 20000 in
theorem e_L_law_1391 : rn Ls xs d 0 1391 [some (.inr u), l1, l2, l3] st H = rn Ls xs d 0 1392 [some (.inr u), l1, l2, l3] (.inr u :: st) H := rn_nx rfl rfl
set_option maxRecDepth 20000 in
theorem e_L_law_1392 : rn Ls xs d 0 1392 [l0, l1, l2, some (.inl x)] st H = rn Ls xs d 0 1393 [l0, l1, l2, some (.inl x)] (.inl x :: st) H := rn_nx rfl rfl
set_option maxRecDepth 20000 in
theorem e_L_law_1393 : rn Ls xs d 0 1393 [l0, l1, l2, l3]  st H = rn Ls xs d 0 1394 [l0, l1, l2, l3] (.inl 1 :: st) H := rn_nx rfl rfl
set_option maxRecDepth 20000 in
theorem e_L_law_1394 : rn Ls xs d 0 1394 [l0, l1, l2, l3] (.inl y :: .inl x :: st) H = rn Ls xs d 0 1395 [l0, l1, l2, l3] (.inl (x + y) :: st) H := rn_nx rfl rfl
set_option maxRecDepth 20000 in
theorem e_L_law_1395 : rn Ls xs d 0 1395 [l0, l1, l2, l3] (.inl i :: .inr (.inr 0) :: st) H = if 0 ≤ i.toInt ∧ i.toInt < (Ls : Int) then rn Ls xs d 0 1396 [l0, l1, l2, l3] (.inl (xs i.toNatClampNeg) :: st) H else none := rn_pc rfl rfl
set_option maxRecDepth 20000 in
theorem e_L_law_1396 : rn Ls xs (d + 1) 0 1396 [l0, l1, l2, l3] [v1, (.inr (.inl (some a)))] (S, I, R) = if h_is S a 8 10 then rb Ls xs (d + 1) 0 1399 [l0, l1, l2, l3] [] (rn Ls xs d 79 0 [some (.inr (.inl (some a))), some v1, none, none, none] [] (S, I, R)) else none := rn_callO rfl rfl (Nat.le_of_ble_eq_true rfl) rfl rfl
set_option maxRecDepth 20000 in
theorem e_L_law_1399 : rn Ls xs d 0 1399 [l0, l1, some (.inr u), l3] st H = rn Ls xs d 0 1400 [l0, l1, some (.inr u), l3] (.inr u :: st) H := rn_nx rfl rfl
set_option maxRecDepth 20000 in
theorem e_L_law_1400 : rn Ls xs d 0 1400 [some (.inr u), l1, l2, l3] st H = rn Ls xs d 0 1401 [some (.inr u), l1, l2, l3] (.inr u :: st) H := rn_nx rfl rfl
set_option maxRecDepth 20000 in
theorem e_L_law_1401 : rn Ls xs d 0 1401 [l0, l1, l2, some (.inl x)] st H = rn Ls xs d 0 1402 [l0, l1, l2, some (.inl x)] (.inl x :: st) H := rn_nx rfl rfl
set_option maxRecDepth 20000 in
theorem e_L_law_1402 : rn Ls xs d 0 1402 [l0, l1, l2, l3]  st H = rn Ls xs d 0 1403 [l0, l1, l2, l3] (.inl 1 :: st) H := rn_nx rfl rfl
set_option maxRecDepth 20000 in
theorem e_L_law_1403 : rn Ls xs d 0 1403 [l0, l1, l2, l3] (.inl y :: .inl x :: st) H = rn Ls xs d 0 1404 [l0, l1, l2, l3] (.inl (x + y) :: st) H := rn_nx rfl rfl
set_option maxRecDepth 20000 in
theorem e_L_law_1404 : rn Ls xs d 0 1404 [l0, l1, l2, l3] (.inl i :: .inr (.inr 0) :: st) H = if 0 ≤ i.toInt ∧ i.toInt < (Ls : Int) then rn Ls xs d 0 1405 [l0, l1, l2, l3] (.inl (xs i.toNatClampNeg) :: st) H else none := rn_pc rfl rfl
set_option maxRecDepth 20000 in
theorem e_L_law_1405 : rn Ls xs (d + 1) 0 1405 [l0, l1, l2, l3] [v1, (.inr (.inl (some a))), v2] (S, I, R) = if h_is S a 9 36 then rb Ls xs (d + 1) 0 1408 [l0, l1, l2, l3] [v2] (rn Ls xs d 80 0 [some (.inr (.inl (some a))), some v1, none, none, none, none] [] (S, I, R)) else none := rn_callO rfl rfl (Nat.le_of_ble_eq_true rfl) rfl rfl
set_option maxRecDepth 20000 in
theorem e_L_law_1408 : rn Ls xs d 0 1408 [l0, l1, l2, l3] (.inl y :: .inl x :: st) H = if x = y then rn Ls xs d 0 1462 [l0, l1, l2, l3] st H else rn Ls xs d 0 1411 [l0, l1, l2, l3] st H := rn_cmp (p := fun x y => x = y) rfl
set_option maxRecDepth 20000 in
theorem e_L_law_1411 : rn Ls xs d 0 1411 [l0, l1, l2, l3]  st H = rn Ls xs d 0 1412 [l0, l1, l2, l3] (.inl 0 :: st) H := rn_nx rfl rfl
set_option maxRecDepth 20000 in
theorem e_L_law_1412 : rn Ls xs d 0 1412 [l0, l1, l2, l3] [.inl x] H = if h_bo x then some (some (.inl x), H) else none := rn_zret rfl
set_option maxRecDepth 20000 in
theorem e_L_law_1413 : rn Ls xs d 0 1413 [l0, some (.inr u), l2, l3] st H = rn Ls xs d 0 1414 [l0, some (.inr u), l2, l3] (.inr u :: st) H := rn_nx rfl rfl
set_option maxRecDepth 20000 in
theorem e_L_law_1414 : rn Ls xs (d + 1) 0 1414 [l0, l1, l2, l3] [(.inr (.inl (some a)))] (S, I, R) = if h_is S a 8 10 then rb Ls xs (d + 1) 0 1417 [l0, l1, l2, l3] [] (rn Ls xs d 81 0 [some (.inr (.inl (some a)))] [] (S, I, R)) else none := rn_callO rfl rfl (Nat.le_of_ble_eq_true rfl) rfl rfl
set_option maxRecDepth 20000 in
theorem e_L_law_1417 : rn Ls xs d 0 1417 [l0, l1, some (.inr u), l3] st H = rn Ls xs d 0 1418 [l0, l1, some (.inr u), l3] (.inr u :: st) H := rn_nx rfl rfl
set_option maxRecDepth 20000 in
theorem e_L_law_1418 : rn Ls xs (d + 1) 0 1418 [l0, l1, l2, l3] [(.inr (.inl (some a))), v1] (S, I, R) = if h_is S a 9 36 then rb Ls xs (d + 1) 0 1421 [l0, l1, l2, l3] [v1] (rn Ls xs d 82 0 [some (.inr (.inl (some a)))] [] (S, I, R)) else none := rn_callO rfl rfl (Nat.le_of_ble_eq_true rfl) rfl rfl
set_option maxRecDepth 20000 in
theorem e_L_law_1421 : rn Ls xs d 0 1421 [l0, l1, l2, l3] (.inl y :: .inl x :: st) H = if x = y then rn Ls xs d 0 1462 [l0, l1, l2, l3] st H else rn Ls xs d 0 1424 [l0, l1, l2, l3] st H := rn_cmp (p := fun x y => x = y) rfl
set_option maxRecDepth 20000 in
theorem e_L_law_1424 : rn Ls xs d 0 1424 [l0, l1, l2, l3]  st H = rn Ls xs d 0 1425 [l0, l1, l2, l3] (.inl 0 :: st) H := rn_nx rfl rfl
set_option maxRecDepth 20000 in
theorem e_L_law_1425 : rn Ls xs d 0 1425 [l0, l1, l2, l3] [.inl x] H = if h_bo x then some (some (.inl x), H) else none := rn_zret rfl
set_option maxRecDepth 20000 in
theorem e_L_law_1426 : rn Ls xs d 0 1426 [l0, some (.inr u), l2, l3] st H = rn Ls xs d 0 1427 [l0, some (.inr u), l2, l3] (.inr u :: st) H := rn_nx rfl rfl
set_option maxRecDepth 20000 in
theorem e_L_law_1427 : rn Ls xs (d + 1) 0 1427 [l0, l1, l2, l3] [(.inr (.inl (some a)))] (S, I, R) = if h_is S a 8 10 then rb Ls xs (d + 1) 0 1430 [l0, l1, l2, l3] [] (rn Ls xs d 83 0 [some (.inr (.inl (some a)))] [] (S, I, R)) else none := rn_callO rfl rfl (Nat.le_of_ble_eq_true rfl) rfl rfl
set_option maxRecDepth 20000 in
theorem e_L_law_1430 : rn Ls xs d 0 1430 [l0, l1, some (.inr u), l3] st H = rn Ls xs d 0 1431 [l0, l1, some (.inr u), l3] (.inr u :: st) H := rn_nx rfl rfl
set_option maxRecDepth 20000 in
theorem e_L_law_1431 : rn Ls xs (d + 1) 0 1431 [l0, l1, l2, l3] [(.inr (.inl (some a))), v1] (S, I, R) = if h_is S a 9 36 then rb Ls xs (d + 1) 0 1434 [l0, l1, l2, l3] [v1] (rn Ls xs d 84 0 [some (.inr (.inl (some a)))] [] (S, I, R)) else none := rn_callO rfl rfl (Nat.le_of_ble_eq_true rfl) rfl rfl
set_option maxRecDepth 20000 in
theorem e_L_law_1434 : rn Ls xs d 0 1434 [l0, l1, l2, l3] (.inl y :: .inl x :: st) H = if x = y then rn Ls xs d 0 1462 [l0, l1, l2, l3] st H else rn Ls xs d 0 1437 [l0, l1, l2, l3] st H := rn_cmp (p := fun x y => x = y) rfl
set_option maxRecDepth 20000 in
theorem e_L_law_1437 : rn Ls xs d 0 1437 [l0, l1, l2, l3]  st H = rn Ls xs d 0 1438 [l0, l1, l2, l3] (.inl 0 :: st) H := rn_nx rfl rfl
set_option maxRecDepth 20000 in
theorem e_L_law_1438 : rn Ls xs d 0 1438 [l0, l1, l2, l3] [.inl x] H = if h_bo x then some (some (.inl x), H) else none := rn_zret rfl
set_option maxRecDepth 20000 in
theorem e_L_law_1439 : rn Ls xs d 0 1439 [l0, some (.inr u), l2, l3] st H = rn Ls xs d 0 1440 [l0, some (.inr u), l2, l3] (.inr u :: st) H := rn_nx rfl rfl
set_option maxRecDepth 20000 in
theorem e_L_law_1440 : rn Ls xs d 0 1440 [some (.inr u), l1, l2, l3] st H = rn Ls xs d 0 1441 [some (.inr u), l1, l2, l3] (.inr u :: st) H := rn_nx rfl rfl
set_option maxRecDepth 20000 in
theorem e_L_law_1441 : rn Ls xs d 0 1441 [l0, l1, l2, some (.inl x)] st H = rn Ls xs d 0 1442 [l0, l1, l2, some (.inl x)] (.inl x :: st) H := rn_nx rfl rfl
set_option maxRecDepth 20000 in
theorem e_L_law_1442 : rn Ls xs d 0 1442 [l0, l1, l2, l3]  st H = rn Ls xs d 0 1443 [l0, l1, l2, l3] (.inl 1 :: st) H := rn_nx rfl rfl
set_option maxRecDepth 20000 in
theorem e_L_law_1443 : rn Ls xs d 0 1443 [l0, l1, l2, l3] (.inl y :: .inl x :: st) H = rn Ls xs d 0 1444 [l0, l1, l2, l3] (.inl (x + y) :: st) H := rn_nx rfl rfl
set_option maxRecDepth 20000 in
theorem e_L_law_1444 : rn Ls xs d 0 1444 [l0, l1, l2, l3] (.inl i :: .inr (.inr 0) :: st) H = if 0 ≤ i.toInt ∧ i.toInt < (Ls : Int) then rn Ls xs d 0 1445 [l0, l1, l2, l3] (.inl (xs i.toNatClampNeg) :: st) H else none := rn_pc rfl rfl
set_option maxRecDepth 20000 in
theorem e_L_law_1445 : rn Ls xs (d + 1) 0 1445 [l0, l1, l2, l3] [v1, (.inr (.inl (some a)))] (S, I, R) = if h_is S a 8 10 then rb Ls xs (d + 1) 0 1448 [l0, l1, l2, l3] [] (rn Ls xs d 85 0 [some (.inr (.inl (some a))), some v1] [] (S, I, R)) else none := rn_callO rfl rfl (Nat.le_of_ble_eq_true rfl) rfl rfl
set_option maxRecDepth 20000 in
theorem e_L_law_1448 : rn Ls xs d 0 1448 [l0, l1, some (.inr u), l3] st H = rn Ls xs d 0 1449 [l0, l1, some (.inr u), l3] (.inr u :: st) H := rn_nx rfl rfl
set_option maxRecDepth 20000 in
theorem e_L_law_1449 : rn Ls xs d 0 1449 [some (.inr u), l1, l2, l3] st H = rn Ls xs d 0 1450 [some (.inr u), l1, l2, l3] (.inr u :: st) H := rn_nx rfl rfl
set_option maxRecDepth 20000 in
theorem e_L_law_1450 : rn Ls xs d 0 1450 [l0, l1, l2, some (.inl x)] st H = rn Ls xs d 0 1451 [l0, l1, l2, some (.inl x)] (.inl x :: st) H := rn_nx rfl rfl
set_option maxRecDepth 20000 in
theorem e_L_law_1451 : rn Ls xs d 0 1451 [l0, l1, l2, l3]  st H = rn Ls xs d 0 1452 [l0, l1, l2, l3] (.inl 1 :: st) H := rn_nx rfl rfl
set_option maxRecDepth 20000 in
theorem e_L_law_1452 : rn Ls xs d 0 1452 [l0, l1, l2, l3] (.inl y :: .inl x :: st) H = rn Ls xs d 0 1453 [l0, l1, l2, l3] (.inl (x + y) :: st) H := rn_nx rfl rfl
set_option maxRecDepth 20000 in
theorem e_L_law_1453 : rn Ls xs d 0 1453 [l0, l1, l2, l3] (.inl i :: .inr (.inr 0) :: st) H = if 0 ≤ i.toInt ∧ i.toInt < (Ls : Int) then rn Ls xs d 0 1454 [l0, l1, l2, l3] (.inl (xs i.toNatClampNeg) :: st) H else none := rn_pc rfl rfl
set_option maxRecDepth 20000 in
theorem e_L_law_1454 : rn Ls xs (d + 1) 0 1454 [l0, l1, l2, l3] [v1, (.inr (.inl (some a))), v2] (S, I, R) = if h_is S a 9 36 then rb Ls xs (d + 1) 0 1457 [l0, l1, l2, l3] [v2] (rn Ls xs d 86 0 [some (.inr (.inl (some a))), some v1] [] (S, I, R)) else none := rn_callO rfl rfl (Nat.le_of_ble_eq_true rfl) rfl rfl
set_option maxRecDepth 20000 in
theorem e_L_law_1457 : rn Ls xs d 0 1457 [l0, l1, l2, l3] (.inl y :: .inl x :: st) H = if x = y then rn Ls xs d 0 1462 [l0, l1, l2, l3] st H else rn Ls xs d 0 1460 [l0, l1, l2, l3] st H := rn_cmp (p := fun x y => x = y) rfl
set_option maxRecDepth 20000 in
theorem e_L_law_1460 : rn Ls xs d 0 1460 [l0, l1, l2, l3]  st H = rn Ls xs d 0 1461 [l0, l1, l2, l3] (.inl 0 :: st) H := rn_nx rfl rfl
set_option maxRecDepth 20000 in
theorem e_L_law_1461 : rn Ls xs d 0 1461 [l0, l1, l2, l3] [.inl x] H = if h_bo x then some (some (.inl x), H) else none := rn_zret rfl
set_option maxRecDepth 20000 in
theorem e_L_law_1462 : rn Ls xs d 0 1462 [l0, l1, l2, some (.inl x)] st H = rn Ls xs d 0 1465 [l0, l1, l2, some (.inl (x + 6))] st H := rn_nx rfl rfl
set_option maxRecDepth 20000 in
theorem e_L_law_1465 : rn Ls xs d 0 1465 [l0, l1, l2, l3] st H = rn Ls xs d 0 18 [l0, l1, l2, l3] st H := rn_nx rfl rfl
set_option maxRecDepth 20000 in
theorem e_L_law_1468 : rn Ls xs d 0 1468 [l0, l1, l2, l3]  st H = rn Ls xs d 0 1469 [l0, l1, l2, l3] (.inl 1 :: st) H := rn_nx rfl rfl
set_option maxRecDepth 20000 in
theorem e_L_law_1469 : rn Ls xs d 0 1469 [l0, l1, l2, l3] [.inl x] H = if h_bo x then some (some (.inl x), H) else none := rn_zret rfl
end EQ
