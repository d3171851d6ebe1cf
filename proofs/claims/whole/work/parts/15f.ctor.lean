section
theorem all_ch {α : Type} {p : α → Bool} (l : List α) (n : Nat) (h1 : ((l.drop n).take 100).all p = true) (h2 : (l.drop (n + 100)).all p = true) : (l.drop n).all p = true := by
  rw [← List.take_append_drop 100 (l.drop n), List.all_append, h1, List.drop_drop, h2]; rfl
theorem tokX11_init : TOK mX11_init := TOK.of (all_ch tbX11_init 0 tkX11_init_0 (all_ch tbX11_init 100 tkX11_init_1 (all_ch tbX11_init 200 tkX11_init_2 (all_ch tbX11_init 300 tkX11_init_3 (all_ch tbX11_init 400 tkX11_init_4 (all_ch tbX11_init 500 tkX11_init_5 (all_ch tbX11_init 600 tkX11_init_6 (by decide +kernel))))))))
def c332 (b : HP) : HP := mkn 131 (mkn 130 b 11 0) 13 7
def c333 (b : HP) : HP := sR (c332 b) (u2 (kR (c332 b)) 130 1 (some 131))
def c334 (b : HP) : HP := mkn 132 (c333 b) 13 5703
def c335 (b : HP) : HP := sR (c334 b) (u2 (kR (c334 b)) 130 2 (some 132))
def c336 (b : HP) : HP := mkn 133 (c335 b) 13 11406
def c337 (b : HP) : HP := sR (c336 b) (u2 (kR (c336 b)) 130 3 (some 133))
def c338 (b : HP) : HP := mkn 134 (c337 b) 15 2
def c339 (b : HP) : HP := sR (c338 b) (u2 (kR (c338 b)) 130 4 (some 134))
def c340 (b : HP) : HP := mkn 135 (c339 b) 13 72
def c341 (b : HP) : HP := sR (c340 b) (u2 (kR (c340 b)) 130 5 (some 135))
def c342 (b : HP) : HP := mkn 136 (c341 b) 12 122
def c343 (b : HP) : HP := sA (c342 b) (u2 (kA (c342 b)) 136 0 (116 : Int32).toInt8.toInt32)
def c344 (b : HP) : HP := sA (c343 b) (u2 (kA (c343 b)) 136 1 (117 : Int32).toInt8.toInt32)
def c345 (b : HP) : HP := sA (c344 b) (u2 (kA (c344 b)) 136 2 (114 : Int32).toInt8.toInt32)
def c346 (b : HP) : HP := sA (c345 b) (u2 (kA (c345 b)) 136 3 (110 : Int32).toInt8.toInt32)
def c347 (b : HP) : HP := sA (c346 b) (u2 (kA (c346 b)) 136 4 (115 : Int32).toInt8.toInt32)
def c348 (b : HP) : HP := sA (c347 b) (u2 (kA (c347 b)) 136 5 (32 : Int32).toInt8.toInt32)
def c349 (b : HP) : HP := sA (c348 b) (u2 (kA (c348 b)) 136 6 (112 : Int32).toInt8.toInt32)
def c350 (b : HP) : HP := sA (c349 b) (u2 (kA (c349 b)) 136 7 (97 : Int32).toInt8.toInt32)
def c351 (b : HP) : HP := sA (c350 b) (u2 (kA (c350 b)) 136 8 (121 : Int32).toInt8.toInt32)
def c352 (b : HP) : HP := sA (c351 b) (u2 (kA (c351 b)) 136 9 (115 : Int32).toInt8.toInt32)
def c353 (b : HP) : HP := sA (c352 b) (u2 (kA (c352 b)) 136 10 (32 : Int32).toInt8.toInt32)
def c354 (b : HP) : HP := sA (c353 b) (u2 (kA (c353 b)) 136 11 (98 : Int32).toInt8.toInt32)
def c355 (b : HP) : HP := sA (c354 b) (u2 (kA (c354 b)) 136 12 (97 : Int32).toInt8.toInt32)
def c356 (b : HP) : HP := sA (c355 b) (u2 (kA (c355 b)) 136 13 (114 : Int32).toInt8.toInt32)
def c357 (b : HP) : HP := sA (c356 b) (u2 (kA (c356 b)) 136 14 (115 : Int32).toInt8.toInt32)
def c358 (b : HP) : HP := sA (c357 b) (u2 (kA (c357 b)) 136 15 (32 : Int32).toInt8.toInt32)
def c359 (b : HP) : HP := sA (c358 b) (u2 (kA (c358 b)) 136 16 (105 : Int32).toInt8.toInt32)
def c360 (b : HP) : HP := sA (c359 b) (u2 (kA (c359 b)) 136 17 (102 : Int32).toInt8.toInt32)
def c361 (b : HP) : HP := sA (c360 b) (u2 (kA (c360 b)) 136 18 (32 : Int32).toInt8.toInt32)
def c362 (b : HP) : HP := sA (c361 b) (u2 (kA (c361 b)) 136 19 (111 : Int32).toInt8.toInt32)
def c363 (b : HP) : HP := sA (c362 b) (u2 (kA (c362 b)) 136 20 (114 : Int32).toInt8.toInt32)
def c364 (b : HP) : HP := sA (c363 b) (u2 (kA (c363 b)) 136 21 (32 : Int32).toInt8.toInt32)
def c365 (b : HP) : HP := sA (c364 b) (u2 (kA (c364 b)) 136 22 (97 : Int32).toInt8.toInt32)
def c366 (b : HP) : HP := sA (c365 b) (u2 (kA (c365 b)) 136 23 (110 : Int32).toInt8.toInt32)
def c367 (b : HP) : HP := sA (c366 b) (u2 (kA (c366 b)) 136 24 (100 : Int32).toInt8.toInt32)
def c368 (b : HP) : HP := sA (c367 b) (u2 (kA (c367 b)) 136 25 (32 : Int32).toInt8.toInt32)
def c369 (b : HP) : HP := sA (c368 b) (u2 (kA (c368 b)) 136 26 (110 : Int32).toInt8.toInt32)
def c370 (b : HP) : HP := sA (c369 b) (u2 (kA (c369 b)) 136 27 (111 : Int32).toInt8.toInt32)
def c371 (b : HP) : HP := sA (c370 b) (u2 (kA (c370 b)) 136 28 (116 : Int32).toInt8.toInt32)
def c372 (b : HP) : HP := sA (c371 b) (u2 (kA (c371 b)) 136 29 (32 : Int32).toInt8.toInt32)
def c373 (b : HP) : HP := sA (c372 b) (u2 (kA (c372 b)) 136 30 (107 : Int32).toInt8.toInt32)
def c374 (b : HP) : HP := sA (c373 b) (u2 (kA (c373 b)) 136 31 (105 : Int32).toInt8.toInt32)
def c375 (b : HP) : HP := sA (c374 b) (u2 (kA (c374 b)) 136 32 (110 : Int32).toInt8.toInt32)
def c376 (b : HP) : HP := sA (c375 b) (u2 (kA (c375 b)) 136 33 (100 : Int32).toInt8.toInt32)
def c377 (b : HP) : HP := sA (c376 b) (u2 (kA (c376 b)) 136 34 (32 : Int32).toInt8.toInt32)
def c378 (b : HP) : HP := sA (c377 b) (u2 (kA (c377 b)) 136 35 (104 : Int32).toInt8.toInt32)
def c379 (b : HP) : HP := sA (c378 b) (u2 (kA (c378 b)) 136 36 (117 : Int32).toInt8.toInt32)
def c380 (b : HP) : HP := sA (c379 b) (u2 (kA (c379 b)) 136 37 (114 : Int32).toInt8.toInt32)
def c381 (b : HP) : HP := sA (c380 b) (u2 (kA (c380 b)) 136 38 (114 : Int32).toInt8.toInt32)
def c382 (b : HP) : HP := sA (c381 b) (u2 (kA (c381 b)) 136 39 (121 : Int32).toInt8.toInt32)
def c383 (b : HP) : HP := sA (c382 b) (u2 (kA (c382 b)) 136 40 (32 : Int32).toInt8.toInt32)
def c384 (b : HP) : HP := sA (c383 b) (u2 (kA (c383 b)) 136 41 (103 : Int32).toInt8.toInt32)
def c385 (b : HP) : HP := sA (c384 b) (u2 (kA (c384 b)) 136 42 (97 : Int32).toInt8.toInt32)
def c386 (b : HP) : HP := sA (c385 b) (u2 (kA (c385 b)) 136 43 (116 : Int32).toInt8.toInt32)
def c387 (b : HP) : HP := sA (c386 b) (u2 (kA (c386 b)) 136 44 (101 : Int32).toInt8.toInt32)
def c388 (b : HP) : HP := sA (c387 b) (u2 (kA (c387 b)) 136 45 (32 : Int32).toInt8.toInt32)
def c389 (b : HP) : HP := sA (c388 b) (u2 (kA (c388 b)) 136 46 (103 : Int32).toInt8.toInt32)
def c390 (b : HP) : HP := sA (c389 b) (u2 (kA (c389 b)) 136 47 (111 : Int32).toInt8.toInt32)
def c391 (b : HP) : HP := sA (c390 b) (u2 (kA (c390 b)) 136 48 (101 : Int32).toInt8.toInt32)
def c392 (b : HP) : HP := sA (c391 b) (u2 (kA (c391 b)) 136 49 (114 : Int32).toInt8.toInt32)
def c393 (b : HP) : HP := sA (c392 b) (u2 (kA (c392 b)) 136 50 (32 : Int32).toInt8.toInt32)
def c394 (b : HP) : HP := sA (c393 b) (u2 (kA (c393 b)) 136 51 (109 : Int32).toInt8.toInt32)
def c395 (b : HP) : HP := sA (c394 b) (u2 (kA (c394 b)) 136 52 (111 : Int32).toInt8.toInt32)
def c396 (b : HP) : HP := sA (c395 b) (u2 (kA (c395 b)) 136 53 (111 : Int32).toInt8.toInt32)
def c397 (b : HP) : HP := sA (c396 b) (u2 (kA (c396 b)) 136 54 (100 : Int32).toInt8.toInt32)
def c398 (b : HP) : HP := sA (c397 b) (u2 (kA (c397 b)) 136 55 (32 : Int32).toInt8.toInt32)
def c399 (b : HP) : HP := sA (c398 b) (u2 (kA (c398 b)) 136 56 (97 : Int32).toInt8.toInt32)
def c400 (b : HP) : HP := sA (c399 b) (u2 (kA (c399 b)) 136 57 (114 : Int32).toInt8.toInt32)
def c401 (b : HP) : HP := sA (c400 b) (u2 (kA (c400 b)) 136 58 (109 : Int32).toInt8.toInt32)
def c402 (b : HP) : HP := sA (c401 b) (u2 (kA (c401 b)) 136 59 (32 : Int32).toInt8.toInt32)
def c403 (b : HP) : HP := sA (c402 b) (u2 (kA (c402 b)) 136 60 (109 : Int32).toInt8.toInt32)
def c404 (b : HP) : HP := sA (c403 b) (u2 (kA (c403 b)) 136 61 (97 : Int32).toInt8.toInt32)
def c405 (b : HP) : HP := sA (c404 b) (u2 (kA (c404 b)) 136 62 (110 : Int32).toInt8.toInt32)
def c406 (b : HP) : HP := sA (c405 b) (u2 (kA (c405 b)) 136 63 (121 : Int32).toInt8.toInt32)
def c407 (b : HP) : HP := sA (c406 b) (u2 (kA (c406 b)) 136 64 (32 : Int32).toInt8.toInt32)
def c408 (b : HP) : HP := sA (c407 b) (u2 (kA (c407 b)) 136 65 (100 : Int32).toInt8.toInt32)
def c409 (b : HP) : HP := sA (c408 b) (u2 (kA (c408 b)) 136 66 (97 : Int32).toInt8.toInt32)
def c410 (b : HP) : HP := sA (c409 b) (u2 (kA (c409 b)) 136 67 (121 : Int32).toInt8.toInt32)
def c411 (b : HP) : HP := sA (c410 b) (u2 (kA (c410 b)) 136 68 (32 : Int32).toInt8.toInt32)
def c412 (b : HP) : HP := sA (c411 b) (u2 (kA (c411 b)) 136 69 (100 : Int32).toInt8.toInt32)
def c413 (b : HP) : HP := sA (c412 b) (u2 (kA (c412 b)) 136 70 (111 : Int32).toInt8.toInt32)
def c414 (b : HP) : HP := sA (c413 b) (u2 (kA (c413 b)) 136 71 (110 : Int32).toInt8.toInt32)
def c415 (b : HP) : HP := sA (c414 b) (u2 (kA (c414 b)) 136 72 (101 : Int32).toInt8.toInt32)
def c416 (b : HP) : HP := sA (c415 b) (u2 (kA (c415 b)) 136 73 (32 : Int32).toInt8.toInt32)
def c417 (b : HP) : HP := sA (c416 b) (u2 (kA (c416 b)) 136 74 (108 : Int32).toInt8.toInt32)
def c418 (b : HP) : HP := sA (c417 b) (u2 (kA (c417 b)) 136 75 (97 : Int32).toInt8.toInt32)
def c419 (b : HP) : HP := sA (c418 b) (u2 (kA (c418 b)) 136 76 (116 : Int32).toInt8.toInt32)
def c420 (b : HP) : HP := sA (c419 b) (u2 (kA (c419 b)) 136 77 (101 : Int32).toInt8.toInt32)
def c421 (b : HP) : HP := sA (c420 b) (u2 (kA (c420 b)) 136 78 (115 : Int32).toInt8.toInt32)
def c422 (b : HP) : HP := sA (c421 b) (u2 (kA (c421 b)) 136 79 (116 : Int32).toInt8.toInt32)
def c423 (b : HP) : HP := sA (c422 b) (u2 (kA (c422 b)) 136 80 (32 : Int32).toInt8.toInt32)
def c424 (b : HP) : HP := sA (c423 b) (u2 (kA (c423 b)) 136 81 (119 : Int32).toInt8.toInt32)
def c425 (b : HP) : HP := sA (c424 b) (u2 (kA (c424 b)) 136 82 (104 : Int32).toInt8.toInt32)
def c426 (b : HP) : HP := sA (c425 b) (u2 (kA (c425 b)) 136 83 (111 : Int32).toInt8.toInt32)
def c427 (b : HP) : HP := sA (c426 b) (u2 (kA (c426 b)) 136 84 (108 : Int32).toInt8.toInt32)
def c428 (b : HP) : HP := sA (c427 b) (u2 (kA (c427 b)) 136 85 (101 : Int32).toInt8.toInt32)
def c429 (b : HP) : HP := sA (c428 b) (u2 (kA (c428 b)) 136 86 (32 : Int32).toInt8.toInt32)
def c430 (b : HP) : HP := sA (c429 b) (u2 (kA (c429 b)) 136 87 (112 : Int32).toInt8.toInt32)
def c431 (b : HP) : HP := sA (c430 b) (u2 (kA (c430 b)) 136 88 (97 : Int32).toInt8.toInt32)
def c432 (b : HP) : HP := sA (c431 b) (u2 (kA (c431 b)) 136 89 (114 : Int32).toInt8.toInt32)
def c433 (b : HP) : HP := sA (c432 b) (u2 (kA (c432 b)) 136 90 (107 : Int32).toInt8.toInt32)
def c434 (b : HP) : HP := sA (c433 b) (u2 (kA (c433 b)) 136 91 (32 : Int32).toInt8.toInt32)
def c435 (b : HP) : HP := sA (c434 b) (u2 (kA (c434 b)) 136 92 (103 : Int32).toInt8.toInt32)
def c436 (b : HP) : HP := sA (c435 b) (u2 (kA (c435 b)) 136 93 (111 : Int32).toInt8.toInt32)
def c437 (b : HP) : HP := sA (c436 b) (u2 (kA (c436 b)) 136 94 (32 : Int32).toInt8.toInt32)
def c438 (b : HP) : HP := sA (c437 b) (u2 (kA (c437 b)) 136 95 (98 : Int32).toInt8.toInt32)
def c439 (b : HP) : HP := sA (c438 b) (u2 (kA (c438 b)) 136 96 (121 : Int32).toInt8.toInt32)
def c440 (b : HP) : HP := sA (c439 b) (u2 (kA (c439 b)) 136 97 (32 : Int32).toInt8.toInt32)
def c441 (b : HP) : HP := sA (c440 b) (u2 (kA (c440 b)) 136 98 (108 : Int32).toInt8.toInt32)
def c442 (b : HP) : HP := sA (c441 b) (u2 (kA (c441 b)) 136 99 (97 : Int32).toInt8.toInt32)
def c443 (b : HP) : HP := sA (c442 b) (u2 (kA (c442 b)) 136 100 (116 : Int32).toInt8.toInt32)
def c444 (b : HP) : HP := sA (c443 b) (u2 (kA (c443 b)) 136 101 (99 : Int32).toInt8.toInt32)
def c445 (b : HP) : HP := sA (c444 b) (u2 (kA (c444 b)) 136 102 (104 : Int32).toInt8.toInt32)
def c446 (b : HP) : HP := sA (c445 b) (u2 (kA (c445 b)) 136 103 (32 : Int32).toInt8.toInt32)
def c447 (b : HP) : HP := sA (c446 b) (u2 (kA (c446 b)) 136 104 (115 : Int32).toInt8.toInt32)
def c448 (b : HP) : HP := sA (c447 b) (u2 (kA (c447 b)) 136 105 (101 : Int32).toInt8.toInt32)
def c449 (b : HP) : HP := sA (c448 b) (u2 (kA (c448 b)) 136 106 (116 : Int32).toInt8.toInt32)
def c450 (b : HP) : HP := sA (c449 b) (u2 (kA (c449 b)) 136 107 (32 : Int32).toInt8.toInt32)
def c451 (b : HP) : HP := sA (c450 b) (u2 (kA (c450 b)) 136 108 (97 : Int32).toInt8.toInt32)
def c452 (b : HP) : HP := sA (c451 b) (u2 (kA (c451 b)) 136 109 (115 : Int32).toInt8.toInt32)
def c453 (b : HP) : HP := sA (c452 b) (u2 (kA (c452 b)) 136 110 (32 : Int32).toInt8.toInt32)
def c454 (b : HP) : HP := sA (c453 b) (u2 (kA (c453 b)) 136 111 (112 : Int32).toInt8.toInt32)
def c455 (b : HP) : HP := sA (c454 b) (u2 (kA (c454 b)) 136 112 (97 : Int32).toInt8.toInt32)
def c456 (b : HP) : HP := sA (c455 b) (u2 (kA (c455 b)) 136 113 (115 : Int32).toInt8.toInt32)
def c457 (b : HP) : HP := sA (c456 b) (u2 (kA (c456 b)) 136 114 (115 : Int32).toInt8.toInt32)
def c458 (b : HP) : HP := sA (c457 b) (u2 (kA (c457 b)) 136 115 (32 : Int32).toInt8.toInt32)
def c459 (b : HP) : HP := sA (c458 b) (u2 (kA (c458 b)) 136 116 (116 : Int32).toInt8.toInt32)
def c460 (b : HP) : HP := sA (c459 b) (u2 (kA (c459 b)) 136 117 (105 : Int32).toInt8.toInt32)
def c461 (b : HP) : HP := sA (c460 b) (u2 (kA (c460 b)) 136 118 (109 : Int32).toInt8.toInt32)
def c462 (b : HP) : HP := sA (c461 b) (u2 (kA (c461 b)) 136 119 (101 : Int32).toInt8.toInt32)
def c463 (b : HP) : HP := sA (c462 b) (u2 (kA (c462 b)) 136 120 (115 : Int32).toInt8.toInt32)
def c464 (b : HP) : HP := sA (c463 b) (u2 (kA (c463 b)) 136 121 (32 : Int32).toInt8.toInt32)
def c465 (b : HP) : HP := sR (c464 b) (u2 (kR (c464 b)) 130 7 (some 136))
def c466 (b : HP) : HP := mkn 137 (c465 b) 12 400
def c467 (b : HP) : HP := sR (c466 b) (u2 (kR (c466 b)) 130 11 (some 137))
def c468 (b : HP) : HP := mkn 138 (c467 b) 13 5
def c469 (b : HP) : HP := sR (c468 b) (u2 (kR (c468 b)) 130 12 (some 138))
def c470 (b : HP) : HP := sI (c469 b) (u2 (kI (c469 b)) 130 14 (-1))
def c471 (b : HP) : HP := mkn 139 (c470 b) 13 401
def c472 (b : HP) : HP := sR (c471 b) (u2 (kR (c471 b)) 130 15 (some 139))
def c473 (b : HP) : HP := mkn 140 (c472 b) 13 401
def c474 (b : HP) : HP := sR (c473 b) (u2 (kR (c473 b)) 130 16 (some 140))
def c475 (b : HP) : HP := mkn 141 (c474 b) 13 401
def c476 (b : HP) : HP := sR (c475 b) (u2 (kR (c475 b)) 130 17 (some 141))
def c477 (b : HP) : HP := mkn 142 (c476 b) 13 8
def c478 (b : HP) : HP := sR (c477 b) (u2 (kR (c477 b)) 130 26 (some 142))
def c479 (b : HP) : HP := mkn 143 (c478 b) 13 592
def c480 (b : HP) : HP := sR (c479 b) (u2 (kR (c479 b)) 130 29 (some 143))
def c481 (b : HP) : HP := mkn 144 (c480 b) 13 592
def c482 (b : HP) : HP := sR (c481 b) (u2 (kR (c481 b)) 130 30 (some 144))
def c483 (b : HP) : HP := mkn 145 (c482 b) 13 200
def c484 (b : HP) : HP := sR (c483 b) (u2 (kR (c483 b)) 130 32 (some 145))
def c485 (b : HP) : HP := mkn 146 (c484 b) 13 200
def c486 (b : HP) : HP := sR (c485 b) (u2 (kR (c485 b)) 130 33 (some 146))
def c487 (b : HP) : HP := mkn 147 (c486 b) 13 120
def c488 (b : HP) : HP := sR (c487 b) (u2 (kR (c487 b)) 130 34 (some 147))
def c489 (b : HP) : HP := mkn 148 (c488 b) 13 120
def c490 (b : HP) : HP := sR (c489 b) (u2 (kR (c489 b)) 130 35 (some 148))
def c491 (b : HP) : HP := mkn 149 (c490 b) 13 120
def c492 (b : HP) : HP := sR (c491 b) (u2 (kR (c491 b)) 130 36 (some 149))
def c493 (b : HP) : HP := mkn 150 (c492 b) 14 120
def c494 (b : HP) : HP := sR (c493 b) (u2 (kR (c493 b)) 130 37 (some 150))
def c495 (b : HP) : HP := mkn 151 (c494 b) 14 120
def c496 (b : HP) : HP := sR (c495 b) (u2 (kR (c495 b)) 130 38 (some 151))
def c497 (b : HP) : HP := mkn 152 (c496 b) 13 20
def c498 (b : HP) : HP := sR (c497 b) (u2 (kR (c497 b)) 130 39 (some 152))
def c499 (b : HP) : HP := mkn 153 (c498 b) 13 120
def c500 (b : HP) : HP := sR (c499 b) (u2 (kR (c499 b)) 130 40 (some 153))
def c501 (b : HP) : HP := mkn 154 (c500 b) 13 21
def c502 (b : HP) : HP := sR (c501 b) (u2 (kR (c501 b)) 130 41 (some 154))
def c503 (b : HP) : HP := mkn 155 (c502 b) 14 21
def c504 (b : HP) : HP := sR (c503 b) (u2 (kR (c503 b)) 130 42 (some 155))
def c505 (b : HP) : HP := sI (c504 b) (u2 (kI (c504 b)) 130 43 (-1))
def c506 (b : HP) : HP := mkn 156 (c505 b) 14 2
def c507 (b : HP) : HP := sR (c506 b) (u2 (kR (c506 b)) 130 49 (some 156))
def c508 (b : HP) : HP := mkn 157 (c507 b) 13 36
def c509 (b : HP) : HP := sR (c508 b) (u2 (kR (c508 b)) 130 50 (some 157))
def c510 (b : HP) : HP := sI (c509 b) (u2 (kI (c509 b)) 130 51 (-1))
def c511 (b : HP) : HP := sA (c510 b) (u2 (kA (c510 b)) 132 89 1)
def c512 (b : HP) : HP := sA (c511 b) (u2 (kA (c511 b)) 132 95 (-1))
set_option maxHeartbeats 8000000 in
set_option maxRecDepth 40000 in
theorem cn17 (b : HP) : Ct mX11_init 1 27 21332 [.ref 130] (mkn 130 b 11 0) (fun v h => v = none ∧ h = (c512 b)) := by
  refine Ct.of (lv := [some (.ref 130)]) rfl rfl rfl (show (_ : Nat) ≤ _ from Nat.le_of_ble_eq_true rfl) (fun G => rfl) ?_
  refine Ev.steps tokX11_init 1 (P := True) (pc' := 1) (lv' := [some (.ref 130)]) (st' := [.ref 130]) (h' := (mkn 130 b 11 0)) rfl trivial ?_
  refine ev_objInit (dcd tokX11_init rfl) lk11_22 ob_in.1 ob_in.2 (by decide) (Nat.le_of_ble_eq_true rfl) ?_
  refine Ev.steps tokX11_init 2 (P := True) (pc' := 7) (lv' := [some (.ref 130)]) (st' := [.int 7, .ref 130]) (h' := (mkn 130 b 11 0)) rfl trivial ?_
  refine ev_newaN (n0 := 131) (k := 13) (N := 7) (bc := 26) (bs := 21325) (dcd tokX11_init rfl) rfl (by decide) rfl (by decide) (by decide) (by decide) (by decide) ?_
  show Ev _ _ _ _ _ _ _ (c332 b) _
  refine Ev.steps tokX11_init 1 (P := True) (pc' := 12) (lv' := [some (.ref 130)]) (st' := []) (h' := (c333 b)) rfl trivial ?_
  refine Ev.steps tokX11_init 2 (P := True) (pc' := 16) (lv' := [some (.ref 130)]) (st' := [.int 5703, .ref 130]) (h' := (c333 b)) rfl trivial ?_
  refine ev_newaN (n0 := 132) (k := 13) (N := 5703) (bc := 25) (bs := 15622) (dcd tokX11_init rfl) rfl (by decide) rfl (by decide) (by decide) (by decide) (by decide) ?_
  show Ev _ _ _ _ _ _ _ (c334 b) _
  refine Ev.steps tokX11_init 1 (P := True) (pc' := 21) (lv' := [some (.ref 130)]) (st' := []) (h' := (c335 b)) rfl trivial ?_
  refine Ev.steps tokX11_init 2 (P := True) (pc' := 25) (lv' := [some (.ref 130)]) (st' := [.int 11406, .ref 130]) (h' := (c335 b)) rfl trivial ?_
  refine ev_newaN (n0 := 133) (k := 13) (N := 11406) (bc := 24) (bs := 4216) (dcd tokX11_init rfl) rfl (by decide) rfl (by decide) (by decide) (by decide) (by decide) ?_
  show Ev _ _ _ _ _ _ _ (c336 b) _
  refine Ev.steps tokX11_init 1 (P := True) (pc' := 30) (lv' := [some (.ref 130)]) (st' := []) (h' := (c337 b)) rfl trivial ?_
  refine Ev.steps tokX11_init 2 (P := True) (pc' := 32) (lv' := [some (.ref 130)]) (st' := [.int 2, .ref 130]) (h' := (c337 b)) rfl trivial ?_
  refine ev_newaN (n0 := 134) (k := 15) (N := 2) (bc := 23) (bs := 4214) (dcd tokX11_init rfl) rfl (by decide) rfl (by decide) (by decide) (by decide) (by decide) ?_
  show Ev _ _ _ _ _ _ _ (c338 b) _
  refine Ev.steps tokX11_init 1 (P := True) (pc' := 37) (lv' := [some (.ref 130)]) (st' := []) (h' := (c339 b)) rfl trivial ?_
  refine Ev.steps tokX11_init 2 (P := True) (pc' := 40) (lv' := [some (.ref 130)]) (st' := [.int 72, .ref 130]) (h' := (c339 b)) rfl trivial ?_
  refine ev_newaN (n0 := 135) (k := 13) (N := 72) (bc := 22) (bs := 4142) (dcd tokX11_init rfl) rfl (by decide) rfl (by decide) (by decide) (by decide) (by decide) ?_
  show Ev _ _ _ _ _ _ _ (c340 b) _
  refine Ev.steps tokX11_init 1 (P := True) (pc' := 45) (lv' := [some (.ref 130)]) (st' := []) (h' := (c341 b)) rfl trivial ?_
  refine Ev.steps tokX11_init 2 (P := True) (pc' := 48) (lv' := [some (.ref 130)]) (st' := [.int 122, .ref 130]) (h' := (c341 b)) rfl trivial ?_
  refine ev_newaN (n0 := 136) (k := 12) (N := 122) (bc := 21) (bs := 4020) (dcd tokX11_init rfl) rfl (by decide) rfl (by decide) (by decide) (by decide) (by decide) ?_
  show Ev _ _ _ _ _ _ _ (c342 b) _
  refine Ev.steps tokX11_init 4 (P := vp_in 0 122 ∧ True) (pc' := 55) (lv' := [some (.ref 130)]) (st' := [.ref 136, .ref 130]) (h' := (c343 b)) rfl ⟨(by unfold vp_in; decide), trivial⟩ ?_
  refine Ev.steps tokX11_init 4 (P := vp_in 1 122 ∧ True) (pc' := 60) (lv' := [some (.ref 130)]) (st' := [.ref 136, .ref 130]) (h' := (c344 b)) rfl ⟨(by unfold vp_in; decide), trivial⟩ ?_
  refine Ev.steps tokX11_init 4 (P := vp_in 2 122 ∧ True) (pc' := 65) (lv' := [some (.ref 130)]) (st' := [.ref 136, .ref 130]) (h' := (c345 b)) rfl ⟨(by unfold vp_in; decide), trivial⟩ ?_
  refine Ev.steps tokX11_init 4 (P := vp_in 3 122 ∧ True) (pc' := 70) (lv' := [some (.ref 130)]) (st' := [.ref 136, .ref 130]) (h' := (c346 b)) rfl ⟨(by unfold vp_in; decide), trivial⟩ ?_
  refine Ev.steps tokX11_init 4 (P := vp_in 4 122 ∧ True) (pc' := 75) (lv' := [some (.ref 130)]) (st' := [.ref 136, .ref 130]) (h' := (c347 b)) rfl ⟨(by unfold vp_in; decide), trivial⟩ ?_
  refine Ev.steps tokX11_init 4 (P := vp_in 5 122 ∧ True) (pc' := 80) (lv' := [some (.ref 130)]) (st' := [.ref 136, .ref 130]) (h' := (c348 b)) rfl ⟨(by unfold vp_in; decide), trivial⟩ ?_
  refine Ev.steps tokX11_init 4 (P := vp_in 6 122 ∧ True) (pc' := 86) (lv' := [some (.ref 130)]) (st' := [.ref 136, .ref 130]) (h' := (c349 b)) rfl ⟨(by unfold vp_in; decide), trivial⟩ ?_
  refine Ev.steps tokX11_init 4 (P := vp_in 7 122 ∧ True) (pc' := 92) (lv' := [some (.ref 130)]) (st' := [.ref 136, .ref 130]) (h' := (c350 b)) rfl ⟨(by unfold vp_in; decide), trivial⟩ ?_
  refine Ev.steps tokX11_init 4 (P := vp_in 8 122 ∧ True) (pc' := 98) (lv' := [some (.ref 130)]) (st' := [.ref 136, .ref 130]) (h' := (c351 b)) rfl ⟨(by unfold vp_in; decide), trivial⟩ ?_
  refine Ev.steps tokX11_init 4 (P := vp_in 9 122 ∧ True) (pc' := 104) (lv' := [some (.ref 130)]) (st' := [.ref 136, .ref 130]) (h' := (c352 b)) rfl ⟨(by unfold vp_in; decide), trivial⟩ ?_
  refine Ev.steps tokX11_init 4 (P := vp_in 10 122 ∧ True) (pc' := 110) (lv' := [some (.ref 130)]) (st' := [.ref 136, .ref 130]) (h' := (c353 b)) rfl ⟨(by unfold vp_in; decide), trivial⟩ ?_
  refine Ev.steps tokX11_init 4 (P := vp_in 11 122 ∧ True) (pc' := 116) (lv' := [some (.ref 130)]) (st' := [.ref 136, .ref 130]) (h' := (c354 b)) rfl ⟨(by unfold vp_in; decide), trivial⟩ ?_
  refine Ev.steps tokX11_init 4 (P := vp_in 12 122 ∧ True) (pc' := 122) (lv' := [some (.ref 130)]) (st' := [.ref 136, .ref 130]) (h' := (c355 b)) rfl ⟨(by unfold vp_in; decide), trivial⟩ ?_
  refine Ev.steps tokX11_init 4 (P := vp_in 13 122 ∧ True) (pc' := 128) (lv' := [some (.ref 130)]) (st' := [.ref 136, .ref 130]) (h' := (c356 b)) rfl ⟨(by unfold vp_in; decide), trivial⟩ ?_
  refine Ev.steps tokX11_init 4 (P := vp_in 14 122 ∧ True) (pc' := 134) (lv' := [some (.ref 130)]) (st' := [.ref 136, .ref 130]) (h' := (c357 b)) rfl ⟨(by unfold vp_in; decide), trivial⟩ ?_
  refine Ev.steps tokX11_init 4 (P := vp_in 15 122 ∧ True) (pc' := 140) (lv' := [some (.ref 130)]) (st' := [.ref 136, .ref 130]) (h' := (c358 b)) rfl ⟨(by unfold vp_in; decide), trivial⟩ ?_
  refine Ev.steps tokX11_init 4 (P := vp_in 16 122 ∧ True) (pc' := 146) (lv' := [some (.ref 130)]) (st' := [.ref 136, .ref 130]) (h' := (c359 b)) rfl ⟨(by unfold vp_in; decide), trivial⟩ ?_
  refine Ev.steps tokX11_init 4 (P := vp_in 17 122 ∧ True) (pc' := 152) (lv' := [some (.ref 130)]) (st' := [.ref 136, .ref 130]) (h' := (c360 b)) rfl ⟨(by unfold vp_in; decide), trivial⟩ ?_
  refine Ev.steps tokX11_init 4 (P := vp_in 18 122 ∧ True) (pc' := 158) (lv' := [some (.ref 130)]) (st' := [.ref 136, .ref 130]) (h' := (c361 b)) rfl ⟨(by unfold vp_in; decide), trivial⟩ ?_
  refine Ev.steps tokX11_init 4 (P := vp_in 19 122 ∧ True) (pc' := 164) (lv' := [some (.ref 130)]) (st' := [.ref 136, .ref 130]) (h' := (c362 b)) rfl ⟨(by unfold vp_in; decide), trivial⟩ ?_
  refine Ev.steps tokX11_init 4 (P := vp_in 20 122 ∧ True) (pc' := 170) (lv' := [some (.ref 130)]) (st' := [.ref 136, .ref 130]) (h' := (c363 b)) rfl ⟨(by unfold vp_in; decide), trivial⟩ ?_
  refine Ev.steps tokX11_init 4 (P := vp_in 21 122 ∧ True) (pc' := 176) (lv' := [some (.ref 130)]) (st' := [.ref 136, .ref 130]) (h' := (c364 b)) rfl ⟨(by unfold vp_in; decide), trivial⟩ ?_
  refine Ev.steps tokX11_init 4 (P := vp_in 22 122 ∧ True) (pc' := 182) (lv' := [some (.ref 130)]) (st' := [.ref 136, .ref 130]) (h' := (c365 b)) rfl ⟨(by unfold vp_in; decide), trivial⟩ ?_
  refine Ev.steps tokX11_init 4 (P := vp_in 23 122 ∧ True) (pc' := 188) (lv' := [some (.ref 130)]) (st' := [.ref 136, .ref 130]) (h' := (c366 b)) rfl ⟨(by unfold vp_in; decide), trivial⟩ ?_
  refine Ev.steps tokX11_init 4 (P := vp_in 24 122 ∧ True) (pc' := 194) (lv' := [some (.ref 130)]) (st' := [.ref 136, .ref 130]) (h' := (c367 b)) rfl ⟨(by unfold vp_in; decide), trivial⟩ ?_
  refine Ev.steps tokX11_init 4 (P := vp_in 25 122 ∧ True) (pc' := 200) (lv' := [some (.ref 130)]) (st' := [.ref 136, .ref 130]) (h' := (c368 b)) rfl ⟨(by unfold vp_in; decide), trivial⟩ ?_
  refine Ev.steps tokX11_init 4 (P := vp_in 26 122 ∧ True) (pc' := 206) (lv' := [some (.ref 130)]) (st' := [.ref 136, .ref 130]) (h' := (c369 b)) rfl ⟨(by unfold vp_in; decide), trivial⟩ ?_
  refine Ev.steps tokX11_init 4 (P := vp_in 27 122 ∧ True) (pc' := 212) (lv' := [some (.ref 130)]) (st' := [.ref 136, .ref 130]) (h' := (c370 b)) rfl ⟨(by unfold vp_in; decide), trivial⟩ ?_
  refine Ev.steps tokX11_init 4 (P := vp_in 28 122 ∧ True) (pc' := 218) (lv' := [some (.ref 130)]) (st' := [.ref 136, .ref 130]) (h' := (c371 b)) rfl ⟨(by unfold vp_in; decide), trivial⟩ ?_
  refine Ev.steps tokX11_init 4 (P := vp_in 29 122 ∧ True) (pc' := 224) (lv' := [some (.ref 130)]) (st' := [.ref 136, .ref 130]) (h' := (c372 b)) rfl ⟨(by unfold vp_in; decide), trivial⟩ ?_
  refine Ev.steps tokX11_init 4 (P := vp_in 30 122 ∧ True) (pc' := 230) (lv' := [some (.ref 130)]) (st' := [.ref 136, .ref 130]) (h' := (c373 b)) rfl ⟨(by unfold vp_in; decide), trivial⟩ ?_
  refine Ev.steps tokX11_init 4 (P := vp_in 31 122 ∧ True) (pc' := 236) (lv' := [some (.ref 130)]) (st' := [.ref 136, .ref 130]) (h' := (c374 b)) rfl ⟨(by unfold vp_in; decide), trivial⟩ ?_
  refine Ev.steps tokX11_init 4 (P := vp_in 32 122 ∧ True) (pc' := 242) (lv' := [some (.ref 130)]) (st' := [.ref 136, .ref 130]) (h' := (c375 b)) rfl ⟨(by unfold vp_in; decide), trivial⟩ ?_
  refine Ev.steps tokX11_init 4 (P := vp_in 33 122 ∧ True) (pc' := 248) (lv' := [some (.ref 130)]) (st' := [.ref 136, .ref 130]) (h' := (c376 b)) rfl ⟨(by unfold vp_in; decide), trivial⟩ ?_
  refine Ev.steps tokX11_init 4 (P := vp_in 34 122 ∧ True) (pc' := 254) (lv' := [some (.ref 130)]) (st' := [.ref 136, .ref 130]) (h' := (c377 b)) rfl ⟨(by unfold vp_in; decide), trivial⟩ ?_
  refine Ev.steps tokX11_init 4 (P := vp_in 35 122 ∧ True) (pc' := 260) (lv' := [some (.ref 130)]) (st' := [.ref 136, .ref 130]) (h' := (c378 b)) rfl ⟨(by unfold vp_in; decide), trivial⟩ ?_
  refine Ev.steps tokX11_init 4 (P := vp_in 36 122 ∧ True) (pc' := 266) (lv' := [some (.ref 130)]) (st' := [.ref 136, .ref 130]) (h' := (c379 b)) rfl ⟨(by unfold vp_in; decide), trivial⟩ ?_
  refine Ev.steps tokX11_init 4 (P := vp_in 37 122 ∧ True) (pc' := 272) (lv' := [some (.ref 130)]) (st' := [.ref 136, .ref 130]) (h' := (c380 b)) rfl ⟨(by unfold vp_in; decide), trivial⟩ ?_
  refine Ev.steps tokX11_init 4 (P := vp_in 38 122 ∧ True) (pc' := 278) (lv' := [some (.ref 130)]) (st' := [.ref 136, .ref 130]) (h' := (c381 b)) rfl ⟨(by unfold vp_in; decide), trivial⟩ ?_
  refine Ev.steps tokX11_init 4 (P := vp_in 39 122 ∧ True) (pc' := 284) (lv' := [some (.ref 130)]) (st' := [.ref 136, .ref 130]) (h' := (c382 b)) rfl ⟨(by unfold vp_in; decide), trivial⟩ ?_
  refine Ev.steps tokX11_init 4 (P := vp_in 40 122 ∧ True) (pc' := 290) (lv' := [some (.ref 130)]) (st' := [.ref 136, .ref 130]) (h' := (c383 b)) rfl ⟨(by unfold vp_in; decide), trivial⟩ ?_
  refine Ev.steps tokX11_init 4 (P := vp_in 41 122 ∧ True) (pc' := 296) (lv' := [some (.ref 130)]) (st' := [.ref 136, .ref 130]) (h' := (c384 b)) rfl ⟨(by unfold vp_in; decide), trivial⟩ ?_
  refine Ev.steps tokX11_init 4 (P := vp_in 42 122 ∧ True) (pc' := 302) (lv' := [some (.ref 130)]) (st' := [.ref 136, .ref 130]) (h' := (c385 b)) rfl ⟨(by unfold vp_in; decide), trivial⟩ ?_
  refine Ev.steps tokX11_init 4 (P := vp_in 43 122 ∧ True) (pc' := 308) (lv' := [some (.ref 130)]) (st' := [.ref 136, .ref 130]) (h' := (c386 b)) rfl ⟨(by unfold vp_in; decide), trivial⟩ ?_
  refine Ev.steps tokX11_init 4 (P := vp_in 44 122 ∧ True) (pc' := 314) (lv' := [some (.ref 130)]) (st' := [.ref 136, .ref 130]) (h' := (c387 b)) rfl ⟨(by unfold vp_in; decide), trivial⟩ ?_
  refine Ev.steps tokX11_init 4 (P := vp_in 45 122 ∧ True) (pc' := 320) (lv' := [some (.ref 130)]) (st' := [.ref 136, .ref 130]) (h' := (c388 b)) rfl ⟨(by unfold vp_in; decide), trivial⟩ ?_
  refine Ev.steps tokX11_init 4 (P := vp_in 46 122 ∧ True) (pc' := 326) (lv' := [some (.ref 130)]) (st' := [.ref 136, .ref 130]) (h' := (c389 b)) rfl ⟨(by unfold vp_in; decide), trivial⟩ ?_
  refine Ev.steps tokX11_init 4 (P := vp_in 47 122 ∧ True) (pc' := 332) (lv' := [some (.ref 130)]) (st' := [.ref 136, .ref 130]) (h' := (c390 b)) rfl ⟨(by unfold vp_in; decide), trivial⟩ ?_
  refine Ev.steps tokX11_init 4 (P := vp_in 48 122 ∧ True) (pc' := 338) (lv' := [some (.ref 130)]) (st' := [.ref 136, .ref 130]) (h' := (c391 b)) rfl ⟨(by unfold vp_in; decide), trivial⟩ ?_
  refine Ev.steps tokX11_init 4 (P := vp_in 49 122 ∧ True) (pc' := 344) (lv' := [some (.ref 130)]) (st' := [.ref 136, .ref 130]) (h' := (c392 b)) rfl ⟨(by unfold vp_in; decide), trivial⟩ ?_
  refine Ev.steps tokX11_init 4 (P := vp_in 50 122 ∧ True) (pc' := 350) (lv' := [some (.ref 130)]) (st' := [.ref 136, .ref 130]) (h' := (c393 b)) rfl ⟨(by unfold vp_in; decide), trivial⟩ ?_
  refine Ev.steps tokX11_init 4 (P := vp_in 51 122 ∧ True) (pc' := 356) (lv' := [some (.ref 130)]) (st' := [.ref 136, .ref 130]) (h' := (c394 b)) rfl ⟨(by unfold vp_in; decide), trivial⟩ ?_
  refine Ev.steps tokX11_init 4 (P := vp_in 52 122 ∧ True) (pc' := 362) (lv' := [some (.ref 130)]) (st' := [.ref 136, .ref 130]) (h' := (c395 b)) rfl ⟨(by unfold vp_in; decide), trivial⟩ ?_
  refine Ev.steps tokX11_init 4 (P := vp_in 53 122 ∧ True) (pc' := 368) (lv' := [some (.ref 130)]) (st' := [.ref 136, .ref 130]) (h' := (c396 b)) rfl ⟨(by unfold vp_in; decide), trivial⟩ ?_
  refine Ev.steps tokX11_init 4 (P := vp_in 54 122 ∧ True) (pc' := 374) (lv' := [some (.ref 130)]) (st' := [.ref 136, .ref 130]) (h' := (c397 b)) rfl ⟨(by unfold vp_in; decide), trivial⟩ ?_
  refine Ev.steps tokX11_init 4 (P := vp_in 55 122 ∧ True) (pc' := 380) (lv' := [some (.ref 130)]) (st' := [.ref 136, .ref 130]) (h' := (c398 b)) rfl ⟨(by unfold vp_in; decide), trivial⟩ ?_
  refine Ev.steps tokX11_init 4 (P := vp_in 56 122 ∧ True) (pc' := 386) (lv' := [some (.ref 130)]) (st' := [.ref 136, .ref 130]) (h' := (c399 b)) rfl ⟨(by unfold vp_in; decide), trivial⟩ ?_
  refine Ev.steps tokX11_init 4 (P := vp_in 57 122 ∧ True) (pc' := 392) (lv' := [some (.ref 130)]) (st' := [.ref 136, .ref 130]) (h' := (c400 b)) rfl ⟨(by unfold vp_in; decide), trivial⟩ ?_
  refine Ev.steps tokX11_init 4 (P := vp_in 58 122 ∧ True) (pc' := 398) (lv' := [some (.ref 130)]) (st' := [.ref 136, .ref 130]) (h' := (c401 b)) rfl ⟨(by unfold vp_in; decide), trivial⟩ ?_
  refine Ev.steps tokX11_init 4 (P := vp_in 59 122 ∧ True) (pc' := 404) (lv' := [some (.ref 130)]) (st' := [.ref 136, .ref 130]) (h' := (c402 b)) rfl ⟨(by unfold vp_in; decide), trivial⟩ ?_
  refine Ev.steps tokX11_init 4 (P := vp_in 60 122 ∧ True) (pc' := 410) (lv' := [some (.ref 130)]) (st' := [.ref 136, .ref 130]) (h' := (c403 b)) rfl ⟨(by unfold vp_in; decide), trivial⟩ ?_
  refine Ev.steps tokX11_init 4 (P := vp_in 61 122 ∧ True) (pc' := 416) (lv' := [some (.ref 130)]) (st' := [.ref 136, .ref 130]) (h' := (c404 b)) rfl ⟨(by unfold vp_in; decide), trivial⟩ ?_
  refine Ev.steps tokX11_init 4 (P := vp_in 62 122 ∧ True) (pc' := 422) (lv' := [some (.ref 130)]) (st' := [.ref 136, .ref 130]) (h' := (c405 b)) rfl ⟨(by unfold vp_in; decide), trivial⟩ ?_
  refine Ev.steps tokX11_init 4 (P := vp_in 63 122 ∧ True) (pc' := 428) (lv' := [some (.ref 130)]) (st' := [.ref 136, .ref 130]) (h' := (c406 b)) rfl ⟨(by unfold vp_in; decide), trivial⟩ ?_
  refine Ev.steps tokX11_init 4 (P := vp_in 64 122 ∧ True) (pc' := 434) (lv' := [some (.ref 130)]) (st' := [.ref 136, .ref 130]) (h' := (c407 b)) rfl ⟨(by unfold vp_in; decide), trivial⟩ ?_
  refine Ev.steps tokX11_init 4 (P := vp_in 65 122 ∧ True) (pc' := 440) (lv' := [some (.ref 130)]) (st' := [.ref 136, .ref 130]) (h' := (c408 b)) rfl ⟨(by unfold vp_in; decide), trivial⟩ ?_
  refine Ev.steps tokX11_init 4 (P := vp_in 66 122 ∧ True) (pc' := 446) (lv' := [some (.ref 130)]) (st' := [.ref 136, .ref 130]) (h' := (c409 b)) rfl ⟨(by unfold vp_in; decide), trivial⟩ ?_
  refine Ev.steps tokX11_init 4 (P := vp_in 67 122 ∧ True) (pc' := 452) (lv' := [some (.ref 130)]) (st' := [.ref 136, .ref 130]) (h' := (c410 b)) rfl ⟨(by unfold vp_in; decide), trivial⟩ ?_
  refine Ev.steps tokX11_init 4 (P := vp_in 68 122 ∧ True) (pc' := 458) (lv' := [some (.ref 130)]) (st' := [.ref 136, .ref 130]) (h' := (c411 b)) rfl ⟨(by unfold vp_in; decide), trivial⟩ ?_
  refine Ev.steps tokX11_init 4 (P := vp_in 69 122 ∧ True) (pc' := 464) (lv' := [some (.ref 130)]) (st' := [.ref 136, .ref 130]) (h' := (c412 b)) rfl ⟨(by unfold vp_in; decide), trivial⟩ ?_
  refine Ev.steps tokX11_init 4 (P := vp_in 70 122 ∧ True) (pc' := 470) (lv' := [some (.ref 130)]) (st' := [.ref 136, .ref 130]) (h' := (c413 b)) rfl ⟨(by unfold vp_in; decide), trivial⟩ ?_
  refine Ev.steps tokX11_init 4 (P := vp_in 71 122 ∧ True) (pc' := 476) (lv' := [some (.ref 130)]) (st' := [.ref 136, .ref 130]) (h' := (c414 b)) rfl ⟨(by unfold vp_in; decide), trivial⟩ ?_
  refine Ev.steps tokX11_init 4 (P := vp_in 72 122 ∧ True) (pc' := 482) (lv' := [some (.ref 130)]) (st' := [.ref 136, .ref 130]) (h' := (c415 b)) rfl ⟨(by unfold vp_in; decide), trivial⟩ ?_
  refine Ev.steps tokX11_init 4 (P := vp_in 73 122 ∧ True) (pc' := 488) (lv' := [some (.ref 130)]) (st' := [.ref 136, .ref 130]) (h' := (c416 b)) rfl ⟨(by unfold vp_in; decide), trivial⟩ ?_
  refine Ev.steps tokX11_init 4 (P := vp_in 74 122 ∧ True) (pc' := 494) (lv' := [some (.ref 130)]) (st' := [.ref 136, .ref 130]) (h' := (c417 b)) rfl ⟨(by unfold vp_in; decide), trivial⟩ ?_
  refine Ev.steps tokX11_init 4 (P := vp_in 75 122 ∧ True) (pc' := 500) (lv' := [some (.ref 130)]) (st' := [.ref 136, .ref 130]) (h' := (c418 b)) rfl ⟨(by unfold vp_in; decide), trivial⟩ ?_
  refine Ev.steps tokX11_init 4 (P := vp_in 76 122 ∧ True) (pc' := 506) (lv' := [some (.ref 130)]) (st' := [.ref 136, .ref 130]) (h' := (c419 b)) rfl ⟨(by unfold vp_in; decide), trivial⟩ ?_
  refine Ev.steps tokX11_init 4 (P := vp_in 77 122 ∧ True) (pc' := 512) (lv' := [some (.ref 130)]) (st' := [.ref 136, .ref 130]) (h' := (c420 b)) rfl ⟨(by unfold vp_in; decide), trivial⟩ ?_
  refine Ev.steps tokX11_init 4 (P := vp_in 78 122 ∧ True) (pc' := 518) (lv' := [some (.ref 130)]) (st' := [.ref 136, .ref 130]) (h' := (c421 b)) rfl ⟨(by unfold vp_in; decide), trivial⟩ ?_
  refine Ev.steps tokX11_init 4 (P := vp_in 79 122 ∧ True) (pc' := 524) (lv' := [some (.ref 130)]) (st' := [.ref 136, .ref 130]) (h' := (c422 b)) rfl ⟨(by unfold vp_in; decide), trivial⟩ ?_
  refine Ev.steps tokX11_init 4 (P := vp_in 80 122 ∧ True) (pc' := 530) (lv' := [some (.ref 130)]) (st' := [.ref 136, .ref 130]) (h' := (c423 b)) rfl ⟨(by unfold vp_in; decide), trivial⟩ ?_
  refine Ev.steps tokX11_init 4 (P := vp_in 81 122 ∧ True) (pc' := 536) (lv' := [some (.ref 130)]) (st' := [.ref 136, .ref 130]) (h' := (c424 b)) rfl ⟨(by unfold vp_in; decide), trivial⟩ ?_
  refine Ev.steps tokX11_init 4 (P := vp_in 82 122 ∧ True) (pc' := 542) (lv' := [some (.ref 130)]) (st' := [.ref 136, .ref 130]) (h' := (c425 b)) rfl ⟨(by unfold vp_in; decide), trivial⟩ ?_
  refine Ev.steps tokX11_init 4 (P := vp_in 83 122 ∧ True) (pc' := 548) (lv' := [some (.ref 130)]) (st' := [.ref 136, .ref 130]) (h' := (c426 b)) rfl ⟨(by unfold vp_in; decide), trivial⟩ ?_
  refine Ev.steps tokX11_init 4 (P := vp_in 84 122 ∧ True) (pc' := 554) (lv' := [some (.ref 130)]) (st' := [.ref 136, .ref 130]) (h' := (c427 b)) rfl ⟨(by unfold vp_in; decide), trivial⟩ ?_
  refine Ev.steps tokX11_init 4 (P := vp_in 85 122 ∧ True) (pc' := 560) (lv' := [some (.ref 130)]) (st' := [.ref 136, .ref 130]) (h' := (c428 b)) rfl ⟨(by unfold vp_in; decide), trivial⟩ ?_
  refine Ev.steps tokX11_init 4 (P := vp_in 86 122 ∧ True) (pc' := 566) (lv' := [some (.ref 130)]) (st' := [.ref 136, .ref 130]) (h' := (c429 b)) rfl ⟨(by unfold vp_in; decide), trivial⟩ ?_
  refine Ev.steps tokX11_init 4 (P := vp_in 87 122 ∧ True) (pc' := 572) (lv' := [some (.ref 130)]) (st' := [.ref 136, .ref 130]) (h' := (c430 b)) rfl ⟨(by unfold vp_in; decide), trivial⟩ ?_
  refine Ev.steps tokX11_init 4 (P := vp_in 88 122 ∧ True) (pc' := 578) (lv' := [some (.ref 130)]) (st' := [.ref 136, .ref 130]) (h' := (c431 b)) rfl ⟨(by unfold vp_in; decide), trivial⟩ ?_
  refine Ev.steps tokX11_init 4 (P := vp_in 89 122 ∧ True) (pc' := 584) (lv' := [some (.ref 130)]) (st' := [.ref 136, .ref 130]) (h' := (c432 b)) rfl ⟨(by unfold vp_in; decide), trivial⟩ ?_
  refine Ev.steps tokX11_init 4 (P := vp_in 90 122 ∧ True) (pc' := 590) (lv' := [some (.ref 130)]) (st' := [.ref 136, .ref 130]) (h' := (c433 b)) rfl ⟨(by unfold vp_in; decide), trivial⟩ ?_
  refine Ev.steps tokX11_init 4 (P := vp_in 91 122 ∧ True) (pc' := 596) (lv' := [some (.ref 130)]) (st' := [.ref 136, .ref 130]) (h' := (c434 b)) rfl ⟨(by unfold vp_in; decide), trivial⟩ ?_
  refine Ev.steps tokX11_init 4 (P := vp_in 92 122 ∧ True) (pc' := 602) (lv' := [some (.ref 130)]) (st' := [.ref 136, .ref 130]) (h' := (c435 b)) rfl ⟨(by unfold vp_in; decide), trivial⟩ ?_
  refine Ev.steps tokX11_init 4 (P := vp_in 93 122 ∧ True) (pc' := 608) (lv' := [some (.ref 130)]) (st' := [.ref 136, .ref 130]) (h' := (c436 b)) rfl ⟨(by unfold vp_in; decide), trivial⟩ ?_
  refine Ev.steps tokX11_init 4 (P := vp_in 94 122 ∧ True) (pc' := 614) (lv' := [some (.ref 130)]) (st' := [.ref 136, .ref 130]) (h' := (c437 b)) rfl ⟨(by unfold vp_in; decide), trivial⟩ ?_
  refine Ev.steps tokX11_init 4 (P := vp_in 95 122 ∧ True) (pc' := 620) (lv' := [some (.ref 130)]) (st' := [.ref 136, .ref 130]) (h' := (c438 b)) rfl ⟨(by unfold vp_in; decide), trivial⟩ ?_
  refine Ev.steps tokX11_init 4 (P := vp_in 96 122 ∧ True) (pc' := 626) (lv' := [some (.ref 130)]) (st' := [.ref 136, .ref 130]) (h' := (c439 b)) rfl ⟨(by unfold vp_in; decide), trivial⟩ ?_
  refine Ev.steps tokX11_init 4 (P := vp_in 97 122 ∧ True) (pc' := 632) (lv' := [some (.ref 130)]) (st' := [.ref 136, .ref 130]) (h' := (c440 b)) rfl ⟨(by unfold vp_in; decide), trivial⟩ ?_
  refine Ev.steps tokX11_init 4 (P := vp_in 98 122 ∧ True) (pc' := 638) (lv' := [some (.ref 130)]) (st' := [.ref 136, .ref 130]) (h' := (c441 b)) rfl ⟨(by unfold vp_in; decide), trivial⟩ ?_
  refine Ev.steps tokX11_init 4 (P := vp_in 99 122 ∧ True) (pc' := 644) (lv' := [some (.ref 130)]) (st' := [.ref 136, .ref 130]) (h' := (c442 b)) rfl ⟨(by unfold vp_in; decide), trivial⟩ ?_
  refine Ev.steps tokX11_init 4 (P := vp_in 100 122 ∧ True) (pc' := 650) (lv' := [some (.ref 130)]) (st' := [.ref 136, .ref 130]) (h' := (c443 b)) rfl ⟨(by unfold vp_in; decide), trivial⟩ ?_
  refine Ev.steps tokX11_init 4 (P := vp_in 101 122 ∧ True) (pc' := 656) (lv' := [some (.ref 130)]) (st' := [.ref 136, .ref 130]) (h' := (c444 b)) rfl ⟨(by unfold vp_in; decide), trivial⟩ ?_
  refine Ev.steps tokX11_init 4 (P := vp_in 102 122 ∧ True) (pc' := 662) (lv' := [some (.ref 130)]) (st' := [.ref 136, .ref 130]) (h' := (c445 b)) rfl ⟨(by unfold vp_in; decide), trivial⟩ ?_
  refine Ev.steps tokX11_init 4 (P := vp_in 103 122 ∧ True) (pc' := 668) (lv' := [some (.ref 130)]) (st' := [.ref 136, .ref 130]) (h' := (c446 b)) rfl ⟨(by unfold vp_in; decide), trivial⟩ ?_
  refine Ev.steps tokX11_init 4 (P := vp_in 104 122 ∧ True) (pc' := 674) (lv' := [some (.ref 130)]) (st' := [.ref 136, .ref 130]) (h' := (c447 b)) rfl ⟨(by unfold vp_in; decide), trivial⟩ ?_
  refine Ev.steps tokX11_init 4 (P := vp_in 105 122 ∧ True) (pc' := 680) (lv' := [some (.ref 130)]) (st' := [.ref 136, .ref 130]) (h' := (c448 b)) rfl ⟨(by unfold vp_in; decide), trivial⟩ ?_
  refine Ev.steps tokX11_init 4 (P := vp_in 106 122 ∧ True) (pc' := 686) (lv' := [some (.ref 130)]) (st' := [.ref 136, .ref 130]) (h' := (c449 b)) rfl ⟨(by unfold vp_in; decide), trivial⟩ ?_
  refine Ev.steps tokX11_init 4 (P := vp_in 107 122 ∧ True) (pc' := 692) (lv' := [some (.ref 130)]) (st' := [.ref 136, .ref 130]) (h' := (c450 b)) rfl ⟨(by unfold vp_in; decide), trivial⟩ ?_
  refine Ev.steps tokX11_init 4 (P := vp_in 108 122 ∧ True) (pc' := 698) (lv' := [some (.ref 130)]) (st' := [.ref 136, .ref 130]) (h' := (c451 b)) rfl ⟨(by unfold vp_in; decide), trivial⟩ ?_
  refine Ev.steps tokX11_init 4 (P := vp_in 109 122 ∧ True) (pc' := 704) (lv' := [some (.ref 130)]) (st' := [.ref 136, .ref 130]) (h' := (c452 b)) rfl ⟨(by unfold vp_in; decide), trivial⟩ ?_
  refine Ev.steps tokX11_init 4 (P := vp_in 110 122 ∧ True) (pc' := 710) (lv' := [some (.ref 130)]) (st' := [.ref 136, .ref 130]) (h' := (c453 b)) rfl ⟨(by unfold vp_in; decide), trivial⟩ ?_
  refine Ev.steps tokX11_init 4 (P := vp_in 111 122 ∧ True) (pc' := 716) (lv' := [some (.ref 130)]) (st' := [.ref 136, .ref 130]) (h' := (c454 b)) rfl ⟨(by unfold vp_in; decide), trivial⟩ ?_
  refine Ev.steps tokX11_init 4 (P := vp_in 112 122 ∧ True) (pc' := 722) (lv' := [some (.ref 130)]) (st' := [.ref 136, .ref 130]) (h' := (c455 b)) rfl ⟨(by unfold vp_in; decide), trivial⟩ ?_
  refine Ev.steps tokX11_init 4 (P := vp_in 113 122 ∧ True) (pc' := 728) (lv' := [some (.ref 130)]) (st' := [.ref 136, .ref 130]) (h' := (c456 b)) rfl ⟨(by unfold vp_in; decide), trivial⟩ ?_
  refine Ev.steps tokX11_init 4 (P := vp_in 114 122 ∧ True) (pc' := 734) (lv' := [some (.ref 130)]) (st' := [.ref 136, .ref 130]) (h' := (c457 b)) rfl ⟨(by unfold vp_in; decide), trivial⟩ ?_
  refine Ev.steps tokX11_init 4 (P := vp_in 115 122 ∧ True) (pc' := 740) (lv' := [some (.ref 130)]) (st' := [.ref 136, .ref 130]) (h' := (c458 b)) rfl ⟨(by unfold vp_in; decide), trivial⟩ ?_
  refine Ev.steps tokX11_init 4 (P := vp_in 116 122 ∧ True) (pc' := 746) (lv' := [some (.ref 130)]) (st' := [.ref 136, .ref 130]) (h' := (c459 b)) rfl ⟨(by unfold vp_in; decide), trivial⟩ ?_
  refine Ev.steps tokX11_init 4 (P := vp_in 117 122 ∧ True) (pc' := 752) (lv' := [some (.ref 130)]) (st' := [.ref 136, .ref 130]) (h' := (c460 b)) rfl ⟨(by unfold vp_in; decide), trivial⟩ ?_
  refine Ev.steps tokX11_init 4 (P := vp_in 118 122 ∧ True) (pc' := 758) (lv' := [some (.ref 130)]) (st' := [.ref 136, .ref 130]) (h' := (c461 b)) rfl ⟨(by unfold vp_in; decide), trivial⟩ ?_
  refine Ev.steps tokX11_init 4 (P := vp_in 119 122 ∧ True) (pc' := 764) (lv' := [some (.ref 130)]) (st' := [.ref 136, .ref 130]) (h' := (c462 b)) rfl ⟨(by unfold vp_in; decide), trivial⟩ ?_
  refine Ev.steps tokX11_init 4 (P := vp_in 120 122 ∧ True) (pc' := 770) (lv' := [some (.ref 130)]) (st' := [.ref 136, .ref 130]) (h' := (c463 b)) rfl ⟨(by unfold vp_in; decide), trivial⟩ ?_
  refine Ev.steps tokX11_init 4 (P := vp_in 121 122 ∧ True) (pc' := 776) (lv' := [some (.ref 130)]) (st' := [.ref 136, .ref 130]) (h' := (c464 b)) rfl ⟨(by unfold vp_in; decide), trivial⟩ ?_
  refine Ev.steps tokX11_init 1 (P := True) (pc' := 779) (lv' := [some (.ref 130)]) (st' := []) (h' := (c465 b)) rfl trivial ?_
  refine Ev.steps tokX11_init 2 (P := True) (pc' := 783) (lv' := [some (.ref 130)]) (st' := [.int 400, .ref 130]) (h' := (c465 b)) rfl trivial ?_
  refine ev_newaN (n0 := 137) (k := 12) (N := 400) (bc := 20) (bs := 3620) (dcd tokX11_init rfl) rfl (by decide) rfl (by decide) (by decide) (by decide) (by decide) ?_
  show Ev _ _ _ _ _ _ _ (c466 b) _
  refine Ev.steps tokX11_init 1 (P := True) (pc' := 788) (lv' := [some (.ref 130)]) (st' := []) (h' := (c467 b)) rfl trivial ?_
  refine Ev.steps tokX11_init 2 (P := True) (pc' := 790) (lv' := [some (.ref 130)]) (st' := [.int 5, .ref 130]) (h' := (c467 b)) rfl trivial ?_
  refine ev_newaN (n0 := 138) (k := 13) (N := 5) (bc := 19) (bs := 3615) (dcd tokX11_init rfl) rfl (by decide) rfl (by decide) (by decide) (by decide) (by decide) ?_
  show Ev _ _ _ _ _ _ _ (c468 b) _
  refine Ev.steps tokX11_init 1 (P := True) (pc' := 795) (lv' := [some (.ref 130)]) (st' := []) (h' := (c469 b)) rfl trivial ?_
  refine Ev.steps tokX11_init 3 (P := True) (pc' := 800) (lv' := [some (.ref 130)]) (st' := []) (h' := (c470 b)) rfl trivial ?_
  refine Ev.steps tokX11_init 2 (P := True) (pc' := 804) (lv' := [some (.ref 130)]) (st' := [.int 401, .ref 130]) (h' := (c470 b)) rfl trivial ?_
  refine ev_newaN (n0 := 139) (k := 13) (N := 401) (bc := 18) (bs := 3214) (dcd tokX11_init rfl) rfl (by decide) rfl (by decide) (by decide) (by decide) (by decide) ?_
  show Ev _ _ _ _ _ _ _ (c471 b) _
  refine Ev.steps tokX11_init 1 (P := True) (pc' := 809) (lv' := [some (.ref 130)]) (st' := []) (h' := (c472 b)) rfl trivial ?_
  refine Ev.steps tokX11_init 2 (P := True) (pc' := 813) (lv' := [some (.ref 130)]) (st' := [.int 401, .ref 130]) (h' := (c472 b)) rfl trivial ?_
  refine ev_newaN (n0 := 140) (k := 13) (N := 401) (bc := 17) (bs := 2813) (dcd tokX11_init rfl) rfl (by decide) rfl (by decide) (by decide) (by decide) (by decide) ?_
  show Ev _ _ _ _ _ _ _ (c473 b) _
  refine Ev.steps tokX11_init 1 (P := True) (pc' := 818) (lv' := [some (.ref 130)]) (st' := []) (h' := (c474 b)) rfl trivial ?_
  refine Ev.steps tokX11_init 2 (P := True) (pc' := 822) (lv' := [some (.ref 130)]) (st' := [.int 401, .ref 130]) (h' := (c474 b)) rfl trivial ?_
  refine ev_newaN (n0 := 141) (k := 13) (N := 401) (bc := 16) (bs := 2412) (dcd tokX11_init rfl) rfl (by decide) rfl (by decide) (by decide) (by decide) (by decide) ?_
  show Ev _ _ _ _ _ _ _ (c475 b) _
  refine Ev.steps tokX11_init 1 (P := True) (pc' := 827) (lv' := [some (.ref 130)]) (st' := []) (h' := (c476 b)) rfl trivial ?_
  refine Ev.steps tokX11_init 2 (P := True) (pc' := 830) (lv' := [some (.ref 130)]) (st' := [.int 8, .ref 130]) (h' := (c476 b)) rfl trivial ?_
  refine ev_newaN (n0 := 142) (k := 13) (N := 8) (bc := 15) (bs := 2404) (dcd tokX11_init rfl) rfl (by decide) rfl (by decide) (by decide) (by decide) (by decide) ?_
  show Ev _ _ _ _ _ _ _ (c477 b) _
  refine Ev.steps tokX11_init 1 (P := True) (pc' := 835) (lv' := [some (.ref 130)]) (st' := []) (h' := (c478 b)) rfl trivial ?_
  refine Ev.steps tokX11_init 2 (P := True) (pc' := 839) (lv' := [some (.ref 130)]) (st' := [.int 592, .ref 130]) (h' := (c478 b)) rfl trivial ?_
  refine ev_newaN (n0 := 143) (k := 13) (N := 592) (bc := 14) (bs := 1812) (dcd tokX11_init rfl) rfl (by decide) rfl (by decide) (by decide) (by decide) (by decide) ?_
  show Ev _ _ _ _ _ _ _ (c479 b) _
  refine Ev.steps tokX11_init 1 (P := True) (pc' := 844) (lv' := [some (.ref 130)]) (st' := []) (h' := (c480 b)) rfl trivial ?_
  refine Ev.steps tokX11_init 2 (P := True) (pc' := 848) (lv' := [some (.ref 130)]) (st' := [.int 592, .ref 130]) (h' := (c480 b)) rfl trivial ?_
  refine ev_newaN (n0 := 144) (k := 13) (N := 592) (bc := 13) (bs := 1220) (dcd tokX11_init rfl) rfl (by decide) rfl (by decide) (by decide) (by decide) (by decide) ?_
  show Ev _ _ _ _ _ _ _ (c481 b) _
  refine Ev.steps tokX11_init 1 (P := True) (pc' := 853) (lv' := [some (.ref 130)]) (st' := []) (h' := (c482 b)) rfl trivial ?_
  refine Ev.steps tokX11_init 2 (P := True) (pc' := 857) (lv' := [some (.ref 130)]) (st' := [.int 200, .ref 130]) (h' := (c482 b)) rfl trivial ?_
  refine ev_newaN (n0 := 145) (k := 13) (N := 200) (bc := 12) (bs := 1020) (dcd tokX11_init rfl) rfl (by decide) rfl (by decide) (by decide) (by decide) (by decide) ?_
  show Ev _ _ _ _ _ _ _ (c483 b) _
  refine Ev.steps tokX11_init 1 (P := True) (pc' := 862) (lv' := [some (.ref 130)]) (st' := []) (h' := (c484 b)) rfl trivial ?_
  refine Ev.steps tokX11_init 2 (P := True) (pc' := 866) (lv' := [some (.ref 130)]) (st' := [.int 200, .ref 130]) (h' := (c484 b)) rfl trivial ?_
  refine ev_newaN (n0 := 146) (k := 13) (N := 200) (bc := 11) (bs := 820) (dcd tokX11_init rfl) rfl (by decide) rfl (by decide) (by decide) (by decide) (by decide) ?_
  show Ev _ _ _ _ _ _ _ (c485 b) _
  refine Ev.steps tokX11_init 1 (P := True) (pc' := 871) (lv' := [some (.ref 130)]) (st' := []) (h' := (c486 b)) rfl trivial ?_
  refine Ev.steps tokX11_init 2 (P := True) (pc' := 874) (lv' := [some (.ref 130)]) (st' := [.int 120, .ref 130]) (h' := (c486 b)) rfl trivial ?_
  refine ev_newaN (n0 := 147) (k := 13) (N := 120) (bc := 10) (bs := 700) (dcd tokX11_init rfl) rfl (by decide) rfl (by decide) (by decide) (by decide) (by decide) ?_
  show Ev _ _ _ _ _ _ _ (c487 b) _
  refine Ev.steps tokX11_init 1 (P := True) (pc' := 879) (lv' := [some (.ref 130)]) (st' := []) (h' := (c488 b)) rfl trivial ?_
  refine Ev.steps tokX11_init 2 (P := True) (pc' := 882) (lv' := [some (.ref 130)]) (st' := [.int 120, .ref 130]) (h' := (c488 b)) rfl trivial ?_
  refine ev_newaN (n0 := 148) (k := 13) (N := 120) (bc := 9) (bs := 580) (dcd tokX11_init rfl) rfl (by decide) rfl (by decide) (by decide) (by decide) (by decide) ?_
  show Ev _ _ _ _ _ _ _ (c489 b) _
  refine Ev.steps tokX11_init 1 (P := True) (pc' := 887) (lv' := [some (.ref 130)]) (st' := []) (h' := (c490 b)) rfl trivial ?_
  refine Ev.steps tokX11_init 2 (P := True) (pc' := 890) (lv' := [some (.ref 130)]) (st' := [.int 120, .ref 130]) (h' := (c490 b)) rfl trivial ?_
  refine ev_newaN (n0 := 149) (k := 13) (N := 120) (bc := 8) (bs := 460) (dcd tokX11_init rfl) rfl (by decide) rfl (by decide) (by decide) (by decide) (by decide) ?_
  show Ev _ _ _ _ _ _ _ (c491 b) _
  refine Ev.steps tokX11_init 1 (P := True) (pc' := 895) (lv' := [some (.ref 130)]) (st' := []) (h' := (c492 b)) rfl trivial ?_
  refine Ev.steps tokX11_init 2 (P := True) (pc' := 898) (lv' := [some (.ref 130)]) (st' := [.int 120, .ref 130]) (h' := (c492 b)) rfl trivial ?_
  refine ev_newaN (n0 := 150) (k := 14) (N := 120) (bc := 7) (bs := 340) (dcd tokX11_init rfl) rfl (by decide) rfl (by decide) (by decide) (by decide) (by decide) ?_
  show Ev _ _ _ _ _ _ _ (c493 b) _
  refine Ev.steps tokX11_init 1 (P := True) (pc' := 903) (lv' := [some (.ref 130)]) (st' := []) (h' := (c494 b)) rfl trivial ?_
  refine Ev.steps tokX11_init 2 (P := True) (pc' := 906) (lv' := [some (.ref 130)]) (st' := [.int 120, .ref 130]) (h' := (c494 b)) rfl trivial ?_
  refine ev_newaN (n0 := 151) (k := 14) (N := 120) (bc := 6) (bs := 220) (dcd tokX11_init rfl) rfl (by decide) rfl (by decide) (by decide) (by decide) (by decide) ?_
  show Ev _ _ _ _ _ _ _ (c495 b) _
  refine Ev.steps tokX11_init 1 (P := True) (pc' := 911) (lv' := [some (.ref 130)]) (st' := []) (h' := (c496 b)) rfl trivial ?_
  refine Ev.steps tokX11_init 2 (P := True) (pc' := 914) (lv' := [some (.ref 130)]) (st' := [.int 20, .ref 130]) (h' := (c496 b)) rfl trivial ?_
  refine ev_newaN (n0 := 152) (k := 13) (N := 20) (bc := 5) (bs := 200) (dcd tokX11_init rfl) rfl (by decide) rfl (by decide) (by decide) (by decide) (by decide) ?_
  show Ev _ _ _ _ _ _ _ (c497 b) _
  refine Ev.steps tokX11_init 1 (P := True) (pc' := 919) (lv' := [some (.ref 130)]) (st' := []) (h' := (c498 b)) rfl trivial ?_
  refine Ev.steps tokX11_init 2 (P := True) (pc' := 922) (lv' := [some (.ref 130)]) (st' := [.int 120, .ref 130]) (h' := (c498 b)) rfl trivial ?_
  refine ev_newaN (n0 := 153) (k := 13) (N := 120) (bc := 4) (bs := 80) (dcd tokX11_init rfl) rfl (by decide) rfl (by decide) (by decide) (by decide) (by decide) ?_
  show Ev _ _ _ _ _ _ _ (c499 b) _
  refine Ev.steps tokX11_init 1 (P := True) (pc' := 927) (lv' := [some (.ref 130)]) (st' := []) (h' := (c500 b)) rfl trivial ?_
  refine Ev.steps tokX11_init 2 (P := True) (pc' := 930) (lv' := [some (.ref 130)]) (st' := [.int 21, .ref 130]) (h' := (c500 b)) rfl trivial ?_
  refine ev_newaN (n0 := 154) (k := 13) (N := 21) (bc := 3) (bs := 59) (dcd tokX11_init rfl) rfl (by decide) rfl (by decide) (by decide) (by decide) (by decide) ?_
  show Ev _ _ _ _ _ _ _ (c501 b) _
  refine Ev.steps tokX11_init 1 (P := True) (pc' := 935) (lv' := [some (.ref 130)]) (st' := []) (h' := (c502 b)) rfl trivial ?_
  refine Ev.steps tokX11_init 2 (P := True) (pc' := 938) (lv' := [some (.ref 130)]) (st' := [.int 21, .ref 130]) (h' := (c502 b)) rfl trivial ?_
  refine ev_newaN (n0 := 155) (k := 14) (N := 21) (bc := 2) (bs := 38) (dcd tokX11_init rfl) rfl (by decide) rfl (by decide) (by decide) (by decide) (by decide) ?_
  show Ev _ _ _ _ _ _ _ (c503 b) _
  refine Ev.steps tokX11_init 1 (P := True) (pc' := 943) (lv' := [some (.ref 130)]) (st' := []) (h' := (c504 b)) rfl trivial ?_
  refine Ev.steps tokX11_init 3 (P := True) (pc' := 948) (lv' := [some (.ref 130)]) (st' := []) (h' := (c505 b)) rfl trivial ?_
  refine Ev.steps tokX11_init 2 (P := True) (pc' := 950) (lv' := [some (.ref 130)]) (st' := [.int 2, .ref 130]) (h' := (c505 b)) rfl trivial ?_
  refine ev_newaN (n0 := 156) (k := 14) (N := 2) (bc := 1) (bs := 36) (dcd tokX11_init rfl) rfl (by decide) rfl (by decide) (by decide) (by decide) (by decide) ?_
  show Ev _ _ _ _ _ _ _ (c506 b) _
  refine Ev.steps tokX11_init 1 (P := True) (pc' := 955) (lv' := [some (.ref 130)]) (st' := []) (h' := (c507 b)) rfl trivial ?_
  refine Ev.steps tokX11_init 2 (P := True) (pc' := 958) (lv' := [some (.ref 130)]) (st' := [.int 36, .ref 130]) (h' := (c507 b)) rfl trivial ?_
  refine ev_newaN (n0 := 157) (k := 13) (N := 36) (bc := 0) (bs := 0) (dcd tokX11_init rfl) rfl (by decide) rfl (by decide) (by decide) (by decide) (by decide) ?_
  show Ev _ _ _ _ _ _ _ (c508 b) _
  refine Ev.steps tokX11_init 1 (P := True) (pc' := 963) (lv' := [some (.ref 130)]) (st' := []) (h' := (c509 b)) rfl trivial ?_
  refine Ev.steps tokX11_init 3 (P := True) (pc' := 968) (lv' := [some (.ref 130)]) (st' := []) (h' := (c510 b)) rfl trivial ?_
  refine Ev.steps tokX11_init 5 (P := vp_in 89 5703 ∧ True) (pc' := 976) (lv' := [some (.ref 130)]) (st' := []) (h' := (c511 b)) rfl ⟨(by unfold vp_in; decide), trivial⟩ ?_
  refine Ev.steps tokX11_init 5 (P := vp_in 95 5703 ∧ True) (pc' := 984) (lv' := [some (.ref 130)]) (st' := []) (h' := (c512 b)) rfl ⟨(by unfold vp_in; decide), trivial⟩ ?_
  exact Ev.retv tokX11_init rfl rfl ⟨rfl, rfl⟩
end
