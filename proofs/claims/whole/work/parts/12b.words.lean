section WORDS
theorem tokX11_back : TOK mX11_back := TOK.of tkX11_back
set_option maxRecDepth 20000 in
theorem okX11_back : OKm mX11_back := ⟨tm 1312 rfl, tm 12 rfl, ⟨by decide, by decide⟩, by decide⟩
set_option maxRecDepth 20000 in
theorem inX11_back : Cond.instanceMethod (mY mX11_back) ∈ TB := tm 1310 rfl
set_option maxRecDepth 20000 in
theorem seX11_back : Cond.selects (mY mX11_back).cls (mY mX11_back) (mY mX11_back) ∈ TB := tm 1311 rfl
theorem tokX11_gateMany : TOK mX11_gateMany := TOK.of tkX11_gateMany
set_option maxRecDepth 20000 in
theorem okX11_gateMany : OKm mX11_gateMany := ⟨tm 1333 rfl, tm 12 rfl, ⟨by decide, by decide⟩, by decide⟩
set_option maxRecDepth 20000 in
theorem inX11_gateMany : Cond.instanceMethod (mY mX11_gateMany) ∈ TB := tm 1332 rfl
set_option maxRecDepth 20000 in
theorem seX11_gateMany : Cond.selects (mY mX11_gateMany).cls (mY mX11_gateMany) (mY mX11_gateMany) ∈ TB := tbm (List.mem_append_left _ (by decide +kernel)) rfl
theorem tokX11_isGate : TOK mX11_isGate := TOK.of tkX11_isGate
set_option maxRecDepth 20000 in
theorem okX11_isGate : OKm mX11_isGate := ⟨tm 1345 rfl, tm 12 rfl, ⟨by decide, by decide⟩, by decide⟩
set_option maxRecDepth 20000 in
theorem inX11_isGate : Cond.instanceMethod (mY mX11_isGate) ∈ TB := tm 1344 rfl
set_option maxRecDepth 20000 in
theorem seX11_isGate : Cond.selects (mY mX11_isGate).cls (mY mX11_isGate) (mY mX11_isGate) ∈ TB := tbm (List.mem_append_left _ (by decide +kernel)) rfl
theorem tokX11_isGoer : TOK mX11_isGoer := TOK.of tkX11_isGoer
set_option maxRecDepth 20000 in
theorem okX11_isGoer : OKm mX11_isGoer := ⟨tm 1360 rfl, tm 12 rfl, ⟨by decide, by decide⟩, by decide⟩
set_option maxRecDepth 20000 in
theorem inX11_isGoer : Cond.instanceMethod (mY mX11_isGoer) ∈ TB := tm 1359 rfl
set_option maxRecDepth 20000 in
theorem seX11_isGoer : Cond.selects (mY mX11_isGoer).cls (mY mX11_isGoer) (mY mX11_isGoer) ∈ TB := tbm (List.mem_append_left _ (by decide +kernel)) rfl
theorem tokX11_canGate : TOK mX11_canGate := TOK.of tkX11_canGate
set_option maxRecDepth 20000 in
theorem okX11_canGate : OKm mX11_canGate := ⟨tm 1323 rfl, tm 12 rfl, ⟨by decide, by decide⟩, by decide⟩
set_option maxRecDepth 20000 in
theorem inX11_canGate : Cond.static (mY mX11_canGate) ∈ TB := tm 1322 rfl
theorem tokX11_adds : TOK mX11_adds := TOK.of tkX11_adds
set_option maxRecDepth 20000 in
theorem okX11_adds : OKm mX11_adds := ⟨tm 1337 rfl, tm 12 rfl, ⟨by decide, by decide⟩, by decide⟩
set_option maxRecDepth 20000 in
theorem inX11_adds : Cond.instanceMethod (mY mX11_adds) ∈ TB := tm 1336 rfl
set_option maxRecDepth 20000 in
theorem seX11_adds : Cond.selects (mY mX11_adds).cls (mY mX11_adds) (mY mX11_adds) ∈ TB := tbm (List.mem_append_left _ (by decide +kernel)) rfl
theorem tokX11_gate : TOK mX11_gate := TOK.of tkX11_gate
set_option maxRecDepth 20000 in
theorem okX11_gate : OKm mX11_gate := ⟨tm 1320 rfl, tm 12 rfl, ⟨by decide, by decide⟩, by decide⟩
set_option maxRecDepth 20000 in
theorem inX11_gate : Cond.instanceMethod (mY mX11_gate) ∈ TB := tm 1318 rfl
set_option maxRecDepth 20000 in
theorem seX11_gate : Cond.selects (mY mX11_gate).cls (mY mX11_gate) (mY mX11_gate) ∈ TB := tm 1319 rfl
theorem tokX11_at : TOK mX11_at := TOK.of tkX11_at
set_option maxRecDepth 20000 in
theorem okX11_at : OKm mX11_at := ⟨tm 1341 rfl, tm 12 rfl, ⟨by decide, by decide⟩, by decide⟩
set_option maxRecDepth 20000 in
theorem inX11_at : Cond.instanceMethod (mY mX11_at) ∈ TB := tm 1339 rfl
set_option maxRecDepth 20000 in
theorem seX11_at : Cond.selects (mY mX11_at).cls (mY mX11_at) (mY mX11_at) ∈ TB := tm 1340 rfl
theorem tokX11_goer : TOK mX11_goer := TOK.of tkX11_goer
set_option maxRecDepth 20000 in
theorem okX11_goer : OKm mX11_goer := ⟨tm 1349 rfl, tm 12 rfl, ⟨by decide, by decide⟩, by decide⟩
set_option maxRecDepth 20000 in
theorem inX11_goer : Cond.instanceMethod (mY mX11_goer) ∈ TB := tm 1347 rfl
set_option maxRecDepth 20000 in
theorem seX11_goer : Cond.selects (mY mX11_goer).cls (mY mX11_goer) (mY mX11_goer) ∈ TB := tm 1348 rfl
theorem tokX11_of : TOK mX11_of := TOK.of tkX11_of
set_option maxRecDepth 20000 in
theorem okX11_of : OKm mX11_of := ⟨tm 1356 rfl, tm 12 rfl, ⟨by decide, by decide⟩, by decide⟩
set_option maxRecDepth 20000 in
theorem inX11_of : Cond.instanceMethod (mY mX11_of) ∈ TB := tm 1354 rfl
set_option maxRecDepth 20000 in
theorem seX11_of : Cond.selects (mY mX11_of).cls (mY mX11_of) (mY mX11_of) ∈ TB := tm 1355 rfl
theorem tokX11_gatesOf : TOK mX11_gatesOf := TOK.of tkX11_gatesOf
set_option maxRecDepth 20000 in
theorem okX11_gatesOf : OKm mX11_gatesOf := ⟨tm 1364 rfl, tm 12 rfl, ⟨by decide, by decide⟩, by decide⟩
set_option maxRecDepth 20000 in
theorem inX11_gatesOf : Cond.instanceMethod (mY mX11_gatesOf) ∈ TB := tm 1363 rfl
set_option maxRecDepth 20000 in
theorem seX11_gatesOf : Cond.selects (mY mX11_gatesOf).cls (mY mX11_gatesOf) (mY mX11_gatesOf) ∈ TB := tbm (List.mem_append_left _ (by decide +kernel)) rfl
theorem tokX11_asks : TOK mX11_asks := TOK.of tkX11_asks
set_option maxRecDepth 20000 in
theorem okX11_asks : OKm mX11_asks := ⟨tm 1441 rfl, tm 12 rfl, ⟨by decide, by decide⟩, by decide⟩
set_option maxRecDepth 20000 in
theorem inX11_asks : Cond.instanceMethod (mY mX11_asks) ∈ TB := tm 1439 rfl
set_option maxRecDepth 20000 in
theorem seX11_asks : Cond.selects (mY mX11_asks).cls (mY mX11_asks) (mY mX11_asks) ∈ TB := tm 1440 rfl
theorem tokX11_isTerm : TOK mX11_isTerm := TOK.of tkX11_isTerm
set_option maxRecDepth 20000 in
theorem okX11_isTerm : OKm mX11_isTerm := ⟨tm 1459 rfl, tm 12 rfl, ⟨by decide, by decide⟩, by decide⟩
set_option maxRecDepth 20000 in
theorem inX11_isTerm : Cond.static (mY mX11_isTerm) ∈ TB := tm 1458 rfl
theorem tokX11_termAt : TOK mX11_termAt := TOK.of tkX11_termAt
set_option maxRecDepth 20000 in
theorem okX11_termAt : OKm mX11_termAt := ⟨tm 1462 rfl, tm 12 rfl, ⟨by decide, by decide⟩, by decide⟩
set_option maxRecDepth 20000 in
theorem inX11_termAt : Cond.static (mY mX11_termAt) ∈ TB := tm 1461 rfl
theorem tokX11_terms : TOK mX11_terms := TOK.of tkX11_terms
set_option maxRecDepth 20000 in
theorem okX11_terms : OKm mX11_terms := ⟨tm 1456 rfl, tm 12 rfl, ⟨by decide, by decide⟩, by decide⟩
set_option maxRecDepth 20000 in
theorem inX11_terms : Cond.instanceMethod (mY mX11_terms) ∈ TB := tm 1454 rfl
set_option maxRecDepth 20000 in
theorem seX11_terms : Cond.selects (mY mX11_terms).cls (mY mX11_terms) (mY mX11_terms) ∈ TB := tm 1455 rfl
theorem tokX11_row : TOK mX11_row := TOK.of tkX11_row
set_option maxRecDepth 20000 in
theorem okX11_row : OKm mX11_row := ⟨tm 1466 rfl, tm 12 rfl, ⟨by decide, by decide⟩, by decide⟩
set_option maxRecDepth 20000 in
theorem inX11_row : Cond.instanceMethod (mY mX11_row) ∈ TB := tm 1464 rfl
set_option maxRecDepth 20000 in
theorem seX11_row : Cond.selects (mY mX11_row).cls (mY mX11_row) (mY mX11_row) ∈ TB := tm 1465 rfl
theorem tokX11_rust : TOK mX11_rust := TOK.of tkX11_rust
set_option maxRecDepth 20000 in
theorem okX11_rust : OKm mX11_rust := ⟨tm 1470 rfl, tm 12 rfl, ⟨by decide, by decide⟩, by decide⟩
set_option maxRecDepth 20000 in
theorem inX11_rust : Cond.instanceMethod (mY mX11_rust) ∈ TB := tm 1468 rfl
set_option maxRecDepth 20000 in
theorem seX11_rust : Cond.selects (mY mX11_rust).cls (mY mX11_rust) (mY mX11_rust) ∈ TB := tm 1469 rfl
theorem tokX11_feed : TOK mX11_feed := TOK.of tkX11_feed
set_option maxRecDepth 20000 in
theorem okX11_feed : OKm mX11_feed := ⟨tm 1474 rfl, tm 12 rfl, ⟨by decide, by decide⟩, by decide⟩
set_option maxRecDepth 20000 in
theorem inX11_feed : Cond.instanceMethod (mY mX11_feed) ∈ TB := tm 1472 rfl
set_option maxRecDepth 20000 in
theorem seX11_feed : Cond.selects (mY mX11_feed).cls (mY mX11_feed) (mY mX11_feed) ∈ TB := tm 1473 rfl
theorem tokX11_end : TOK mX11_end := TOK.of tkX11_end
set_option maxRecDepth 20000 in
theorem okX11_end : OKm mX11_end := ⟨tm 1478 rfl, tm 12 rfl, ⟨by decide, by decide⟩, by decide⟩
set_option maxRecDepth 20000 in
theorem inX11_end : Cond.instanceMethod (mY mX11_end) ∈ TB := tm 1476 rfl
set_option maxRecDepth 20000 in
theorem seX11_end : Cond.selects (mY mX11_end).cls (mY mX11_end) (mY mX11_end) ∈ TB := tm 1477 rfl
theorem tokX11_isSmall : TOK mX11_isSmall := TOK.of tkX11_isSmall
set_option maxRecDepth 20000 in
theorem okX11_isSmall : OKm mX11_isSmall := ⟨tm 1497 rfl, tm 12 rfl, ⟨by decide, by decide⟩, by decide⟩
set_option maxRecDepth 20000 in
theorem inX11_isSmall : Cond.static (mY mX11_isSmall) ∈ TB := tm 1496 rfl
theorem tokX11_isDigit : TOK mX11_isDigit := TOK.of tkX11_isDigit
set_option maxRecDepth 20000 in
theorem okX11_isDigit : OKm mX11_isDigit := ⟨tm 1500 rfl, tm 12 rfl, ⟨by decide, by decide⟩, by decide⟩
set_option maxRecDepth 20000 in
theorem inX11_isDigit : Cond.static (mY mX11_isDigit) ∈ TB := tm 1499 rfl
theorem tokX11_wordOf : TOK mX11_wordOf := TOK.of tkX11_wordOf
set_option maxRecDepth 20000 in
theorem okX11_wordOf : OKm mX11_wordOf := ⟨tm 1504 rfl, tm 12 rfl, ⟨by decide, by decide⟩, by decide⟩
set_option maxRecDepth 20000 in
theorem inX11_wordOf : Cond.instanceMethod (mY mX11_wordOf) ∈ TB := tm 1503 rfl
set_option maxRecDepth 20000 in
theorem seX11_wordOf : Cond.selects (mY mX11_wordOf).cls (mY mX11_wordOf) (mY mX11_wordOf) ∈ TB := tbm (List.mem_append_left _ (by decide +kernel)) rfl
theorem tokX11_splits : TOK mX11_splits := TOK.of tkX11_splits
set_option maxRecDepth 20000 in
theorem okX11_splits : OKm mX11_splits := ⟨tm 1494 rfl, tm 12 rfl, ⟨by decide, by decide⟩, by decide⟩
set_option maxRecDepth 20000 in
theorem inX11_splits : Cond.instanceMethod (mY mX11_splits) ∈ TB := tm 1493 rfl
set_option maxRecDepth 20000 in
theorem seX11_splits : Cond.selects (mY mX11_splits).cls (mY mX11_splits) (mY mX11_splits) ∈ TB := tbm (List.mem_append_left _ (by decide +kernel)) rfl
theorem tokX11_fine : TOK mX11_fine := TOK.of tkX11_fine
set_option maxRecDepth 20000 in
theorem okX11_fine : OKm mX11_fine := ⟨tm 1521 rfl, tm 12 rfl, ⟨by decide, by decide⟩, by decide⟩
set_option maxRecDepth 20000 in
theorem inX11_fine : Cond.instanceMethod (mY mX11_fine) ∈ TB := tm 1520 rfl
set_option maxRecDepth 20000 in
theorem seX11_fine : Cond.selects (mY mX11_fine).cls (mY mX11_fine) (mY mX11_fine) ∈ TB := tbm (List.mem_append_left _ (by decide +kernel)) rfl
theorem tokX11_faults : TOK mX11_faults := TOK.of tkX11_faults
set_option maxRecDepth 20000 in
theorem okX11_faults : OKm mX11_faults := ⟨tm 1541 rfl, tm 12 rfl, ⟨by decide, by decide⟩, by decide⟩
set_option maxRecDepth 20000 in
theorem inX11_faults : Cond.instanceMethod (mY mX11_faults) ∈ TB := tm 1540 rfl
set_option maxRecDepth 20000 in
theorem seX11_faults : Cond.selects (mY mX11_faults).cls (mY mX11_faults) (mY mX11_faults) ∈ TB := tbm (List.mem_append_left _ (by decide +kernel)) rfl
theorem tokX11_takes0 : TOK mX11_takes0 := TOK.of tkX11_takes0
set_option maxRecDepth 20000 in
theorem okX11_takes0 : OKm mX11_takes0 := ⟨tm 1517 rfl, tm 12 rfl, ⟨by decide, by decide⟩, by decide⟩
set_option maxRecDepth 20000 in
theorem inX11_takes0 : Cond.instanceMethod (mY mX11_takes0) ∈ TB := tm 1516 rfl
set_option maxRecDepth 20000 in
theorem seX11_takes0 : Cond.selects (mY mX11_takes0).cls (mY mX11_takes0) (mY mX11_takes0) ∈ TB := tbm (List.mem_append_left _ (by decide +kernel)) rfl
theorem tokX11_must : TOK mX11_must := TOK.of tkX11_must
set_option maxRecDepth 20000 in
theorem okX11_must : OKm mX11_must := ⟨tm 1545 rfl, tm 12 rfl, ⟨by decide, by decide⟩, by decide⟩
set_option maxRecDepth 20000 in
theorem inX11_must : Cond.instanceMethod (mY mX11_must) ∈ TB := tm 1544 rfl
set_option maxRecDepth 20000 in
theorem seX11_must : Cond.selects (mY mX11_must).cls (mY mX11_must) (mY mX11_must) ∈ TB := tbm (List.mem_append_left _ (by decide +kernel)) rfl
theorem tokX11_leaf : TOK mX11_leaf := TOK.of tkX11_leaf
set_option maxRecDepth 20000 in
theorem okX11_leaf : OKm mX11_leaf := ⟨tm 1549 rfl, tm 12 rfl, ⟨by decide, by decide⟩, by decide⟩
set_option maxRecDepth 20000 in
theorem inX11_leaf : Cond.instanceMethod (mY mX11_leaf) ∈ TB := tm 1548 rfl
set_option maxRecDepth 20000 in
theorem seX11_leaf : Cond.selects (mY mX11_leaf).cls (mY mX11_leaf) (mY mX11_leaf) ∈ TB := tbm (List.mem_append_left _ (by decide +kernel)) rfl
theorem tokX11_sign : TOK mX11_sign := TOK.of tkX11_sign
set_option maxRecDepth 20000 in
theorem okX11_sign : OKm mX11_sign := ⟨tm 1403 rfl, tm 12 rfl, ⟨by decide, by decide⟩, by decide⟩
set_option maxRecDepth 20000 in
theorem inX11_sign : Cond.static (mY mX11_sign) ∈ TB := tm 1402 rfl
theorem tokX11_mustNumber : TOK mX11_mustNumber := TOK.of tkX11_mustNumber
set_option maxRecDepth 20000 in
theorem okX11_mustNumber : OKm mX11_mustNumber := ⟨tm 1553 rfl, tm 12 rfl, ⟨by decide, by decide⟩, by decide⟩
set_option maxRecDepth 20000 in
theorem inX11_mustNumber : Cond.instanceMethod (mY mX11_mustNumber) ∈ TB := tm 1552 rfl
set_option maxRecDepth 20000 in
theorem seX11_mustNumber : Cond.selects (mY mX11_mustNumber).cls (mY mX11_mustNumber) (mY mX11_mustNumber) ∈ TB := tbm (List.mem_append_left _ (by decide +kernel)) rfl
theorem tokX11_readClause : TOK mX11_readClause := TOK.of tkX11_readClause
set_option maxRecDepth 20000 in
theorem okX11_readClause : OKm mX11_readClause := ⟨tm 1569 rfl, tm 12 rfl, ⟨by decide, by decide⟩, by decide⟩
set_option maxRecDepth 20000 in
theorem inX11_readClause : Cond.instanceMethod (mY mX11_readClause) ∈ TB := tm 1568 rfl
set_option maxRecDepth 20000 in
theorem seX11_readClause : Cond.selects (mY mX11_readClause).cls (mY mX11_readClause) (mY mX11_readClause) ∈ TB := tbm (List.mem_append_left _ (by decide +kernel)) rfl
theorem tokX11_readTwo : TOK mX11_readTwo := TOK.of tkX11_readTwo
set_option maxRecDepth 20000 in
theorem okX11_readTwo : OKm mX11_readTwo := ⟨tm 1525 rfl, tm 12 rfl, ⟨by decide, by decide⟩, by decide⟩
set_option maxRecDepth 20000 in
theorem inX11_readTwo : Cond.instanceMethod (mY mX11_readTwo) ∈ TB := tm 1524 rfl
set_option maxRecDepth 20000 in
theorem seX11_readTwo : Cond.selects (mY mX11_readTwo).cls (mY mX11_readTwo) (mY mX11_readTwo) ∈ TB := tbm (List.mem_append_left _ (by decide +kernel)) rfl
theorem tokX11_readOrder : TOK mX11_readOrder := TOK.of tkX11_readOrder
set_option maxRecDepth 20000 in
theorem okX11_readOrder : OKm mX11_readOrder := ⟨tm 1513 rfl, tm 12 rfl, ⟨by decide, by decide⟩, by decide⟩
set_option maxRecDepth 20000 in
theorem inX11_readOrder : Cond.instanceMethod (mY mX11_readOrder) ∈ TB := tm 1512 rfl
set_option maxRecDepth 20000 in
theorem seX11_readOrder : Cond.selects (mY mX11_readOrder).cls (mY mX11_readOrder) (mY mX11_readOrder) ∈ TB := tbm (List.mem_append_left _ (by decide +kernel)) rfl
theorem tokX11_readOne : TOK mX11_readOne := TOK.of tkX11_readOne
set_option maxRecDepth 20000 in
theorem okX11_readOne : OKm mX11_readOne := ⟨tm 1509 rfl, tm 12 rfl, ⟨by decide, by decide⟩, by decide⟩
set_option maxRecDepth 20000 in
theorem inX11_readOne : Cond.instanceMethod (mY mX11_readOne) ∈ TB := tm 1508 rfl
set_option maxRecDepth 20000 in
theorem seX11_readOne : Cond.selects (mY mX11_readOne).cls (mY mX11_readOne) (mY mX11_readOne) ∈ TB := tbm (List.mem_append_left _ (by decide +kernel)) rfl
theorem tokX11_readTest : TOK mX11_readTest := TOK.of tkX11_readTest
set_option maxRecDepth 20000 in
theorem okX11_readTest : OKm mX11_readTest := ⟨tm 1557 rfl, tm 12 rfl, ⟨by decide, by decide⟩, by decide⟩
set_option maxRecDepth 20000 in
theorem inX11_readTest : Cond.instanceMethod (mY mX11_readTest) ∈ TB := tm 1556 rfl
set_option maxRecDepth 20000 in
theorem seX11_readTest : Cond.selects (mY mX11_readTest).cls (mY mX11_readTest) (mY mX11_readTest) ∈ TB := tbm (List.mem_append_left _ (by decide +kernel)) rfl
theorem tokX11_readBoth : TOK mX11_readBoth := TOK.of tkX11_readBoth
set_option maxRecDepth 20000 in
theorem okX11_readBoth : OKm mX11_readBoth := ⟨tm 1561 rfl, tm 12 rfl, ⟨by decide, by decide⟩, by decide⟩
set_option maxRecDepth 20000 in
theorem inX11_readBoth : Cond.instanceMethod (mY mX11_readBoth) ∈ TB := tm 1560 rfl
set_option maxRecDepth 20000 in
theorem seX11_readBoth : Cond.selects (mY mX11_readBoth).cls (mY mX11_readBoth) (mY mX11_readBoth) ∈ TB := tbm (List.mem_append_left _ (by decide +kernel)) rfl
theorem tokX11_readPlain : TOK mX11_readPlain := TOK.of tkX11_readPlain
set_option maxRecDepth 20000 in
theorem okX11_readPlain : OKm mX11_readPlain := ⟨tm 1565 rfl, tm 12 rfl, ⟨by decide, by decide⟩, by decide⟩
set_option maxRecDepth 20000 in
theorem inX11_readPlain : Cond.instanceMethod (mY mX11_readPlain) ∈ TB := tm 1564 rfl
set_option maxRecDepth 20000 in
theorem seX11_readPlain : Cond.selects (mY mX11_readPlain).cls (mY mX11_readPlain) (mY mX11_readPlain) ∈ TB := tbm (List.mem_append_left _ (by decide +kernel)) rfl
theorem tokX11_readSum : TOK mX11_readSum := TOK.of tkX11_readSum
set_option maxRecDepth 20000 in
theorem okX11_readSum : OKm mX11_readSum := ⟨tm 1529 rfl, tm 12 rfl, ⟨by decide, by decide⟩, by decide⟩
set_option maxRecDepth 20000 in
theorem inX11_readSum : Cond.instanceMethod (mY mX11_readSum) ∈ TB := tm 1528 rfl
set_option maxRecDepth 20000 in
theorem seX11_readSum : Cond.selects (mY mX11_readSum).cls (mY mX11_readSum) (mY mX11_readSum) ∈ TB := tbm (List.mem_append_left _ (by decide +kernel)) rfl
theorem tokX11_readTerm : TOK mX11_readTerm := TOK.of tkX11_readTerm
set_option maxRecDepth 20000 in
theorem okX11_readTerm : OKm mX11_readTerm := ⟨tm 1533 rfl, tm 12 rfl, ⟨by decide, by decide⟩, by decide⟩
set_option maxRecDepth 20000 in
theorem inX11_readTerm : Cond.instanceMethod (mY mX11_readTerm) ∈ TB := tm 1532 rfl
set_option maxRecDepth 20000 in
theorem seX11_readTerm : Cond.selects (mY mX11_readTerm).cls (mY mX11_readTerm) (mY mX11_readTerm) ∈ TB := tbm (List.mem_append_left _ (by decide +kernel)) rfl
theorem tokX11_readPart : TOK mX11_readPart := TOK.of tkX11_readPart
set_option maxRecDepth 20000 in
theorem okX11_readPart : OKm mX11_readPart := ⟨tm 1537 rfl, tm 12 rfl, ⟨by decide, by decide⟩, by decide⟩
set_option maxRecDepth 20000 in
theorem inX11_readPart : Cond.instanceMethod (mY mX11_readPart) ∈ TB := tm 1536 rfl
set_option maxRecDepth 20000 in
theorem seX11_readPart : Cond.selects (mY mX11_readPart).cls (mY mX11_readPart) (mY mX11_readPart) ∈ TB := tbm (List.mem_append_left _ (by decide +kernel)) rfl
theorem tokX11_reads : TOK mX11_reads := TOK.of tkX11_reads
set_option maxRecDepth 20000 in
theorem okX11_reads : OKm mX11_reads := ⟨tm 1490 rfl, tm 12 rfl, ⟨by decide, by decide⟩, by decide⟩
set_option maxRecDepth 20000 in
theorem inX11_reads : Cond.instanceMethod (mY mX11_reads) ∈ TB := tm 1489 rfl
set_option maxRecDepth 20000 in
theorem seX11_reads : Cond.selects (mY mX11_reads).cls (mY mX11_reads) (mY mX11_reads) ∈ TB := tbm (List.mem_append_left _ (by decide +kernel)) rfl
theorem tokX11_readsAs : TOK mX11_readsAs := TOK.of tkX11_readsAs
set_option maxRecDepth 20000 in
theorem okX11_readsAs : OKm mX11_readsAs := ⟨tm 1486 rfl, tm 12 rfl, ⟨by decide, by decide⟩, by decide⟩
set_option maxRecDepth 20000 in
theorem inX11_readsAs : Cond.instanceMethod (mY mX11_readsAs) ∈ TB := tm 1485 rfl
set_option maxRecDepth 20000 in
theorem seX11_readsAs : Cond.selects (mY mX11_readsAs).cls (mY mX11_readsAs) (mY mX11_readsAs) ∈ TB := tbm (List.mem_append_left _ (by decide +kernel)) rfl
theorem tokX11_lays : TOK mX11_lays := TOK.of tkX11_lays
set_option maxRecDepth 20000 in
theorem okX11_lays : OKm mX11_lays := ⟨tm 1573 rfl, tm 12 rfl, ⟨by decide, by decide⟩, by decide⟩
set_option maxRecDepth 20000 in
theorem inX11_lays : Cond.instanceMethod (mY mX11_lays) ∈ TB := tm 1572 rfl
set_option maxRecDepth 20000 in
theorem seX11_lays : Cond.selects (mY mX11_lays).cls (mY mX11_lays) (mY mX11_lays) ∈ TB := tbm (List.mem_append_left _ (by decide +kernel)) rfl
theorem tokX11_law : TOK mX11_law := TOK.of tkX11_law
set_option maxRecDepth 20000 in
theorem okX11_law : OKm mX11_law := ⟨tm 1482 rfl, tm 12 rfl, ⟨by decide, by decide⟩, by decide⟩
set_option maxRecDepth 20000 in
theorem inX11_law : Cond.instanceMethod (mY mX11_law) ∈ TB := tm 1480 rfl
set_option maxRecDepth 20000 in
theorem seX11_law : Cond.selects (mY mX11_law).cls (mY mX11_law) (mY mX11_law) ∈ TB := tm 1481 rfl
theorem tokX11_fault : TOK mX11_fault := TOK.of tkX11_fault
set_option maxRecDepth 20000 in
theorem okX11_fault : OKm mX11_fault := ⟨tm 1577 rfl, tm 12 rfl, ⟨by decide, by decide⟩, by decide⟩
set_option maxRecDepth 20000 in
theorem inX11_fault : Cond.instanceMethod (mY mX11_fault) ∈ TB := tm 1575 rfl
set_option maxRecDepth 20000 in
theorem seX11_fault : Cond.selects (mY mX11_fault).cls (mY mX11_fault) (mY mX11_fault) ∈ TB := tm 1576 rfl
theorem tokX11_isLaw : TOK mX11_isLaw := TOK.of tkX11_isLaw
set_option maxRecDepth 20000 in
theorem okX11_isLaw : OKm mX11_isLaw := ⟨tm 1585 rfl, tm 12 rfl, ⟨by decide, by decide⟩, by decide⟩
set_option maxRecDepth 20000 in
theorem inX11_isLaw : Cond.instanceMethod (mY mX11_isLaw) ∈ TB := tm 1584 rfl
set_option maxRecDepth 20000 in
theorem seX11_isLaw : Cond.selects (mY mX11_isLaw).cls (mY mX11_isLaw) (mY mX11_isLaw) ∈ TB := tbm (List.mem_append_left _ (by decide +kernel)) rfl
theorem tokX11_force : TOK mX11_force := TOK.of tkX11_force
set_option maxRecDepth 20000 in
theorem okX11_force : OKm mX11_force := ⟨tm 1581 rfl, tm 12 rfl, ⟨by decide, by decide⟩, by decide⟩
set_option maxRecDepth 20000 in
theorem inX11_force : Cond.instanceMethod (mY mX11_force) ∈ TB := tm 1579 rfl
set_option maxRecDepth 20000 in
theorem seX11_force : Cond.selects (mY mX11_force).cls (mY mX11_force) (mY mX11_force) ∈ TB := tm 1580 rfl
theorem tokX11_codeAt : TOK mX11_codeAt := TOK.of tkX11_codeAt
set_option maxRecDepth 20000 in
theorem okX11_codeAt : OKm mX11_codeAt := ⟨tm 1388 rfl, tm 12 rfl, ⟨by decide, by decide⟩, by decide⟩
set_option maxRecDepth 20000 in
theorem inX11_codeAt : Cond.instanceMethod (mY mX11_codeAt) ∈ TB := tm 1387 rfl
set_option maxRecDepth 20000 in
theorem seX11_codeAt : Cond.selects (mY mX11_codeAt).cls (mY mX11_codeAt) (mY mX11_codeAt) ∈ TB := tbm (List.mem_append_left _ (by decide +kernel)) rfl
theorem tokX11_passes0 : TOK mX11_passes0 := TOK.of tkX11_passes0
set_option maxRecDepth 20000 in
theorem okX11_passes0 : OKm mX11_passes0 := ⟨tm 1407 rfl, tm 12 rfl, ⟨by decide, by decide⟩, by decide⟩
set_option maxRecDepth 20000 in
theorem inX11_passes0 : Cond.instanceMethod (mY mX11_passes0) ∈ TB := tm 1406 rfl
set_option maxRecDepth 20000 in
theorem seX11_passes0 : Cond.selects (mY mX11_passes0).cls (mY mX11_passes0) (mY mX11_passes0) ∈ TB := tbm (List.mem_append_left _ (by decide +kernel)) rfl
theorem tokX11_bounded : TOK mX11_bounded := TOK.of tkX11_bounded
set_option maxRecDepth 20000 in
theorem okX11_bounded : OKm mX11_bounded := ⟨tm 1419 rfl, tm 12 rfl, ⟨by decide, by decide⟩, by decide⟩
set_option maxRecDepth 20000 in
theorem inX11_bounded : Cond.instanceMethod (mY mX11_bounded) ∈ TB := tm 1418 rfl
set_option maxRecDepth 20000 in
theorem seX11_bounded : Cond.selects (mY mX11_bounded).cls (mY mX11_bounded) (mY mX11_bounded) ∈ TB := tbm (List.mem_append_left _ (by decide +kernel)) rfl
theorem tokX11_sumOf : TOK mX11_sumOf := TOK.of tkX11_sumOf
set_option maxRecDepth 20000 in
theorem okX11_sumOf : OKm mX11_sumOf := ⟨tm 1392 rfl, tm 12 rfl, ⟨by decide, by decide⟩, by decide⟩
set_option maxRecDepth 20000 in
theorem inX11_sumOf : Cond.instanceMethod (mY mX11_sumOf) ∈ TB := tm 1391 rfl
set_option maxRecDepth 20000 in
theorem seX11_sumOf : Cond.selects (mY mX11_sumOf).cls (mY mX11_sumOf) (mY mX11_sumOf) ∈ TB := tbm (List.mem_append_left _ (by decide +kernel)) rfl
theorem tokX11_termOf : TOK mX11_termOf := TOK.of tkX11_termOf
set_option maxRecDepth 20000 in
theorem okX11_termOf : OKm mX11_termOf := ⟨tm 1396 rfl, tm 12 rfl, ⟨by decide, by decide⟩, by decide⟩
set_option maxRecDepth 20000 in
theorem inX11_termOf : Cond.instanceMethod (mY mX11_termOf) ∈ TB := tm 1395 rfl
set_option maxRecDepth 20000 in
theorem seX11_termOf : Cond.selects (mY mX11_termOf).cls (mY mX11_termOf) (mY mX11_termOf) ∈ TB := tbm (List.mem_append_left _ (by decide +kernel)) rfl
theorem tokX11_partOf : TOK mX11_partOf := TOK.of tkX11_partOf
set_option maxRecDepth 20000 in
theorem okX11_partOf : OKm mX11_partOf := ⟨tm 1400 rfl, tm 12 rfl, ⟨by decide, by decide⟩, by decide⟩
set_option maxRecDepth 20000 in
theorem inX11_partOf : Cond.instanceMethod (mY mX11_partOf) ∈ TB := tm 1399 rfl
set_option maxRecDepth 20000 in
theorem seX11_partOf : Cond.selects (mY mX11_partOf).cls (mY mX11_partOf) (mY mX11_partOf) ∈ TB := tbm (List.mem_append_left _ (by decide +kernel)) rfl
theorem tokX11_wholeMany : TOK mX11_wholeMany := TOK.of tkX11_wholeMany
set_option maxRecDepth 20000 in
theorem okX11_wholeMany : OKm mX11_wholeMany := ⟨tm 1415 rfl, tm 12 rfl, ⟨by decide, by decide⟩, by decide⟩
set_option maxRecDepth 20000 in
theorem inX11_wholeMany : Cond.instanceMethod (mY mX11_wholeMany) ∈ TB := tm 1414 rfl
set_option maxRecDepth 20000 in
theorem seX11_wholeMany : Cond.selects (mY mX11_wholeMany).cls (mY mX11_wholeMany) (mY mX11_wholeMany) ∈ TB := tbm (List.mem_append_left _ (by decide +kernel)) rfl
theorem tokX11_orderValue : TOK mX11_orderValue := TOK.of tkX11_orderValue
set_option maxRecDepth 20000 in
theorem okX11_orderValue : OKm mX11_orderValue := ⟨tm 1411 rfl, tm 12 rfl, ⟨by decide, by decide⟩, by decide⟩
set_option maxRecDepth 20000 in
theorem inX11_orderValue : Cond.instanceMethod (mY mX11_orderValue) ∈ TB := tm 1410 rfl
set_option maxRecDepth 20000 in
theorem seX11_orderValue : Cond.selects (mY mX11_orderValue).cls (mY mX11_orderValue) (mY mX11_orderValue) ∈ TB := tbm (List.mem_append_left _ (by decide +kernel)) rfl
theorem tokX11_testOf : TOK mX11_testOf := TOK.of tkX11_testOf
set_option maxRecDepth 20000 in
theorem okX11_testOf : OKm mX11_testOf := ⟨tm 1425 rfl, tm 12 rfl, ⟨by decide, by decide⟩, by decide⟩
set_option maxRecDepth 20000 in
theorem inX11_testOf : Cond.instanceMethod (mY mX11_testOf) ∈ TB := tm 1424 rfl
set_option maxRecDepth 20000 in
theorem seX11_testOf : Cond.selects (mY mX11_testOf).cls (mY mX11_testOf) (mY mX11_testOf) ∈ TB := tbm (List.mem_append_left _ (by decide +kernel)) rfl
theorem tokX11_bothOf : TOK mX11_bothOf := TOK.of tkX11_bothOf
set_option maxRecDepth 20000 in
theorem okX11_bothOf : OKm mX11_bothOf := ⟨tm 1429 rfl, tm 12 rfl, ⟨by decide, by decide⟩, by decide⟩
set_option maxRecDepth 20000 in
theorem inX11_bothOf : Cond.instanceMethod (mY mX11_bothOf) ∈ TB := tm 1428 rfl
set_option maxRecDepth 20000 in
theorem seX11_bothOf : Cond.selects (mY mX11_bothOf).cls (mY mX11_bothOf) (mY mX11_bothOf) ∈ TB := tbm (List.mem_append_left _ (by decide +kernel)) rfl
theorem tokX11_plainOf : TOK mX11_plainOf := TOK.of tkX11_plainOf
set_option maxRecDepth 20000 in
theorem okX11_plainOf : OKm mX11_plainOf := ⟨tm 1433 rfl, tm 12 rfl, ⟨by decide, by decide⟩, by decide⟩
set_option maxRecDepth 20000 in
theorem inX11_plainOf : Cond.instanceMethod (mY mX11_plainOf) ∈ TB := tm 1432 rfl
set_option maxRecDepth 20000 in
theorem seX11_plainOf : Cond.selects (mY mX11_plainOf).cls (mY mX11_plainOf) (mY mX11_plainOf) ∈ TB := tbm (List.mem_append_left _ (by decide +kernel)) rfl
theorem tokX11_positiveOf : TOK mX11_positiveOf := TOK.of tkX11_positiveOf
set_option maxRecDepth 20000 in
theorem okX11_positiveOf : OKm mX11_positiveOf := ⟨tm 1437 rfl, tm 12 rfl, ⟨by decide, by decide⟩, by decide⟩
set_option maxRecDepth 20000 in
theorem inX11_positiveOf : Cond.instanceMethod (mY mX11_positiveOf) ∈ TB := tm 1436 rfl
set_option maxRecDepth 20000 in
theorem seX11_positiveOf : Cond.selects (mY mX11_positiveOf).cls (mY mX11_positiveOf) (mY mX11_positiveOf) ∈ TB := tbm (List.mem_append_left _ (by decide +kernel)) rfl
theorem tokX11_setsAsked : TOK mX11_setsAsked := TOK.of tkX11_setsAsked
set_option maxRecDepth 20000 in
theorem okX11_setsAsked : OKm mX11_setsAsked := ⟨tm 1376 rfl, tm 12 rfl, ⟨by decide, by decide⟩, by decide⟩
set_option maxRecDepth 20000 in
theorem inX11_setsAsked : Cond.instanceMethod (mY mX11_setsAsked) ∈ TB := tm 1375 rfl
set_option maxRecDepth 20000 in
theorem seX11_setsAsked : Cond.selects (mY mX11_setsAsked).cls (mY mX11_setsAsked) (mY mX11_setsAsked) ∈ TB := tbm (List.mem_append_left _ (by decide +kernel)) rfl
theorem tokX11_setsGate : TOK mX11_setsGate := TOK.of tkX11_setsGate
set_option maxRecDepth 20000 in
theorem okX11_setsGate : OKm mX11_setsGate := ⟨tm 1372 rfl, tm 12 rfl, ⟨by decide, by decide⟩, by decide⟩
set_option maxRecDepth 20000 in
theorem inX11_setsGate : Cond.instanceMethod (mY mX11_setsGate) ∈ TB := tm 1371 rfl
set_option maxRecDepth 20000 in
theorem seX11_setsGate : Cond.selects (mY mX11_setsGate).cls (mY mX11_setsGate) (mY mX11_setsGate) ∈ TB := tbm (List.mem_append_left _ (by decide +kernel)) rfl
theorem tokX11_tells : TOK mX11_tells := TOK.of tkX11_tells
set_option maxRecDepth 20000 in
theorem okX11_tells : OKm mX11_tells := ⟨tm 1384 rfl, tm 12 rfl, ⟨by decide, by decide⟩, by decide⟩
set_option maxRecDepth 20000 in
theorem inX11_tells : Cond.instanceMethod (mY mX11_tells) ∈ TB := tm 1383 rfl
set_option maxRecDepth 20000 in
theorem seX11_tells : Cond.selects (mY mX11_tells).cls (mY mX11_tells) (mY mX11_tells) ∈ TB := tbm (List.mem_append_left _ (by decide +kernel)) rfl
theorem tokX11_turnsNow : TOK mX11_turnsNow := TOK.of tkX11_turnsNow
set_option maxRecDepth 20000 in
theorem okX11_turnsNow : OKm mX11_turnsNow := ⟨tm 1445 rfl, tm 12 rfl, ⟨by decide, by decide⟩, by decide⟩
set_option maxRecDepth 20000 in
theorem inX11_turnsNow : Cond.instanceMethod (mY mX11_turnsNow) ∈ TB := tm 1444 rfl
set_option maxRecDepth 20000 in
theorem seX11_turnsNow : Cond.selects (mY mX11_turnsNow).cls (mY mX11_turnsNow) (mY mX11_turnsNow) ∈ TB := tbm (List.mem_append_left _ (by decide +kernel)) rfl
theorem tokX11_paysNow : TOK mX11_paysNow := TOK.of tkX11_paysNow
set_option maxRecDepth 20000 in
theorem okX11_paysNow : OKm mX11_paysNow := ⟨tm 1452 rfl, tm 12 rfl, ⟨by decide, by decide⟩, by decide⟩
set_option maxRecDepth 20000 in
theorem inX11_paysNow : Cond.instanceMethod (mY mX11_paysNow) ∈ TB := tm 1451 rfl
set_option maxRecDepth 20000 in
theorem seX11_paysNow : Cond.selects (mY mX11_paysNow).cls (mY mX11_paysNow) (mY mX11_paysNow) ∈ TB := tbm (List.mem_append_left _ (by decide +kernel)) rfl
theorem tokX11_isBarredNow : TOK mX11_isBarredNow := TOK.of tkX11_isBarredNow
set_option maxRecDepth 20000 in
theorem okX11_isBarredNow : OKm mX11_isBarredNow := ⟨tm 1380 rfl, tm 12 rfl, ⟨by decide, by decide⟩, by decide⟩
set_option maxRecDepth 20000 in
theorem inX11_isBarredNow : Cond.instanceMethod (mY mX11_isBarredNow) ∈ TB := tm 1379 rfl
set_option maxRecDepth 20000 in
theorem seX11_isBarredNow : Cond.selects (mY mX11_isBarredNow).cls (mY mX11_isBarredNow) (mY mX11_isBarredNow) ∈ TB := tbm (List.mem_append_left _ (by decide +kernel)) rfl
theorem tokX11_canGo : TOK mX11_canGo := TOK.of tkX11_canGo
set_option maxRecDepth 20000 in
theorem okX11_canGo : OKm mX11_canGo := ⟨tm 1368 rfl, tm 12 rfl, ⟨by decide, by decide⟩, by decide⟩
set_option maxRecDepth 20000 in
theorem inX11_canGo : Cond.instanceMethod (mY mX11_canGo) ∈ TB := tm 1367 rfl
set_option maxRecDepth 20000 in
theorem seX11_canGo : Cond.selects (mY mX11_canGo).cls (mY mX11_canGo) (mY mX11_canGo) ∈ TB := tbm (List.mem_append_left _ (by decide +kernel)) rfl
theorem tokX11_goesNow : TOK mX11_goesNow := TOK.of tkX11_goesNow
set_option maxRecDepth 20000 in
theorem okX11_goesNow : OKm mX11_goesNow := ⟨tm 1605 rfl, tm 12 rfl, ⟨by decide, by decide⟩, by decide⟩
set_option maxRecDepth 20000 in
theorem inX11_goesNow : Cond.instanceMethod (mY mX11_goesNow) ∈ TB := tm 1604 rfl
set_option maxRecDepth 20000 in
theorem seX11_goesNow : Cond.selects (mY mX11_goesNow).cls (mY mX11_goesNow) (mY mX11_goesNow) ∈ TB := tbm (List.mem_append_left _ (by decide +kernel)) rfl
theorem tokX11_keeps : TOK mX11_keeps := TOK.of tkX11_keeps
set_option maxRecDepth 20000 in
theorem okX11_keeps : OKm mX11_keeps := ⟨tm 1601 rfl, tm 12 rfl, ⟨by decide, by decide⟩, by decide⟩
set_option maxRecDepth 20000 in
theorem inX11_keeps : Cond.instanceMethod (mY mX11_keeps) ∈ TB := tm 1600 rfl
set_option maxRecDepth 20000 in
theorem seX11_keeps : Cond.selects (mY mX11_keeps).cls (mY mX11_keeps) (mY mX11_keeps) ∈ TB := tbm (List.mem_append_left _ (by decide +kernel)) rfl
theorem tokX11_undo : TOK mX11_undo := TOK.of tkX11_undo
set_option maxRecDepth 20000 in
theorem okX11_undo : OKm mX11_undo := ⟨tm 1589 rfl, tm 12 rfl, ⟨by decide, by decide⟩, by decide⟩
set_option maxRecDepth 20000 in
theorem inX11_undo : Cond.instanceMethod (mY mX11_undo) ∈ TB := tm 1587 rfl
set_option maxRecDepth 20000 in
theorem seX11_undo : Cond.selects (mY mX11_undo).cls (mY mX11_undo) (mY mX11_undo) ∈ TB := tm 1588 rfl
theorem tokX11_goodOr : TOK mX11_goodOr := TOK.of tkX11_goodOr
set_option maxRecDepth 20000 in
theorem okX11_goodOr : OKm mX11_goodOr := ⟨tm 1612 rfl, tm 12 rfl, ⟨by decide, by decide⟩, by decide⟩
set_option maxRecDepth 20000 in
theorem inX11_goodOr : Cond.instanceMethod (mY mX11_goodOr) ∈ TB := tm 1611 rfl
set_option maxRecDepth 20000 in
theorem seX11_goodOr : Cond.selects (mY mX11_goodOr).cls (mY mX11_goodOr) (mY mX11_goodOr) ∈ TB := tbm (List.mem_append_left _ (by decide +kernel)) rfl
theorem tokX11_goesKept : TOK mX11_goesKept := TOK.of tkX11_goesKept
set_option maxRecDepth 20000 in
theorem okX11_goesKept : OKm mX11_goesKept := ⟨tm 1597 rfl, tm 12 rfl, ⟨by decide, by decide⟩, by decide⟩
set_option maxRecDepth 20000 in
theorem inX11_goesKept : Cond.instanceMethod (mY mX11_goesKept) ∈ TB := tm 1596 rfl
set_option maxRecDepth 20000 in
theorem seX11_goesKept : Cond.selects (mY mX11_goesKept).cls (mY mX11_goesKept) (mY mX11_goesKept) ∈ TB := tbm (List.mem_append_left _ (by decide +kernel)) rfl
theorem tokX11_latchesKept : TOK mX11_latchesKept := TOK.of tkX11_latchesKept
set_option maxRecDepth 20000 in
theorem okX11_latchesKept : OKm mX11_latchesKept := ⟨tm 1620 rfl, tm 12 rfl, ⟨by decide, by decide⟩, by decide⟩
set_option maxRecDepth 20000 in
theorem inX11_latchesKept : Cond.instanceMethod (mY mX11_latchesKept) ∈ TB := tm 1619 rfl
set_option maxRecDepth 20000 in
theorem seX11_latchesKept : Cond.selects (mY mX11_latchesKept).cls (mY mX11_latchesKept) (mY mX11_latchesKept) ∈ TB := tbm (List.mem_append_left _ (by decide +kernel)) rfl
theorem tokX11_setsKept : TOK mX11_setsKept := TOK.of tkX11_setsKept
set_option maxRecDepth 20000 in
theorem okX11_setsKept : OKm mX11_setsKept := ⟨tm 1628 rfl, tm 12 rfl, ⟨by decide, by decide⟩, by decide⟩
set_option maxRecDepth 20000 in
theorem inX11_setsKept : Cond.instanceMethod (mY mX11_setsKept) ∈ TB := tm 1627 rfl
set_option maxRecDepth 20000 in
theorem seX11_setsKept : Cond.selects (mY mX11_setsKept).cls (mY mX11_setsKept) (mY mX11_setsKept) ∈ TB := tbm (List.mem_append_left _ (by decide +kernel)) rfl
theorem tokX11_passesKept : TOK mX11_passesKept := TOK.of tkX11_passesKept
set_option maxRecDepth 20000 in
theorem okX11_passesKept : OKm mX11_passesKept := ⟨tm 1636 rfl, tm 12 rfl, ⟨by decide, by decide⟩, by decide⟩
set_option maxRecDepth 20000 in
theorem inX11_passesKept : Cond.instanceMethod (mY mX11_passesKept) ∈ TB := tm 1635 rfl
set_option maxRecDepth 20000 in
theorem seX11_passesKept : Cond.selects (mY mX11_passesKept).cls (mY mX11_passesKept) (mY mX11_passesKept) ∈ TB := tbm (List.mem_append_left _ (by decide +kernel)) rfl
theorem tokX11_go : TOK mX11_go := TOK.of tkX11_go
set_option maxRecDepth 20000 in
theorem okX11_go : OKm mX11_go := ⟨tm 1593 rfl, tm 12 rfl, ⟨by decide, by decide⟩, by decide⟩
set_option maxRecDepth 20000 in
theorem inX11_go : Cond.instanceMethod (mY mX11_go) ∈ TB := tm 1591 rfl
set_option maxRecDepth 20000 in
theorem seX11_go : Cond.selects (mY mX11_go).cls (mY mX11_go) (mY mX11_go) ∈ TB := tm 1592 rfl
theorem tokX11_latch : TOK mX11_latch := TOK.of tkX11_latch
set_option maxRecDepth 20000 in
theorem okX11_latch : OKm mX11_latch := ⟨tm 1616 rfl, tm 12 rfl, ⟨by decide, by decide⟩, by decide⟩
set_option maxRecDepth 20000 in
theorem inX11_latch : Cond.instanceMethod (mY mX11_latch) ∈ TB := tm 1614 rfl
set_option maxRecDepth 20000 in
theorem seX11_latch : Cond.selects (mY mX11_latch).cls (mY mX11_latch) (mY mX11_latch) ∈ TB := tm 1615 rfl
theorem tokX11_set : TOK mX11_set := TOK.of tkX11_set
set_option maxRecDepth 20000 in
theorem okX11_set : OKm mX11_set := ⟨tm 1624 rfl, tm 12 rfl, ⟨by decide, by decide⟩, by decide⟩
set_option maxRecDepth 20000 in
theorem inX11_set : Cond.instanceMethod (mY mX11_set) ∈ TB := tm 1622 rfl
set_option maxRecDepth 20000 in
theorem seX11_set : Cond.selects (mY mX11_set).cls (mY mX11_set) (mY mX11_set) ∈ TB := tm 1623 rfl
theorem tokX11_pass : TOK mX11_pass := TOK.of tkX11_pass
set_option maxRecDepth 20000 in
theorem okX11_pass : OKm mX11_pass := ⟨tm 1632 rfl, tm 12 rfl, ⟨by decide, by decide⟩, by decide⟩
set_option maxRecDepth 20000 in
theorem inX11_pass : Cond.instanceMethod (mY mX11_pass) ∈ TB := tm 1630 rfl
set_option maxRecDepth 20000 in
theorem seX11_pass : Cond.selects (mY mX11_pass).cls (mY mX11_pass) (mY mX11_pass) ∈ TB := tm 1631 rfl
theorem tokX11_laysGate : TOK mX11_laysGate := TOK.of tkX11_laysGate
set_option maxRecDepth 20000 in
theorem okX11_laysGate : OKm mX11_laysGate := ⟨tm 1651 rfl, tm 12 rfl, ⟨by decide, by decide⟩, by decide⟩
set_option maxRecDepth 20000 in
theorem inX11_laysGate : Cond.instanceMethod (mY mX11_laysGate) ∈ TB := tm 1650 rfl
set_option maxRecDepth 20000 in
theorem seX11_laysGate : Cond.selects (mY mX11_laysGate).cls (mY mX11_laysGate) (mY mX11_laysGate) ∈ TB := tbm (List.mem_append_left _ (by decide +kernel)) rfl
theorem tokX11_laysOut : TOK mX11_laysOut := TOK.of tkX11_laysOut
set_option maxRecDepth 20000 in
theorem okX11_laysOut : OKm mX11_laysOut := ⟨tm 1647 rfl, tm 12 rfl, ⟨by decide, by decide⟩, by decide⟩
set_option maxRecDepth 20000 in
theorem inX11_laysOut : Cond.instanceMethod (mY mX11_laysOut) ∈ TB := tm 1646 rfl
set_option maxRecDepth 20000 in
theorem seX11_laysOut : Cond.selects (mY mX11_laysOut).cls (mY mX11_laysOut) (mY mX11_laysOut) ∈ TB := tbm (List.mem_append_left _ (by decide +kernel)) rfl
theorem tokX11_placeOf : TOK mX11_placeOf := TOK.of tkX11_placeOf
set_option maxRecDepth 20000 in
theorem okX11_placeOf : OKm mX11_placeOf := ⟨tm 1666 rfl, tm 12 rfl, ⟨by decide, by decide⟩, by decide⟩
set_option maxRecDepth 20000 in
theorem inX11_placeOf : Cond.instanceMethod (mY mX11_placeOf) ∈ TB := tm 1665 rfl
set_option maxRecDepth 20000 in
theorem seX11_placeOf : Cond.selects (mY mX11_placeOf).cls (mY mX11_placeOf) (mY mX11_placeOf) ∈ TB := tbm (List.mem_append_left _ (by decide +kernel)) rfl
theorem tokX11_nextPlace : TOK mX11_nextPlace := TOK.of tkX11_nextPlace
set_option maxRecDepth 20000 in
theorem okX11_nextPlace : OKm mX11_nextPlace := ⟨tm 1662 rfl, tm 12 rfl, ⟨by decide, by decide⟩, by decide⟩
set_option maxRecDepth 20000 in
theorem inX11_nextPlace : Cond.instanceMethod (mY mX11_nextPlace) ∈ TB := tm 1661 rfl
set_option maxRecDepth 20000 in
theorem seX11_nextPlace : Cond.selects (mY mX11_nextPlace).cls (mY mX11_nextPlace) (mY mX11_nextPlace) ∈ TB := tbm (List.mem_append_left _ (by decide +kernel)) rfl
theorem tokX11_isGoal : TOK mX11_isGoal := TOK.of tkX11_isGoal
set_option maxRecDepth 20000 in
theorem okX11_isGoal : OKm mX11_isGoal := ⟨tm 1658 rfl, tm 12 rfl, ⟨by decide, by decide⟩, by decide⟩
set_option maxRecDepth 20000 in
theorem inX11_isGoal : Cond.static (mY mX11_isGoal) ∈ TB := tm 1657 rfl
theorem tokX11_canBeGoal : TOK mX11_canBeGoal := TOK.of tkX11_canBeGoal
set_option maxRecDepth 20000 in
theorem okX11_canBeGoal : OKm mX11_canBeGoal := ⟨tm 1643 rfl, tm 12 rfl, ⟨by decide, by decide⟩, by decide⟩
set_option maxRecDepth 20000 in
theorem inX11_canBeGoal : Cond.static (mY mX11_canBeGoal) ∈ TB := tm 1642 rfl
theorem tokX11_laysLeft : TOK mX11_laysLeft := TOK.of tkX11_laysLeft
set_option maxRecDepth 20000 in
theorem okX11_laysLeft : OKm mX11_laysLeft := ⟨tm 1655 rfl, tm 12 rfl, ⟨by decide, by decide⟩, by decide⟩
set_option maxRecDepth 20000 in
theorem inX11_laysLeft : Cond.instanceMethod (mY mX11_laysLeft) ∈ TB := tm 1654 rfl
set_option maxRecDepth 20000 in
theorem seX11_laysLeft : Cond.selects (mY mX11_laysLeft).cls (mY mX11_laysLeft) (mY mX11_laysLeft) ∈ TB := tbm (List.mem_append_left _ (by decide +kernel)) rfl
theorem tokX11_way : TOK mX11_way := TOK.of tkX11_way
set_option maxRecDepth 20000 in
theorem okX11_way : OKm mX11_way := ⟨tm 1640 rfl, tm 12 rfl, ⟨by decide, by decide⟩, by decide⟩
set_option maxRecDepth 20000 in
theorem inX11_way : Cond.instanceMethod (mY mX11_way) ∈ TB := tm 1638 rfl
set_option maxRecDepth 20000 in
theorem seX11_way : Cond.selects (mY mX11_way).cls (mY mX11_way) (mY mX11_way) ∈ TB := tm 1639 rfl
theorem tokX11_cheap : TOK mX11_cheap := TOK.of tkX11_cheap
set_option maxRecDepth 20000 in
theorem okX11_cheap : OKm mX11_cheap := ⟨tm 1670 rfl, tm 12 rfl, ⟨by decide, by decide⟩, by decide⟩
set_option maxRecDepth 20000 in
theorem inX11_cheap : Cond.instanceMethod (mY mX11_cheap) ∈ TB := tm 1668 rfl
set_option maxRecDepth 20000 in
theorem seX11_cheap : Cond.selects (mY mX11_cheap).cls (mY mX11_cheap) (mY mX11_cheap) ∈ TB := tm 1669 rfl
theorem tokX11_compare : TOK mX11_compare := TOK.of tkX11_compare
set_option maxRecDepth 20000 in
theorem okX11_compare : OKm mX11_compare := ⟨tm 1674 rfl, tm 12 rfl, ⟨by decide, by decide⟩, by decide⟩
set_option maxRecDepth 20000 in
theorem inX11_compare : Cond.instanceMethod (mY mX11_compare) ∈ TB := tm 1672 rfl
set_option maxRecDepth 20000 in
theorem seX11_compare : Cond.selects (mY mX11_compare).cls (mY mX11_compare) (mY mX11_compare) ∈ TB := tm 1673 rfl
theorem tokX11_laysGone : TOK mX11_laysGone := TOK.of tkX11_laysGone
set_option maxRecDepth 20000 in
theorem okX11_laysGone : OKm mX11_laysGone := ⟨tm 1683 rfl, tm 12 rfl, ⟨by decide, by decide⟩, by decide⟩
set_option maxRecDepth 20000 in
theorem inX11_laysGone : Cond.instanceMethod (mY mX11_laysGone) ∈ TB := tm 1682 rfl
set_option maxRecDepth 20000 in
theorem seX11_laysGone : Cond.selects (mY mX11_laysGone).cls (mY mX11_laysGone) (mY mX11_laysGone) ∈ TB := tbm (List.mem_append_left _ (by decide +kernel)) rfl
theorem tokX11_comesTo : TOK mX11_comesTo := TOK.of tkX11_comesTo
set_option maxRecDepth 20000 in
theorem okX11_comesTo : OKm mX11_comesTo := ⟨tm 1694 rfl, tm 12 rfl, ⟨by decide, by decide⟩, by decide⟩
set_option maxRecDepth 20000 in
theorem inX11_comesTo : Cond.instanceMethod (mY mX11_comesTo) ∈ TB := tm 1693 rfl
set_option maxRecDepth 20000 in
theorem seX11_comesTo : Cond.selects (mY mX11_comesTo).cls (mY mX11_comesTo) (mY mX11_comesTo) ∈ TB := tbm (List.mem_append_left _ (by decide +kernel)) rfl
theorem tokX11_manys : TOK mX11_manys := TOK.of tkX11_manys
set_option maxRecDepth 20000 in
theorem okX11_manys : OKm mX11_manys := ⟨tm 1679 rfl, tm 12 rfl, ⟨by decide, by decide⟩, by decide⟩
set_option maxRecDepth 20000 in
theorem inX11_manys : Cond.instanceMethod (mY mX11_manys) ∈ TB := tm 1677 rfl
set_option maxRecDepth 20000 in
theorem seX11_manys : Cond.selects (mY mX11_manys).cls (mY mX11_manys) (mY mX11_manys) ∈ TB := tm 1678 rfl
theorem tokX11_reach : TOK mX11_reach := TOK.of tkX11_reach
set_option maxRecDepth 20000 in
theorem okX11_reach : OKm mX11_reach := ⟨tm 1690 rfl, tm 12 rfl, ⟨by decide, by decide⟩, by decide⟩
set_option maxRecDepth 20000 in
theorem inX11_reach : Cond.instanceMethod (mY mX11_reach) ∈ TB := tm 1688 rfl
set_option maxRecDepth 20000 in
theorem seX11_reach : Cond.selects (mY mX11_reach).cls (mY mX11_reach) (mY mX11_reach) ∈ TB := tm 1689 rfl
theorem tokX11_laysParts : TOK mX11_laysParts := TOK.of tkX11_laysParts
set_option maxRecDepth 20000 in
theorem okX11_laysParts : OKm mX11_laysParts := ⟨tm 1703 rfl, tm 12 rfl, ⟨by decide, by decide⟩, by decide⟩
set_option maxRecDepth 20000 in
theorem inX11_laysParts : Cond.instanceMethod (mY mX11_laysParts) ∈ TB := tm 1702 rfl
set_option maxRecDepth 20000 in
theorem seX11_laysParts : Cond.selects (mY mX11_laysParts).cls (mY mX11_laysParts) (mY mX11_laysParts) ∈ TB := tbm (List.mem_append_left _ (by decide +kernel)) rfl
theorem tokX11_gatesFrom : TOK mX11_gatesFrom := TOK.of tkX11_gatesFrom
set_option maxRecDepth 20000 in
theorem okX11_gatesFrom : OKm mX11_gatesFrom := ⟨tm 1711 rfl, tm 12 rfl, ⟨by decide, by decide⟩, by decide⟩
set_option maxRecDepth 20000 in
theorem inX11_gatesFrom : Cond.instanceMethod (mY mX11_gatesFrom) ∈ TB := tm 1710 rfl
set_option maxRecDepth 20000 in
theorem seX11_gatesFrom : Cond.selects (mY mX11_gatesFrom).cls (mY mX11_gatesFrom) (mY mX11_gatesFrom) ∈ TB := tbm (List.mem_append_left _ (by decide +kernel)) rfl
theorem tokX11_steps : TOK mX11_steps := TOK.of tkX11_steps
set_option maxRecDepth 20000 in
theorem okX11_steps : OKm mX11_steps := ⟨tm 1707 rfl, tm 12 rfl, ⟨by decide, by decide⟩, by decide⟩
set_option maxRecDepth 20000 in
theorem inX11_steps : Cond.instanceMethod (mY mX11_steps) ∈ TB := tm 1706 rfl
set_option maxRecDepth 20000 in
theorem seX11_steps : Cond.selects (mY mX11_steps).cls (mY mX11_steps) (mY mX11_steps) ∈ TB := tbm (List.mem_append_left _ (by decide +kernel)) rfl
theorem tokX11_partsAt : TOK mX11_partsAt := TOK.of tkX11_partsAt
set_option maxRecDepth 20000 in
theorem okX11_partsAt : OKm mX11_partsAt := ⟨tm 1715 rfl, tm 12 rfl, ⟨by decide, by decide⟩, by decide⟩
set_option maxRecDepth 20000 in
theorem inX11_partsAt : Cond.instanceMethod (mY mX11_partsAt) ∈ TB := tm 1714 rfl
set_option maxRecDepth 20000 in
theorem seX11_partsAt : Cond.selects (mY mX11_partsAt).cls (mY mX11_partsAt) (mY mX11_partsAt) ∈ TB := tbm (List.mem_append_left _ (by decide +kernel)) rfl
theorem tokX11_ways : TOK mX11_ways := TOK.of tkX11_ways
set_option maxRecDepth 20000 in
theorem okX11_ways : OKm mX11_ways := ⟨tm 1698 rfl, tm 12 rfl, ⟨by decide, by decide⟩, by decide⟩
set_option maxRecDepth 20000 in
theorem inX11_ways : Cond.instanceMethod (mY mX11_ways) ∈ TB := tm 1696 rfl
set_option maxRecDepth 20000 in
theorem seX11_ways : Cond.selects (mY mX11_ways).cls (mY mX11_ways) (mY mX11_ways) ∈ TB := tm 1697 rfl
theorem tokX11_likely : TOK mX11_likely := TOK.of tkX11_likely
set_option maxRecDepth 20000 in
theorem okX11_likely : OKm mX11_likely := ⟨tm 1719 rfl, tm 12 rfl, ⟨by decide, by decide⟩, by decide⟩
set_option maxRecDepth 20000 in
theorem inX11_likely : Cond.instanceMethod (mY mX11_likely) ∈ TB := tm 1717 rfl
set_option maxRecDepth 20000 in
theorem seX11_likely : Cond.selects (mY mX11_likely).cls (mY mX11_likely) (mY mX11_likely) ∈ TB := tm 1718 rfl
theorem tokX11_again : TOK mX11_again := TOK.of tkX11_again
set_option maxRecDepth 20000 in
theorem okX11_again : OKm mX11_again := ⟨tm 1724 rfl, tm 12 rfl, ⟨by decide, by decide⟩, by decide⟩
set_option maxRecDepth 20000 in
theorem inX11_again : Cond.instanceMethod (mY mX11_again) ∈ TB := tm 1722 rfl
set_option maxRecDepth 20000 in
theorem seX11_again : Cond.selects (mY mX11_again).cls (mY mX11_again) (mY mX11_again) ∈ TB := tm 1723 rfl
theorem tokX11_hasWay : TOK mX11_hasWay := TOK.of tkX11_hasWay
set_option maxRecDepth 20000 in
theorem okX11_hasWay : OKm mX11_hasWay := ⟨tm 1732 rfl, tm 12 rfl, ⟨by decide, by decide⟩, by decide⟩
set_option maxRecDepth 20000 in
theorem inX11_hasWay : Cond.instanceMethod (mY mX11_hasWay) ∈ TB := tm 1731 rfl
set_option maxRecDepth 20000 in
theorem seX11_hasWay : Cond.selects (mY mX11_hasWay).cls (mY mX11_hasWay) (mY mX11_hasWay) ∈ TB := tbm (List.mem_append_left _ (by decide +kernel)) rfl
theorem tokX11_fixedAt : TOK mX11_fixedAt := TOK.of tkX11_fixedAt
set_option maxRecDepth 20000 in
theorem okX11_fixedAt : OKm mX11_fixedAt := ⟨tm 1736 rfl, tm 12 rfl, ⟨by decide, by decide⟩, by decide⟩
set_option maxRecDepth 20000 in
theorem inX11_fixedAt : Cond.instanceMethod (mY mX11_fixedAt) ∈ TB := tm 1735 rfl
set_option maxRecDepth 20000 in
theorem seX11_fixedAt : Cond.selects (mY mX11_fixedAt).cls (mY mX11_fixedAt) (mY mX11_fixedAt) ∈ TB := tbm (List.mem_append_left _ (by decide +kernel)) rfl
theorem tokX11_fixed : TOK mX11_fixed := TOK.of tkX11_fixed
set_option maxRecDepth 20000 in
theorem okX11_fixed : OKm mX11_fixed := ⟨tm 1728 rfl, tm 12 rfl, ⟨by decide, by decide⟩, by decide⟩
set_option maxRecDepth 20000 in
theorem inX11_fixed : Cond.instanceMethod (mY mX11_fixed) ∈ TB := tm 1726 rfl
set_option maxRecDepth 20000 in
theorem seX11_fixed : Cond.selects (mY mX11_fixed).cls (mY mX11_fixed) (mY mX11_fixed) ∈ TB := tm 1727 rfl
theorem tokX11_cut : TOK mX11_cut := TOK.of tkX11_cut
set_option maxRecDepth 20000 in
theorem okX11_cut : OKm mX11_cut := ⟨tm 1740 rfl, tm 12 rfl, ⟨by decide, by decide⟩, by decide⟩
set_option maxRecDepth 20000 in
theorem inX11_cut : Cond.instanceMethod (mY mX11_cut) ∈ TB := tm 1738 rfl
set_option maxRecDepth 20000 in
theorem seX11_cut : Cond.selects (mY mX11_cut).cls (mY mX11_cut) (mY mX11_cut) ∈ TB := tm 1739 rfl
theorem tokX11_meet : TOK mX11_meet := TOK.of tkX11_meet
set_option maxRecDepth 20000 in
theorem okX11_meet : OKm mX11_meet := ⟨tm 1747 rfl, tm 12 rfl, ⟨by decide, by decide⟩, by decide⟩
set_option maxRecDepth 20000 in
theorem inX11_meet : Cond.instanceMethod (mY mX11_meet) ∈ TB := tm 1745 rfl
set_option maxRecDepth 20000 in
theorem seX11_meet : Cond.selects (mY mX11_meet).cls (mY mX11_meet) (mY mX11_meet) ∈ TB := tm 1746 rfl
theorem tokX11_seen : TOK mX11_seen := TOK.of tkX11_seen
set_option maxRecDepth 20000 in
theorem okX11_seen : OKm mX11_seen := ⟨tm 1751 rfl, tm 12 rfl, ⟨by decide, by decide⟩, by decide⟩
set_option maxRecDepth 20000 in
theorem inX11_seen : Cond.instanceMethod (mY mX11_seen) ∈ TB := tm 1749 rfl
set_option maxRecDepth 20000 in
theorem seX11_seen : Cond.selects (mY mX11_seen).cls (mY mX11_seen) (mY mX11_seen) ∈ TB := tm 1750 rfl
theorem tokX11_forget : TOK mX11_forget := TOK.of tkX11_forget
set_option maxRecDepth 20000 in
theorem okX11_forget : OKm mX11_forget := ⟨tm 1755 rfl, tm 12 rfl, ⟨by decide, by decide⟩, by decide⟩
set_option maxRecDepth 20000 in
theorem inX11_forget : Cond.instanceMethod (mY mX11_forget) ∈ TB := tm 1753 rfl
set_option maxRecDepth 20000 in
theorem seX11_forget : Cond.selects (mY mX11_forget).cls (mY mX11_forget) (mY mX11_forget) ∈ TB := tm 1754 rfl
theorem tokX11_outOf : TOK mX11_outOf := TOK.of tkX11_outOf
set_option maxRecDepth 20000 in
theorem okX11_outOf : OKm mX11_outOf := ⟨tm 1767 rfl, tm 12 rfl, ⟨by decide, by decide⟩, by decide⟩
set_option maxRecDepth 20000 in
theorem inX11_outOf : Cond.instanceMethod (mY mX11_outOf) ∈ TB := tm 1766 rfl
set_option maxRecDepth 20000 in
theorem seX11_outOf : Cond.selects (mY mX11_outOf).cls (mY mX11_outOf) (mY mX11_outOf) ∈ TB := tbm (List.mem_append_left _ (by decide +kernel)) rfl
theorem tokX11_canBeKind : TOK mX11_canBeKind := TOK.of tkX11_canBeKind
set_option maxRecDepth 20000 in
theorem okX11_canBeKind : OKm mX11_canBeKind := ⟨tm 1763 rfl, tm 12 rfl, ⟨by decide, by decide⟩, by decide⟩
set_option maxRecDepth 20000 in
theorem inX11_canBeKind : Cond.instanceMethod (mY mX11_canBeKind) ∈ TB := tm 1762 rfl
set_option maxRecDepth 20000 in
theorem seX11_canBeKind : Cond.selects (mY mX11_canBeKind).cls (mY mX11_canBeKind) (mY mX11_canBeKind) ∈ TB := tbm (List.mem_append_left _ (by decide +kernel)) rfl
theorem tokX11_kinds : TOK mX11_kinds := TOK.of tkX11_kinds
set_option maxRecDepth 20000 in
theorem okX11_kinds : OKm mX11_kinds := ⟨tm 1759 rfl, tm 12 rfl, ⟨by decide, by decide⟩, by decide⟩
set_option maxRecDepth 20000 in
theorem inX11_kinds : Cond.instanceMethod (mY mX11_kinds) ∈ TB := tm 1757 rfl
set_option maxRecDepth 20000 in
theorem seX11_kinds : Cond.selects (mY mX11_kinds).cls (mY mX11_kinds) (mY mX11_kinds) ∈ TB := tm 1758 rfl
theorem tokX11_mostAlike : TOK mX11_mostAlike := TOK.of tkX11_mostAlike
set_option maxRecDepth 20000 in
theorem okX11_mostAlike : OKm mX11_mostAlike := ⟨tm 1776 rfl, tm 12 rfl, ⟨by decide, by decide⟩, by decide⟩
set_option maxRecDepth 20000 in
theorem inX11_mostAlike : Cond.instanceMethod (mY mX11_mostAlike) ∈ TB := tm 1775 rfl
set_option maxRecDepth 20000 in
theorem seX11_mostAlike : Cond.selects (mY mX11_mostAlike).cls (mY mX11_mostAlike) (mY mX11_mostAlike) ∈ TB := tbm (List.mem_append_left _ (by decide +kernel)) rfl
theorem tokX11_ask : TOK mX11_ask := TOK.of tkX11_ask
set_option maxRecDepth 20000 in
theorem okX11_ask : OKm mX11_ask := ⟨tm 1771 rfl, tm 12 rfl, ⟨by decide, by decide⟩, by decide⟩
set_option maxRecDepth 20000 in
theorem inX11_ask : Cond.instanceMethod (mY mX11_ask) ∈ TB := tm 1769 rfl
set_option maxRecDepth 20000 in
theorem seX11_ask : Cond.selects (mY mX11_ask).cls (mY mX11_ask) (mY mX11_ask) ∈ TB := tm 1770 rfl
theorem tokX11_few : TOK mX11_few := TOK.of tkX11_few
set_option maxRecDepth 20000 in
theorem okX11_few : OKm mX11_few := ⟨tm 1780 rfl, tm 12 rfl, ⟨by decide, by decide⟩, by decide⟩
set_option maxRecDepth 20000 in
theorem inX11_few : Cond.instanceMethod (mY mX11_few) ∈ TB := tm 1778 rfl
set_option maxRecDepth 20000 in
theorem seX11_few : Cond.selects (mY mX11_few).cls (mY mX11_few) (mY mX11_few) ∈ TB := tm 1779 rfl
theorem tokX11_stopped : TOK mX11_stopped := TOK.of tkX11_stopped
set_option maxRecDepth 20000 in
theorem okX11_stopped : OKm mX11_stopped := ⟨tm 1785 rfl, tm 12 rfl, ⟨by decide, by decide⟩, by decide⟩
set_option maxRecDepth 20000 in
theorem inX11_stopped : Cond.instanceMethod (mY mX11_stopped) ∈ TB := tm 1783 rfl
set_option maxRecDepth 20000 in
theorem seX11_stopped : Cond.selects (mY mX11_stopped).cls (mY mX11_stopped) (mY mX11_stopped) ∈ TB := tm 1784 rfl
theorem tokX11_orders : TOK mX11_orders := TOK.of tkX11_orders
set_option maxRecDepth 20000 in
theorem okX11_orders : OKm mX11_orders := ⟨tm 1789 rfl, tm 12 rfl, ⟨by decide, by decide⟩, by decide⟩
set_option maxRecDepth 20000 in
theorem inX11_orders : Cond.instanceMethod (mY mX11_orders) ∈ TB := tm 1787 rfl
set_option maxRecDepth 20000 in
theorem seX11_orders : Cond.selects (mY mX11_orders).cls (mY mX11_orders) (mY mX11_orders) ∈ TB := tm 1788 rfl
theorem tokX11_goesAlong : TOK mX11_goesAlong := TOK.of tkX11_goesAlong
set_option maxRecDepth 20000 in
theorem okX11_goesAlong : OKm mX11_goesAlong := ⟨tm 1801 rfl, tm 12 rfl, ⟨by decide, by decide⟩, by decide⟩
set_option maxRecDepth 20000 in
theorem inX11_goesAlong : Cond.instanceMethod (mY mX11_goesAlong) ∈ TB := tm 1800 rfl
set_option maxRecDepth 20000 in
theorem seX11_goesAlong : Cond.selects (mY mX11_goesAlong).cls (mY mX11_goesAlong) (mY mX11_goesAlong) ∈ TB := tbm (List.mem_append_left _ (by decide +kernel)) rfl
theorem tokX11_small : TOK mX11_small := TOK.of tkX11_small
set_option maxRecDepth 20000 in
theorem okX11_small : OKm mX11_small := ⟨tm 1808 rfl, tm 12 rfl, ⟨by decide, by decide⟩, by decide⟩
set_option maxRecDepth 20000 in
theorem inX11_small : Cond.static (mY mX11_small) ∈ TB := tm 1807 rfl
theorem tokX11_obeys : TOK mX11_obeys := TOK.of tkX11_obeys
set_option maxRecDepth 20000 in
theorem okX11_obeys : OKm mX11_obeys := ⟨tm 1805 rfl, tm 12 rfl, ⟨by decide, by decide⟩, by decide⟩
set_option maxRecDepth 20000 in
theorem inX11_obeys : Cond.instanceMethod (mY mX11_obeys) ∈ TB := tm 1804 rfl
set_option maxRecDepth 20000 in
theorem seX11_obeys : Cond.selects (mY mX11_obeys).cls (mY mX11_obeys) (mY mX11_obeys) ∈ TB := tbm (List.mem_append_left _ (by decide +kernel)) rfl
theorem tokX11_runs : TOK mX11_runs := TOK.of tkX11_runs
set_option maxRecDepth 20000 in
theorem okX11_runs : OKm mX11_runs := ⟨tm 1797 rfl, tm 12 rfl, ⟨by decide, by decide⟩, by decide⟩
set_option maxRecDepth 20000 in
theorem inX11_runs : Cond.instanceMethod (mY mX11_runs) ∈ TB := tm 1796 rfl
set_option maxRecDepth 20000 in
theorem seX11_runs : Cond.selects (mY mX11_runs).cls (mY mX11_runs) (mY mX11_runs) ∈ TB := tbm (List.mem_append_left _ (by decide +kernel)) rfl
theorem tokX11_draws : TOK mX11_draws := TOK.of tkX11_draws
set_option maxRecDepth 20000 in
theorem okX11_draws : OKm mX11_draws := ⟨tm 1821 rfl, tm 12 rfl, ⟨by decide, by decide⟩, by decide⟩
set_option maxRecDepth 20000 in
theorem inX11_draws : Cond.instanceMethod (mY mX11_draws) ∈ TB := tm 1820 rfl
set_option maxRecDepth 20000 in
theorem seX11_draws : Cond.selects (mY mX11_draws).cls (mY mX11_draws) (mY mX11_draws) ∈ TB := tbm (List.mem_append_left _ (by decide +kernel)) rfl
theorem tokX11_days : TOK mX11_days := TOK.of tkX11_days
set_option maxRecDepth 20000 in
theorem okX11_days : OKm mX11_days := ⟨tm 1817 rfl, tm 12 rfl, ⟨by decide, by decide⟩, by decide⟩
set_option maxRecDepth 20000 in
theorem inX11_days : Cond.instanceMethod (mY mX11_days) ∈ TB := tm 1815 rfl
set_option maxRecDepth 20000 in
theorem seX11_days : Cond.selects (mY mX11_days).cls (mY mX11_days) (mY mX11_days) ∈ TB := tm 1816 rfl
theorem tokX11_drawn : TOK mX11_drawn := TOK.of tkX11_drawn
set_option maxRecDepth 20000 in
theorem okX11_drawn : OKm mX11_drawn := ⟨tm 1828 rfl, tm 12 rfl, ⟨by decide, by decide⟩, by decide⟩
set_option maxRecDepth 20000 in
theorem inX11_drawn : Cond.instanceMethod (mY mX11_drawn) ∈ TB := tm 1826 rfl
set_option maxRecDepth 20000 in
theorem seX11_drawn : Cond.selects (mY mX11_drawn).cls (mY mX11_drawn) (mY mX11_drawn) ∈ TB := tm 1827 rfl
theorem tokX11_allMany : TOK mX11_allMany := TOK.of tkX11_allMany
set_option maxRecDepth 20000 in
theorem okX11_allMany : OKm mX11_allMany := ⟨tm 1836 rfl, tm 12 rfl, ⟨by decide, by decide⟩, by decide⟩
set_option maxRecDepth 20000 in
theorem inX11_allMany : Cond.instanceMethod (mY mX11_allMany) ∈ TB := tm 1835 rfl
set_option maxRecDepth 20000 in
theorem seX11_allMany : Cond.selects (mY mX11_allMany).cls (mY mX11_allMany) (mY mX11_allMany) ∈ TB := tbm (List.mem_append_left _ (by decide +kernel)) rfl
theorem tokX11_count : TOK mX11_count := TOK.of tkX11_count
set_option maxRecDepth 20000 in
theorem okX11_count : OKm mX11_count := ⟨tm 1832 rfl, tm 12 rfl, ⟨by decide, by decide⟩, by decide⟩
set_option maxRecDepth 20000 in
theorem inX11_count : Cond.instanceMethod (mY mX11_count) ∈ TB := tm 1830 rfl
set_option maxRecDepth 20000 in
theorem seX11_count : Cond.selects (mY mX11_count).cls (mY mX11_count) (mY mX11_count) ∈ TB := tm 1831 rfl
theorem tokX11_status : TOK mX11_status := TOK.of tkX11_status
set_option maxRecDepth 20000 in
theorem okX11_status : OKm mX11_status := ⟨tm 1840 rfl, tm 12 rfl, ⟨by decide, by decide⟩, by decide⟩
set_option maxRecDepth 20000 in
theorem inX11_status : Cond.instanceMethod (mY mX11_status) ∈ TB := tm 1838 rfl
set_option maxRecDepth 20000 in
theorem seX11_status : Cond.selects (mY mX11_status).cls (mY mX11_status) (mY mX11_status) ∈ TB := tm 1839 rfl
theorem tokJ6_bitCount_0f7a4 : TOK mJ6_bitCount_0f7a4 := TOK.of tkJ6_bitCount_0f7a4
set_option maxRecDepth 20000 in
theorem okJ6_bitCount_0f7a4 : OKm mJ6_bitCount_0f7a4 := ⟨tm 993 rfl, tm 20 rfl, ⟨by decide, by decide⟩, by decide⟩
set_option maxRecDepth 20000 in
theorem inJ6_bitCount_0f7a4 : Cond.static (mY mJ6_bitCount_0f7a4) ∈ TB := tm 992 rfl
theorem tokJ0_length_8abf5 : TOK mJ0_length_8abf5 := TOK.of tkJ0_length_8abf5
set_option maxRecDepth 20000 in
theorem okJ0_length_8abf5 : OKm mJ0_length_8abf5 := ⟨tm 624 rfl, tm 14 rfl, ⟨by decide, by decide⟩, by decide⟩
set_option maxRecDepth 20000 in
theorem inJ0_length_8abf5 : Cond.instanceMethod (mY mJ0_length_8abf5) ∈ TB := tm 622 rfl
set_option maxRecDepth 20000 in
theorem seJ0_length_8abf5 : Cond.selects (mY mJ0_length_8abf5).cls (mY mJ0_length_8abf5) (mY mJ0_length_8abf5) ∈ TB := tm 623 rfl
theorem tokJ0_charAt_5068e : TOK mJ0_charAt_5068e := TOK.of tkJ0_charAt_5068e
set_option maxRecDepth 20000 in
theorem okJ0_charAt_5068e : OKm mJ0_charAt_5068e := ⟨tm 634 rfl, tm 14 rfl, ⟨by decide, by decide⟩, by decide⟩
set_option maxRecDepth 20000 in
theorem inJ0_charAt_5068e : Cond.instanceMethod (mY mJ0_charAt_5068e) ∈ TB := tm 632 rfl
set_option maxRecDepth 20000 in
theorem seJ0_charAt_5068e : Cond.selects (mY mJ0_charAt_5068e).cls (mY mJ0_charAt_5068e) (mY mJ0_charAt_5068e) ∈ TB := tm 633 rfl
theorem tokJ0_coder_7d493 : TOK mJ0_coder_7d493 := TOK.of tkJ0_coder_7d493
set_option maxRecDepth 20000 in
theorem okJ0_coder_7d493 : OKm mJ0_coder_7d493 := ⟨tm 628 rfl, tm 14 rfl, ⟨by decide, by decide⟩, by decide⟩
set_option maxRecDepth 20000 in
theorem inJ0_coder_7d493 : Cond.instanceMethod (mY mJ0_coder_7d493) ∈ TB := tm 626 rfl
set_option maxRecDepth 20000 in
theorem seJ0_coder_7d493 : Cond.selects (mY mJ0_coder_7d493).cls (mY mJ0_coder_7d493) (mY mJ0_coder_7d493) ∈ TB := tm 627 rfl
theorem tokJ0_isLatin1_aae02 : TOK mJ0_isLatin1_aae02 := TOK.of tkJ0_isLatin1_aae02
set_option maxRecDepth 20000 in
theorem okJ0_isLatin1_aae02 : OKm mJ0_isLatin1_aae02 := ⟨tm 638 rfl, tm 14 rfl, ⟨by decide, by decide⟩, by decide⟩
set_option maxRecDepth 20000 in
theorem inJ0_isLatin1_aae02 : Cond.instanceMethod (mY mJ0_isLatin1_aae02) ∈ TB := tm 636 rfl
set_option maxRecDepth 20000 in
theorem seJ0_isLatin1_aae02 : Cond.selects (mY mJ0_isLatin1_aae02).cls (mY mJ0_isLatin1_aae02) (mY mJ0_isLatin1_aae02) ∈ TB := tm 637 rfl
theorem tokJ0_checkIndex_df160 : TOK mJ0_checkIndex_df160 := TOK.of tkJ0_checkIndex_df160
set_option maxRecDepth 20000 in
theorem okJ0_checkIndex_df160 : OKm mJ0_checkIndex_df160 := ⟨tm 644 rfl, tm 14 rfl, ⟨by decide, by decide⟩, by decide⟩
set_option maxRecDepth 20000 in
theorem inJ0_checkIndex_df160 : Cond.static (mY mJ0_checkIndex_df160) ∈ TB := tm 643 rfl
theorem tokJ1_charAt_3b067 : TOK mJ1_charAt_3b067 := TOK.of tkJ1_charAt_3b067
set_option maxRecDepth 20000 in
theorem okJ1_charAt_3b067 : OKm mJ1_charAt_3b067 := ⟨tm 641 rfl, tm 15 rfl, ⟨by decide, by decide⟩, by decide⟩
set_option maxRecDepth 20000 in
theorem inJ1_charAt_3b067 : Cond.static (mY mJ1_charAt_3b067) ∈ TB := tm 640 rfl
theorem tokJ7_fill_d0a16 : TOK mJ7_fill_d0a16 := TOK.of tkJ7_fill_d0a16
set_option maxRecDepth 20000 in
theorem okJ7_fill_d0a16 : OKm mJ7_fill_d0a16 := ⟨tm 947 rfl, tm 19 rfl, ⟨by decide, by decide⟩, by decide⟩
set_option maxRecDepth 20000 in
theorem inJ7_fill_d0a16 : Cond.static (mY mJ7_fill_d0a16) ∈ TB := tm 946 rfl
theorem tokJ7_fill_53178 : TOK mJ7_fill_53178 := TOK.of tkJ7_fill_53178
set_option maxRecDepth 20000 in
theorem okJ7_fill_53178 : OKm mJ7_fill_53178 := ⟨tm 874 rfl, tm 19 rfl, ⟨by decide, by decide⟩, by decide⟩
set_option maxRecDepth 20000 in
theorem inJ7_fill_53178 : Cond.static (mY mJ7_fill_53178) ∈ TB := tm 873 rfl
theorem tokJ3_checkIndex_8e157 : TOK mJ3_checkIndex_8e157 := TOK.of tkJ3_checkIndex_8e157
set_option maxRecDepth 20000 in
theorem okJ3_checkIndex_8e157 : OKm mJ3_checkIndex_8e157 := ⟨tm 649 rfl, tm 16 rfl, ⟨by decide, by decide⟩, by decide⟩
set_option maxRecDepth 20000 in
theorem inJ3_checkIndex_8e157 : Cond.static (mY mJ3_checkIndex_8e157) ∈ TB := tm 648 rfl
set_option maxRecDepth 20000 in
theorem lk12_9 : Cond.methodLink (cnm 12) 9 (mY mX10_init) ∈ TB := tm 23 rfl
set_option maxRecDepth 20000 in
theorem lk10_3 : Cond.methodLink (cnm 10) 3 objectInit ∈ TB := tm 26 rfl
set_option maxRecDepth 20000 in
theorem lk10_11 : Cond.methodLinkNest (cnm 10) 11 yX7_init "CountGates" ∈ NW := by decide +kernel
set_option maxRecDepth 20000 in
theorem lk7_3 : Cond.methodLink (cnm 7) 3 objectInit ∈ TB := tm 34 rfl
set_option maxRecDepth 20000 in
theorem lk10_26 : Cond.methodLinkNest (cnm 10) 26 yX8_init "CountGates" ∈ NW := by decide +kernel
set_option maxRecDepth 20000 in
theorem lk8_3 : Cond.methodLink (cnm 8) 3 objectInit ∈ TB := tm 157 rfl
set_option maxRecDepth 20000 in
theorem lk10_33 : Cond.methodLinkNest (cnm 10) 33 yX0_init "CountGates" ∈ NW := by decide +kernel
set_option maxRecDepth 20000 in
theorem lk0_3 : Cond.methodLink (cnm 0) 3 objectInit ∈ TB := tm 173 rfl
set_option maxRecDepth 20000 in
theorem lk10_40 : Cond.methodLinkNest (cnm 10) 40 yX4_init "CountGates" ∈ NW := by decide +kernel
set_option maxRecDepth 20000 in
theorem lk4_3 : Cond.methodLink (cnm 4) 3 objectInit ∈ TB := tm 189 rfl
set_option maxRecDepth 20000 in
theorem lk4_11 : Cond.methodLink (cnm 4) 11 (mY mX9_init) ∈ TB := tm 192 rfl
set_option maxRecDepth 20000 in
theorem lk9_3 : Cond.methodLink (cnm 9) 3 objectInit ∈ TB := tm 195 rfl
set_option maxRecDepth 20000 in
theorem lk10_47 : Cond.methodLink (cnm 10) 47 (mY mX1_init) ∈ TB := tm 257 rfl
set_option maxRecDepth 20000 in
theorem lk1_3 : Cond.methodLink (cnm 1) 3 objectInit ∈ TB := tm 260 rfl
set_option maxRecDepth 20000 in
theorem lk1_21 : Cond.methodLinkNest (cnm 1) 21 yX7_init "CountGates" ∈ NW := by decide +kernel
set_option maxRecDepth 20000 in
theorem lk10_56 : Cond.methodLink (cnm 10) 56 (mY mX5_init) ∈ TB := tm 288 rfl
set_option maxRecDepth 20000 in
theorem lk5_3 : Cond.methodLink (cnm 5) 3 objectInit ∈ TB := tm 291 rfl
set_option maxRecDepth 20000 in
theorem lk10_65 : Cond.methodLink (cnm 10) 65 (mY mX6_init) ∈ TB := tm 314 rfl
set_option maxRecDepth 20000 in
theorem lk6_3 : Cond.methodLink (cnm 6) 3 objectInit ∈ TB := tm 317 rfl
set_option maxRecDepth 20000 in
theorem lk6_11 : Cond.methodLinkNest (cnm 6) 11 yX7_init "CountGates" ∈ NW := by decide +kernel
set_option maxRecDepth 20000 in
theorem lk10_74 : Cond.methodLink (cnm 10) 74 (mY mX3_init) ∈ TB := tm 363 rfl
set_option maxRecDepth 20000 in
theorem lk3_3 : Cond.methodLink (cnm 3) 3 objectInit ∈ TB := tm 366 rfl
set_option maxRecDepth 20000 in
theorem lk10_81 : Cond.methodLink (cnm 10) 81 (mY mX2_init) ∈ TB := tm 379 rfl
set_option maxRecDepth 20000 in
theorem lk2_3 : Cond.methodLink (cnm 2) 3 objectInit ∈ TB := tm 382 rfl
set_option maxRecDepth 20000 in
theorem lk2_11 : Cond.methodLinkNest (cnm 2) 11 yX7_init "CountGates" ∈ NW := by decide +kernel
set_option maxRecDepth 20000 in
theorem lk12_13 : Cond.methodLink (cnm 12) 13 (mY mX10_gate) ∈ TB := tm 444 rfl
set_option maxRecDepth 20000 in
theorem lk10_103 : Cond.methodLink (cnm 10) 103 (mY mX7_addGate) ∈ TB := tm 448 rfl
set_option maxRecDepth 20000 in
theorem lk7_78 : Cond.methodLinkNest (cnm 7) 78 yX10_within "CountGates" ∈ NW := by decide +kernel
set_option maxRecDepth 20000 in
theorem lk10_107 : Cond.methodLink (cnm 10) 107 (mY mX10_toldAnew) ∈ TB := tm 455 rfl
set_option maxRecDepth 20000 in
theorem lk10_178 : Cond.methodLink (cnm 10) 178 (mY mX10_told) ∈ TB := tm 459 rfl
set_option maxRecDepth 20000 in
theorem lk12_18 : Cond.methodLink (cnm 12) 18 (mY mX10_at) ∈ TB := tm 466 rfl
set_option maxRecDepth 20000 in
theorem lk10_111 : Cond.methodLink (cnm 10) 111 (mY mX7_hasGate) ∈ TB := tm 470 rfl
set_option maxRecDepth 20000 in
theorem lk12_23 : Cond.methodLink (cnm 12) 23 (mY mX10_goer) ∈ TB := tm 474 rfl
end WORDS
