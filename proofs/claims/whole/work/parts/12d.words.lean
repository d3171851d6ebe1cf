section WORDS
set_option maxRecDepth 20000 in
theorem lk2_51 : Cond.methodLink (cnm 2) 51 (mY mX0_can) ∈ TB := tm 1097 rfl
set_option maxRecDepth 20000 in
theorem lk2_57 : Cond.methodLink (cnm 2) 57 (mY mX0_move) ∈ TB := tm 1098 rfl
set_option maxRecDepth 20000 in
theorem lk12_169 : Cond.methodLink (cnm 12) 169 (mY mX10_drawn) ∈ TB := tm 1099 rfl
set_option maxRecDepth 20000 in
theorem lk10_335 : Cond.methodLink (cnm 10) 335 (mY mX2_behind) ∈ TB := tm 1103 rfl
set_option maxRecDepth 20000 in
theorem lk12_173 : Cond.methodLink (cnm 12) 173 (mY mX10_image) ∈ TB := tm 1107 rfl
set_option maxRecDepth 20000 in
theorem lk10_338 : Cond.methodLink (cnm 10) 338 (mY mX7_copyFrom) ∈ TB := tm 1111 rfl
set_option maxRecDepth 20000 in
theorem lk12_177 : Cond.methodLink (cnm 12) 177 (mY mX10_back) ∈ TB := tm 1112 rfl
set_option maxRecDepth 20000 in
theorem lk12_181 : Cond.methodLink (cnm 12) 181 (mY mX10_count) ∈ TB := tm 1116 rfl
set_option maxRecDepth 20000 in
theorem lk10_342 : Cond.methodLink (cnm 10) 342 (mY mX7_allMany) ∈ TB := tm 1120 rfl
set_option maxRecDepth 20000 in
theorem lk12_185 : Cond.methodLink (cnm 12) 185 (mY mX10_status) ∈ TB := tm 1124 rfl
set_option maxRecDepth 20000 in
theorem lk12_12 : Cond.methodLink (cnm 12) 12 (mY mX11_init) ∈ TB := tm 1130 rfl
set_option maxRecDepth 20000 in
theorem lk11_22 : Cond.methodLink (cnm 11) 22 objectInit ∈ TB := tm 1133 rfl
set_option maxRecDepth 20000 in
theorem lk12_176 : Cond.methodLink (cnm 12) 176 (mY mX11_image) ∈ TB := tm 1294 rfl
set_option maxRecDepth 20000 in
theorem lk11_18 : Cond.methodLink (cnm 11) 18 (mY mX11_lies) ∈ TB := tm 1298 rfl
set_option maxRecDepth 20000 in
theorem lk11_118 : Cond.methodLink (cnm 11) 118 (mY mX11_refuses) ∈ TB := tm 1301 rfl
set_option maxRecDepth 20000 in
theorem lk11_14 : Cond.methodLink (cnm 11) 14 (mY mX11_good) ∈ TB := tm 1305 rfl
set_option maxRecDepth 20000 in
theorem lk12_180 : Cond.methodLink (cnm 12) 180 (mY mX11_back) ∈ TB := tm 1309 rfl
set_option maxRecDepth 20000 in
theorem lk11_121 : Cond.methodLink (cnm 11) 121 (mY mX11_settled) ∈ TB := tm 1313 rfl
set_option maxRecDepth 20000 in
theorem lk12_17 : Cond.methodLink (cnm 12) 17 (mY mX11_gate) ∈ TB := tm 1317 rfl
set_option maxRecDepth 20000 in
theorem lk11_135 : Cond.methodLink (cnm 11) 135 (mY mX11_canGate) ∈ TB := tm 1321 rfl
set_option maxRecDepth 20000 in
theorem lk11_128 : Cond.methodLink (cnm 11) 128 (mY mX11_isPark) ∈ TB := tm 1324 rfl
set_option maxRecDepth 20000 in
theorem lk11_132 : Cond.methodLink (cnm 11) 132 (mY mX11_isArm) ∈ TB := tm 1327 rfl
set_option maxRecDepth 20000 in
theorem lk11_124 : Cond.methodLink (cnm 11) 124 (mY mX11_gateMany) ∈ TB := tm 1330 rfl
set_option maxRecDepth 20000 in
theorem lk11_139 : Cond.methodLink (cnm 11) 139 (mY mX11_adds) ∈ TB := tm 1334 rfl
set_option maxRecDepth 20000 in
theorem lk12_22 : Cond.methodLink (cnm 12) 22 (mY mX11_at) ∈ TB := tm 1338 rfl
set_option maxRecDepth 20000 in
theorem lk11_143 : Cond.methodLink (cnm 11) 143 (mY mX11_isGate) ∈ TB := tm 1342 rfl
set_option maxRecDepth 20000 in
theorem lk12_27 : Cond.methodLink (cnm 12) 27 (mY mX11_goer) ∈ TB := tm 1346 rfl
set_option maxRecDepth 20000 in
theorem lk11_146 : Cond.methodLink (cnm 11) 146 (mY mX11_isMany) ∈ TB := tm 1350 rfl
set_option maxRecDepth 20000 in
theorem lk12_31 : Cond.methodLink (cnm 12) 31 (mY mX11_of) ∈ TB := tm 1353 rfl
set_option maxRecDepth 20000 in
theorem lk11_149 : Cond.methodLink (cnm 11) 149 (mY mX11_isGoer) ∈ TB := tm 1357 rfl
set_option maxRecDepth 20000 in
theorem lk11_152 : Cond.methodLink (cnm 11) 152 (mY mX11_gatesOf) ∈ TB := tm 1361 rfl
set_option maxRecDepth 20000 in
theorem lk11_155 : Cond.methodLink (cnm 11) 155 (mY mX11_canGo) ∈ TB := tm 1365 rfl
set_option maxRecDepth 20000 in
theorem lk11_159 : Cond.methodLink (cnm 11) 159 (mY mX11_setsGate) ∈ TB := tm 1369 rfl
set_option maxRecDepth 20000 in
theorem lk11_348 : Cond.methodLink (cnm 11) 348 (mY mX11_setsAsked) ∈ TB := tm 1373 rfl
set_option maxRecDepth 20000 in
theorem lk11_169 : Cond.methodLink (cnm 11) 169 (mY mX11_isBarredNow) ∈ TB := tm 1377 rfl
set_option maxRecDepth 20000 in
theorem lk11_355 : Cond.methodLink (cnm 11) 355 (mY mX11_tells) ∈ TB := tm 1381 rfl
set_option maxRecDepth 20000 in
theorem lk11_294 : Cond.methodLink (cnm 11) 294 (mY mX11_codeAt) ∈ TB := tm 1385 rfl
set_option maxRecDepth 20000 in
theorem lk11_318 : Cond.methodLink (cnm 11) 318 (mY mX11_sumOf) ∈ TB := tm 1389 rfl
set_option maxRecDepth 20000 in
theorem lk11_304 : Cond.methodLink (cnm 11) 304 (mY mX11_termOf) ∈ TB := tm 1393 rfl
set_option maxRecDepth 20000 in
theorem lk11_312 : Cond.methodLink (cnm 11) 312 (mY mX11_partOf) ∈ TB := tm 1397 rfl
set_option maxRecDepth 20000 in
theorem lk11_250 : Cond.methodLink (cnm 11) 250 (mY mX11_sign) ∈ TB := tm 1401 rfl
set_option maxRecDepth 20000 in
theorem lk11_315 : Cond.methodLink (cnm 11) 315 (mY mX11_passes0) ∈ TB := tm 1404 rfl
set_option maxRecDepth 20000 in
theorem lk11_324 : Cond.methodLink (cnm 11) 324 (mY mX11_orderValue) ∈ TB := tm 1408 rfl
set_option maxRecDepth 20000 in
theorem lk11_333 : Cond.methodLink (cnm 11) 333 (mY mX11_wholeMany) ∈ TB := tm 1412 rfl
set_option maxRecDepth 20000 in
theorem lk11_308 : Cond.methodLink (cnm 11) 308 (mY mX11_bounded) ∈ TB := tm 1416 rfl
set_option maxRecDepth 20000 in
theorem lk11_345 : Cond.methodLink (cnm 11) 345 (mY mX11_testOf) ∈ TB := tm 1422 rfl
set_option maxRecDepth 20000 in
theorem lk11_336 : Cond.methodLink (cnm 11) 336 (mY mX11_bothOf) ∈ TB := tm 1426 rfl
set_option maxRecDepth 20000 in
theorem lk11_339 : Cond.methodLink (cnm 11) 339 (mY mX11_plainOf) ∈ TB := tm 1430 rfl
set_option maxRecDepth 20000 in
theorem lk11_342 : Cond.methodLink (cnm 11) 342 (mY mX11_positiveOf) ∈ TB := tm 1434 rfl
set_option maxRecDepth 20000 in
theorem lk12_35 : Cond.methodLink (cnm 12) 35 (mY mX11_asks) ∈ TB := tm 1438 rfl
set_option maxRecDepth 20000 in
theorem lk11_163 : Cond.methodLink (cnm 11) 163 (mY mX11_turnsNow) ∈ TB := tm 1442 rfl
set_option maxRecDepth 20000 in
theorem lk11_352 : Cond.methodLink (cnm 11) 352 (mY mX11_greater) ∈ TB := tm 1446 rfl
set_option maxRecDepth 20000 in
theorem lk11_166 : Cond.methodLink (cnm 11) 166 (mY mX11_paysNow) ∈ TB := tm 1449 rfl
set_option maxRecDepth 20000 in
theorem lk12_39 : Cond.methodLink (cnm 12) 39 (mY mX11_terms) ∈ TB := tm 1453 rfl
set_option maxRecDepth 20000 in
theorem lk11_173 : Cond.methodLink (cnm 11) 173 (mY mX11_isTerm) ∈ TB := tm 1457 rfl
set_option maxRecDepth 20000 in
theorem lk11_176 : Cond.methodLink (cnm 11) 176 (mY mX11_termAt) ∈ TB := tm 1460 rfl
set_option maxRecDepth 20000 in
theorem lk12_54 : Cond.methodLink (cnm 12) 54 (mY mX11_row) ∈ TB := tm 1463 rfl
set_option maxRecDepth 20000 in
theorem lk12_58 : Cond.methodLink (cnm 12) 58 (mY mX11_rust) ∈ TB := tm 1467 rfl
set_option maxRecDepth 20000 in
theorem lk12_44 : Cond.methodLink (cnm 12) 44 (mY mX11_feed) ∈ TB := tm 1471 rfl
set_option maxRecDepth 20000 in
theorem lk12_49 : Cond.methodLink (cnm 12) 49 (mY mX11_end) ∈ TB := tm 1475 rfl
set_option maxRecDepth 20000 in
theorem lk12_62 : Cond.methodLink (cnm 12) 62 (mY mX11_law) ∈ TB := tm 1479 rfl
set_option maxRecDepth 20000 in
theorem lk11_278 : Cond.methodLink (cnm 11) 278 (mY mX11_readsAs) ∈ TB := tm 1483 rfl
set_option maxRecDepth 20000 in
theorem lk11_275 : Cond.methodLink (cnm 11) 275 (mY mX11_reads) ∈ TB := tm 1487 rfl
set_option maxRecDepth 20000 in
theorem lk11_269 : Cond.methodLink (cnm 11) 269 (mY mX11_splits) ∈ TB := tm 1491 rfl
set_option maxRecDepth 20000 in
theorem lk11_188 : Cond.methodLink (cnm 11) 188 (mY mX11_isSmall) ∈ TB := tm 1495 rfl
set_option maxRecDepth 20000 in
theorem lk11_191 : Cond.methodLink (cnm 11) 191 (mY mX11_isDigit) ∈ TB := tm 1498 rfl
set_option maxRecDepth 20000 in
theorem lk11_194 : Cond.methodLink (cnm 11) 194 (mY mX11_wordOf) ∈ TB := tm 1501 rfl
set_option maxRecDepth 20000 in
theorem lk11_272 : Cond.methodLink (cnm 11) 272 (mY mX11_readOne) ∈ TB := tm 1506 rfl
set_option maxRecDepth 20000 in
theorem lk11_238 : Cond.methodLink (cnm 11) 238 (mY mX11_readOrder) ∈ TB := tm 1510 rfl
set_option maxRecDepth 20000 in
theorem lk11_208 : Cond.methodLink (cnm 11) 208 (mY mX11_takes0) ∈ TB := tm 1514 rfl
set_option maxRecDepth 20000 in
theorem lk11_202 : Cond.methodLink (cnm 11) 202 (mY mX11_fine) ∈ TB := tm 1518 rfl
set_option maxRecDepth 20000 in
theorem lk11_227 : Cond.methodLink (cnm 11) 227 (mY mX11_readTwo) ∈ TB := tm 1522 rfl
set_option maxRecDepth 20000 in
theorem lk11_217 : Cond.methodLink (cnm 11) 217 (mY mX11_readSum) ∈ TB := tm 1526 rfl
set_option maxRecDepth 20000 in
theorem lk11_254 : Cond.methodLink (cnm 11) 254 (mY mX11_readTerm) ∈ TB := tm 1530 rfl
set_option maxRecDepth 20000 in
theorem lk11_257 : Cond.methodLink (cnm 11) 257 (mY mX11_readPart) ∈ TB := tm 1534 rfl
set_option maxRecDepth 20000 in
theorem lk11_211 : Cond.methodLink (cnm 11) 211 (mY mX11_faults) ∈ TB := tm 1538 rfl
set_option maxRecDepth 20000 in
theorem lk11_221 : Cond.methodLink (cnm 11) 221 (mY mX11_must) ∈ TB := tm 1542 rfl
set_option maxRecDepth 20000 in
theorem lk11_266 : Cond.methodLink (cnm 11) 266 (mY mX11_leaf) ∈ TB := tm 1546 rfl
set_option maxRecDepth 20000 in
theorem lk11_230 : Cond.methodLink (cnm 11) 230 (mY mX11_mustNumber) ∈ TB := tm 1550 rfl
set_option maxRecDepth 20000 in
theorem lk11_224 : Cond.methodLink (cnm 11) 224 (mY mX11_readTest) ∈ TB := tm 1554 rfl
set_option maxRecDepth 20000 in
theorem lk11_244 : Cond.methodLink (cnm 11) 244 (mY mX11_readBoth) ∈ TB := tm 1558 rfl
set_option maxRecDepth 20000 in
theorem lk11_247 : Cond.methodLink (cnm 11) 247 (mY mX11_readPlain) ∈ TB := tm 1562 rfl
set_option maxRecDepth 20000 in
theorem lk11_241 : Cond.methodLink (cnm 11) 241 (mY mX11_readClause) ∈ TB := tm 1566 rfl
set_option maxRecDepth 20000 in
theorem lk11_282 : Cond.methodLink (cnm 11) 282 (mY mX11_lays) ∈ TB := tm 1570 rfl
set_option maxRecDepth 20000 in
theorem lk12_70 : Cond.methodLink (cnm 12) 70 (mY mX11_fault) ∈ TB := tm 1574 rfl
set_option maxRecDepth 20000 in
theorem lk12_78 : Cond.methodLink (cnm 12) 78 (mY mX11_force) ∈ TB := tm 1578 rfl
set_option maxRecDepth 20000 in
theorem lk11_285 : Cond.methodLink (cnm 11) 285 (mY mX11_isLaw) ∈ TB := tm 1582 rfl
set_option maxRecDepth 20000 in
theorem lk12_98 : Cond.methodLink (cnm 12) 98 (mY mX11_undo) ∈ TB := tm 1586 rfl
set_option maxRecDepth 20000 in
theorem lk12_82 : Cond.methodLink (cnm 12) 82 (mY mX11_go) ∈ TB := tm 1590 rfl
set_option maxRecDepth 20000 in
theorem lk11_368 : Cond.methodLink (cnm 11) 368 (mY mX11_goesKept) ∈ TB := tm 1594 rfl
set_option maxRecDepth 20000 in
theorem lk11_362 : Cond.methodLink (cnm 11) 362 (mY mX11_keeps) ∈ TB := tm 1598 rfl
set_option maxRecDepth 20000 in
theorem lk11_365 : Cond.methodLink (cnm 11) 365 (mY mX11_goesNow) ∈ TB := tm 1602 rfl
set_option maxRecDepth 20000 in
theorem lk11_359 : Cond.methodLink (cnm 11) 359 (mY mX11_lesser) ∈ TB := tm 1606 rfl
set_option maxRecDepth 20000 in
theorem lk11_371 : Cond.methodLink (cnm 11) 371 (mY mX11_goodOr) ∈ TB := tm 1609 rfl
set_option maxRecDepth 20000 in
theorem lk12_86 : Cond.methodLink (cnm 12) 86 (mY mX11_latch) ∈ TB := tm 1613 rfl
set_option maxRecDepth 20000 in
theorem lk11_374 : Cond.methodLink (cnm 11) 374 (mY mX11_latchesKept) ∈ TB := tm 1617 rfl
set_option maxRecDepth 20000 in
theorem lk12_90 : Cond.methodLink (cnm 12) 90 (mY mX11_set) ∈ TB := tm 1621 rfl
set_option maxRecDepth 20000 in
theorem lk11_377 : Cond.methodLink (cnm 11) 377 (mY mX11_setsKept) ∈ TB := tm 1625 rfl
set_option maxRecDepth 20000 in
theorem lk12_94 : Cond.methodLink (cnm 12) 94 (mY mX11_pass) ∈ TB := tm 1629 rfl
set_option maxRecDepth 20000 in
theorem lk11_380 : Cond.methodLink (cnm 11) 380 (mY mX11_passesKept) ∈ TB := tm 1633 rfl
set_option maxRecDepth 20000 in
theorem lk12_102 : Cond.methodLink (cnm 12) 102 (mY mX11_way) ∈ TB := tm 1637 rfl
set_option maxRecDepth 20000 in
theorem lk11_392 : Cond.methodLink (cnm 11) 392 (mY mX11_canBeGoal) ∈ TB := tm 1641 rfl
set_option maxRecDepth 20000 in
theorem lk11_395 : Cond.methodLink (cnm 11) 395 (mY mX11_laysOut) ∈ TB := tm 1644 rfl
set_option maxRecDepth 20000 in
theorem lk11_383 : Cond.methodLink (cnm 11) 383 (mY mX11_laysGate) ∈ TB := tm 1648 rfl
set_option maxRecDepth 20000 in
theorem lk11_398 : Cond.methodLink (cnm 11) 398 (mY mX11_laysLeft) ∈ TB := tm 1652 rfl
set_option maxRecDepth 20000 in
theorem lk11_386 : Cond.methodLink (cnm 11) 386 (mY mX11_isGoal) ∈ TB := tm 1656 rfl
set_option maxRecDepth 20000 in
theorem lk11_389 : Cond.methodLink (cnm 11) 389 (mY mX11_nextPlace) ∈ TB := tm 1659 rfl
set_option maxRecDepth 20000 in
theorem lk11_402 : Cond.methodLink (cnm 11) 402 (mY mX11_placeOf) ∈ TB := tm 1663 rfl
set_option maxRecDepth 20000 in
theorem lk12_106 : Cond.methodLink (cnm 12) 106 (mY mX11_cheap) ∈ TB := tm 1667 rfl
set_option maxRecDepth 20000 in
theorem lk12_164 : Cond.methodLink (cnm 12) 164 (mY mX11_compare) ∈ TB := tm 1671 rfl
set_option maxRecDepth 20000 in
theorem lk11_405 : Cond.methodLink (cnm 11) 405 (mY mX11_way) ∈ TB := tm 1675 rfl
set_option maxRecDepth 20000 in
theorem lk12_110 : Cond.methodLink (cnm 12) 110 (mY mX11_manys) ∈ TB := tm 1676 rfl
set_option maxRecDepth 20000 in
theorem lk11_412 : Cond.methodLink (cnm 11) 412 (mY mX11_laysGone) ∈ TB := tm 1680 rfl
set_option maxRecDepth 20000 in
theorem lk11_409 : Cond.methodLink (cnm 11) 409 (mY mX11_isIn) ∈ TB := tm 1684 rfl
set_option maxRecDepth 20000 in
theorem lk12_114 : Cond.methodLink (cnm 12) 114 (mY mX11_reach) ∈ TB := tm 1687 rfl
set_option maxRecDepth 20000 in
theorem lk11_415 : Cond.methodLink (cnm 11) 415 (mY mX11_comesTo) ∈ TB := tm 1691 rfl
set_option maxRecDepth 20000 in
theorem lk12_119 : Cond.methodLink (cnm 12) 119 (mY mX11_ways) ∈ TB := tm 1695 rfl
set_option maxRecDepth 20000 in
theorem lk11_423 : Cond.methodLink (cnm 11) 423 (mY mX11_laysParts) ∈ TB := tm 1700 rfl
set_option maxRecDepth 20000 in
theorem lk11_427 : Cond.methodLink (cnm 11) 427 (mY mX11_steps) ∈ TB := tm 1704 rfl
set_option maxRecDepth 20000 in
theorem lk11_418 : Cond.methodLink (cnm 11) 418 (mY mX11_gatesFrom) ∈ TB := tm 1708 rfl
set_option maxRecDepth 20000 in
theorem lk11_431 : Cond.methodLink (cnm 11) 431 (mY mX11_partsAt) ∈ TB := tm 1712 rfl
set_option maxRecDepth 20000 in
theorem lk12_123 : Cond.methodLink (cnm 12) 123 (mY mX11_likely) ∈ TB := tm 1716 rfl
set_option maxRecDepth 20000 in
theorem lk12_127 : Cond.methodLink (cnm 12) 127 (mY mX11_again) ∈ TB := tm 1721 rfl
set_option maxRecDepth 20000 in
theorem lk12_131 : Cond.methodLink (cnm 12) 131 (mY mX11_fixed) ∈ TB := tm 1725 rfl
set_option maxRecDepth 20000 in
theorem lk11_437 : Cond.methodLink (cnm 11) 437 (mY mX11_hasWay) ∈ TB := tm 1729 rfl
set_option maxRecDepth 20000 in
theorem lk11_440 : Cond.methodLink (cnm 11) 440 (mY mX11_fixedAt) ∈ TB := tm 1733 rfl
set_option maxRecDepth 20000 in
theorem lk12_135 : Cond.methodLink (cnm 12) 135 (mY mX11_cut) ∈ TB := tm 1737 rfl
set_option maxRecDepth 20000 in
theorem lk11_443 : Cond.methodLink (cnm 11) 443 (mY mX11_ones) ∈ TB := tm 1741 rfl
set_option maxRecDepth 20000 in
theorem lk12_139 : Cond.methodLink (cnm 12) 139 (mY mX11_meet) ∈ TB := tm 1744 rfl
set_option maxRecDepth 20000 in
theorem lk12_143 : Cond.methodLink (cnm 12) 143 (mY mX11_seen) ∈ TB := tm 1748 rfl
set_option maxRecDepth 20000 in
theorem lk12_147 : Cond.methodLink (cnm 12) 147 (mY mX11_forget) ∈ TB := tm 1752 rfl
set_option maxRecDepth 20000 in
theorem lk12_151 : Cond.methodLink (cnm 12) 151 (mY mX11_kinds) ∈ TB := tm 1756 rfl
set_option maxRecDepth 20000 in
theorem lk11_449 : Cond.methodLink (cnm 11) 449 (mY mX11_canBeKind) ∈ TB := tm 1760 rfl
set_option maxRecDepth 20000 in
theorem lk11_446 : Cond.methodLink (cnm 11) 446 (mY mX11_outOf) ∈ TB := tm 1764 rfl
set_option maxRecDepth 20000 in
theorem lk12_155 : Cond.methodLink (cnm 12) 155 (mY mX11_ask) ∈ TB := tm 1768 rfl
set_option maxRecDepth 20000 in
theorem lk11_452 : Cond.methodLink (cnm 11) 452 (mY mX11_kinds) ∈ TB := tm 1772 rfl
set_option maxRecDepth 20000 in
theorem lk11_455 : Cond.methodLink (cnm 11) 455 (mY mX11_mostAlike) ∈ TB := tm 1773 rfl
set_option maxRecDepth 20000 in
theorem lk12_160 : Cond.methodLink (cnm 12) 160 (mY mX11_few) ∈ TB := tm 1777 rfl
set_option maxRecDepth 20000 in
theorem lk12_74 : Cond.methodLink (cnm 12) 74 (mY mX11_stopped) ∈ TB := tm 1782 rfl
set_option maxRecDepth 20000 in
theorem lk12_66 : Cond.methodLink (cnm 12) 66 (mY mX11_orders) ∈ TB := tm 1786 rfl
set_option maxRecDepth 20000 in
theorem lk11_460 : Cond.methodLink (cnm 11) 460 (mY mX11_laysAside) ∈ TB := tm 1790 rfl
set_option maxRecDepth 20000 in
theorem lk11_466 : Cond.methodLink (cnm 11) 466 (mY mX11_runs) ∈ TB := tm 1794 rfl
set_option maxRecDepth 20000 in
theorem lk11_490 : Cond.methodLink (cnm 11) 490 (mY mX11_goesAlong) ∈ TB := tm 1798 rfl
set_option maxRecDepth 20000 in
theorem lk11_494 : Cond.methodLink (cnm 11) 494 (mY mX11_obeys) ∈ TB := tm 1802 rfl
set_option maxRecDepth 20000 in
theorem lk11_486 : Cond.methodLink (cnm 11) 486 (mY mX11_small) ∈ TB := tm 1806 rfl
set_option maxRecDepth 20000 in
theorem lk11_469 : Cond.methodLink (cnm 11) 469 (mY mX11_takesBack) ∈ TB := tm 1810 rfl
set_option maxRecDepth 20000 in
theorem lk12_168 : Cond.methodLink (cnm 12) 168 (mY mX11_days) ∈ TB := tm 1814 rfl
set_option maxRecDepth 20000 in
theorem lk11_506 : Cond.methodLink (cnm 11) 506 (mY mX11_draws) ∈ TB := tm 1818 rfl
set_option maxRecDepth 20000 in
theorem lk12_172 : Cond.methodLink (cnm 12) 172 (mY mX11_drawn) ∈ TB := tm 1825 rfl
set_option maxRecDepth 20000 in
theorem lk12_184 : Cond.methodLink (cnm 12) 184 (mY mX11_count) ∈ TB := tm 1829 rfl
set_option maxRecDepth 20000 in
theorem lk11_509 : Cond.methodLink (cnm 11) 509 (mY mX11_allMany) ∈ TB := tm 1833 rfl
set_option maxRecDepth 20000 in
theorem lk12_188 : Cond.methodLink (cnm 12) 188 (mY mX11_status) ∈ TB := tm 1837 rfl
set_option maxRecDepth 20000 in
theorem lk10_348 : Cond.methodLink (cnm 10) 348 Lib.Math.min.name ∈ TB := tm 463 rfl
set_option maxRecDepth 20000 in
theorem lk9_40 : Cond.methodLink (cnm 9) 40 Lib.Math.min.name ∈ TB := tm 527 rfl
set_option maxRecDepth 20000 in
theorem lk9_47 : Cond.methodLink (cnm 9) 47 Lib.Math.max.name ∈ TB := tm 529 rfl
set_option maxRecDepth 20000 in
theorem lk0_61 : Cond.methodLink (cnm 0) 61 Lib.Math.max.name ∈ TB := tm 537 rfl
set_option maxRecDepth 20000 in
theorem lk0_67 : Cond.methodLink (cnm 0) 67 Lib.Math.min.name ∈ TB := tm 538 rfl
set_option maxRecDepth 20000 in
theorem lk4_89 : Cond.methodLink (cnm 4) 89 Lib.Math.min.name ∈ TB := tm 669 rfl
set_option maxRecDepth 20000 in
theorem lk9_34 : Cond.methodLink (cnm 9) 34 arraycopyName ∈ TB := tm 748 rfl
set_option maxRecDepth 20000 in
theorem lk1_83 : Cond.methodLink (cnm 1) 83 arraycopyName ∈ TB := tm 768 rfl
set_option maxRecDepth 20000 in
theorem lk6_135 : Cond.methodLink (cnm 6) 135 arraycopyName ∈ TB := tm 952 rfl
set_option maxRecDepth 20000 in
theorem lk6_160 : Cond.methodLink (cnm 6) 160 Lib.Math.max.name ∈ TB := tm 1019 rfl
set_option maxRecDepth 20000 in
theorem lk3_60 : Cond.methodLink (cnm 3) 60 Lib.Math.max.name ∈ TB := tm 1060 rfl
set_option maxRecDepth 20000 in
theorem mt_in : Cond.initialized "java/lang/Math" ∈ TB ∧ Cond.initialized "java/lang/System" ∈ TB := ⟨tm 13 rfl, tm 18 rfl⟩
set_option maxRecDepth 20000 in
theorem mt_max : Cond.static Lib.Math.max.name ∈ TB ∧ Cond.code Lib.Math.max.name Lib.Math.max.code 2 (some .int) ∈ TB := ⟨tm 530 rfl, tm 531 rfl⟩
set_option maxRecDepth 20000 in
theorem mt_min : Cond.static Lib.Math.min.name ∈ TB ∧ Cond.code Lib.Math.min.name Lib.Math.min.code 2 (some .int) ∈ TB := ⟨tm 464 rfl, tm 465 rfl⟩
set_option maxRecDepth 20000 in
theorem mt_ac : Cond.static arraycopyName ∈ TB ∧ Cond.native arraycopyName ∈ TB := ⟨tm 749 rfl, tm 750 rfl⟩
set_option maxRecDepth 20000 in
theorem ob_in : Cond.instanceMethod objectInit ∈ TB ∧ Cond.code objectInit ⟨#[0xb1]⟩ 1 none ∈ TB := ⟨tm 27 rfl, tm 28 rfl⟩
end WORDS
