set_option maxRecDepth 20000 in
theorem myX10_init : MI yX10_init cX10_init 2 0 := ⟨⟨gm 1 (by decide +kernel) rfl, gm 25 (by exact rfl) rfl, by decide, by decide, by decide +kernel⟩, gm 24 (by decide +kernel) rfl, rfl⟩
set_option maxRecDepth 20000 in
theorem myX8_init : MI yX8_init cX8_init 1 0 := ⟨⟨gm 2 (by decide +kernel) rfl, gm 39 (by exact rfl) rfl, by decide, by decide, by decide +kernel⟩, gm 38 (by decide +kernel) rfl, rfl⟩
set_option maxRecDepth 20000 in
theorem myX4_init : MI yX4_init cX4_init 2 1 := ⟨⟨gm 3 (by decide +kernel) rfl, gm 56 (by exact rfl) rfl, by decide, by decide, by decide +kernel⟩, gm 55 (by decide +kernel) rfl, rfl⟩
set_option maxRecDepth 20000 in
theorem myX6_init : MI yX6_init cX6_init 3 2 := ⟨⟨gm 5 (by decide +kernel) rfl, gm 69 (by exact rfl) rfl, by decide, by decide, by decide +kernel⟩, gm 68 (by decide +kernel) rfl, rfl⟩
set_option maxRecDepth 20000 in
theorem myX1_init : MI yX1_init cX1_init 1 0 := ⟨⟨gm 6 (by decide +kernel) rfl, gm 75 (by exact rfl) rfl, by decide, by decide, by decide +kernel⟩, gm 74 (by decide +kernel) rfl, rfl⟩
set_option maxRecDepth 20000 in
theorem myX3_init : MI yX3_init cX3_init 2 1 := ⟨⟨gm 4 (by decide +kernel) rfl, gm 105 (by exact rfl) rfl, by decide, by decide, by decide +kernel⟩, gm 104 (by decide +kernel) rfl, rfl⟩
set_option maxRecDepth 20000 in
theorem myX0_init : MI yX0_init cX0_init 1 0 := ⟨⟨gm 7 (by decide +kernel) rfl, gm 149 (by exact rfl) rfl, by decide, by decide, by decide +kernel⟩, gm 148 (by decide +kernel) rfl, rfl⟩
set_option maxRecDepth 20000 in
theorem myX2_init : MI yX2_init cX2_init 1 0 := ⟨⟨gm 8 (by decide +kernel) rfl, gm 168 (by exact rfl) rfl, by decide, by decide, by decide +kernel⟩, gm 167 (by decide +kernel) rfl, rfl⟩
set_option maxRecDepth 20000 in
theorem myX7_init : MI yX7_init cX7_init 2 1 := ⟨⟨gm 9 (by decide +kernel) rfl, gm 184 (by exact rfl) rfl, by decide, by decide, by decide +kernel⟩, gm 183 (by decide +kernel) rfl, rfl⟩
set_option maxRecDepth 20000 in
theorem myX5_init : MI yX5_init cX5_init 1 0 := ⟨⟨gm 10 (by decide +kernel) rfl, gm 213 (by exact rfl) rfl, by decide, by decide, by decide +kernel⟩, gm 212 (by decide +kernel) rfl, rfl⟩
set_option maxRecDepth 20000 in
theorem myX10_set : MV yX10_set cX10_set 5 (some .int) 3 := ⟨⟨gm 1 (by decide +kernel) rfl, gm 264 (by exact rfl) rfl, by decide, by decide, by decide +kernel⟩, gm 262 (by decide +kernel) rfl, gm 263 (by decide +kernel) rfl⟩
set_option maxRecDepth 20000 in
theorem myX10_streamAt : MV yX10_streamAt cX10_streamAt 2 (some (.object "TurnPort$Stream")) 1 := ⟨⟨gm 1 (by decide +kernel) rfl, gm 268 (by exact rfl) rfl, by decide, by decide, by decide +kernel⟩, gm 267 (by decide +kernel) rfl, gs 0 (by decide +kernel) rfl⟩
set_option maxRecDepth 20000 in
theorem myX7_change : MV yX7_change cX7_change 4 (some .int) 2 := ⟨⟨gm 9 (by decide +kernel) rfl, gm 276 (by exact rfl) rfl, by decide, by decide, by decide +kernel⟩, gm 274 (by decide +kernel) rfl, gm 275 (by decide +kernel) rfl⟩
set_option maxRecDepth 20000 in
theorem myX10_come : MV yX10_come cX10_come 3 (some .int) 2 := ⟨⟨gm 1 (by decide +kernel) rfl, gm 280 (by exact rfl) rfl, by decide, by decide, by decide +kernel⟩, gm 278 (by decide +kernel) rfl, gm 279 (by decide +kernel) rfl⟩
set_option maxRecDepth 20000 in
theorem myX10_canCome : MS yX10_canCome cX10_canCome 2 (some .boolean) 2 := ⟨⟨gm 1 (by decide +kernel) rfl, gm 283 (by exact rfl) rfl, by decide, by decide, by decide +kernel⟩, gm 282 (by decide +kernel) rfl⟩
set_option maxRecDepth 20000 in
theorem myX10_welcome : MV yX10_welcome cX10_welcome 4 (some .int) 2 := ⟨⟨gm 1 (by decide +kernel) rfl, gm 287 (by exact rfl) rfl, by decide, by decide, by decide +kernel⟩, gm 286 (by decide +kernel) rfl, gs 1 (by decide +kernel) rfl⟩
set_option maxRecDepth 20000 in
theorem myX9_init : MI yX9_init cX9_init 6 5 := ⟨⟨gm 12 (by decide +kernel) rfl, gm 291 (by exact rfl) rfl, by decide, by decide, by decide +kernel⟩, gm 290 (by decide +kernel) rfl, rfl⟩
set_option maxRecDepth 20000 in
theorem myX7_endFor : MV yX7_endFor cX7_endFor 4 (some .int) 2 := ⟨⟨gm 9 (by decide +kernel) rfl, gm 296 (by exact rfl) rfl, by decide, by decide, by decide +kernel⟩, gm 294 (by decide +kernel) rfl, gm 295 (by decide +kernel) rfl⟩
set_option maxRecDepth 20000 in
theorem myJ9_max_7cf53 : MS yJ9_max_7cf53 cJ9_max_7cf53 2 (some .int) 2 := ⟨⟨gm 13 (by decide +kernel) rfl, gm 299 (by exact rfl) rfl, by decide, by decide, by decide +kernel⟩, gm 298 (by decide +kernel) rfl⟩
set_option maxRecDepth 20000 in
theorem myX7_gateAt : MV yX7_gateAt cX7_gateAt 2 (some .int) 1 := ⟨⟨gm 9 (by decide +kernel) rfl, gm 303 (by exact rfl) rfl, by decide, by decide, by decide +kernel⟩, gm 301 (by decide +kernel) rfl, gm 302 (by decide +kernel) rfl⟩
set_option maxRecDepth 20000 in
theorem myX7_follow : MV yX7_follow cX7_follow 2 none 1 := ⟨⟨gm 9 (by decide +kernel) rfl, gm 370 (by exact rfl) rfl, by decide, by decide, by decide +kernel⟩, gm 368 (by decide +kernel) rfl, gm 369 (by decide +kernel) rfl⟩
set_option maxRecDepth 20000 in
theorem myX3_letIn : MV yX3_letIn cX3_letIn 4 none 1 := ⟨⟨gm 4 (by decide +kernel) rfl, gm 374 (by exact rfl) rfl, by decide, by decide, by decide +kernel⟩, gm 372 (by decide +kernel) rfl, gm 373 (by decide +kernel) rfl⟩
set_option maxRecDepth 20000 in
theorem myX6_put : MV yX6_put cX6_put 2 none 1 := ⟨⟨gm 5 (by decide +kernel) rfl, gm 378 (by exact rfl) rfl, by decide, by decide, by decide +kernel⟩, gm 376 (by decide +kernel) rfl, gm 377 (by decide +kernel) rfl⟩
set_option maxRecDepth 20000 in
theorem myX1_add : MV yX1_add cX1_add 2 none 1 := ⟨⟨gm 6 (by decide +kernel) rfl, gm 382 (by exact rfl) rfl, by decide, by decide, by decide +kernel⟩, gm 380 (by decide +kernel) rfl, gm 381 (by decide +kernel) rfl⟩
set_option maxRecDepth 20000 in
theorem myX6_victim : MV yX6_victim cX6_victim 2 (some (.object "TurnPort$Word")) 1 := ⟨⟨gm 5 (by decide +kernel) rfl, gm 386 (by exact rfl) rfl, by decide, by decide, by decide +kernel⟩, gm 384 (by decide +kernel) rfl, gm 385 (by decide +kernel) rfl⟩
set_option maxRecDepth 20000 in
theorem myX6_greatest : MV yX6_greatest cX6_greatest 7 (some (.object "TurnPort$Word")) 0 := ⟨⟨gm 5 (by decide +kernel) rfl, gm 390 (by exact rfl) rfl, by decide, by decide, by decide +kernel⟩, gm 389 (by decide +kernel) rfl, gs 2 (by decide +kernel) rfl⟩
set_option maxRecDepth 20000 in
theorem myX1_at : MV yX1_at cX1_at 2 (some (.object "TurnPort$Word")) 1 := ⟨⟨gm 6 (by decide +kernel) rfl, gm 394 (by exact rfl) rfl, by decide, by decide, by decide +kernel⟩, gm 392 (by decide +kernel) rfl, gm 393 (by decide +kernel) rfl⟩
set_option maxRecDepth 20000 in
theorem myX4_rankOf : MV yX4_rankOf cX4_rankOf 5 (some .long) 1 := ⟨⟨gm 3 (by decide +kernel) rfl, gm 398 (by exact rfl) rfl, by decide, by decide, by decide +kernel⟩, gm 396 (by decide +kernel) rfl, gm 397 (by decide +kernel) rfl⟩
set_option maxRecDepth 20000 in
theorem myX9_trait : MV yX9_trait cX9_trait 2 (some .int) 1 := ⟨⟨gm 12 (by decide +kernel) rfl, gm 402 (by exact rfl) rfl, by decide, by decide, by decide +kernel⟩, gm 400 (by decide +kernel) rfl, gm 401 (by decide +kernel) rfl⟩
set_option maxRecDepth 20000 in
theorem myX6_fullestStream : MV yX6_fullestStream cX6_fullestStream 3 (some .int) 0 := ⟨⟨gm 5 (by decide +kernel) rfl, gm 406 (by exact rfl) rfl, by decide, by decide, by decide +kernel⟩, gm 405 (by decide +kernel) rfl, gs 3 (by decide +kernel) rfl⟩
set_option maxRecDepth 20000 in
theorem myX1_countOf : MV yX1_countOf cX1_countOf 4 (some .int) 1 := ⟨⟨gm 6 (by decide +kernel) rfl, gm 410 (by exact rfl) rfl, by decide, by decide, by decide +kernel⟩, gm 408 (by decide +kernel) rfl, gm 409 (by decide +kernel) rfl⟩
set_option maxRecDepth 20000 in
theorem myX6_latestOf : MV yX6_latestOf cX6_latestOf 4 (some (.object "TurnPort$Word")) 1 := ⟨⟨gm 5 (by decide +kernel) rfl, gm 414 (by exact rfl) rfl, by decide, by decide, by decide +kernel⟩, gm 413 (by decide +kernel) rfl, gs 4 (by decide +kernel) rfl⟩
set_option maxRecDepth 20000 in
theorem myX6_discard : MV yX6_discard cX6_discard 3 none 1 := ⟨⟨gm 5 (by decide +kernel) rfl, gm 418 (by exact rfl) rfl, by decide, by decide, by decide +kernel⟩, gm 416 (by decide +kernel) rfl, gm 417 (by decide +kernel) rfl⟩
set_option maxRecDepth 20000 in
theorem myX1_placeOf : MV yX1_placeOf cX1_placeOf 3 (some .int) 1 := ⟨⟨gm 6 (by decide +kernel) rfl, gm 422 (by exact rfl) rfl, by decide, by decide, by decide +kernel⟩, gm 420 (by decide +kernel) rfl, gm 421 (by decide +kernel) rfl⟩
set_option maxRecDepth 20000 in
theorem myX1_removeAt : MV yX1_removeAt cX1_removeAt 3 none 1 := ⟨⟨gm 6 (by decide +kernel) rfl, gm 426 (by exact rfl) rfl, by decide, by decide, by decide +kernel⟩, gm 424 (by decide +kernel) rfl, gm 425 (by decide +kernel) rfl⟩
set_option maxRecDepth 20000 in
theorem myX6_latestMark : MV yX6_latestMark cX6_latestMark 4 (some .int) 1 := ⟨⟨gm 5 (by decide +kernel) rfl, gm 430 (by exact rfl) rfl, by decide, by decide, by decide +kernel⟩, gm 429 (by decide +kernel) rfl, gs 5 (by decide +kernel) rfl⟩
set_option maxRecDepth 20000 in
theorem myX10_comes : MV yX10_comes cX10_comes 8 (some .int) 4 := ⟨⟨gm 1 (by decide +kernel) rfl, gm 434 (by exact rfl) rfl, by decide, by decide, by decide +kernel⟩, gm 432 (by decide +kernel) rfl, gm 433 (by decide +kernel) rfl⟩
set_option maxRecDepth 20000 in
theorem myX10_wrongSpan : MV yX10_wrongSpan cX10_wrongSpan 6 (some .int) 4 := ⟨⟨gm 1 (by decide +kernel) rfl, gm 438 (by exact rfl) rfl, by decide, by decide, by decide +kernel⟩, gm 437 (by decide +kernel) rfl, gs 6 (by decide +kernel) rfl⟩
set_option maxRecDepth 20000 in
theorem myX10_sheetAt : MV yX10_sheetAt cX10_sheetAt 2 (some (.object "TurnPort$Sheet")) 1 := ⟨⟨gm 1 (by decide +kernel) rfl, gm 442 (by exact rfl) rfl, by decide, by decide, by decide +kernel⟩, gm 441 (by decide +kernel) rfl, gs 7 (by decide +kernel) rfl⟩
set_option maxRecDepth 20000 in
theorem myX5_holdsNothing : MV yX5_holdsNothing cX5_holdsNothing 1 (some .boolean) 0 := ⟨⟨gm 10 (by decide +kernel) rfl, gm 446 (by exact rfl) rfl, by decide, by decide, by decide +kernel⟩, gm 444 (by decide +kernel) rfl, gm 445 (by decide +kernel) rfl⟩
set_option maxRecDepth 20000 in
theorem myX5_hasSpan : MV yX5_hasSpan cX5_hasSpan 3 (some .boolean) 2 := ⟨⟨gm 10 (by decide +kernel) rfl, gm 450 (by exact rfl) rfl, by decide, by decide, by decide +kernel⟩, gm 448 (by decide +kernel) rfl, gm 449 (by decide +kernel) rfl⟩
set_option maxRecDepth 20000 in
theorem myX10_itemAt : MV yX10_itemAt cX10_itemAt 4 (some .int) 2 := ⟨⟨gm 1 (by decide +kernel) rfl, gm 454 (by exact rfl) rfl, by decide, by decide, by decide +kernel⟩, gm 453 (by decide +kernel) rfl, gs 8 (by decide +kernel) rfl⟩
set_option maxRecDepth 20000 in
theorem myX5_at : MV yX5_at cX5_at 2 (some .int) 1 := ⟨⟨gm 10 (by decide +kernel) rfl, gm 458 (by exact rfl) rfl, by decide, by decide, by decide +kernel⟩, gm 456 (by decide +kernel) rfl, gm 457 (by decide +kernel) rfl⟩
set_option maxRecDepth 20000 in
theorem myX10_type : MV yX10_type cX10_type 4 (some .int) 2 := ⟨⟨gm 1 (by decide +kernel) rfl, gm 462 (by exact rfl) rfl, by decide, by decide, by decide +kernel⟩, gm 460 (by decide +kernel) rfl, gm 461 (by decide +kernel) rfl⟩
set_option maxRecDepth 20000 in
theorem myX8_canHold : MS yX8_canHold cX8_canHold 5 (some .boolean) 2 := ⟨⟨gm 2 (by decide +kernel) rfl, gm 465 (by exact rfl) rfl, by decide, by decide, by decide +kernel⟩, gm 464 (by decide +kernel) rfl⟩
set_option maxRecDepth 20000 in
theorem myX8_byteOf : MS yX8_byteOf cX8_byteOf 3 (some .int) 2 := ⟨⟨gm 2 (by decide +kernel) rfl, gm 468 (by exact rfl) rfl, by decide, by decide, by decide +kernel⟩, gm 467 (by decide +kernel) rfl⟩
set_option maxRecDepth 20000 in
theorem myX8_hasRoomFor : MV yX8_hasRoomFor cX8_hasRoomFor 2 (some .boolean) 1 := ⟨⟨gm 2 (by decide +kernel) rfl, gm 472 (by exact rfl) rfl, by decide, by decide, by decide +kernel⟩, gm 470 (by decide +kernel) rfl, gm 471 (by decide +kernel) rfl⟩
set_option maxRecDepth 20000 in
theorem myX8_append : MV yX8_append cX8_append 5 (some .int) 2 := ⟨⟨gm 2 (by decide +kernel) rfl, gm 476 (by exact rfl) rfl, by decide, by decide, by decide +kernel⟩, gm 474 (by decide +kernel) rfl, gm 475 (by decide +kernel) rfl⟩
set_option maxRecDepth 20000 in
theorem myX10_rule : MV yX10_rule cX10_rule 3 (some .int) 1 := ⟨⟨gm 1 (by decide +kernel) rfl, gm 480 (by exact rfl) rfl, by decide, by decide, by decide +kernel⟩, gm 478 (by decide +kernel) rfl, gm 479 (by decide +kernel) rfl⟩
set_option maxRecDepth 20000 in
theorem myX8_readRule : MV yX8_readRule cX8_readRule 4 (some .int) 1 := ⟨⟨gm 2 (by decide +kernel) rfl, gm 484 (by exact rfl) rfl, by decide, by decide, by decide +kernel⟩, gm 482 (by decide +kernel) rfl, gm 483 (by decide +kernel) rfl⟩
set_option maxRecDepth 20000 in
theorem myJ7_fill_53178 : MS yJ7_fill_53178 cJ7_fill_53178 4 none 2 := ⟨⟨gm 14 (by decide +kernel) rfl, gm 487 (by exact rfl) rfl, by decide, by decide, by decide +kernel⟩, gm 486 (by decide +kernel) rfl⟩
set_option maxRecDepth 20000 in
theorem myX8_goTo : MV yX8_goTo cX8_goTo 2 none 1 := ⟨⟨gm 2 (by decide +kernel) rfl, gm 491 (by exact rfl) rfl, by decide, by decide, by decide +kernel⟩, gm 490 (by decide +kernel) rfl, gs 9 (by decide +kernel) rfl⟩
set_option maxRecDepth 20000 in
theorem myX8_signAt : MV yX8_signAt cX8_signAt 2 (some .int) 1 := ⟨⟨gm 2 (by decide +kernel) rfl, gm 495 (by exact rfl) rfl, by decide, by decide, by decide +kernel⟩, gm 494 (by decide +kernel) rfl, gs 10 (by decide +kernel) rfl⟩
set_option maxRecDepth 20000 in
theorem myX8_readTerm : MV yX8_readTerm cX8_readTerm 6 (some .int) 2 := ⟨⟨gm 2 (by decide +kernel) rfl, gm 499 (by exact rfl) rfl, by decide, by decide, by decide +kernel⟩, gm 498 (by decide +kernel) rfl, gs 11 (by decide +kernel) rfl⟩
set_option maxRecDepth 20000 in
theorem myX8_faultAt : MS yX8_faultAt cX8_faultAt 1 (some .int) 1 := ⟨⟨gm 2 (by decide +kernel) rfl, gm 502 (by exact rfl) rfl, by decide, by decide, by decide +kernel⟩, gm 501 (by decide +kernel) rfl⟩
set_option maxRecDepth 20000 in
theorem myX8_isDigit : MS yX8_isDigit cX8_isDigit 1 (some .boolean) 1 := ⟨⟨gm 2 (by decide +kernel) rfl, gm 505 (by exact rfl) rfl, by decide, by decide, by decide +kernel⟩, gm 504 (by decide +kernel) rfl⟩
set_option maxRecDepth 20000 in
theorem myX8_readNumber : MV yX8_readNumber cX8_readNumber 3 (some .int) 0 := ⟨⟨gm 2 (by decide +kernel) rfl, gm 509 (by exact rfl) rfl, by decide, by decide, by decide +kernel⟩, gm 508 (by decide +kernel) rfl, gs 12 (by decide +kernel) rfl⟩
set_option maxRecDepth 20000 in
theorem myJ9_min_7cf53 : MS yJ9_min_7cf53 cJ9_min_7cf53 2 (some .int) 2 := ⟨⟨gm 13 (by decide +kernel) rfl, gm 512 (by exact rfl) rfl, by decide, by decide, by decide +kernel⟩, gm 511 (by decide +kernel) rfl⟩
set_option maxRecDepth 20000 in
theorem myJ0_indexOf_0f7a4 : MV yJ0_indexOf_0f7a4 cJ0_indexOf_0f7a4 2 (some .int) 1 := ⟨⟨gm 15 (by decide +kernel) rfl, gm 517 (by exact rfl) rfl, by decide, by decide, by decide +kernel⟩, gm 515 (by decide +kernel) rfl, gm 516 (by decide +kernel) rfl⟩
set_option maxRecDepth 20000 in
theorem myJ0_indexOf_7cf53 : MV yJ0_indexOf_7cf53 cJ0_indexOf_7cf53 3 (some .int) 2 := ⟨⟨gm 15 (by decide +kernel) rfl, gm 521 (by exact rfl) rfl, by decide, by decide, by decide +kernel⟩, gm 519 (by decide +kernel) rfl, gm 520 (by decide +kernel) rfl⟩
set_option maxRecDepth 20000 in
theorem myJ0_isLatin1_aae02 : MV yJ0_isLatin1_aae02 cJ0_isLatin1_aae02 1 (some .boolean) 0 := ⟨⟨gm 15 (by decide +kernel) rfl, gm 525 (by exact rfl) rfl, by decide, by decide, by decide +kernel⟩, gm 523 (by decide +kernel) rfl, gm 524 (by decide +kernel) rfl⟩
set_option maxRecDepth 20000 in
theorem myJ0_length_8abf5 : MV yJ0_length_8abf5 cJ0_length_8abf5 1 (some .int) 0 := ⟨⟨gm 15 (by decide +kernel) rfl, gm 531 (by exact rfl) rfl, by decide, by decide, by decide +kernel⟩, gm 529 (by decide +kernel) rfl, gm 530 (by decide +kernel) rfl⟩
set_option maxRecDepth 20000 in
theorem myJ0_coder_7d493 : MV yJ0_coder_7d493 cJ0_coder_7d493 1 (some .byte) 0 := ⟨⟨gm 15 (by decide +kernel) rfl, gm 535 (by exact rfl) rfl, by decide, by decide, by decide +kernel⟩, gm 533 (by decide +kernel) rfl, gm 534 (by decide +kernel) rfl⟩
set_option maxRecDepth 20000 in
theorem myJ1_indexOf_4cfef : MS yJ1_indexOf_4cfef cJ1_indexOf_4cfef 4 (some .int) 4 := ⟨⟨gm 16 (by decide +kernel) rfl, gm 538 (by exact rfl) rfl, by decide, by decide, by decide +kernel⟩, gm 537 (by decide +kernel) rfl⟩
set_option maxRecDepth 20000 in
theorem myJ1_canEncode_9a6ad : MS yJ1_canEncode_9a6ad cJ1_canEncode_9a6ad 1 (some .boolean) 1 := ⟨⟨gm 16 (by decide +kernel) rfl, gm 541 (by exact rfl) rfl, by decide, by decide, by decide +kernel⟩, gm 540 (by decide +kernel) rfl⟩
set_option maxRecDepth 20000 in
theorem myJ1_indexOfChar_4cfef : MS yJ1_indexOfChar_4cfef cJ1_indexOfChar_4cfef 6 (some .int) 4 := ⟨⟨gm 16 (by decide +kernel) rfl, gm 546 (by exact rfl) rfl, by decide, by decide, by decide +kernel⟩, gm 545 (by decide +kernel) rfl⟩
set_option maxRecDepth 20000 in
theorem myJ2_indexOf_4cfef : MS yJ2_indexOf_4cfef cJ2_indexOf_4cfef 4 (some .int) 4 := ⟨⟨gm 17 (by decide +kernel) rfl, gm 549 (by exact rfl) rfl, by decide, by decide, by decide +kernel⟩, gm 548 (by decide +kernel) rfl⟩
set_option maxRecDepth 20000 in
theorem myJ2_indexOfChar_4cfef : MS yJ2_indexOfChar_4cfef cJ2_indexOfChar_4cfef 4 (some .int) 4 := ⟨⟨gm 17 (by decide +kernel) rfl, gm 555 (by exact rfl) rfl, by decide, by decide, by decide +kernel⟩, gm 554 (by decide +kernel) rfl⟩
set_option maxRecDepth 20000 in
theorem myJ2_checkBoundsBeginEnd_d044e : MS yJ2_checkBoundsBeginEnd_d044e cJ2_checkBoundsBeginEnd_d044e 3 none 3 := ⟨⟨gm 17 (by decide +kernel) rfl, gm 558 (by exact rfl) rfl, by decide, by decide, by decide +kernel⟩, gm 557 (by decide +kernel) rfl⟩
set_option maxRecDepth 20000 in
theorem myJ2_length_9d52b : MS yJ2_length_9d52b cJ2_length_9d52b 1 (some .int) 1 := ⟨⟨gm 17 (by decide +kernel) rfl, gm 561 (by exact rfl) rfl, by decide, by decide, by decide +kernel⟩, gm 560 (by decide +kernel) rfl⟩
set_option maxRecDepth 20000 in
theorem myJ0_checkBoundsBeginEnd_23922 : MS yJ0_checkBoundsBeginEnd_23922 cJ0_checkBoundsBeginEnd_23922 3 none 3 := ⟨⟨gm 15 (by decide +kernel) rfl, gm 564 (by exact rfl) rfl, by decide, by decide, by decide +kernel⟩, gm 563 (by decide +kernel) rfl⟩
set_option maxRecDepth 20000 in
theorem myJ3_checkFromToIndex_8c36e : MS yJ3_checkFromToIndex_8c36e cJ3_checkFromToIndex_8c36e 4 (some .int) 4 := ⟨⟨gm 18 (by decide +kernel) rfl, gm 569 (by exact rfl) rfl, by decide, by decide, by decide +kernel⟩, gm 568 (by decide +kernel) rfl⟩
set_option maxRecDepth 20000 in
theorem myJ2_indexOfCharUnsafe_4cfef : MS yJ2_indexOfCharUnsafe_4cfef cJ2_indexOfCharUnsafe_4cfef 5 (some .int) 4 := ⟨⟨gm 17 (by decide +kernel) rfl, gm 572 (by exact rfl) rfl, by decide, by decide, by decide +kernel⟩, gm 571 (by decide +kernel) rfl⟩
set_option maxRecDepth 20000 in
theorem myJ2_getChar_3b067 : MS yJ2_getChar_3b067 cJ2_getChar_3b067 2 (some .char) 2 := ⟨⟨gm 17 (by decide +kernel) rfl, gm 575 (by exact rfl) rfl, by decide, by decide, by decide +kernel⟩, gm 574 (by decide +kernel) rfl⟩
set_option maxRecDepth 20000 in
theorem myJ2_indexOfSupplementary_4cfef : MS yJ2_indexOfSupplementary_4cfef cJ2_indexOfSupplementary_4cfef 7 (some .int) 4 := ⟨⟨gm 17 (by decide +kernel) rfl, gm 584 (by exact rfl) rfl, by decide, by decide, by decide +kernel⟩, gm 583 (by decide +kernel) rfl⟩
set_option maxRecDepth 20000 in
theorem myJ11_isValidCodePoint_9a6ad : MS yJ11_isValidCodePoint_9a6ad cJ11_isValidCodePoint_9a6ad 2 (some .boolean) 1 := ⟨⟨gm 19 (by decide +kernel) rfl, gm 587 (by exact rfl) rfl, by decide, by decide, by decide +kernel⟩, gm 586 (by decide +kernel) rfl⟩
set_option maxRecDepth 20000 in
theorem myJ11_highSurrogate_5068e : MS yJ11_highSurrogate_5068e cJ11_highSurrogate_5068e 1 (some .char) 1 := ⟨⟨gm 19 (by decide +kernel) rfl, gm 590 (by exact rfl) rfl, by decide, by decide, by decide +kernel⟩, gm 589 (by decide +kernel) rfl⟩
set_option maxRecDepth 20000 in
theorem myJ11_lowSurrogate_5068e : MS yJ11_lowSurrogate_5068e cJ11_lowSurrogate_5068e 1 (some .char) 1 := ⟨⟨gm 19 (by decide +kernel) rfl, gm 594 (by exact rfl) rfl, by decide, by decide, by decide +kernel⟩, gm 593 (by decide +kernel) rfl⟩
set_option maxRecDepth 20000 in
theorem myX8_clear : MV yX8_clear cX8_clear 1 none 0 := ⟨⟨gm 2 (by decide +kernel) rfl, gm 599 (by exact rfl) rfl, by decide, by decide, by decide +kernel⟩, gm 597 (by decide +kernel) rfl, gm 598 (by decide +kernel) rfl⟩
set_option maxRecDepth 20000 in
theorem myX4_become : MV yX4_become cX4_become 3 none 1 := ⟨⟨gm 3 (by decide +kernel) rfl, gm 603 (by exact rfl) rfl, by decide, by decide, by decide +kernel⟩, gm 601 (by decide +kernel) rfl, gm 602 (by decide +kernel) rfl⟩
set_option maxRecDepth 20000 in
theorem myX10_told : MV yX10_told cX10_told 4 (some .int) 2 := ⟨⟨gm 1 (by decide +kernel) rfl, gm 607 (by exact rfl) rfl, by decide, by decide, by decide +kernel⟩, gm 605 (by decide +kernel) rfl, gm 606 (by decide +kernel) rfl⟩
set_option maxRecDepth 20000 in
theorem myX10_wordAt : MV yX10_wordAt cX10_wordAt 2 (some (.object "TurnPort$Word")) 1 := ⟨⟨gm 1 (by decide +kernel) rfl, gm 611 (by exact rfl) rfl, by decide, by decide, by decide +kernel⟩, gm 610 (by decide +kernel) rfl, gs 13 (by decide +kernel) rfl⟩
set_option maxRecDepth 20000 in
theorem myX9_wasSent : MV yX9_wasSent cX9_wasSent 1 (some .boolean) 0 := ⟨⟨gm 12 (by decide +kernel) rfl, gm 615 (by exact rfl) rfl, by decide, by decide, by decide +kernel⟩, gm 613 (by decide +kernel) rfl, gm 614 (by decide +kernel) rfl⟩
set_option maxRecDepth 20000 in
theorem myX10_rank : MV yX10_rank cX10_rank 4 (some .long) 2 := ⟨⟨gm 1 (by decide +kernel) rfl, gm 619 (by exact rfl) rfl, by decide, by decide, by decide +kernel⟩, gm 617 (by decide +kernel) rfl, gm 618 (by decide +kernel) rfl⟩
set_option maxRecDepth 20000 in
theorem myX10_full : MV yX10_full cX10_full 3 (some .int) 2 := ⟨⟨gm 1 (by decide +kernel) rfl, gm 625 (by exact rfl) rfl, by decide, by decide, by decide +kernel⟩, gm 623 (by decide +kernel) rfl, gm 624 (by decide +kernel) rfl⟩
set_option maxRecDepth 20000 in
theorem myX3_changeRoom : MV yX3_changeRoom cX3_changeRoom 3 (some .int) 1 := ⟨⟨gm 4 (by decide +kernel) rfl, gm 629 (by exact rfl) rfl, by decide, by decide, by decide +kernel⟩, gm 627 (by decide +kernel) rfl, gm 628 (by decide +kernel) rfl⟩
set_option maxRecDepth 20000 in
theorem myX3_changeDrops : MV yX3_changeDrops cX3_changeDrops 3 (some .int) 1 := ⟨⟨gm 4 (by decide +kernel) rfl, gm 633 (by exact rfl) rfl, by decide, by decide, by decide +kernel⟩, gm 631 (by decide +kernel) rfl, gm 632 (by decide +kernel) rfl⟩
set_option maxRecDepth 20000 in
theorem myX10_ticks : MV yX10_ticks cX10_ticks 5 (some .int) 1 := ⟨⟨gm 1 (by decide +kernel) rfl, gm 637 (by exact rfl) rfl, by decide, by decide, by decide +kernel⟩, gm 635 (by decide +kernel) rfl, gm 636 (by decide +kernel) rfl⟩
set_option maxRecDepth 20000 in
theorem myX3_goOn : MV yX3_goOn cX3_goOn 3 (some (.object "TurnPort$Word")) 1 := ⟨⟨gm 4 (by decide +kernel) rfl, gm 642 (by exact rfl) rfl, by decide, by decide, by decide +kernel⟩, gm 640 (by decide +kernel) rfl, gm 641 (by decide +kernel) rfl⟩
set_option maxRecDepth 20000 in
theorem myX3_startSending : MV yX3_startSending cX3_startSending 2 none 0 := ⟨⟨gm 4 (by decide +kernel) rfl, gm 646 (by exact rfl) rfl, by decide, by decide, by decide +kernel⟩, gm 645 (by decide +kernel) rfl, gs 14 (by decide +kernel) rfl⟩
set_option maxRecDepth 20000 in
theorem myX6_take : MV yX6_take cX6_take 5 (some (.object "TurnPort$Word")) 1 := ⟨⟨gm 5 (by decide +kernel) rfl, gm 650 (by exact rfl) rfl, by decide, by decide, by decide +kernel⟩, gm 648 (by decide +kernel) rfl, gm 649 (by decide +kernel) rfl⟩
set_option maxRecDepth 20000 in
theorem myX6_nextMark : MV yX6_nextMark cX6_nextMark 10 (some .int) 1 := ⟨⟨gm 5 (by decide +kernel) rfl, gm 654 (by exact rfl) rfl, by decide, by decide, by decide +kernel⟩, gm 653 (by decide +kernel) rfl, gs 15 (by decide +kernel) rfl⟩
set_option maxRecDepth 20000 in
theorem myX6_openHouses : MV yX6_openHouses cX6_openHouses 5 (some .int) 1 := ⟨⟨gm 5 (by decide +kernel) rfl, gm 658 (by exact rfl) rfl, by decide, by decide, by decide +kernel⟩, gm 657 (by decide +kernel) rfl, gs 16 (by decide +kernel) rfl⟩
set_option maxRecDepth 20000 in
theorem myX9_isOpen : MV yX9_isOpen cX9_isOpen 2 (some .boolean) 1 := ⟨⟨gm 12 (by decide +kernel) rfl, gm 662 (by exact rfl) rfl, by decide, by decide, by decide +kernel⟩, gm 660 (by decide +kernel) rfl, gm 661 (by decide +kernel) rfl⟩
set_option maxRecDepth 20000 in
theorem myX6_leastOf : MV yX6_leastOf cX6_leastOf 10 (some (.object "TurnPort$Word")) 2 := ⟨⟨gm 5 (by decide +kernel) rfl, gm 666 (by exact rfl) rfl, by decide, by decide, by decide +kernel⟩, gm 665 (by decide +kernel) rfl, gs 17 (by decide +kernel) rfl⟩
set_option maxRecDepth 20000 in
theorem myX6_firstGate : MV yX6_firstGate cX6_firstGate 4 (some .int) 1 := ⟨⟨gm 5 (by decide +kernel) rfl, gm 670 (by exact rfl) rfl, by decide, by decide, by decide +kernel⟩, gm 668 (by decide +kernel) rfl, gm 669 (by decide +kernel) rfl⟩
set_option maxRecDepth 20000 in
theorem myX3_finishSending : MV yX3_finishSending cX3_finishSending 2 (some (.object "TurnPort$Word")) 0 := ⟨⟨gm 4 (by decide +kernel) rfl, gm 677 (by exact rfl) rfl, by decide, by decide, by decide +kernel⟩, gm 676 (by decide +kernel) rfl, gs 18 (by decide +kernel) rfl⟩
set_option maxRecDepth 20000 in
theorem myX10_next : MV yX10_next cX10_next 2 (some .int) 0 := ⟨⟨gm 1 (by decide +kernel) rfl, gm 681 (by exact rfl) rfl, by decide, by decide, by decide +kernel⟩, gm 679 (by decide +kernel) rfl, gm 680 (by decide +kernel) rfl⟩
set_option maxRecDepth 20000 in
theorem myX6_nextWord : MV yX6_nextWord cX6_nextWord 3 (some (.object "TurnPort$Word")) 1 := ⟨⟨gm 5 (by decide +kernel) rfl, gm 685 (by exact rfl) rfl, by decide, by decide, by decide +kernel⟩, gm 683 (by decide +kernel) rfl, gm 684 (by decide +kernel) rfl⟩
set_option maxRecDepth 20000 in
theorem myX10_count : MV yX10_count cX10_count 2 (some .int) 1 := ⟨⟨gm 1 (by decide +kernel) rfl, gm 689 (by exact rfl) rfl, by decide, by decide, by decide +kernel⟩, gm 687 (by decide +kernel) rfl, gm 688 (by decide +kernel) rfl⟩
set_option maxRecDepth 20000 in
theorem myX6_openCount : MV yX6_openCount cX6_openCount 4 (some .int) 1 := ⟨⟨gm 5 (by decide +kernel) rfl, gm 693 (by exact rfl) rfl, by decide, by decide, by decide +kernel⟩, gm 691 (by decide +kernel) rfl, gm 692 (by decide +kernel) rfl⟩
set_option maxRecDepth 20000 in
theorem myX10_sent : MV yX10_sent cX10_sent 3 (some .int) 1 := ⟨⟨gm 1 (by decide +kernel) rfl, gm 697 (by exact rfl) rfl, by decide, by decide, by decide +kernel⟩, gm 695 (by decide +kernel) rfl, gm 696 (by decide +kernel) rfl⟩
set_option maxRecDepth 20000 in
theorem myX3_turnAt : MV yX3_turnAt cX3_turnAt 2 (some (.object "TurnPort$Word")) 1 := ⟨⟨gm 4 (by decide +kernel) rfl, gm 701 (by exact rfl) rfl, by decide, by decide, by decide +kernel⟩, gm 699 (by decide +kernel) rfl, gm 700 (by decide +kernel) rfl⟩
set_option maxRecDepth 20000 in
theorem myX10_late : MV yX10_late cX10_late 3 (some .int) 1 := ⟨⟨gm 1 (by decide +kernel) rfl, gm 705 (by exact rfl) rfl, by decide, by decide, by decide +kernel⟩, gm 703 (by decide +kernel) rfl, gm 704 (by decide +kernel) rfl⟩
set_option maxRecDepth 20000 in
theorem myX9_lateAt : MV yX9_lateAt cX9_lateAt 2 (some .int) 1 := ⟨⟨gm 12 (by decide +kernel) rfl, gm 710 (by exact rfl) rfl, by decide, by decide, by decide +kernel⟩, gm 708 (by decide +kernel) rfl, gm 709 (by decide +kernel) rfl⟩
set_option maxRecDepth 20000 in
theorem myX10_behind : MV yX10_behind cX10_behind 4 (some .int) 2 := ⟨⟨gm 1 (by decide +kernel) rfl, gm 715 (by exact rfl) rfl, by decide, by decide, by decide +kernel⟩, gm 713 (by decide +kernel) rfl, gm 714 (by decide +kernel) rfl⟩
set_option maxRecDepth 20000 in
theorem myX3_overtakers : MV yX3_overtakers cX3_overtakers 4 (some .int) 1 := ⟨⟨gm 4 (by decide +kernel) rfl, gm 719 (by exact rfl) rfl, by decide, by decide, by decide +kernel⟩, gm 717 (by decide +kernel) rfl, gm 718 (by decide +kernel) rfl⟩
set_option maxRecDepth 20000 in
theorem myX3_overtaker : MV yX3_overtaker cX3_overtaker 5 (some .int) 2 := ⟨⟨gm 4 (by decide +kernel) rfl, gm 723 (by exact rfl) rfl, by decide, by decide, by decide +kernel⟩, gm 721 (by decide +kernel) rfl, gm 722 (by decide +kernel) rfl⟩
set_option maxRecDepth 20000 in
theorem myX10_promise : MV yX10_promise cX10_promise 7 (some .int) 2 := ⟨⟨gm 1 (by decide +kernel) rfl, gm 727 (by exact rfl) rfl, by decide, by decide, by decide +kernel⟩, gm 725 (by decide +kernel) rfl, gm 726 (by decide +kernel) rfl⟩
set_option maxRecDepth 20000 in
theorem myX10_sumUpTo : MV yX10_sumUpTo cX10_sumUpTo 5 (some .int) 2 := ⟨⟨gm 1 (by decide +kernel) rfl, gm 731 (by exact rfl) rfl, by decide, by decide, by decide +kernel⟩, gm 730 (by decide +kernel) rfl, gs 19 (by decide +kernel) rfl⟩
set_option maxRecDepth 20000 in
theorem myX10_taken : MV yX10_taken cX10_taken 3 (some .int) 1 := ⟨⟨gm 1 (by decide +kernel) rfl, gm 735 (by exact rfl) rfl, by decide, by decide, by decide +kernel⟩, gm 733 (by decide +kernel) rfl, gm 734 (by decide +kernel) rfl⟩
set_option maxRecDepth 20000 in
theorem myX10_lags : MV yX10_lags cX10_lags 6 (some .int) 1 := ⟨⟨gm 1 (by decide +kernel) rfl, gm 739 (by exact rfl) rfl, by decide, by decide, by decide +kernel⟩, gm 737 (by decide +kernel) rfl, gm 738 (by decide +kernel) rfl⟩
set_option maxRecDepth 20000 in
theorem myX10_takesPart : MV yX10_takesPart cX10_takesPart 2 (some .boolean) 1 := ⟨⟨gm 1 (by decide +kernel) rfl, gm 743 (by exact rfl) rfl, by decide, by decide, by decide +kernel⟩, gm 742 (by decide +kernel) rfl, gs 20 (by decide +kernel) rfl⟩
set_option maxRecDepth 20000 in
theorem myJ9_floorDiv_7cf53 : MS yJ9_floorDiv_7cf53 cJ9_floorDiv_7cf53 3 (some .int) 2 := ⟨⟨gm 13 (by decide +kernel) rfl, gm 747 (by exact rfl) rfl, by decide, by decide, by decide +kernel⟩, gm 746 (by decide +kernel) rfl⟩
set_option maxRecDepth 20000 in
theorem myX10_heaps : MV yX10_heaps cX10_heaps 7 (some .int) 5 := ⟨⟨gm 1 (by decide +kernel) rfl, gm 751 (by exact rfl) rfl, by decide, by decide, by decide +kernel⟩, gm 749 (by decide +kernel) rfl, gm 750 (by decide +kernel) rfl⟩
set_option maxRecDepth 20000 in
theorem myX10_takeRanks : MV yX10_takeRanks cX10_takeRanks 8 (some .int) 4 := ⟨⟨gm 1 (by decide +kernel) rfl, gm 755 (by exact rfl) rfl, by decide, by decide, by decide +kernel⟩, gm 754 (by decide +kernel) rfl, gs 21 (by decide +kernel) rfl⟩
set_option maxRecDepth 20000 in
theorem myX0_clear : MV yX0_clear cX0_clear 1 none 0 := ⟨⟨gm 7 (by decide +kernel) rfl, gm 759 (by exact rfl) rfl, by decide, by decide, by decide +kernel⟩, gm 757 (by decide +kernel) rfl, gm 758 (by decide +kernel) rfl⟩
set_option maxRecDepth 20000 in
theorem myX0_add : MV yX0_add cX0_add 2 none 1 := ⟨⟨gm 7 (by decide +kernel) rfl, gm 763 (by exact rfl) rfl, by decide, by decide, by decide +kernel⟩, gm 761 (by decide +kernel) rfl, gm 762 (by decide +kernel) rfl⟩
set_option maxRecDepth 20000 in
theorem myX0_outOfOrder : MV yX0_outOfOrder cX0_outOfOrder 5 (some .int) 1 := ⟨⟨gm 7 (by decide +kernel) rfl, gm 767 (by exact rfl) rfl, by decide, by decide, by decide +kernel⟩, gm 765 (by decide +kernel) rfl, gm 766 (by decide +kernel) rfl⟩
set_option maxRecDepth 20000 in
theorem myX10_cut : MV yX10_cut cX10_cut 7 (some .int) 5 := ⟨⟨gm 1 (by decide +kernel) rfl, gm 771 (by exact rfl) rfl, by decide, by decide, by decide +kernel⟩, gm 769 (by decide +kernel) rfl, gm 770 (by decide +kernel) rfl⟩
set_option maxRecDepth 20000 in
theorem myX0_bestCut : MV yX0_bestCut cX0_bestCut 3 (some .int) 1 := ⟨⟨gm 7 (by decide +kernel) rfl, gm 775 (by exact rfl) rfl, by decide, by decide, by decide +kernel⟩, gm 773 (by decide +kernel) rfl, gm 774 (by decide +kernel) rfl⟩
set_option maxRecDepth 20000 in
theorem myX0_countPairs : MV yX0_countPairs cX0_countPairs 3 none 0 := ⟨⟨gm 7 (by decide +kernel) rfl, gm 779 (by exact rfl) rfl, by decide, by decide, by decide +kernel⟩, gm 778 (by decide +kernel) rfl, gs 22 (by decide +kernel) rfl⟩
set_option maxRecDepth 20000 in
theorem myX0_addUpSpans : MV yX0_addUpSpans cX0_addUpSpans 5 none 0 := ⟨⟨gm 7 (by decide +kernel) rfl, gm 784 (by exact rfl) rfl, by decide, by decide, by decide +kernel⟩, gm 783 (by decide +kernel) rfl, gs 23 (by decide +kernel) rfl⟩
set_option maxRecDepth 20000 in
theorem myX0_addHeap : MV yX0_addHeap cX0_addHeap 3 none 0 := ⟨⟨gm 7 (by decide +kernel) rfl, gm 788 (by exact rfl) rfl, by decide, by decide, by decide +kernel⟩, gm 787 (by decide +kernel) rfl, gs 24 (by decide +kernel) rfl⟩
set_option maxRecDepth 20000 in
theorem myX10_found : MV yX10_found cX10_found 6 (some .int) 4 := ⟨⟨gm 1 (by decide +kernel) rfl, gm 793 (by exact rfl) rfl, by decide, by decide, by decide +kernel⟩, gm 791 (by decide +kernel) rfl, gm 792 (by decide +kernel) rfl⟩
set_option maxRecDepth 20000 in
theorem myX10_pickWords : MV yX10_pickWords cX10_pickWords 9 (some .int) 5 := ⟨⟨gm 1 (by decide +kernel) rfl, gm 797 (by exact rfl) rfl, by decide, by decide, by decide +kernel⟩, gm 796 (by decide +kernel) rfl, gs 25 (by decide +kernel) rfl⟩
set_option maxRecDepth 20000 in
theorem myX2_clear : MV yX2_clear cX2_clear 1 none 0 := ⟨⟨gm 8 (by decide +kernel) rfl, gm 801 (by exact rfl) rfl, by decide, by decide, by decide +kernel⟩, gm 799 (by decide +kernel) rfl, gm 800 (by decide +kernel) rfl⟩
set_option maxRecDepth 20000 in
theorem myX2_has : MV yX2_has cX2_has 3 (some .boolean) 1 := ⟨⟨gm 8 (by decide +kernel) rfl, gm 805 (by exact rfl) rfl, by decide, by decide, by decide +kernel⟩, gm 803 (by decide +kernel) rfl, gm 804 (by decide +kernel) rfl⟩
set_option maxRecDepth 20000 in
theorem myX2_add : MV yX2_add cX2_add 2 none 1 := ⟨⟨gm 8 (by decide +kernel) rfl, gm 809 (by exact rfl) rfl, by decide, by decide, by decide +kernel⟩, gm 807 (by decide +kernel) rfl, gm 808 (by decide +kernel) rfl⟩
set_option maxRecDepth 20000 in
theorem myX2_firstRule : MV yX2_firstRule cX2_firstRule 3 (some .int) 0 := ⟨⟨gm 8 (by decide +kernel) rfl, gm 813 (by exact rfl) rfl, by decide, by decide, by decide +kernel⟩, gm 811 (by decide +kernel) rfl, gm 812 (by decide +kernel) rfl⟩
set_option maxRecDepth 20000 in
theorem myX2_fits : MV yX2_fits cX2_fits 6 (some .boolean) 2 := ⟨⟨gm 8 (by decide +kernel) rfl, gm 817 (by exact rfl) rfl, by decide, by decide, by decide +kernel⟩, gm 816 (by decide +kernel) rfl, gs 26 (by decide +kernel) rfl⟩
set_option maxRecDepth 20000 in
theorem myX2_valueOf : MS yX2_valueOf cX2_valueOf 2 (some .int) 2 := ⟨⟨gm 8 (by decide +kernel) rfl, gm 820 (by exact rfl) rfl, by decide, by decide, by decide +kernel⟩, gm 819 (by decide +kernel) rfl⟩
set_option maxRecDepth 20000 in
theorem myX2_numberOf : MS yX2_numberOf cX2_numberOf 1 (some .int) 1 := ⟨⟨gm 8 (by decide +kernel) rfl, gm 823 (by exact rfl) rfl, by decide, by decide, by decide +kernel⟩, gm 822 (by decide +kernel) rfl⟩
set_option maxRecDepth 20000 in
theorem myX2_letterOf : MS yX2_letterOf cX2_letterOf 1 (some .int) 1 := ⟨⟨gm 8 (by decide +kernel) rfl, gm 826 (by exact rfl) rfl, by decide, by decide, by decide +kernel⟩, gm 825 (by decide +kernel) rfl⟩
set_option maxRecDepth 20000 in
theorem myX2_digits : MS yX2_digits cX2_digits 1 (some .int) 1 := ⟨⟨gm 8 (by decide +kernel) rfl, gm 830 (by exact rfl) rfl, by decide, by decide, by decide +kernel⟩, gm 829 (by decide +kernel) rfl⟩
set_option maxRecDepth 20000 in
theorem myX10_order : MV yX10_order cX10_order 8 (some .int) 5 := ⟨⟨gm 1 (by decide +kernel) rfl, gm 834 (by exact rfl) rfl, by decide, by decide, by decide +kernel⟩, gm 832 (by decide +kernel) rfl, gm 833 (by decide +kernel) rfl⟩
set_option maxRecDepth 20000 in
theorem myX2_sortByNumber : MV yX2_sortByNumber cX2_sortByNumber 4 none 0 := ⟨⟨gm 8 (by decide +kernel) rfl, gm 838 (by exact rfl) rfl, by decide, by decide, by decide +kernel⟩, gm 836 (by decide +kernel) rfl, gm 837 (by decide +kernel) rfl⟩
set_option maxRecDepth 20000 in
theorem myX2_leastLate : MV yX2_leastLate cX2_leastLate 7 (some .int) 1 := ⟨⟨gm 8 (by decide +kernel) rfl, gm 842 (by exact rfl) rfl, by decide, by decide, by decide +kernel⟩, gm 840 (by decide +kernel) rfl, gm 841 (by decide +kernel) rfl⟩
set_option maxRecDepth 20000 in
theorem myX2_lengthOf : MV yX2_lengthOf cX2_lengthOf 4 (some .int) 1 := ⟨⟨gm 8 (by decide +kernel) rfl, gm 846 (by exact rfl) rfl, by decide, by decide, by decide +kernel⟩, gm 845 (by decide +kernel) rfl, gs 27 (by decide +kernel) rfl⟩
set_option maxRecDepth 20000 in
theorem myX2_lateFrom : MV yX2_lateFrom cX2_lateFrom 3 (some .int) 2 := ⟨⟨gm 8 (by decide +kernel) rfl, gm 851 (by exact rfl) rfl, by decide, by decide, by decide +kernel⟩, gm 850 (by decide +kernel) rfl, gs 28 (by decide +kernel) rfl⟩
set_option maxRecDepth 20000 in
theorem myX2_bestAt : MV yX2_bestAt cX2_bestAt 6 (some .int) 2 := ⟨⟨gm 8 (by decide +kernel) rfl, gm 858 (by exact rfl) rfl, by decide, by decide, by decide +kernel⟩, gm 856 (by decide +kernel) rfl, gm 857 (by decide +kernel) rfl⟩
set_option maxRecDepth 20000 in
theorem myX2_bestBehind : MV yX2_bestBehind cX2_bestBehind 5 (some .int) 2 := ⟨⟨gm 8 (by decide +kernel) rfl, gm 862 (by exact rfl) rfl, by decide, by decide, by decide +kernel⟩, gm 861 (by decide +kernel) rfl, gs 29 (by decide +kernel) rfl⟩
set_option maxRecDepth 20000 in
theorem myX10_sheet : MV yX10_sheet cX10_sheet 5 (some .int) 3 := ⟨⟨gm 1 (by decide +kernel) rfl, gm 866 (by exact rfl) rfl, by decide, by decide, by decide +kernel⟩, gm 864 (by decide +kernel) rfl, gm 865 (by decide +kernel) rfl⟩
set_option maxRecDepth 20000 in
theorem myX5_startAnew : MV yX5_startAnew cX5_startAnew 3 none 2 := ⟨⟨gm 10 (by decide +kernel) rfl, gm 870 (by exact rfl) rfl, by decide, by decide, by decide +kernel⟩, gm 868 (by decide +kernel) rfl, gm 869 (by decide +kernel) rfl⟩
set_option maxRecDepth 20000 in
theorem myX10_drop : MV yX10_drop cX10_drop 3 (some .int) 1 := ⟨⟨gm 1 (by decide +kernel) rfl, gm 875 (by exact rfl) rfl, by decide, by decide, by decide +kernel⟩, gm 873 (by decide +kernel) rfl, gm 874 (by decide +kernel) rfl⟩
set_option maxRecDepth 20000 in
theorem myX5_empty : MV yX5_empty cX5_empty 1 (some .int) 0 := ⟨⟨gm 10 (by decide +kernel) rfl, gm 879 (by exact rfl) rfl, by decide, by decide, by decide +kernel⟩, gm 877 (by decide +kernel) rfl, gm 878 (by decide +kernel) rfl⟩
set_option maxRecDepth 20000 in
theorem myX10_item : MV yX10_item cX10_item 6 (some .int) 4 := ⟨⟨gm 1 (by decide +kernel) rfl, gm 883 (by exact rfl) rfl, by decide, by decide, by decide +kernel⟩, gm 881 (by decide +kernel) rfl, gm 882 (by decide +kernel) rfl⟩
set_option maxRecDepth 20000 in
theorem myX5_put : MV yX5_put cX5_put 3 none 2 := ⟨⟨gm 10 (by decide +kernel) rfl, gm 887 (by exact rfl) rfl, by decide, by decide, by decide +kernel⟩, gm 885 (by decide +kernel) rfl, gm 886 (by decide +kernel) rfl⟩
set_option maxRecDepth 20000 in
theorem myX10_copy : MV yX10_copy cX10_copy 8 (some .int) 5 := ⟨⟨gm 1 (by decide +kernel) rfl, gm 891 (by exact rfl) rfl, by decide, by decide, by decide +kernel⟩, gm 889 (by decide +kernel) rfl, gm 890 (by decide +kernel) rfl⟩
set_option maxRecDepth 20000 in
theorem myX11_init : MI yX11_init cX11_init 2 0 := ⟨⟨gm 11 (by decide +kernel) rfl, gm 899 (by exact rfl) rfl, by decide, by decide, by decide +kernel⟩, gm 898 (by decide +kernel) rfl, rfl⟩
set_option maxRecDepth 20000 in
theorem myX11_set : MV yX11_set cX11_set 5 (some .int) 3 := ⟨⟨gm 11 (by decide +kernel) rfl, gm 983 (by exact rfl) rfl, by decide, by decide, by decide +kernel⟩, gm 981 (by decide +kernel) rfl, gm 982 (by decide +kernel) rfl⟩
set_option maxRecDepth 20000 in
theorem myX11_isStream : MS yX11_isStream cX11_isStream 1 (some .boolean) 1 := ⟨⟨gm 11 (by decide +kernel) rfl, gm 986 (by exact rfl) rfl, by decide, by decide, by decide +kernel⟩, gm 985 (by decide +kernel) rfl⟩
set_option maxRecDepth 20000 in
theorem myX11_in : MS yX11_in cX11_in 6 (some .boolean) 3 := ⟨⟨gm 11 (by decide +kernel) rfl, gm 990 (by exact rfl) rfl, by decide, by decide, by decide +kernel⟩, gm 989 (by decide +kernel) rfl⟩
set_option maxRecDepth 20000 in
theorem myX11_isSet : MS yX11_isSet cX11_isSet 2 (some .boolean) 2 := ⟨⟨gm 11 (by decide +kernel) rfl, gm 993 (by exact rfl) rfl, by decide, by decide, by decide +kernel⟩, gm 992 (by decide +kernel) rfl⟩
set_option maxRecDepth 20000 in
theorem myX11_setOf : MV yX11_setOf cX11_setOf 3 (some .int) 2 := ⟨⟨gm 11 (by decide +kernel) rfl, gm 1002 (by exact rfl) rfl, by decide, by decide, by decide +kernel⟩, gm 1001 (by decide +kernel) rfl, gs 30 (by decide +kernel) rfl⟩
set_option maxRecDepth 20000 in
theorem myX11_come : MV yX11_come cX11_come 3 (some .int) 2 := ⟨⟨gm 11 (by decide +kernel) rfl, gm 1006 (by exact rfl) rfl, by decide, by decide, by decide +kernel⟩, gm 1004 (by decide +kernel) rfl, gm 1005 (by decide +kernel) rfl⟩
set_option maxRecDepth 20000 in
theorem myX11_isLength : MS yX11_isLength cX11_isLength 1 (some .boolean) 1 := ⟨⟨gm 11 (by decide +kernel) rfl, gm 1009 (by exact rfl) rfl, by decide, by decide, by decide +kernel⟩, gm 1008 (by decide +kernel) rfl⟩
set_option maxRecDepth 20000 in
theorem myX11_comesNow : MV yX11_comesNow cX11_comesNow 5 (some .int) 2 := ⟨⟨gm 11 (by decide +kernel) rfl, gm 1013 (by exact rfl) rfl, by decide, by decide, by decide +kernel⟩, gm 1012 (by decide +kernel) rfl, gs 31 (by decide +kernel) rfl⟩
set_option maxRecDepth 20000 in
theorem myX11_puts : MV yX11_puts cX11_puts 4 none 3 := ⟨⟨gm 11 (by decide +kernel) rfl, gm 1017 (by exact rfl) rfl, by decide, by decide, by decide +kernel⟩, gm 1016 (by decide +kernel) rfl, gs 32 (by decide +kernel) rfl⟩
set_option maxRecDepth 20000 in
theorem myX11_waiting : MV yX11_waiting cX11_waiting 3 (some .int) 0 := ⟨⟨gm 11 (by decide +kernel) rfl, gm 1021 (by exact rfl) rfl, by decide, by decide, by decide +kernel⟩, gm 1020 (by decide +kernel) rfl, gs 33 (by decide +kernel) rfl⟩
set_option maxRecDepth 20000 in
theorem myX11_of : MV yX11_of cX11_of 3 (some .int) 2 := ⟨⟨gm 11 (by decide +kernel) rfl, gm 1025 (by exact rfl) rfl, by decide, by decide, by decide +kernel⟩, gm 1024 (by decide +kernel) rfl, gs 34 (by decide +kernel) rfl⟩
set_option maxRecDepth 20000 in
theorem myX11_greatest : MV yX11_greatest cX11_greatest 3 (some .int) 0 := ⟨⟨gm 11 (by decide +kernel) rfl, gm 1029 (by exact rfl) rfl, by decide, by decide, by decide +kernel⟩, gm 1028 (by decide +kernel) rfl, gs 35 (by decide +kernel) rfl⟩
set_option maxRecDepth 20000 in
theorem myX11_rankOf : MV yX11_rankOf cX11_rankOf 6 (some .long) 2 := ⟨⟨gm 11 (by decide +kernel) rfl, gm 1033 (by exact rfl) rfl, by decide, by decide, by decide +kernel⟩, gm 1032 (by decide +kernel) rfl, gs 36 (by decide +kernel) rfl⟩
set_option maxRecDepth 20000 in
theorem myX11_ofMost : MV yX11_ofMost cX11_ofMost 7 (some .int) 0 := ⟨⟨gm 11 (by decide +kernel) rfl, gm 1037 (by exact rfl) rfl, by decide, by decide, by decide +kernel⟩, gm 1036 (by decide +kernel) rfl, gs 37 (by decide +kernel) rfl⟩
set_option maxRecDepth 20000 in
theorem myX11_drops : MV yX11_drops cX11_drops 4 none 1 := ⟨⟨gm 11 (by decide +kernel) rfl, gm 1041 (by exact rfl) rfl, by decide, by decide, by decide +kernel⟩, gm 1040 (by decide +kernel) rfl, gs 38 (by decide +kernel) rfl⟩
set_option maxRecDepth 20000 in
theorem myX11_sheet : MV yX11_sheet cX11_sheet 5 (some .int) 3 := ⟨⟨gm 11 (by decide +kernel) rfl, gm 1045 (by exact rfl) rfl, by decide, by decide, by decide +kernel⟩, gm 1043 (by decide +kernel) rfl, gm 1044 (by decide +kernel) rfl⟩
set_option maxRecDepth 20000 in
theorem myX11_isSheet : MS yX11_isSheet cX11_isSheet 1 (some .boolean) 1 := ⟨⟨gm 11 (by decide +kernel) rfl, gm 1048 (by exact rfl) rfl, by decide, by decide, by decide +kernel⟩, gm 1047 (by decide +kernel) rfl⟩
set_option maxRecDepth 20000 in
theorem myX11_isLane : MS yX11_isLane cX11_isLane 1 (some .boolean) 1 := ⟨⟨gm 11 (by decide +kernel) rfl, gm 1051 (by exact rfl) rfl, by decide, by decide, by decide +kernel⟩, gm 1050 (by decide +kernel) rfl⟩
set_option maxRecDepth 20000 in
theorem myX11_drop : MV yX11_drop cX11_drop 2 (some .int) 1 := ⟨⟨gm 11 (by decide +kernel) rfl, gm 1056 (by exact rfl) rfl, by decide, by decide, by decide +kernel⟩, gm 1054 (by decide +kernel) rfl, gm 1055 (by decide +kernel) rfl⟩
set_option maxRecDepth 20000 in
theorem myX11_item : MV yX11_item cX11_item 6 (some .int) 4 := ⟨⟨gm 11 (by decide +kernel) rfl, gm 1060 (by exact rfl) rfl, by decide, by decide, by decide +kernel⟩, gm 1058 (by decide +kernel) rfl, gm 1059 (by decide +kernel) rfl⟩
set_option maxRecDepth 20000 in
theorem myX11_wrong : MV yX11_wrong cX11_wrong 5 (some .int) 4 := ⟨⟨gm 11 (by decide +kernel) rfl, gm 1064 (by exact rfl) rfl, by decide, by decide, by decide +kernel⟩, gm 1063 (by decide +kernel) rfl, gs 39 (by decide +kernel) rfl⟩
set_option maxRecDepth 20000 in
theorem myX11_copy : MV yX11_copy cX11_copy 8 (some .int) 5 := ⟨⟨gm 11 (by decide +kernel) rfl, gm 1068 (by exact rfl) rfl, by decide, by decide, by decide +kernel⟩, gm 1066 (by decide +kernel) rfl, gm 1067 (by decide +kernel) rfl⟩
set_option maxRecDepth 20000 in
theorem myX11_itemOf : MV yX11_itemOf cX11_itemOf 3 (some .int) 2 := ⟨⟨gm 11 (by decide +kernel) rfl, gm 1072 (by exact rfl) rfl, by decide, by decide, by decide +kernel⟩, gm 1071 (by decide +kernel) rfl, gs 40 (by decide +kernel) rfl⟩
set_option maxRecDepth 20000 in
theorem myX11_comes : MV yX11_comes cX11_comes 8 (some .int) 4 := ⟨⟨gm 11 (by decide +kernel) rfl, gm 1076 (by exact rfl) rfl, by decide, by decide, by decide +kernel⟩, gm 1074 (by decide +kernel) rfl, gm 1075 (by decide +kernel) rfl⟩
set_option maxRecDepth 20000 in
theorem myX11_type : MV yX11_type cX11_type 5 (some .int) 2 := ⟨⟨gm 11 (by decide +kernel) rfl, gm 1081 (by exact rfl) rfl, by decide, by decide, by decide +kernel⟩, gm 1079 (by decide +kernel) rfl, gm 1080 (by decide +kernel) rfl⟩
set_option maxRecDepth 20000 in
theorem myX11_rule : MV yX11_rule cX11_rule 4 (some .int) 1 := ⟨⟨gm 11 (by decide +kernel) rfl, gm 1089 (by exact rfl) rfl, by decide, by decide, by decide +kernel⟩, gm 1087 (by decide +kernel) rfl, gm 1088 (by decide +kernel) rfl⟩
set_option maxRecDepth 20000 in
theorem myX11_reads : MV yX11_reads cX11_reads 6 (some .int) 0 := ⟨⟨gm 11 (by decide +kernel) rfl, gm 1093 (by exact rfl) rfl, by decide, by decide, by decide +kernel⟩, gm 1092 (by decide +kernel) rfl, gs 41 (by decide +kernel) rfl⟩
set_option maxRecDepth 20000 in
theorem myX11_next0 : MV yX11_next0 cX11_next0 1 (some .int) 0 := ⟨⟨gm 11 (by decide +kernel) rfl, gm 1097 (by exact rfl) rfl, by decide, by decide, by decide +kernel⟩, gm 1096 (by decide +kernel) rfl, gs 42 (by decide +kernel) rfl⟩
set_option maxRecDepth 20000 in
theorem myX11_number : MV yX11_number cX11_number 4 (some .int) 0 := ⟨⟨gm 11 (by decide +kernel) rfl, gm 1101 (by exact rfl) rfl, by decide, by decide, by decide +kernel⟩, gm 1100 (by decide +kernel) rfl, gs 43 (by decide +kernel) rfl⟩
set_option maxRecDepth 20000 in
theorem myX11_isDigit : MS yX11_isDigit cX11_isDigit 1 (some .boolean) 1 := ⟨⟨gm 11 (by decide +kernel) rfl, gm 1104 (by exact rfl) rfl, by decide, by decide, by decide +kernel⟩, gm 1103 (by decide +kernel) rfl⟩
set_option maxRecDepth 20000 in
theorem myX11_nameOf : MS yX11_nameOf cX11_nameOf 1 (some .int) 1 := ⟨⟨gm 11 (by decide +kernel) rfl, gm 1109 (by exact rfl) rfl, by decide, by decide, by decide +kernel⟩, gm 1108 (by decide +kernel) rfl⟩
set_option maxRecDepth 20000 in
theorem myX11_told : MV yX11_told cX11_told 3 (some .int) 2 := ⟨⟨gm 11 (by decide +kernel) rfl, gm 1113 (by exact rfl) rfl, by decide, by decide, by decide +kernel⟩, gm 1111 (by decide +kernel) rfl, gm 1112 (by decide +kernel) rfl⟩
set_option maxRecDepth 20000 in
theorem myX11_isWord : MV yX11_isWord cX11_isWord 2 (some .boolean) 1 := ⟨⟨gm 11 (by decide +kernel) rfl, gm 1117 (by exact rfl) rfl, by decide, by decide, by decide +kernel⟩, gm 1116 (by decide +kernel) rfl, gs 44 (by decide +kernel) rfl⟩
set_option maxRecDepth 20000 in
theorem myX11_toldOf : MV yX11_toldOf cX11_toldOf 3 (some .int) 2 := ⟨⟨gm 11 (by decide +kernel) rfl, gm 1121 (by exact rfl) rfl, by decide, by decide, by decide +kernel⟩, gm 1120 (by decide +kernel) rfl, gs 45 (by decide +kernel) rfl⟩
set_option maxRecDepth 20000 in
theorem myX11_rank : MV yX11_rank cX11_rank 3 (some .long) 2 := ⟨⟨gm 11 (by decide +kernel) rfl, gm 1125 (by exact rfl) rfl, by decide, by decide, by decide +kernel⟩, gm 1123 (by decide +kernel) rfl, gm 1124 (by decide +kernel) rfl⟩
set_option maxRecDepth 20000 in
theorem myX11_full : MV yX11_full cX11_full 4 (some .int) 2 := ⟨⟨gm 11 (by decide +kernel) rfl, gm 1130 (by exact rfl) rfl, by decide, by decide, by decide +kernel⟩, gm 1128 (by decide +kernel) rfl, gm 1129 (by decide +kernel) rfl⟩
set_option maxRecDepth 20000 in
theorem myX11_ticks : MV yX11_ticks cX11_ticks 3 (some .int) 1 := ⟨⟨gm 11 (by decide +kernel) rfl, gm 1135 (by exact rfl) rfl, by decide, by decide, by decide +kernel⟩, gm 1133 (by decide +kernel) rfl, gm 1134 (by decide +kernel) rfl⟩
set_option maxRecDepth 20000 in
theorem myX11_goesOn : MV yX11_goesOn cX11_goesOn 2 none 0 := ⟨⟨gm 11 (by decide +kernel) rfl, gm 1141 (by exact rfl) rfl, by decide, by decide, by decide +kernel⟩, gm 1140 (by decide +kernel) rfl, gs 46 (by decide +kernel) rfl⟩
set_option maxRecDepth 20000 in
theorem myX11_markNext : MV yX11_markNext cX11_markNext 4 (some .int) 0 := ⟨⟨gm 11 (by decide +kernel) rfl, gm 1145 (by exact rfl) rfl, by decide, by decide, by decide +kernel⟩, gm 1144 (by decide +kernel) rfl, gs 47 (by decide +kernel) rfl⟩
set_option maxRecDepth 20000 in
theorem myX11_hasOpen : MV yX11_hasOpen cX11_hasOpen 4 (some .boolean) 1 := ⟨⟨gm 11 (by decide +kernel) rfl, gm 1149 (by exact rfl) rfl, by decide, by decide, by decide +kernel⟩, gm 1148 (by decide +kernel) rfl, gs 48 (by decide +kernel) rfl⟩
set_option maxRecDepth 20000 in
theorem myX11_isOpen : MV yX11_isOpen cX11_isOpen 2 (some .boolean) 1 := ⟨⟨gm 11 (by decide +kernel) rfl, gm 1153 (by exact rfl) rfl, by decide, by decide, by decide +kernel⟩, gm 1152 (by decide +kernel) rfl, gs 49 (by decide +kernel) rfl⟩
set_option maxRecDepth 20000 in
theorem myX11_wordOf : MV yX11_wordOf cX11_wordOf 5 (some .int) 1 := ⟨⟨gm 11 (by decide +kernel) rfl, gm 1157 (by exact rfl) rfl, by decide, by decide, by decide +kernel⟩, gm 1156 (by decide +kernel) rfl, gs 50 (by decide +kernel) rfl⟩
set_option maxRecDepth 20000 in
theorem myX11_next : MV yX11_next cX11_next 2 (some .int) 0 := ⟨⟨gm 11 (by decide +kernel) rfl, gm 1161 (by exact rfl) rfl, by decide, by decide, by decide +kernel⟩, gm 1159 (by decide +kernel) rfl, gm 1160 (by decide +kernel) rfl⟩
set_option maxRecDepth 20000 in
theorem myX11_count : MV yX11_count cX11_count 2 (some .int) 1 := ⟨⟨gm 11 (by decide +kernel) rfl, gm 1165 (by exact rfl) rfl, by decide, by decide, by decide +kernel⟩, gm 1163 (by decide +kernel) rfl, gm 1164 (by decide +kernel) rfl⟩
set_option maxRecDepth 20000 in
theorem myX11_howMany : MV yX11_howMany cX11_howMany 4 (some .int) 1 := ⟨⟨gm 11 (by decide +kernel) rfl, gm 1169 (by exact rfl) rfl, by decide, by decide, by decide +kernel⟩, gm 1168 (by decide +kernel) rfl, gs 51 (by decide +kernel) rfl⟩
set_option maxRecDepth 20000 in
theorem myX11_opens : MV yX11_opens cX11_opens 3 (some .int) 0 := ⟨⟨gm 11 (by decide +kernel) rfl, gm 1173 (by exact rfl) rfl, by decide, by decide, by decide +kernel⟩, gm 1172 (by decide +kernel) rfl, gs 52 (by decide +kernel) rfl⟩
set_option maxRecDepth 20000 in
theorem myX11_sent : MV yX11_sent cX11_sent 2 (some .int) 1 := ⟨⟨gm 11 (by decide +kernel) rfl, gm 1177 (by exact rfl) rfl, by decide, by decide, by decide +kernel⟩, gm 1175 (by decide +kernel) rfl, gm 1176 (by decide +kernel) rfl⟩
set_option maxRecDepth 20000 in
theorem myX11_late : MV yX11_late cX11_late 2 (some .int) 1 := ⟨⟨gm 11 (by decide +kernel) rfl, gm 1181 (by exact rfl) rfl, by decide, by decide, by decide +kernel⟩, gm 1179 (by decide +kernel) rfl, gm 1180 (by decide +kernel) rfl⟩
set_option maxRecDepth 20000 in
theorem myX11_behind : MV yX11_behind cX11_behind 5 (some .int) 2 := ⟨⟨gm 11 (by decide +kernel) rfl, gm 1187 (by exact rfl) rfl, by decide, by decide, by decide +kernel⟩, gm 1185 (by decide +kernel) rfl, gm 1186 (by decide +kernel) rfl⟩
set_option maxRecDepth 20000 in
theorem myX11_promise : MV yX11_promise cX11_promise 9 (some .int) 2 := ⟨⟨gm 11 (by decide +kernel) rfl, gm 1191 (by exact rfl) rfl, by decide, by decide, by decide +kernel⟩, gm 1189 (by decide +kernel) rfl, gm 1190 (by decide +kernel) rfl⟩
set_option maxRecDepth 20000 in
theorem myX11_taken : MV yX11_taken cX11_taken 2 (some .int) 1 := ⟨⟨gm 11 (by decide +kernel) rfl, gm 1195 (by exact rfl) rfl, by decide, by decide, by decide +kernel⟩, gm 1193 (by decide +kernel) rfl, gm 1194 (by decide +kernel) rfl⟩
set_option maxRecDepth 20000 in
theorem myX11_lags : MV yX11_lags cX11_lags 8 (some .int) 1 := ⟨⟨gm 11 (by decide +kernel) rfl, gm 1199 (by exact rfl) rfl, by decide, by decide, by decide +kernel⟩, gm 1197 (by decide +kernel) rfl, gm 1198 (by decide +kernel) rfl⟩
set_option maxRecDepth 20000 in
theorem myX11_isIn : MV yX11_isIn cX11_isIn 4 (some .boolean) 1 := ⟨⟨gm 11 (by decide +kernel) rfl, gm 1203 (by exact rfl) rfl, by decide, by decide, by decide +kernel⟩, gm 1202 (by decide +kernel) rfl, gs 53 (by decide +kernel) rfl⟩
set_option maxRecDepth 20000 in
theorem myX11_heaps : MV yX11_heaps cX11_heaps 9 (some .int) 5 := ⟨⟨gm 11 (by decide +kernel) rfl, gm 1207 (by exact rfl) rfl, by decide, by decide, by decide +kernel⟩, gm 1205 (by decide +kernel) rfl, gm 1206 (by decide +kernel) rfl⟩
set_option maxRecDepth 20000 in
theorem myX11_ranks : MV yX11_ranks cX11_ranks 7 (some .int) 4 := ⟨⟨gm 11 (by decide +kernel) rfl, gm 1211 (by exact rfl) rfl, by decide, by decide, by decide +kernel⟩, gm 1210 (by decide +kernel) rfl, gs 54 (by decide +kernel) rfl⟩
set_option maxRecDepth 20000 in
theorem myX11_turned : MV yX11_turned cX11_turned 7 (some .int) 3 := ⟨⟨gm 11 (by decide +kernel) rfl, gm 1216 (by exact rfl) rfl, by decide, by decide, by decide +kernel⟩, gm 1215 (by decide +kernel) rfl, gs 55 (by decide +kernel) rfl⟩
set_option maxRecDepth 20000 in
theorem myX11_cut : MV yX11_cut cX11_cut 12 (some .int) 5 := ⟨⟨gm 11 (by decide +kernel) rfl, gm 1220 (by exact rfl) rfl, by decide, by decide, by decide +kernel⟩, gm 1218 (by decide +kernel) rfl, gm 1219 (by decide +kernel) rfl⟩
set_option maxRecDepth 20000 in
theorem myX11_found : MV yX11_found cX11_found 7 (some .int) 4 := ⟨⟨gm 11 (by decide +kernel) rfl, gm 1224 (by exact rfl) rfl, by decide, by decide, by decide +kernel⟩, gm 1222 (by decide +kernel) rfl, gm 1223 (by decide +kernel) rfl⟩
set_option maxRecDepth 20000 in
theorem myX11_isTwice : MV yX11_isTwice cX11_isTwice 5 (some .boolean) 1 := ⟨⟨gm 11 (by decide +kernel) rfl, gm 1228 (by exact rfl) rfl, by decide, by decide, by decide +kernel⟩, gm 1227 (by decide +kernel) rfl, gs 56 (by decide +kernel) rfl⟩
set_option maxRecDepth 20000 in
theorem myX11_termOf : MS yX11_termOf cX11_termOf 1 (some .int) 1 := ⟨⟨gm 11 (by decide +kernel) rfl, gm 1231 (by exact rfl) rfl, by decide, by decide, by decide +kernel⟩, gm 1230 (by decide +kernel) rfl⟩
set_option maxRecDepth 20000 in
theorem myX11_makes : MV yX11_makes cX11_makes 9 (some .boolean) 3 := ⟨⟨gm 11 (by decide +kernel) rfl, gm 1235 (by exact rfl) rfl, by decide, by decide, by decide +kernel⟩, gm 1234 (by decide +kernel) rfl, gs 57 (by decide +kernel) rfl⟩
set_option maxRecDepth 20000 in
theorem myX11_order : MV yX11_order cX11_order 10 (some .int) 5 := ⟨⟨gm 11 (by decide +kernel) rfl, gm 1239 (by exact rfl) rfl, by decide, by decide, by decide +kernel⟩, gm 1237 (by decide +kernel) rfl, gm 1238 (by decide +kernel) rfl⟩
set_option maxRecDepth 20000 in
theorem myX11_leastOf : MV yX11_leastOf cX11_leastOf 6 (some .int) 1 := ⟨⟨gm 11 (by decide +kernel) rfl, gm 1245 (by exact rfl) rfl, by decide, by decide, by decide +kernel⟩, gm 1244 (by decide +kernel) rfl, gs 58 (by decide +kernel) rfl⟩
set_option maxRecDepth 20000 in
theorem myX11_isNew : MV yX11_isNew cX11_isNew 4 (some .boolean) 1 := ⟨⟨gm 11 (by decide +kernel) rfl, gm 1249 (by exact rfl) rfl, by decide, by decide, by decide +kernel⟩, gm 1248 (by decide +kernel) rfl, gs 59 (by decide +kernel) rfl⟩
set_option maxRecDepth 20000 in
theorem myX11_lates : MV yX11_lates cX11_lates 6 (some .int) 1 := ⟨⟨gm 11 (by decide +kernel) rfl, gm 1253 (by exact rfl) rfl, by decide, by decide, by decide +kernel⟩, gm 1252 (by decide +kernel) rfl, gs 60 (by decide +kernel) rfl⟩
theorem kiL : Cond.initialized RL ∈ gtbl := gm 0 (by decide +kernel) rfl
theorem kiX10 : Cond.initialized RX10 ∈ gtbl := gm 1 (by decide +kernel) rfl
theorem kiX8 : Cond.initialized RX8 ∈ gtbl := gm 2 (by decide +kernel) rfl
theorem kiX4 : Cond.initialized RX4 ∈ gtbl := gm 3 (by decide +kernel) rfl
theorem kiX3 : Cond.initialized RX3 ∈ gtbl := gm 4 (by decide +kernel) rfl
theorem kiX6 : Cond.initialized RX6 ∈ gtbl := gm 5 (by decide +kernel) rfl
theorem kiX1 : Cond.initialized RX1 ∈ gtbl := gm 6 (by decide +kernel) rfl
theorem kiX0 : Cond.initialized RX0 ∈ gtbl := gm 7 (by decide +kernel) rfl
theorem kiX2 : Cond.initialized RX2 ∈ gtbl := gm 8 (by decide +kernel) rfl
theorem kiX7 : Cond.initialized RX7 ∈ gtbl := gm 9 (by decide +kernel) rfl
theorem kiX5 : Cond.initialized RX5 ∈ gtbl := gm 10 (by decide +kernel) rfl
theorem kiX11 : Cond.initialized RX11 ∈ gtbl := gm 11 (by decide +kernel) rfl
theorem kiX9 : Cond.initialized RX9 ∈ gtbl := gm 12 (by decide +kernel) rfl
theorem kiJ9 : Cond.initialized RJ9 ∈ gtbl := gm 13 (by decide +kernel) rfl
theorem kiJ7 : Cond.initialized RJ7 ∈ gtbl := gm 14 (by decide +kernel) rfl
theorem kiJ0 : Cond.initialized RJ0 ∈ gtbl := gm 15 (by decide +kernel) rfl
theorem kiJ1 : Cond.initialized RJ1 ∈ gtbl := gm 16 (by decide +kernel) rfl
theorem kiJ2 : Cond.initialized RJ2 ∈ gtbl := gm 17 (by decide +kernel) rfl
theorem kiJ3 : Cond.initialized RJ3 ∈ gtbl := gm 18 (by decide +kernel) rfl
theorem kiJ11 : Cond.initialized RJ11 ∈ gtbl := gm 19 (by decide +kernel) rfl
theorem kiJ10 : Cond.initialized RJ10 ∈ gtbl := gm 20 (by decide +kernel) rfl
theorem klL_7 : Cond.classLink RL 7 RX10 ∈ gtbl := gm 21 (by decide +kernel) rfl
theorem knX10 : Cond.instantiable RX10 11 ∈ gtbl := gm 22 (by decide +kernel) rfl
theorem mlL_9 : ML RL 9 yX10_init := gm 23 (by decide +kernel) rfl
theorem mlX10_1 : Cond.methodLink RX10 1 objectInit ∈ gtbl := gm 26 (by decide +kernel) rfl
theorem klX10_9 : Cond.classLink RX10 9 RX7 ∈ gtbl := gm 29 (by decide +kernel) rfl
theorem klX10_15 : Cond.classLink RX10 15 RX5 ∈ gtbl := gm 31 (by decide +kernel) rfl
theorem klX10_21 : Cond.classLink RX10 21 RX9 ∈ gtbl := gm 33 (by decide +kernel) rfl
theorem klX10_27 : Cond.classLink RX10 27 RX8 ∈ gtbl := gm 35 (by decide +kernel) rfl
theorem knX8 : Cond.instantiable RX8 3 ∈ gtbl := gm 36 (by decide +kernel) rfl
theorem mlX8_3 : Cond.methodLink RX8 3 objectInit ∈ gtbl := gm 40 (by decide +kernel) rfl
theorem klX10_38 : Cond.classLink RX10 38 RX4 ∈ gtbl := gm 52 (by decide +kernel) rfl
theorem knX4 : Cond.instantiable RX4 1 ∈ gtbl := gm 53 (by decide +kernel) rfl
theorem mlX10_40 : ML RX10 40 yX4_init := gm 54 (by decide +kernel) rfl
theorem mlX4_3 : Cond.methodLink RX4 3 objectInit ∈ gtbl := gm 57 (by decide +kernel) rfl
theorem klX10_50 : Cond.classLink RX10 50 RX3 ∈ gtbl := gm 63 (by decide +kernel) rfl
theorem knX3 : Cond.instantiable RX3 10 ∈ gtbl := gm 64 (by decide +kernel) rfl
theorem klX10_52 : Cond.classLink RX10 52 RX6 ∈ gtbl := gm 65 (by decide +kernel) rfl
theorem knX6 : Cond.instantiable RX6 4 ∈ gtbl := gm 66 (by decide +kernel) rfl
theorem mlX10_54 : ML RX10 54 yX6_init := gm 67 (by decide +kernel) rfl
theorem mlX6_3 : Cond.methodLink RX6 3 objectInit ∈ gtbl := gm 70 (by decide +kernel) rfl
theorem klX6_9 : Cond.classLink RX6 9 RX1 ∈ gtbl := gm 71 (by decide +kernel) rfl
theorem knX1 : Cond.instantiable RX1 2 ∈ gtbl := gm 72 (by decide +kernel) rfl
theorem mlX1_3 : Cond.methodLink RX1 3 objectInit ∈ gtbl := gm 76 (by decide +kernel) rfl
theorem klX1_9 : Cond.classLink RX1 9 RX9 ∈ gtbl := gm 77 (by decide +kernel) rfl
theorem mlX10_57 : ML RX10 57 yX3_init := gm 103 (by decide +kernel) rfl
theorem mlX3_3 : Cond.methodLink RX3 3 objectInit ∈ gtbl := gm 106 (by decide +kernel) rfl
theorem klX3_9 : Cond.classLink RX3 9 RX9 ∈ gtbl := gm 107 (by decide +kernel) rfl
theorem klX10_64 : Cond.classLink RX10 64 RX0 ∈ gtbl := gm 145 (by decide +kernel) rfl
theorem knX0 : Cond.instantiable RX0 4 ∈ gtbl := gm 146 (by decide +kernel) rfl
theorem mlX0_3 : Cond.methodLink RX0 3 objectInit ∈ gtbl := gm 150 (by decide +kernel) rfl
theorem klX10_71 : Cond.classLink RX10 71 RX2 ∈ gtbl := gm 164 (by decide +kernel) rfl
theorem knX2 : Cond.instantiable RX2 3 ∈ gtbl := gm 165 (by decide +kernel) rfl
theorem mlX2_3 : Cond.methodLink RX2 3 objectInit ∈ gtbl := gm 169 (by decide +kernel) rfl
theorem klX2_9 : Cond.classLink RX2 9 RX9 ∈ gtbl := gm 170 (by decide +kernel) rfl
theorem knX7 : Cond.instantiable RX7 6 ∈ gtbl := gm 181 (by decide +kernel) rfl
theorem mlX10_78 : ML RX10 78 yX7_init := gm 182 (by decide +kernel) rfl
theorem mlX7_3 : Cond.methodLink RX7 3 objectInit ∈ gtbl := gm 185 (by decide +kernel) rfl
theorem knX5 : Cond.instantiable RX5 3 ∈ gtbl := gm 210 (by decide +kernel) rfl
theorem mlX5_3 : Cond.methodLink RX5 3 objectInit ∈ gtbl := gm 214 (by decide +kernel) rfl
theorem mlL_13 : ML RL 13 yX10_set := gm 261 (by decide +kernel) rfl
theorem mlX10_80 : ML RX10 80 yX10_streamAt := gm 265 (by decide +kernel) rfl
theorem mlX10_90 : ML RX10 90 yX7_change := gm 273 (by decide +kernel) rfl
theorem mlL_18 : ML RL 18 yX10_come := gm 277 (by decide +kernel) rfl
theorem mlX10_94 : ML RX10 94 yX10_canCome := gm 281 (by decide +kernel) rfl
theorem mlX10_102 : ML RX10 102 yX10_welcome := gm 284 (by decide +kernel) rfl
theorem knX9 : Cond.instantiable RX9 13 ∈ gtbl := gm 288 (by decide +kernel) rfl
theorem mlX10_323 : ML RX10 323 yX9_init := gm 289 (by decide +kernel) rfl
theorem mlX9_3 : Cond.methodLink RX9 3 objectInit ∈ gtbl := gm 292 (by decide +kernel) rfl
theorem mlX9_49 : ML RX9 49 yX7_endFor := gm 293 (by decide +kernel) rfl
theorem mlX7_25 : ML RX7 25 yJ9_max_7cf53 := gm 297 (by decide +kernel) rfl
theorem mlX9_56 : ML RX9 56 yX7_gateAt := gm 300 (by decide +kernel) rfl
theorem mlX10_326 : ML RX10 326 yX7_follow := gm 367 (by decide +kernel) rfl
theorem mlX10_330 : ML RX10 330 yX3_letIn := gm 371 (by decide +kernel) rfl
theorem mlX3_39 : ML RX3 39 yX6_put := gm 375 (by decide +kernel) rfl
theorem mlX6_28 : ML RX6 28 yX1_add := gm 379 (by decide +kernel) rfl
theorem mlX3_43 : ML RX3 43 yX6_victim := gm 383 (by decide +kernel) rfl
theorem mlX6_83 : ML RX6 83 yX6_greatest := gm 387 (by decide +kernel) rfl
theorem mlX6_36 : ML RX6 36 yX1_at := gm 391 (by decide +kernel) rfl
theorem mlX6_77 : ML RX6 77 yX4_rankOf := gm 395 (by decide +kernel) rfl
theorem mlX4_15 : ML RX4 15 yX9_trait := gm 399 (by decide +kernel) rfl
theorem mlX6_87 : ML RX6 87 yX6_fullestStream := gm 403 (by decide +kernel) rfl
theorem mlX6_94 : ML RX6 94 yX1_countOf := gm 407 (by decide +kernel) rfl
theorem mlX6_91 : ML RX6 91 yX6_latestOf := gm 411 (by decide +kernel) rfl
theorem mlX3_47 : ML RX3 47 yX6_discard := gm 415 (by decide +kernel) rfl
theorem mlX6_70 : ML RX6 70 yX1_placeOf := gm 419 (by decide +kernel) rfl
theorem mlX6_66 : ML RX6 66 yX1_removeAt := gm 423 (by decide +kernel) rfl
theorem mlX6_100 : ML RX6 100 yX6_latestMark := gm 427 (by decide +kernel) rfl
theorem mlL_23 : ML RL 23 yX10_comes := gm 431 (by decide +kernel) rfl
theorem mlX10_105 : ML RX10 105 yX10_wrongSpan := gm 435 (by decide +kernel) rfl
theorem mlX10_288 : ML RX10 288 yX10_sheetAt := gm 439 (by decide +kernel) rfl
theorem mlX10_296 : ML RX10 296 yX5_holdsNothing := gm 443 (by decide +kernel) rfl
theorem mlX10_308 : ML RX10 308 yX5_hasSpan := gm 447 (by decide +kernel) rfl
theorem mlX10_109 : ML RX10 109 yX10_itemAt := gm 451 (by decide +kernel) rfl
theorem mlX10_320 : ML RX10 320 yX5_at := gm 455 (by decide +kernel) rfl
theorem mlL_30 : ML RL 30 yX10_type := gm 459 (by decide +kernel) rfl
theorem mlX10_112 : ML RX10 112 yX8_canHold := gm 463 (by decide +kernel) rfl
theorem mlX8_15 : ML RX8 15 yX8_byteOf := gm 466 (by decide +kernel) rfl
theorem mlX10_116 : ML RX10 116 yX8_hasRoomFor := gm 469 (by decide +kernel) rfl
theorem mlX10_120 : ML RX10 120 yX8_append := gm 473 (by decide +kernel) rfl
theorem mlL_35 : ML RL 35 yX10_rule := gm 477 (by decide +kernel) rfl
theorem mlX10_124 : ML RX10 124 yX8_readRule := gm 481 (by decide +kernel) rfl
theorem mlX8_23 : ML RX8 23 yJ7_fill_53178 := gm 485 (by decide +kernel) rfl
theorem mlX8_29 : ML RX8 29 yX8_goTo := gm 488 (by decide +kernel) rfl
theorem mlX8_44 : ML RX8 44 yX8_signAt := gm 492 (by decide +kernel) rfl
theorem mlX8_36 : ML RX8 36 yX8_readTerm := gm 496 (by decide +kernel) rfl
theorem mlX8_40 : ML RX8 40 yX8_faultAt := gm 500 (by decide +kernel) rfl
theorem mlX8_47 : ML RX8 47 yX8_isDigit := gm 503 (by decide +kernel) rfl
theorem mlX8_51 : ML RX8 51 yX8_readNumber := gm 506 (by decide +kernel) rfl
theorem mlX8_62 : ML RX8 62 yJ9_min_7cf53 := gm 510 (by decide +kernel) rfl
theorem mlX8_57 : ML RX8 57 yJ0_indexOf_0f7a4 := gm 514 (by decide +kernel) rfl
theorem mlJ0_633 : ML RJ0 633 yJ0_indexOf_7cf53 := gm 518 (by decide +kernel) rfl
theorem mlJ0_492 : ML RJ0 492 yJ0_isLatin1_aae02 := gm 522 (by decide +kernel) rfl
theorem mlJ0_505 : ML RJ0 505 yJ0_length_8abf5 := gm 528 (by decide +kernel) rfl
theorem mlJ0_335 : ML RJ0 335 yJ0_coder_7d493 := gm 532 (by decide +kernel) rfl
theorem mlJ0_637 : ML RJ0 637 yJ1_indexOf_4cfef := gm 536 (by decide +kernel) rfl
theorem mlJ1_88 : ML RJ1 88 yJ1_canEncode_9a6ad := gm 539 (by decide +kernel) rfl
theorem mlJ1_92 : ML RJ1 92 yJ9_max_7cf53 := gm 542 (by decide +kernel) rfl
theorem mlJ1_38 : ML RJ1 38 yJ9_min_7cf53 := gm 543 (by decide +kernel) rfl
theorem mlJ1_95 : ML RJ1 95 yJ1_indexOfChar_4cfef := gm 544 (by decide +kernel) rfl
theorem mlJ0_640 : ML RJ0 640 yJ2_indexOf_4cfef := gm 547 (by decide +kernel) rfl
theorem mlJ2_224 : ML RJ2 224 yJ9_max_7cf53 := gm 550 (by decide +kernel) rfl
theorem mlJ2_183 : ML RJ2 183 yJ9_min_7cf53 := gm 551 (by decide +kernel) rfl
theorem kcJ2_227 : Cond.constant RJ2 227 (65536) ∈ gtbl := gm 552 (by decide +kernel) rfl
theorem mlJ2_228 : ML RJ2 228 yJ2_indexOfChar_4cfef := gm 553 (by decide +kernel) rfl
theorem mlJ2_96 : ML RJ2 96 yJ2_checkBoundsBeginEnd_d044e := gm 556 (by decide +kernel) rfl
theorem mlJ2_48 : ML RJ2 48 yJ2_length_9d52b := gm 559 (by decide +kernel) rfl
theorem mlJ2_241 : ML RJ2 241 yJ0_checkBoundsBeginEnd_23922 := gm 562 (by decide +kernel) rfl
theorem mlJ0_1062 : ML RJ0 1062 yJ3_checkFromToIndex_8c36e := gm 567 (by decide +kernel) rfl
theorem mlJ2_244 : ML RJ2 244 yJ2_indexOfCharUnsafe_4cfef := gm 570 (by decide +kernel) rfl
theorem mlJ2_71 : ML RJ2 71 yJ2_getChar_3b067 := gm 573 (by decide +kernel) rfl
theorem mlJ2_232 : ML RJ2 232 yJ2_indexOfSupplementary_4cfef := gm 582 (by decide +kernel) rfl
theorem mlJ2_164 : ML RJ2 164 yJ11_isValidCodePoint_9a6ad := gm 585 (by decide +kernel) rfl
theorem mlJ2_157 : ML RJ2 157 yJ11_highSurrogate_5068e := gm 588 (by decide +kernel) rfl
theorem kcJ11_110 : Cond.constant RJ11 110 (55232) ∈ gtbl := gm 591 (by decide +kernel) rfl
theorem mlJ2_161 : ML RJ2 161 yJ11_lowSurrogate_5068e := gm 592 (by decide +kernel) rfl
theorem kcJ11_76 : Cond.constant RJ11 76 (56320) ∈ gtbl := gm 595 (by decide +kernel) rfl
theorem mlX10_128 : ML RX10 128 yX8_clear := gm 596 (by decide +kernel) rfl
theorem mlX10_131 : ML RX10 131 yX4_become := gm 600 (by decide +kernel) rfl
theorem mlL_40 : ML RL 40 yX10_told := gm 604 (by decide +kernel) rfl
theorem mlX10_135 : ML RX10 135 yX10_wordAt := gm 608 (by decide +kernel) rfl
theorem mlX10_163 : ML RX10 163 yX9_wasSent := gm 612 (by decide +kernel) rfl
theorem mlL_44 : ML RL 44 yX10_rank := gm 616 (by decide +kernel) rfl
theorem kcX10_173 : Cond.constantLong RX10 173 (-1099511627777) ∈ gtbl := gm 620 (by decide +kernel) rfl
theorem mlX10_175 : ML RX10 175 yX4_rankOf := gm 621 (by decide +kernel) rfl
theorem mlL_49 : ML RL 49 yX10_full := gm 622 (by decide +kernel) rfl
theorem mlX10_179 : ML RX10 179 yX3_changeRoom := gm 626 (by decide +kernel) rfl
theorem mlX10_183 : ML RX10 183 yX3_changeDrops := gm 630 (by decide +kernel) rfl
theorem mlL_53 : ML RL 53 yX10_ticks := gm 634 (by decide +kernel) rfl
theorem kcX10_189 : Cond.constant RX10 189 (99999) ∈ gtbl := gm 638 (by decide +kernel) rfl
theorem mlX10_190 : ML RX10 190 yX3_goOn := gm 639 (by decide +kernel) rfl
theorem mlX3_60 : ML RX3 60 yX3_startSending := gm 643 (by decide +kernel) rfl
theorem mlX3_92 : ML RX3 92 yX6_take := gm 647 (by decide +kernel) rfl
theorem mlX6_55 : ML RX6 55 yX6_nextMark := gm 651 (by decide +kernel) rfl
theorem mlX6_74 : ML RX6 74 yX6_openHouses := gm 655 (by decide +kernel) rfl
theorem mlX6_40 : ML RX6 40 yX9_isOpen := gm 659 (by decide +kernel) rfl
theorem mlX6_62 : ML RX6 62 yX6_leastOf := gm 663 (by decide +kernel) rfl
theorem mlX3_63 : ML RX3 63 yX6_firstGate := gm 667 (by decide +kernel) rfl
theorem mlX6_49 : ML RX6 49 yJ9_min_7cf53 := gm 671 (by decide +kernel) rfl
theorem mlX3_76 : ML RX3 76 yJ9_max_7cf53 := gm 672 (by decide +kernel) rfl
theorem mlX3_82 : ML RX3 82 yJ9_min_7cf53 := gm 673 (by decide +kernel) rfl
theorem mlX3_85 : ML RX3 85 yX3_finishSending := gm 674 (by decide +kernel) rfl
theorem mlL_57 : ML RL 57 yX10_next := gm 678 (by decide +kernel) rfl
theorem mlX10_200 : ML RX10 200 yX6_nextWord := gm 682 (by decide +kernel) rfl
theorem mlL_62 : ML RL 62 yX10_count := gm 686 (by decide +kernel) rfl
theorem mlX10_225 : ML RX10 225 yX6_openCount := gm 690 (by decide +kernel) rfl
theorem mlL_66 : ML RL 66 yX10_sent := gm 694 (by decide +kernel) rfl
theorem mlX10_231 : ML RX10 231 yX3_turnAt := gm 698 (by decide +kernel) rfl
theorem mlL_70 : ML RL 70 yX10_late := gm 702 (by decide +kernel) rfl
theorem kcX10_234 : Cond.constant RX10 234 (-100001) ∈ gtbl := gm 706 (by decide +kernel) rfl
theorem mlX10_235 : ML RX10 235 yX9_lateAt := gm 707 (by decide +kernel) rfl
theorem kcX10_238 : Cond.constant RX10 238 (-100004) ∈ gtbl := gm 711 (by decide +kernel) rfl
theorem mlL_74 : ML RL 74 yX10_behind := gm 712 (by decide +kernel) rfl
theorem mlX10_239 : ML RX10 239 yX3_overtakers := gm 716 (by decide +kernel) rfl
theorem mlX10_243 : ML RX10 243 yX3_overtaker := gm 720 (by decide +kernel) rfl
theorem mlL_78 : ML RL 78 yX10_promise := gm 724 (by decide +kernel) rfl
theorem mlX10_250 : ML RX10 250 yX10_sumUpTo := gm 728 (by decide +kernel) rfl
theorem mlL_82 : ML RL 82 yX10_taken := gm 732 (by decide +kernel) rfl
theorem mlL_86 : ML RL 86 yX10_lags := gm 736 (by decide +kernel) rfl
theorem mlX10_253 : ML RX10 253 yX10_takesPart := gm 740 (by decide +kernel) rfl
theorem mlX10_334 : ML RX10 334 yX1_countOf := gm 744 (by decide +kernel) rfl
theorem mlX10_257 : ML RX10 257 yJ9_floorDiv_7cf53 := gm 745 (by decide +kernel) rfl
theorem mlL_90 : ML RL 90 yX10_heaps := gm 748 (by decide +kernel) rfl
theorem mlX10_262 : ML RX10 262 yX10_takeRanks := gm 752 (by decide +kernel) rfl
theorem mlX10_337 : ML RX10 337 yX0_clear := gm 756 (by decide +kernel) rfl
theorem mlX10_338 : ML RX10 338 yX0_add := gm 760 (by decide +kernel) rfl
theorem mlX10_265 : ML RX10 265 yX0_outOfOrder := gm 764 (by decide +kernel) rfl
theorem mlL_95 : ML RL 95 yX10_cut := gm 768 (by decide +kernel) rfl
theorem mlX10_268 : ML RX10 268 yX0_bestCut := gm 772 (by decide +kernel) rfl
theorem mlX0_25 : ML RX0 25 yX0_countPairs := gm 776 (by decide +kernel) rfl
theorem mlX0_34 : ML RX0 34 yJ7_fill_53178 := gm 780 (by decide +kernel) rfl
theorem mlX0_28 : ML RX0 28 yX0_addUpSpans := gm 781 (by decide +kernel) rfl
theorem mlX0_31 : ML RX0 31 yX0_addHeap := gm 785 (by decide +kernel) rfl
theorem mlX0_40 : ML RX0 40 yJ9_min_7cf53 := gm 789 (by decide +kernel) rfl
theorem mlL_99 : ML RL 99 yX10_found := gm 790 (by decide +kernel) rfl
theorem mlX10_271 : ML RX10 271 yX10_pickWords := gm 794 (by decide +kernel) rfl
theorem mlX10_341 : ML RX10 341 yX2_clear := gm 798 (by decide +kernel) rfl
theorem mlX10_342 : ML RX10 342 yX2_has := gm 802 (by decide +kernel) rfl
theorem mlX10_346 : ML RX10 346 yX2_add := gm 806 (by decide +kernel) rfl
theorem mlX10_275 : ML RX10 275 yX2_firstRule := gm 810 (by decide +kernel) rfl
theorem mlX2_25 : ML RX2 25 yX2_fits := gm 814 (by decide +kernel) rfl
theorem mlX2_39 : ML RX2 39 yX2_valueOf := gm 818 (by decide +kernel) rfl
theorem mlX2_33 : ML RX2 33 yX2_numberOf := gm 821 (by decide +kernel) rfl
theorem mlX2_36 : ML RX2 36 yX2_letterOf := gm 824 (by decide +kernel) rfl
theorem mlX2_46 : ML RX2 46 yX9_trait := gm 827 (by decide +kernel) rfl
theorem mlX2_29 : ML RX2 29 yX2_digits := gm 828 (by decide +kernel) rfl
theorem mlL_103 : ML RL 103 yX10_order := gm 831 (by decide +kernel) rfl
theorem mlX10_279 : ML RX10 279 yX2_sortByNumber := gm 835 (by decide +kernel) rfl
theorem mlX10_282 : ML RX10 282 yX2_leastLate := gm 839 (by decide +kernel) rfl
theorem mlX2_49 : ML RX2 49 yX2_lengthOf := gm 843 (by decide +kernel) rfl
theorem kcX2_52 : Cond.constant RX2 52 (1000000000) ∈ gtbl := gm 847 (by decide +kernel) rfl
theorem mlX2_53 : ML RX2 53 yX2_lateFrom := gm 848 (by decide +kernel) rfl
theorem mlX2_65 : ML RX2 65 yX9_lateAt := gm 852 (by decide +kernel) rfl
theorem mlX2_68 : ML RX2 68 yJ9_max_7cf53 := gm 853 (by decide +kernel) rfl
theorem mlX2_57 : ML RX2 57 yJ9_min_7cf53 := gm 854 (by decide +kernel) rfl
theorem mlX10_285 : ML RX10 285 yX2_bestAt := gm 855 (by decide +kernel) rfl
theorem mlX2_71 : ML RX2 71 yX2_bestBehind := gm 859 (by decide +kernel) rfl
theorem mlL_107 : ML RL 107 yX10_sheet := gm 863 (by decide +kernel) rfl
theorem mlX10_292 : ML RX10 292 yX5_startAnew := gm 867 (by decide +kernel) rfl
theorem mlX5_19 : ML RX5 19 yJ7_fill_53178 := gm 871 (by decide +kernel) rfl
theorem mlL_111 : ML RL 111 yX10_drop := gm 872 (by decide +kernel) rfl
theorem mlX10_299 : ML RX10 299 yX5_empty := gm 876 (by decide +kernel) rfl
theorem mlL_115 : ML RL 115 yX10_item := gm 880 (by decide +kernel) rfl
theorem mlX10_302 : ML RX10 302 yX5_put := gm 884 (by decide +kernel) rfl
theorem mlL_119 : ML RL 119 yX10_copy := gm 888 (by decide +kernel) rfl
theorem klL_10 : Cond.classLink RL 10 RX11 ∈ gtbl := gm 895 (by decide +kernel) rfl
theorem knX11 : Cond.instantiable RX11 26 ∈ gtbl := gm 896 (by decide +kernel) rfl
theorem mlL_12 : ML RL 12 yX11_init := gm 897 (by decide +kernel) rfl
theorem mlX11_1 : Cond.methodLink RX11 1 objectInit ∈ gtbl := gm 900 (by decide +kernel) rfl
theorem mlL_17 : ML RL 17 yX11_set := gm 980 (by decide +kernel) rfl
theorem mlX11_84 : ML RX11 84 yX11_isStream := gm 984 (by decide +kernel) rfl
theorem kcX11_68 : Cond.constantLong RX11 68 (7) ∈ gtbl := gm 987 (by decide +kernel) rfl
theorem mlX11_70 : ML RX11 70 yX11_in := gm 988 (by decide +kernel) rfl
theorem mlX11_88 : ML RX11 88 yX11_isSet := gm 991 (by decide +kernel) rfl
theorem kcX11_74 : Cond.constantLong RX11 74 (9) ∈ gtbl := gm 994 (by decide +kernel) rfl
theorem kcX11_76 : Cond.constantLong RX11 76 (16) ∈ gtbl := gm 995 (by decide +kernel) rfl
theorem kcX11_78 : Cond.constantLong RX11 78 (999) ∈ gtbl := gm 996 (by decide +kernel) rfl
theorem kcX11_80 : Cond.constantLong RX11 80 (99) ∈ gtbl := gm 997 (by decide +kernel) rfl
theorem kcX11_82 : Cond.constantLong RX11 82 (3) ∈ gtbl := gm 998 (by decide +kernel) rfl
theorem mlX11_92 : ML RX11 92 yX11_setOf := gm 999 (by decide +kernel) rfl
theorem mlL_22 : ML RL 22 yX11_come := gm 1003 (by decide +kernel) rfl
theorem mlX11_102 : ML RX11 102 yX11_isLength := gm 1007 (by decide +kernel) rfl
theorem mlX11_105 : ML RX11 105 yX11_comesNow := gm 1010 (by decide +kernel) rfl
theorem mlX11_114 : ML RX11 114 yX11_puts := gm 1014 (by decide +kernel) rfl
theorem mlX11_118 : ML RX11 118 yX11_waiting := gm 1018 (by decide +kernel) rfl
theorem mlX11_99 : ML RX11 99 yX11_of := gm 1022 (by decide +kernel) rfl
theorem mlX11_125 : ML RX11 125 yX11_greatest := gm 1026 (by decide +kernel) rfl
theorem mlX11_134 : ML RX11 134 yX11_rankOf := gm 1030 (by decide +kernel) rfl
theorem mlX11_128 : ML RX11 128 yX11_ofMost := gm 1034 (by decide +kernel) rfl
theorem mlX11_131 : ML RX11 131 yX11_drops := gm 1038 (by decide +kernel) rfl
theorem mlL_110 : ML RL 110 yX11_sheet := gm 1042 (by decide +kernel) rfl
theorem mlX11_140 : ML RX11 140 yX11_isSheet := gm 1046 (by decide +kernel) rfl
theorem mlX11_143 : ML RX11 143 yX11_isLane := gm 1049 (by decide +kernel) rfl
theorem kcX11_138 : Cond.constantLong RX11 138 (2) ∈ gtbl := gm 1052 (by decide +kernel) rfl
theorem mlL_114 : ML RL 114 yX11_drop := gm 1053 (by decide +kernel) rfl
theorem mlL_118 : ML RL 118 yX11_item := gm 1057 (by decide +kernel) rfl
theorem mlX11_146 : ML RX11 146 yX11_wrong := gm 1061 (by decide +kernel) rfl
theorem mlL_122 : ML RL 122 yX11_copy := gm 1065 (by decide +kernel) rfl
theorem mlX11_150 : ML RX11 150 yX11_itemOf := gm 1069 (by decide +kernel) rfl
theorem mlL_27 : ML RL 27 yX11_comes := gm 1073 (by decide +kernel) rfl
theorem kcX11_153 : Cond.constantLong RX11 153 (12) ∈ gtbl := gm 1077 (by decide +kernel) rfl
theorem mlL_34 : ML RL 34 yX11_type := gm 1078 (by decide +kernel) rfl
theorem kcX11_155 : Cond.constantLong RX11 155 (8) ∈ gtbl := gm 1082 (by decide +kernel) rfl
theorem kcX11_157 : Cond.constantLong RX11 157 (255) ∈ gtbl := gm 1083 (by decide +kernel) rfl
theorem kcX11_159 : Cond.constantLong RX11 159 (32) ∈ gtbl := gm 1084 (by decide +kernel) rfl
theorem kcX11_161 : Cond.constantLong RX11 161 (126) ∈ gtbl := gm 1085 (by decide +kernel) rfl
theorem mlL_39 : ML RL 39 yX11_rule := gm 1086 (by decide +kernel) rfl
theorem mlX11_186 : ML RX11 186 yX11_reads := gm 1090 (by decide +kernel) rfl
theorem mlX11_173 : ML RX11 173 yX11_next0 := gm 1094 (by decide +kernel) rfl
theorem mlX11_179 : ML RX11 179 yX11_number := gm 1098 (by decide +kernel) rfl
theorem mlX11_176 : ML RX11 176 yX11_isDigit := gm 1102 (by decide +kernel) rfl
theorem kcX11_169 : Cond.constantLong RX11 169 (48) ∈ gtbl := gm 1105 (by decide +kernel) rfl
theorem kcX11_171 : Cond.constantLong RX11 171 (57) ∈ gtbl := gm 1106 (by decide +kernel) rfl
theorem mlX11_182 : ML RX11 182 yX11_nameOf := gm 1107 (by decide +kernel) rfl
theorem mlL_43 : ML RL 43 yX11_told := gm 1110 (by decide +kernel) rfl
theorem mlX11_189 : ML RX11 189 yX11_isWord := gm 1114 (by decide +kernel) rfl
theorem mlX11_192 : ML RX11 192 yX11_toldOf := gm 1118 (by decide +kernel) rfl
theorem mlL_48 : ML RL 48 yX11_rank := gm 1122 (by decide +kernel) rfl
theorem kcX11_195 : Cond.constantLong RX11 195 (-1099511627777) ∈ gtbl := gm 1126 (by decide +kernel) rfl
theorem mlL_52 : ML RL 52 yX11_full := gm 1127 (by decide +kernel) rfl
theorem kcX11_197 : Cond.constantLong RX11 197 (24) ∈ gtbl := gm 1131 (by decide +kernel) rfl
theorem mlL_56 : ML RL 56 yX11_ticks := gm 1132 (by decide +kernel) rfl
theorem kcX11_214 : Cond.constantLong RX11 214 (500) ∈ gtbl := gm 1136 (by decide +kernel) rfl
theorem kcX11_216 : Cond.constant RX11 216 (99999) ∈ gtbl := gm 1137 (by decide +kernel) rfl
theorem mlX11_217 : ML RX11 217 yX11_goesOn := gm 1138 (by decide +kernel) rfl
theorem mlX11_205 : ML RX11 205 yX11_markNext := gm 1142 (by decide +kernel) rfl
theorem mlX11_202 : ML RX11 202 yX11_hasOpen := gm 1146 (by decide +kernel) rfl
theorem mlX11_199 : ML RX11 199 yX11_isOpen := gm 1150 (by decide +kernel) rfl
theorem mlX11_208 : ML RX11 208 yX11_wordOf := gm 1154 (by decide +kernel) rfl
theorem mlL_61 : ML RL 61 yX11_next := gm 1158 (by decide +kernel) rfl
theorem mlL_65 : ML RL 65 yX11_count := gm 1162 (by decide +kernel) rfl
theorem mlX11_220 : ML RX11 220 yX11_howMany := gm 1166 (by decide +kernel) rfl
theorem mlX11_223 : ML RX11 223 yX11_opens := gm 1170 (by decide +kernel) rfl
theorem mlL_69 : ML RL 69 yX11_sent := gm 1174 (by decide +kernel) rfl
theorem mlL_73 : ML RL 73 yX11_late := gm 1178 (by decide +kernel) rfl
theorem kcX11_226 : Cond.constant RX11 226 (-100001) ∈ gtbl := gm 1182 (by decide +kernel) rfl
theorem kcX11_227 : Cond.constant RX11 227 (-100004) ∈ gtbl := gm 1183 (by decide +kernel) rfl
theorem mlL_77 : ML RL 77 yX11_behind := gm 1184 (by decide +kernel) rfl
theorem mlL_81 : ML RL 81 yX11_promise := gm 1188 (by decide +kernel) rfl
theorem mlL_85 : ML RL 85 yX11_taken := gm 1192 (by decide +kernel) rfl
theorem mlL_89 : ML RL 89 yX11_lags := gm 1196 (by decide +kernel) rfl
theorem mlX11_228 : ML RX11 228 yX11_isIn := gm 1200 (by decide +kernel) rfl
theorem mlL_94 : ML RL 94 yX11_heaps := gm 1204 (by decide +kernel) rfl
theorem mlX11_233 : ML RX11 233 yX11_ranks := gm 1208 (by decide +kernel) rfl
theorem kcX11_231 : Cond.constantLong RX11 231 (31) ∈ gtbl := gm 1212 (by decide +kernel) rfl
theorem mlX11_236 : ML RX11 236 yX11_turned := gm 1213 (by decide +kernel) rfl
theorem mlL_98 : ML RL 98 yX11_cut := gm 1217 (by decide +kernel) rfl
theorem mlL_102 : ML RL 102 yX11_found := gm 1221 (by decide +kernel) rfl
theorem mlX11_240 : ML RX11 240 yX11_isTwice := gm 1225 (by decide +kernel) rfl
theorem mlX11_243 : ML RX11 243 yX11_termOf := gm 1229 (by decide +kernel) rfl
theorem mlX11_246 : ML RX11 246 yX11_makes := gm 1232 (by decide +kernel) rfl
theorem mlL_106 : ML RL 106 yX11_order := gm 1236 (by decide +kernel) rfl
theorem kcX11_256 : Cond.constantLong RX11 256 (6) ∈ gtbl := gm 1240 (by decide +kernel) rfl
theorem kcX11_258 : Cond.constantLong RX11 258 (-1) ∈ gtbl := gm 1241 (by decide +kernel) rfl
theorem mlX11_260 : ML RX11 260 yX11_leastOf := gm 1242 (by decide +kernel) rfl
theorem mlX11_250 : ML RX11 250 yX11_isNew := gm 1246 (by decide +kernel) rfl
theorem mlX11_253 : ML RX11 253 yX11_lates := gm 1250 (by decide +kernel) rfl
theorem kcL_28 : Cond.constantLong RL 28 (4294967295) ∈ gtbl := gm 1254 (by decide +kernel) rfl
theorem kObj : Cond.instanceMethod objectInit ∈ gtbl ∧ Cond.code objectInit ⟨#[0xb1]⟩ 1 none ∈ gtbl := ⟨gm 27 (by decide +kernel) rfl, gm 28 (by decide +kernel) rfl⟩
theorem kArr : Cond.arrayClass .int ∈ gtbl ∧ Cond.arrayClass .byte ∈ gtbl := ⟨gm 62 (by decide +kernel) rfl, gm 51 (by decide +kernel) rfl⟩
