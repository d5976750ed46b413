theorem jw_Member_init : jv_ok jm_Member_init = true := by decide +kernel
theorem jx_Member_init : jv_mk jm_Member_init 115 114 84 0 = true := by decide +kernel
theorem jw_Bill_init : jv_ok jm_Bill_init = true := by decide +kernel
theorem jx_Bill_init : jv_mk jm_Bill_init 142 141 85 0 = true := by decide +kernel
theorem jw_Sections_init : jv_ok jm_Sections_init = true := by decide +kernel
theorem jx_Sections_init : jv_mk jm_Sections_init 148 147 86 0 = true := by decide +kernel
theorem jw_Motions_init : jv_ok jm_Motions_init = true := by decide +kernel
theorem jx_Motions_init : jv_mk jm_Motions_init 178 177 87 0 = true := by decide +kernel
theorem jw_Foresight_init : jv_ok jm_Foresight_init = true := by decide +kernel
theorem jx_Foresight_init : jv_mk jm_Foresight_init 210 209 88 0 = true := by decide +kernel
theorem jw_Ballot_init : jv_ok jm_Ballot_init = true := by decide +kernel
theorem jx_Ballot_init : jv_mk jm_Ballot_init 222 221 89 0 = true := by decide +kernel
theorem jw_Text_init : jv_ok jm_Text_init = true := by decide +kernel
theorem jx_Text_init : jv_mk jm_Text_init 268 267 90 0 = true := by decide +kernel
theorem jw_Reader_init : jv_ok jm_Reader_init = true := by decide +kernel
theorem jx_Reader_init : jv_mk jm_Reader_init 288 287 91 0 = true := by decide +kernel
theorem jw_Machine_init : jv_ok jm_Machine_init = true := by decide +kernel
theorem jx_Machine_init : jv_mk jm_Machine_init 323 322 92 0 = true := by decide +kernel
theorem jw_Conference_init : jv_ok jm_Conference_init = true := by decide +kernel
theorem jx_Conference_init : jv_mk jm_Conference_init 338 337 93 0 = true := by decide +kernel
theorem jw_Tray_init : jv_ok jm_Tray_init = true := by decide +kernel
theorem jx_Tray_init : jv_mk jm_Tray_init 354 353 94 0 = true := by decide +kernel
theorem jw_JS_length : jv_ok jm_JS_length = true := by decide +kernel
theorem jx_JS_length : jv_mk jm_JS_length 369 367 95 368 = true := by decide +kernel
theorem jw_JS_coder : jv_ok jm_JS_coder = true := by decide +kernel
theorem jx_JS_coder : jv_mk jm_JS_coder 373 371 95 372 = true := by decide +kernel
theorem jw_JS_charAt : jv_ok jm_JS_charAt = true := by decide +kernel
theorem jx_JS_charAt : jv_mk jm_JS_charAt 379 377 95 378 = true := by decide +kernel
theorem jw_JS_isLatin1 : jv_ok jm_JS_isLatin1 = true := by decide +kernel
theorem jx_JS_isLatin1 : jv_mk jm_JS_isLatin1 383 381 95 382 = true := by decide +kernel
theorem jw_JL_charAt : jv_ok jm_JL_charAt = true := by decide +kernel
theorem jx_JL_charAt : jv_mk jm_JL_charAt 386 385 96 0 = true := by decide +kernel
theorem jw_JS_checkIndex : jv_ok jm_JS_checkIndex = true := by decide +kernel
theorem jx_JS_checkIndex : jv_mk jm_JS_checkIndex 389 388 95 0 = true := by decide +kernel
theorem jw_JP_checkIndex : jv_ok jm_JP_checkIndex = true := by decide +kernel
theorem jx_JP_checkIndex : jv_mk jm_JP_checkIndex 394 393 97 0 = true := by decide +kernel
theorem jw_Reader_add : jv_ok jm_Reader_add = true := by decide +kernel
theorem jx_Reader_add : jv_mk jm_Reader_add 417 415 91 416 = true := by decide +kernel
theorem jw_Reader_read : jv_ok jm_Reader_read = true := by decide +kernel
theorem jx_Reader_read : jv_mk jm_Reader_read 421 419 91 420 = true := by decide +kernel
theorem jw_Reader_goOn : jv_ok jm_Reader_goOn = true := by decide +kernel
theorem jx_Reader_goOn : jv_mk jm_Reader_goOn 425 424 91 0 = true := by decide +kernel
theorem jw_Reader_byteAt : jv_ok jm_Reader_byteAt = true := by decide +kernel
theorem jx_Reader_byteAt : jv_mk jm_Reader_byteAt 429 428 91 1 = true := by decide +kernel
theorem jw_Reader_isLetter : jv_ok jm_Reader_isLetter = true := by decide +kernel
theorem jx_Reader_isLetter : jv_mk jm_Reader_isLetter 433 432 91 2 = true := by decide +kernel
theorem jw_Reader_readWord : jv_ok jm_Reader_readWord = true := by decide +kernel
theorem jx_Reader_readWord : jv_mk jm_Reader_readWord 437 436 91 3 = true := by decide +kernel
theorem jw_Reader_isKnown : jv_ok jm_Reader_isKnown = true := by decide +kernel
theorem jx_Reader_isKnown : jv_mk jm_Reader_isKnown 441 440 91 4 = true := by decide +kernel
theorem jw_Reader_fail : jv_ok jm_Reader_fail = true := by decide +kernel
theorem jx_Reader_fail : jv_mk jm_Reader_fail 448 447 91 5 = true := by decide +kernel
theorem jw_Reader_isDigit : jv_ok jm_Reader_isDigit = true := by decide +kernel
theorem jx_Reader_isDigit : jv_mk jm_Reader_isDigit 452 451 91 6 = true := by decide +kernel
theorem jw_Reader_readNumber : jv_ok jm_Reader_readNumber = true := by decide +kernel
theorem jx_Reader_readNumber : jv_mk jm_Reader_readNumber 456 455 91 7 = true := by decide +kernel
theorem jw_Reader_readSign : jv_ok jm_Reader_readSign = true := by decide +kernel
theorem jx_Reader_readSign : jv_mk jm_Reader_readSign 460 459 91 8 = true := by decide +kernel
theorem jw_Reader_expect : jv_ok jm_Reader_expect = true := by decide +kernel
theorem jx_Reader_expect : jv_mk jm_Reader_expect 464 463 91 9 = true := by decide +kernel
theorem jw_Reader_readSome : jv_ok jm_Reader_readSome = true := by decide +kernel
theorem jx_Reader_readSome : jv_mk jm_Reader_readSome 468 467 91 10 = true := by decide +kernel
theorem jw_Reader_readAll : jv_ok jm_Reader_readAll = true := by decide +kernel
theorem jx_Reader_readAll : jv_mk jm_Reader_readAll 472 471 91 11 = true := by decide +kernel
theorem jw_Reader_readClaim : jv_ok jm_Reader_readClaim = true := by decide +kernel
theorem jx_Reader_readClaim : jv_mk jm_Reader_readClaim 476 475 91 12 = true := by decide +kernel
theorem jw_Reader_readOpened : jv_ok jm_Reader_readOpened = true := by decide +kernel
theorem jx_Reader_readOpened : jv_mk jm_Reader_readOpened 480 479 91 13 = true := by decide +kernel
theorem jw_Text_add : jv_ok jm_Text_add = true := by decide +kernel
theorem jx_Text_add : jv_mk jm_Text_add 484 482 90 483 = true := by decide +kernel
theorem jw_Reader_readOne : jv_ok jm_Reader_readOne = true := by decide +kernel
theorem jx_Reader_readOne : jv_mk jm_Reader_readOne 488 487 91 14 = true := by decide +kernel
theorem jw_Reader_readSum : jv_ok jm_Reader_readSum = true := by decide +kernel
theorem jx_Reader_readSum : jv_mk jm_Reader_readSum 492 491 91 15 = true := by decide +kernel
theorem jw_Reader_readTerm : jv_ok jm_Reader_readTerm = true := by decide +kernel
theorem jx_Reader_readTerm : jv_mk jm_Reader_readTerm 496 495 91 16 = true := by decide +kernel
theorem jw_Member_setLiking : jv_ok jm_Member_setLiking = true := by decide +kernel
theorem jx_Member_setLiking : jv_mk jm_Member_setLiking 577 575 84 576 = true := by decide +kernel
theorem jw_Member_liking : jv_ok jm_Member_liking = true := by decide +kernel
theorem jx_Member_liking : jv_mk jm_Member_liking 581 579 84 580 = true := by decide +kernel
theorem jw_Sections_isFull : jv_ok jm_Sections_isFull = true := by decide +kernel
theorem jx_Sections_isFull : jv_mk jm_Sections_isFull 617 615 86 616 = true := by decide +kernel
theorem jw_Sections_change : jv_ok jm_Sections_change = true := by decide +kernel
theorem jx_Sections_change : jv_mk jm_Sections_change 621 619 86 620 = true := by decide +kernel
theorem jw_Sections_canChange : jv_ok jm_Sections_canChange = true := by decide +kernel
theorem jx_Sections_canChange : jv_mk jm_Sections_canChange 625 623 86 624 = true := by decide +kernel
theorem jw_Sections_putIn : jv_ok jm_Sections_putIn = true := by decide +kernel
theorem jx_Sections_putIn : jv_mk jm_Sections_putIn 629 628 86 19 = true := by decide +kernel
theorem jw_Sections_takeOut : jv_ok jm_Sections_takeOut = true := by decide +kernel
theorem jx_Sections_takeOut : jv_mk jm_Sections_takeOut 633 632 86 20 = true := by decide +kernel
