-- METHODS: what the tables say of each, and of each link (by program: wip/whole/gen/code.py)
theorem ykX5_copyFrom : MYk yX5_copyFrom cX5_copyFrom 2 (none) 1 := ⟨mTs_of 265 (by decide +kernel) (by decide +kernel), mTs_of 5 (by decide +kernel) (by decide +kernel), ⟨by decide +kernel, by decide +kernel⟩, by decide +kernel⟩
theorem yvX5_copyFrom : MYv yX5_copyFrom := ⟨mTs_of 263 (by decide +kernel) (by decide +kernel), mTs_of 264 (by decide +kernel) (by decide +kernel)⟩
theorem ykX1_copyFrom : MYk yX1_copyFrom cX1_copyFrom 2 (none) 1 := ⟨mTs_of 269 (by decide +kernel) (by decide +kernel), mTs_of 6 (by decide +kernel) (by decide +kernel), ⟨by decide +kernel, by decide +kernel⟩, by decide +kernel⟩
theorem yvX1_copyFrom : MYv yX1_copyFrom := ⟨mTs_of 267 (by decide +kernel) (by decide +kernel), mTs_of 268 (by decide +kernel) (by decide +kernel)⟩
theorem ykX2_copyFrom : MYk yX2_copyFrom cX2_copyFrom 2 (none) 1 := ⟨mTs_of 276 (by decide +kernel) (by decide +kernel), mTs_of 7 (by decide +kernel) (by decide +kernel), ⟨by decide +kernel, by decide +kernel⟩, by decide +kernel⟩
theorem yvX2_copyFrom : MYv yX2_copyFrom := ⟨mTs_of 274 (by decide +kernel) (by decide +kernel), mTs_of 275 (by decide +kernel) (by decide +kernel)⟩
theorem ykX4_copyFrom : MYk yX4_copyFrom cX4_copyFrom 2 (none) 1 := ⟨mTs_of 280 (by decide +kernel) (by decide +kernel), mTs_of 2 (by decide +kernel) (by decide +kernel), ⟨by decide +kernel, by decide +kernel⟩, by decide +kernel⟩
theorem yvX4_copyFrom : MYv yX4_copyFrom := ⟨mTs_of 278 (by decide +kernel) (by decide +kernel), mTs_of 279 (by decide +kernel) (by decide +kernel)⟩
theorem ykX0_copyFrom : MYk yX0_copyFrom cX0_copyFrom 3 (none) 1 := ⟨mTs_of 261 (by decide +kernel) (by decide +kernel), mTs_of 4 (by decide +kernel) (by decide +kernel), ⟨by decide +kernel, by decide +kernel⟩, by decide +kernel⟩
theorem yvX0_copyFrom : MYv yX0_copyFrom := ⟨mTs_of 259 (by decide +kernel) (by decide +kernel), mTs_of 260 (by decide +kernel) (by decide +kernel)⟩
theorem ykX6_within : MYk yX6_within cX6_within 3 (some .boolean) 3 := ⟨mTs_of 288 (by decide +kernel) (by decide +kernel), mTs_of 1 (by decide +kernel) (by decide +kernel), ⟨by decide +kernel, by decide +kernel⟩, by decide +kernel⟩
theorem ysX6_within : Cond.static yX6_within ∈ mTs := mTs_of 287 (by decide +kernel) (by decide +kernel)
theorem ykX0_hasLot : MYk yX0_hasLot cX0_hasLot 2 (some .boolean) 1 := ⟨mTs_of 343 (by decide +kernel) (by decide +kernel), mTs_of 4 (by decide +kernel) (by decide +kernel), ⟨by decide +kernel, by decide +kernel⟩, by decide +kernel⟩
theorem yvX0_hasLot : MYv yX0_hasLot := ⟨mTs_of 341 (by decide +kernel) (by decide +kernel), mTs_of 342 (by decide +kernel) (by decide +kernel)⟩
theorem ykX0_hasTank : MYk yX0_hasTank cX0_hasTank 2 (some .boolean) 1 := ⟨mTs_of 347 (by decide +kernel) (by decide +kernel), mTs_of 4 (by decide +kernel) (by decide +kernel), ⟨by decide +kernel, by decide +kernel⟩, by decide +kernel⟩
theorem yvX0_hasTank : MYv yX0_hasTank := ⟨mTs_of 345 (by decide +kernel) (by decide +kernel), mTs_of 346 (by decide +kernel) (by decide +kernel)⟩
theorem ykX0_refuse : MYk yX0_refuse cX0_refuse 2 (some .int) 1 := ⟨mTs_of 351 (by decide +kernel) (by decide +kernel), mTs_of 4 (by decide +kernel) (by decide +kernel), ⟨by decide +kernel, by decide +kernel⟩, by decide +kernel⟩
theorem yvX0_refuse : MYv yX0_refuse := ⟨mTs_of 350 (by decide +kernel) (by decide +kernel), mTs_sel (q := (yX0_refuse, 14)) 4 (by decide +kernel)⟩
theorem ykX0_changeVariety : MYk yX0_changeVariety cX0_changeVariety 7 (some .int) 4 := ⟨mTs_of 285 (by decide +kernel) (by decide +kernel), mTs_of 4 (by decide +kernel) (by decide +kernel), ⟨by decide +kernel, by decide +kernel⟩, by decide +kernel⟩
theorem yvX0_changeVariety : MYv yX0_changeVariety := ⟨mTs_of 283 (by decide +kernel) (by decide +kernel), mTs_of 284 (by decide +kernel) (by decide +kernel)⟩
theorem ykX0_changeRates : MYk yX0_changeRates cX0_changeRates 6 (some .int) 4 := ⟨mTs_of 303 (by decide +kernel) (by decide +kernel), mTs_of 4 (by decide +kernel) (by decide +kernel), ⟨by decide +kernel, by decide +kernel⟩, by decide +kernel⟩
theorem yvX0_changeRates : MYv yX0_changeRates := ⟨mTs_of 301 (by decide +kernel) (by decide +kernel), mTs_of 302 (by decide +kernel) (by decide +kernel)⟩
theorem ykX1_change : MYk yX1_change cX1_change 7 (some .int) 5 := ⟨mTs_of 315 (by decide +kernel) (by decide +kernel), mTs_of 6 (by decide +kernel) (by decide +kernel), ⟨by decide +kernel, by decide +kernel⟩, by decide +kernel⟩
theorem yvX1_change : MYv yX1_change := ⟨mTs_of 313 (by decide +kernel) (by decide +kernel), mTs_of 314 (by decide +kernel) (by decide +kernel)⟩
theorem ykX0_changeLabel : MYk yX0_changeLabel cX0_changeLabel 7 (some .int) 6 := ⟨mTs_of 311 (by decide +kernel) (by decide +kernel), mTs_of 4 (by decide +kernel) (by decide +kernel), ⟨by decide +kernel, by decide +kernel⟩, by decide +kernel⟩
theorem yvX0_changeLabel : MYv yX0_changeLabel := ⟨mTs_of 309 (by decide +kernel) (by decide +kernel), mTs_of 310 (by decide +kernel) (by decide +kernel)⟩
theorem ykX0_buyLot : MYk yX0_buyLot cX0_buyLot 3 (some .int) 2 := ⟨mTs_of 323 (by decide +kernel) (by decide +kernel), mTs_of 4 (by decide +kernel) (by decide +kernel), ⟨by decide +kernel, by decide +kernel⟩, by decide +kernel⟩
theorem yvX0_buyLot : MYv yX0_buyLot := ⟨mTs_of 321 (by decide +kernel) (by decide +kernel), mTs_of 322 (by decide +kernel) (by decide +kernel)⟩
theorem ykX0_openTank : MYk yX0_openTank cX0_openTank 2 (some .int) 1 := ⟨mTs_of 331 (by decide +kernel) (by decide +kernel), mTs_of 4 (by decide +kernel) (by decide +kernel), ⟨by decide +kernel, by decide +kernel⟩, by decide +kernel⟩
theorem yvX0_openTank : MYv yX0_openTank := ⟨mTs_of 329 (by decide +kernel) (by decide +kernel), mTs_of 330 (by decide +kernel) (by decide +kernel)⟩
theorem ykX6_thousandths : MYk yX6_thousandths cX6_thousandths 2 (some .int) 2 := ⟨mTs_of 354 (by decide +kernel) (by decide +kernel), mTs_of 1 (by decide +kernel) (by decide +kernel), ⟨by decide +kernel, by decide +kernel⟩, by decide +kernel⟩
theorem ysX6_thousandths : Cond.static yX6_thousandths ∈ mTs := mTs_of 353 (by decide +kernel) (by decide +kernel)
theorem ykX4_left : MYk yX4_left cX4_left 1 (some .int) 0 := ⟨mTs_of 359 (by decide +kernel) (by decide +kernel), mTs_of 2 (by decide +kernel) (by decide +kernel), ⟨by decide +kernel, by decide +kernel⟩, by decide +kernel⟩
theorem yvX4_left : MYv yX4_left := ⟨mTs_of 357 (by decide +kernel) (by decide +kernel), mTs_of 358 (by decide +kernel) (by decide +kernel)⟩
theorem ykX4_fill : MYk yX4_fill cX4_fill 5 (none) 4 := ⟨mTs_of 363 (by decide +kernel) (by decide +kernel), mTs_of 2 (by decide +kernel) (by decide +kernel), ⟨by decide +kernel, by decide +kernel⟩, by decide +kernel⟩
theorem yvX4_fill : MYv yX4_fill := ⟨mTs_of 361 (by decide +kernel) (by decide +kernel), mTs_of 362 (by decide +kernel) (by decide +kernel)⟩
theorem ykX0_pressLot : MYk yX0_pressLot cX0_pressLot 7 (some .int) 3 := ⟨mTs_of 339 (by decide +kernel) (by decide +kernel), mTs_of 4 (by decide +kernel) (by decide +kernel), ⟨by decide +kernel, by decide +kernel⟩, by decide +kernel⟩
theorem yvX0_pressLot : MYv yX0_pressLot := ⟨mTs_of 337 (by decide +kernel) (by decide +kernel), mTs_of 338 (by decide +kernel) (by decide +kernel)⟩
theorem ykX0_wetHeap : MYk yX0_wetHeap cX0_wetHeap 4 (some .int) 2 := ⟨mTs_of 371 (by decide +kernel) (by decide +kernel), mTs_of 4 (by decide +kernel) (by decide +kernel), ⟨by decide +kernel, by decide +kernel⟩, by decide +kernel⟩
theorem yvX0_wetHeap : MYv yX0_wetHeap := ⟨mTs_of 369 (by decide +kernel) (by decide +kernel), mTs_of 370 (by decide +kernel) (by decide +kernel)⟩
theorem ykX0_sellHeap : MYk yX0_sellHeap cX0_sellHeap 2 (some .int) 0 := ⟨mTs_of 379 (by decide +kernel) (by decide +kernel), mTs_of 4 (by decide +kernel) (by decide +kernel), ⟨by decide +kernel, by decide +kernel⟩, by decide +kernel⟩
theorem yvX0_sellHeap : MYv yX0_sellHeap := ⟨mTs_of 377 (by decide +kernel) (by decide +kernel), mTs_of 378 (by decide +kernel) (by decide +kernel)⟩
theorem ykX4_part : MYk yX4_part cX4_part 3 (some .int) 2 := ⟨mTs_of 391 (by decide +kernel) (by decide +kernel), mTs_of 2 (by decide +kernel) (by decide +kernel), ⟨by decide +kernel, by decide +kernel⟩, by decide +kernel⟩
theorem yvX4_part : MYv yX4_part := ⟨mTs_of 389 (by decide +kernel) (by decide +kernel), mTs_of 390 (by decide +kernel) (by decide +kernel)⟩
theorem ykX4_drop : MYk yX4_drop cX4_drop 2 (none) 1 := ⟨mTs_of 401 (by decide +kernel) (by decide +kernel), mTs_of 2 (by decide +kernel) (by decide +kernel), ⟨by decide +kernel, by decide +kernel⟩, by decide +kernel⟩
theorem yvX4_drop : MYv yX4_drop := ⟨mTs_of 399 (by decide +kernel) (by decide +kernel), mTs_of 400 (by decide +kernel) (by decide +kernel)⟩
theorem ykX4_give : MYk yX4_give cX4_give 3 (none) 2 := ⟨mTs_of 395 (by decide +kernel) (by decide +kernel), mTs_of 2 (by decide +kernel) (by decide +kernel), ⟨by decide +kernel, by decide +kernel⟩, by decide +kernel⟩
theorem yvX4_give : MYv yX4_give := ⟨mTs_of 393 (by decide +kernel) (by decide +kernel), mTs_of 394 (by decide +kernel) (by decide +kernel)⟩
theorem ykX0_moveJuice : MYk yX0_moveJuice cX0_moveJuice 5 (some .int) 3 := ⟨mTs_of 387 (by decide +kernel) (by decide +kernel), mTs_of 4 (by decide +kernel) (by decide +kernel), ⟨by decide +kernel, by decide +kernel⟩, by decide +kernel⟩
theorem yvX0_moveJuice : MYv yX0_moveJuice := ⟨mTs_of 385 (by decide +kernel) (by decide +kernel), mTs_of 386 (by decide +kernel) (by decide +kernel)⟩
theorem ykJ9_min_7cf53 : MYk yJ9_min_7cf53 cJ9_min_7cf53 2 (some .int) 2 := ⟨mTs_of 295 (by decide +kernel) (by decide +kernel), mTs_of 10 (by decide +kernel) (by decide +kernel), ⟨by decide +kernel, by decide +kernel⟩, by decide +kernel⟩
theorem ysJ9_min_7cf53 : Cond.static yJ9_min_7cf53 ∈ mTs := mTs_of 294 (by decide +kernel) (by decide +kernel)
theorem ykX0_rackJuice : MYk yX0_rackJuice cX0_rackJuice 4 (some .int) 2 := ⟨mTs_of 409 (by decide +kernel) (by decide +kernel), mTs_of 4 (by decide +kernel) (by decide +kernel), ⟨by decide +kernel, by decide +kernel⟩, by decide +kernel⟩
theorem yvX0_rackJuice : MYv yX0_rackJuice := ⟨mTs_of 407 (by decide +kernel) (by decide +kernel), mTs_of 408 (by decide +kernel) (by decide +kernel)⟩
theorem ykX0_cleanTank : MYk yX0_cleanTank cX0_cleanTank 3 (some .int) 1 := ⟨mTs_of 418 (by decide +kernel) (by decide +kernel), mTs_of 4 (by decide +kernel) (by decide +kernel), ⟨by decide +kernel, by decide +kernel⟩, by decide +kernel⟩
theorem yvX0_cleanTank : MYv yX0_cleanTank := ⟨mTs_of 416 (by decide +kernel) (by decide +kernel), mTs_of 417 (by decide +kernel) (by decide +kernel)⟩
theorem ykX0_pourJuice : MYk yX0_pourJuice cX0_pourJuice 3 (some .int) 1 := ⟨mTs_of 426 (by decide +kernel) (by decide +kernel), mTs_of 4 (by decide +kernel) (by decide +kernel), ⟨by decide +kernel, by decide +kernel⟩, by decide +kernel⟩
theorem yvX0_pourJuice : MYv yX0_pourJuice := ⟨mTs_of 424 (by decide +kernel) (by decide +kernel), mTs_of 425 (by decide +kernel) (by decide +kernel)⟩
theorem ykX6_perThousand : MYk yX6_perThousand cX6_perThousand 2 (some .int) 2 := ⟨mTs_of 446 (by decide +kernel) (by decide +kernel), mTs_of 1 (by decide +kernel) (by decide +kernel), ⟨by decide +kernel, by decide +kernel⟩, by decide +kernel⟩
theorem ysX6_perThousand : Cond.static yX6_perThousand ∈ mTs := mTs_of 445 (by decide +kernel) (by decide +kernel)
theorem ykX1_reasonAgainstJuice : MYk yX1_reasonAgainstJuice cX1_reasonAgainstJuice 7 (some .int) 4 := ⟨mTs_of 443 (by decide +kernel) (by decide +kernel), mTs_of 6 (by decide +kernel) (by decide +kernel), ⟨by decide +kernel, by decide +kernel⟩, by decide +kernel⟩
theorem yvX1_reasonAgainstJuice : MYv yX1_reasonAgainstJuice := ⟨mTs_of 442 (by decide +kernel) (by decide +kernel), mTs_sel (q := (yX1_reasonAgainstJuice, 6)) 5 (by decide +kernel)⟩
theorem ykX1_reasonAgainst : MYk yX1_reasonAgainst cX1_reasonAgainst 2 (some .int) 1 := ⟨mTs_of 439 (by decide +kernel) (by decide +kernel), mTs_of 6 (by decide +kernel) (by decide +kernel), ⟨by decide +kernel, by decide +kernel⟩, by decide +kernel⟩
theorem yvX1_reasonAgainst : MYv yX1_reasonAgainst := ⟨mTs_of 437 (by decide +kernel) (by decide +kernel), mTs_of 438 (by decide +kernel) (by decide +kernel)⟩
theorem ykX1_addBottles : MYk yX1_addBottles cX1_addBottles 3 (none) 2 := ⟨mTs_of 450 (by decide +kernel) (by decide +kernel), mTs_of 6 (by decide +kernel) (by decide +kernel), ⟨by decide +kernel, by decide +kernel⟩, by decide +kernel⟩
theorem yvX1_addBottles : MYv yX1_addBottles := ⟨mTs_of 448 (by decide +kernel) (by decide +kernel), mTs_of 449 (by decide +kernel) (by decide +kernel)⟩
theorem ykX0_bottleJuice : MYk yX0_bottleJuice cX0_bottleJuice 7 (some .int) 4 := ⟨mTs_of 435 (by decide +kernel) (by decide +kernel), mTs_of 4 (by decide +kernel) (by decide +kernel), ⟨by decide +kernel, by decide +kernel⟩, by decide +kernel⟩
theorem yvX0_bottleJuice : MYv yX0_bottleJuice := ⟨mTs_of 433 (by decide +kernel) (by decide +kernel), mTs_of 434 (by decide +kernel) (by decide +kernel)⟩
theorem ykX4_passDay : MYk yX4_passDay cX4_passDay 5 (none) 2 := ⟨mTs_of 463 (by decide +kernel) (by decide +kernel), mTs_of 2 (by decide +kernel) (by decide +kernel), ⟨by decide +kernel, by decide +kernel⟩, by decide +kernel⟩
theorem yvX4_passDay : MYv yX4_passDay := ⟨mTs_of 461 (by decide +kernel) (by decide +kernel), mTs_of 462 (by decide +kernel) (by decide +kernel)⟩
theorem ykX0_passDay : MYk yX0_passDay cX0_passDay 3 (some .int) 0 := ⟨mTs_of 459 (by decide +kernel) (by decide +kernel), mTs_of 4 (by decide +kernel) (by decide +kernel), ⟨by decide +kernel, by decide +kernel⟩, by decide +kernel⟩
theorem yvX0_passDay : MYv yX0_passDay := ⟨mTs_of 457 (by decide +kernel) (by decide +kernel), mTs_of 458 (by decide +kernel) (by decide +kernel)⟩
theorem ykX0_applesInLots : MYk yX0_applesInLots cX0_applesInLots 3 (some .int) 0 := ⟨mTs_of 642 (by decide +kernel) (by decide +kernel), mTs_of 4 (by decide +kernel) (by decide +kernel), ⟨by decide +kernel, by decide +kernel⟩, by decide +kernel⟩
theorem yvX0_applesInLots : MYv yX0_applesInLots := ⟨mTs_of 641 (by decide +kernel) (by decide +kernel), mTs_sel (q := (yX0_applesInLots, 14)) 16 (by decide +kernel)⟩
theorem ykX0_juiceInTanks : MYk yX0_juiceInTanks cX0_juiceInTanks 3 (some .int) 0 := ⟨mTs_of 646 (by decide +kernel) (by decide +kernel), mTs_of 4 (by decide +kernel) (by decide +kernel), ⟨by decide +kernel, by decide +kernel⟩, by decide +kernel⟩
theorem yvX0_juiceInTanks : MYv yX0_juiceInTanks := ⟨mTs_of 645 (by decide +kernel) (by decide +kernel), mTs_sel (q := (yX0_juiceInTanks, 14)) 17 (by decide +kernel)⟩
theorem ykX0_leesInTanks : MYk yX0_leesInTanks cX0_leesInTanks 3 (some .int) 0 := ⟨mTs_of 650 (by decide +kernel) (by decide +kernel), mTs_of 4 (by decide +kernel) (by decide +kernel), ⟨by decide +kernel, by decide +kernel⟩, by decide +kernel⟩
theorem yvX0_leesInTanks : MYv yX0_leesInTanks := ⟨mTs_of 649 (by decide +kernel) (by decide +kernel), mTs_sel (q := (yX0_leesInTanks, 14)) 18 (by decide +kernel)⟩
theorem ykX0_sumOf : MYk yX0_sumOf cX0_sumOf 2 (some .int) 1 := ⟨mTs_of 638 (by decide +kernel) (by decide +kernel), mTs_of 4 (by decide +kernel) (by decide +kernel), ⟨by decide +kernel, by decide +kernel⟩, by decide +kernel⟩
theorem yvX0_sumOf : MYv yX0_sumOf := ⟨mTs_of 636 (by decide +kernel) (by decide +kernel), mTs_of 637 (by decide +kernel) (by decide +kernel)⟩
theorem ykX1_reasonAgainstBlend : MYk yX1_reasonAgainstBlend cX1_reasonAgainstBlend 4 (some .int) 3 := ⟨mTs_of 669 (by decide +kernel) (by decide +kernel), mTs_of 6 (by decide +kernel) (by decide +kernel), ⟨by decide +kernel, by decide +kernel⟩, by decide +kernel⟩
theorem yvX1_reasonAgainstBlend : MYv yX1_reasonAgainstBlend := ⟨mTs_of 667 (by decide +kernel) (by decide +kernel), mTs_of 668 (by decide +kernel) (by decide +kernel)⟩
theorem ykX3_append : MYk yX3_append cX3_append 2 (some .int) 1 := ⟨mTs_of 473 (by decide +kernel) (by decide +kernel), mTs_of 3 (by decide +kernel) (by decide +kernel), ⟨by decide +kernel, by decide +kernel⟩, by decide +kernel⟩
theorem yvX3_append : MYv yX3_append := ⟨mTs_of 471 (by decide +kernel) (by decide +kernel), mTs_of 472 (by decide +kernel) (by decide +kernel)⟩
theorem ykX3_clear : MYk yX3_clear cX3_clear 2 (some .int) 0 := ⟨mTs_of 482 (by decide +kernel) (by decide +kernel), mTs_of 3 (by decide +kernel) (by decide +kernel), ⟨by decide +kernel, by decide +kernel⟩, by decide +kernel⟩
theorem yvX3_clear : MYv yX3_clear := ⟨mTs_of 480 (by decide +kernel) (by decide +kernel), mTs_of 481 (by decide +kernel) (by decide +kernel)⟩
theorem ykX3_number : MYk yX3_number cX3_number 4 (some .int) 2 := ⟨mTs_of 592 (by decide +kernel) (by decide +kernel), mTs_of 3 (by decide +kernel) (by decide +kernel), ⟨by decide +kernel, by decide +kernel⟩, by decide +kernel⟩
theorem yvX3_number : MYv yX3_number := ⟨mTs_of 590 (by decide +kernel) (by decide +kernel), mTs_of 591 (by decide +kernel) (by decide +kernel)⟩
theorem ykX3_keep : MYk yX3_keep cX3_keep 4 (none) 2 := ⟨mTs_of 573 (by decide +kernel) (by decide +kernel), mTs_of 3 (by decide +kernel) (by decide +kernel), ⟨by decide +kernel, by decide +kernel⟩, by decide +kernel⟩
theorem yvX3_keep : MYv yX3_keep := ⟨mTs_of 572 (by decide +kernel) (by decide +kernel), mTs_sel (q := (yX3_keep, 5)) 12 (by decide +kernel)⟩
theorem ykX3_endOf : MYk yX3_endOf cX3_endOf 4 (some .int) 2 := ⟨mTs_of 498 (by decide +kernel) (by decide +kernel), mTs_of 3 (by decide +kernel) (by decide +kernel), ⟨by decide +kernel, by decide +kernel⟩, by decide +kernel⟩
theorem yvX3_endOf : MYv yX3_endOf := ⟨mTs_of 497 (by decide +kernel) (by decide +kernel), mTs_sel (q := (yX3_endOf, 5)) 7 (by decide +kernel)⟩
theorem ykX3_skipSpaces : MYk yX3_skipSpaces cX3_skipSpaces 1 (none) 0 := ⟨mTs_of 494 (by decide +kernel) (by decide +kernel), mTs_of 3 (by decide +kernel) (by decide +kernel), ⟨by decide +kernel, by decide +kernel⟩, by decide +kernel⟩
theorem yvX3_skipSpaces : MYv yX3_skipSpaces := ⟨mTs_of 493 (by decide +kernel) (by decide +kernel), mTs_sel (q := (yX3_skipSpaces, 5)) 6 (by decide +kernel)⟩
theorem ykX3_isWord : MYk yX3_isWord cX3_isWord 4 (some .boolean) 2 := ⟨mTs_of 515 (by decide +kernel) (by decide +kernel), mTs_of 3 (by decide +kernel) (by decide +kernel), ⟨by decide +kernel, by decide +kernel⟩, by decide +kernel⟩
theorem yvX3_isWord : MYv yX3_isWord := ⟨mTs_of 514 (by decide +kernel) (by decide +kernel), mTs_sel (q := (yX3_isWord, 5)) 11 (by decide +kernel)⟩
theorem ykX3_kindOfWord : MYk yX3_kindOfWord cX3_kindOfWord 2 (some .int) 1 := ⟨mTs_of 510 (by decide +kernel) (by decide +kernel), mTs_of 3 (by decide +kernel) (by decide +kernel), ⟨by decide +kernel, by decide +kernel⟩, by decide +kernel⟩
theorem yvX3_kindOfWord : MYv yX3_kindOfWord := ⟨mTs_of 509 (by decide +kernel) (by decide +kernel), mTs_sel (q := (yX3_kindOfWord, 5)) 10 (by decide +kernel)⟩
theorem ykX3_readWord : MYk yX3_readWord cX3_readWord 3 (some .int) 0 := ⟨mTs_of 506 (by decide +kernel) (by decide +kernel), mTs_of 3 (by decide +kernel) (by decide +kernel), ⟨by decide +kernel, by decide +kernel⟩, by decide +kernel⟩
theorem yvX3_readWord : MYv yX3_readWord := ⟨mTs_of 505 (by decide +kernel) (by decide +kernel), mTs_sel (q := (yX3_readWord, 5)) 9 (by decide +kernel)⟩
theorem ykX3_numbersOf : MYk yX3_numbersOf cX3_numbersOf 1 (some .int) 1 := ⟨mTs_of 576 (by decide +kernel) (by decide +kernel), mTs_of 3 (by decide +kernel) (by decide +kernel), ⟨by decide +kernel, by decide +kernel⟩, by decide +kernel⟩
theorem ysX3_numbersOf : Cond.static yX3_numbersOf ∈ mTs := mTs_of 575 (by decide +kernel) (by decide +kernel)
theorem ykX3_readNumber : MYk yX3_readNumber cX3_readNumber 6 (some .boolean) 1 := ⟨mTs_of 580 (by decide +kernel) (by decide +kernel), mTs_of 3 (by decide +kernel) (by decide +kernel), ⟨by decide +kernel, by decide +kernel⟩, by decide +kernel⟩
theorem yvX3_readNumber : MYv yX3_readNumber := ⟨mTs_of 579 (by decide +kernel) (by decide +kernel), mTs_sel (q := (yX3_readNumber, 5)) 13 (by decide +kernel)⟩
theorem ykX3_readEnd : MYk yX3_readEnd cX3_readEnd 1 (some .boolean) 0 := ⟨mTs_of 584 (by decide +kernel) (by decide +kernel), mTs_of 3 (by decide +kernel) (by decide +kernel), ⟨by decide +kernel, by decide +kernel⟩, by decide +kernel⟩
theorem yvX3_readEnd : MYv yX3_readEnd := ⟨mTs_of 583 (by decide +kernel) (by decide +kernel), mTs_sel (q := (yX3_readEnd, 5)) 14 (by decide +kernel)⟩
theorem ykX3_readCommand : MYk yX3_readCommand cX3_readCommand 3 (some .boolean) 0 := ⟨mTs_of 502 (by decide +kernel) (by decide +kernel), mTs_of 3 (by decide +kernel) (by decide +kernel), ⟨by decide +kernel, by decide +kernel⟩, by decide +kernel⟩
theorem yvX3_readCommand : MYv yX3_readCommand := ⟨mTs_of 501 (by decide +kernel) (by decide +kernel), mTs_sel (q := (yX3_readCommand, 5)) 8 (by decide +kernel)⟩
theorem ykX3_read : MYk yX3_read cX3_read 2 (some .boolean) 0 := ⟨mTs_of 490 (by decide +kernel) (by decide +kernel), mTs_of 3 (by decide +kernel) (by decide +kernel), ⟨by decide +kernel, by decide +kernel⟩, by decide +kernel⟩
theorem yvX3_read : MYv yX3_read := ⟨mTs_of 488 (by decide +kernel) (by decide +kernel), mTs_of 489 (by decide +kernel) (by decide +kernel)⟩
theorem ykX4_property : MYk yX4_property cX4_property 2 (some .int) 1 := ⟨mTs_of 619 (by decide +kernel) (by decide +kernel), mTs_of 2 (by decide +kernel) (by decide +kernel), ⟨by decide +kernel, by decide +kernel⟩, by decide +kernel⟩
theorem yvX4_property : MYv yX4_property := ⟨mTs_of 617 (by decide +kernel) (by decide +kernel), mTs_of 618 (by decide +kernel) (by decide +kernel)⟩
theorem ykX5_property : MYk yX5_property cX5_property 2 (some .int) 1 := ⟨mTs_of 610 (by decide +kernel) (by decide +kernel), mTs_of 5 (by decide +kernel) (by decide +kernel), ⟨by decide +kernel, by decide +kernel⟩, by decide +kernel⟩
theorem yvX5_property : MYv yX5_property := ⟨mTs_of 608 (by decide +kernel) (by decide +kernel), mTs_of 609 (by decide +kernel) (by decide +kernel)⟩
theorem ykX6_nextPage : MYk yX6_nextPage cX6_nextPage 1 (some .int) 0 := ⟨mTs_of 253 (by decide +kernel) (by decide +kernel), mTs_of 1 (by decide +kernel) (by decide +kernel), ⟨by decide +kernel, by decide +kernel⟩, by decide +kernel⟩
theorem yvX6_nextPage : MYv yX6_nextPage := ⟨mTs_of 252 (by decide +kernel) (by decide +kernel), mTs_sel (q := (yX6_nextPage, 6)) 1 (by decide +kernel)⟩
theorem ykX6_books : MYk yX6_books cX6_books 1 (some (.object "CiderShop$Books")) 0 := ⟨mTs_of 257 (by decide +kernel) (by decide +kernel), mTs_of 1 (by decide +kernel) (by decide +kernel), ⟨by decide +kernel, by decide +kernel⟩, by decide +kernel⟩
theorem yvX6_books : MYv yX6_books := ⟨mTs_of 256 (by decide +kernel) (by decide +kernel), mTs_sel (q := (yX6_books, 6)) 2 (by decide +kernel)⟩
theorem ykX6_draft : MYk yX6_draft cX6_draft 2 (some (.object "CiderShop$Books")) 0 := ⟨mTs_of 249 (by decide +kernel) (by decide +kernel), mTs_of 1 (by decide +kernel) (by decide +kernel), ⟨by decide +kernel, by decide +kernel⟩, by decide +kernel⟩
theorem yvX6_draft : MYv yX6_draft := ⟨mTs_of 248 (by decide +kernel) (by decide +kernel), mTs_sel (q := (yX6_draft, 6)) 0 (by decide +kernel)⟩
theorem ykX6_finish : MYk yX6_finish cX6_finish 3 (some .int) 2 := ⟨mTs_of 292 (by decide +kernel) (by decide +kernel), mTs_of 1 (by decide +kernel) (by decide +kernel), ⟨by decide +kernel, by decide +kernel⟩, by decide +kernel⟩
theorem yvX6_finish : MYv yX6_finish := ⟨mTs_of 291 (by decide +kernel) (by decide +kernel), mTs_sel (q := (yX6_finish, 6)) 3 (by decide +kernel)⟩
theorem ykX6_setVariety : MYk yX6_setVariety cX6_setVariety 6 (some .int) 4 := ⟨mTs_of 245 (by decide +kernel) (by decide +kernel), mTs_of 1 (by decide +kernel) (by decide +kernel), ⟨by decide +kernel, by decide +kernel⟩, by decide +kernel⟩
theorem yvX6_setVariety : MYv yX6_setVariety := ⟨mTs_of 243 (by decide +kernel) (by decide +kernel), mTs_of 244 (by decide +kernel) (by decide +kernel)⟩
theorem ykX6_setRates : MYk yX6_setRates cX6_setRates 6 (some .int) 4 := ⟨mTs_of 299 (by decide +kernel) (by decide +kernel), mTs_of 1 (by decide +kernel) (by decide +kernel), ⟨by decide +kernel, by decide +kernel⟩, by decide +kernel⟩
theorem yvX6_setRates : MYv yX6_setRates := ⟨mTs_of 297 (by decide +kernel) (by decide +kernel), mTs_of 298 (by decide +kernel) (by decide +kernel)⟩
theorem ykX6_setLabel : MYk yX6_setLabel cX6_setLabel 8 (some .int) 6 := ⟨mTs_of 307 (by decide +kernel) (by decide +kernel), mTs_of 1 (by decide +kernel) (by decide +kernel), ⟨by decide +kernel, by decide +kernel⟩, by decide +kernel⟩
theorem yvX6_setLabel : MYv yX6_setLabel := ⟨mTs_of 305 (by decide +kernel) (by decide +kernel), mTs_of 306 (by decide +kernel) (by decide +kernel)⟩
theorem ykX6_buy : MYk yX6_buy cX6_buy 4 (some .int) 2 := ⟨mTs_of 319 (by decide +kernel) (by decide +kernel), mTs_of 1 (by decide +kernel) (by decide +kernel), ⟨by decide +kernel, by decide +kernel⟩, by decide +kernel⟩
theorem yvX6_buy : MYv yX6_buy := ⟨mTs_of 317 (by decide +kernel) (by decide +kernel), mTs_of 318 (by decide +kernel) (by decide +kernel)⟩
theorem ykX6_addTank : MYk yX6_addTank cX6_addTank 3 (some .int) 1 := ⟨mTs_of 327 (by decide +kernel) (by decide +kernel), mTs_of 1 (by decide +kernel) (by decide +kernel), ⟨by decide +kernel, by decide +kernel⟩, by decide +kernel⟩
theorem yvX6_addTank : MYv yX6_addTank := ⟨mTs_of 325 (by decide +kernel) (by decide +kernel), mTs_of 326 (by decide +kernel) (by decide +kernel)⟩
theorem ykX6_press : MYk yX6_press cX6_press 5 (some .int) 3 := ⟨mTs_of 335 (by decide +kernel) (by decide +kernel), mTs_of 1 (by decide +kernel) (by decide +kernel), ⟨by decide +kernel, by decide +kernel⟩, by decide +kernel⟩
theorem yvX6_press : MYv yX6_press := ⟨mTs_of 333 (by decide +kernel) (by decide +kernel), mTs_of 334 (by decide +kernel) (by decide +kernel)⟩
theorem ykX6_wet : MYk yX6_wet cX6_wet 4 (some .int) 2 := ⟨mTs_of 367 (by decide +kernel) (by decide +kernel), mTs_of 1 (by decide +kernel) (by decide +kernel), ⟨by decide +kernel, by decide +kernel⟩, by decide +kernel⟩
theorem yvX6_wet : MYv yX6_wet := ⟨mTs_of 365 (by decide +kernel) (by decide +kernel), mTs_of 366 (by decide +kernel) (by decide +kernel)⟩
theorem ykX6_sellPomace : MYk yX6_sellPomace cX6_sellPomace 2 (some .int) 0 := ⟨mTs_of 375 (by decide +kernel) (by decide +kernel), mTs_of 1 (by decide +kernel) (by decide +kernel), ⟨by decide +kernel, by decide +kernel⟩, by decide +kernel⟩
theorem yvX6_sellPomace : MYv yX6_sellPomace := ⟨mTs_of 373 (by decide +kernel) (by decide +kernel), mTs_of 374 (by decide +kernel) (by decide +kernel)⟩
theorem ykX6_move : MYk yX6_move cX6_move 5 (some .int) 3 := ⟨mTs_of 383 (by decide +kernel) (by decide +kernel), mTs_of 1 (by decide +kernel) (by decide +kernel), ⟨by decide +kernel, by decide +kernel⟩, by decide +kernel⟩
theorem yvX6_move : MYv yX6_move := ⟨mTs_of 381 (by decide +kernel) (by decide +kernel), mTs_of 382 (by decide +kernel) (by decide +kernel)⟩
theorem ykX6_rack : MYk yX6_rack cX6_rack 4 (some .int) 2 := ⟨mTs_of 405 (by decide +kernel) (by decide +kernel), mTs_of 1 (by decide +kernel) (by decide +kernel), ⟨by decide +kernel, by decide +kernel⟩, by decide +kernel⟩
theorem yvX6_rack : MYv yX6_rack := ⟨mTs_of 403 (by decide +kernel) (by decide +kernel), mTs_of 404 (by decide +kernel) (by decide +kernel)⟩
theorem ykX6_clean : MYk yX6_clean cX6_clean 3 (some .int) 1 := ⟨mTs_of 414 (by decide +kernel) (by decide +kernel), mTs_of 1 (by decide +kernel) (by decide +kernel), ⟨by decide +kernel, by decide +kernel⟩, by decide +kernel⟩
theorem yvX6_clean : MYv yX6_clean := ⟨mTs_of 412 (by decide +kernel) (by decide +kernel), mTs_of 413 (by decide +kernel) (by decide +kernel)⟩
theorem ykX6_pour : MYk yX6_pour cX6_pour 3 (some .int) 1 := ⟨mTs_of 422 (by decide +kernel) (by decide +kernel), mTs_of 1 (by decide +kernel) (by decide +kernel), ⟨by decide +kernel, by decide +kernel⟩, by decide +kernel⟩
theorem yvX6_pour : MYv yX6_pour := ⟨mTs_of 420 (by decide +kernel) (by decide +kernel), mTs_of 421 (by decide +kernel) (by decide +kernel)⟩
theorem ykX6_bottle : MYk yX6_bottle cX6_bottle 6 (some .int) 4 := ⟨mTs_of 431 (by decide +kernel) (by decide +kernel), mTs_of 1 (by decide +kernel) (by decide +kernel), ⟨by decide +kernel, by decide +kernel⟩, by decide +kernel⟩
theorem yvX6_bottle : MYv yX6_bottle := ⟨mTs_of 429 (by decide +kernel) (by decide +kernel), mTs_of 430 (by decide +kernel) (by decide +kernel)⟩
theorem ykX6_day : MYk yX6_day cX6_day 2 (some .int) 0 := ⟨mTs_of 455 (by decide +kernel) (by decide +kernel), mTs_of 1 (by decide +kernel) (by decide +kernel), ⟨by decide +kernel, by decide +kernel⟩, by decide +kernel⟩
theorem yvX6_day : MYv yX6_day := ⟨mTs_of 453 (by decide +kernel) (by decide +kernel), mTs_of 454 (by decide +kernel) (by decide +kernel)⟩
theorem ykX6_appendCharacter : MYk yX6_appendCharacter cX6_appendCharacter 2 (some .int) 1 := ⟨mTs_of 468 (by decide +kernel) (by decide +kernel), mTs_of 1 (by decide +kernel) (by decide +kernel), ⟨by decide +kernel, by decide +kernel⟩, by decide +kernel⟩
theorem yvX6_appendCharacter : MYv yX6_appendCharacter := ⟨mTs_of 466 (by decide +kernel) (by decide +kernel), mTs_of 467 (by decide +kernel) (by decide +kernel)⟩
theorem ykX6_clearText : MYk yX6_clearText cX6_clearText 1 (some .int) 0 := ⟨mTs_of 478 (by decide +kernel) (by decide +kernel), mTs_of 1 (by decide +kernel) (by decide +kernel), ⟨by decide +kernel, by decide +kernel⟩, by decide +kernel⟩
theorem yvX6_clearText : MYv yX6_clearText := ⟨mTs_of 476 (by decide +kernel) (by decide +kernel), mTs_of 477 (by decide +kernel) (by decide +kernel)⟩
theorem ykX6_perform : MYk yX6_perform cX6_perform 6 (some .int) 2 := ⟨mTs_of 588 (by decide +kernel) (by decide +kernel), mTs_of 1 (by decide +kernel) (by decide +kernel), ⟨by decide +kernel, by decide +kernel⟩, by decide +kernel⟩
theorem yvX6_perform : MYv yX6_perform := ⟨mTs_of 587 (by decide +kernel) (by decide +kernel), mTs_sel (q := (yX6_perform, 6)) 15 (by decide +kernel)⟩
theorem ykX6_runScript : MYk yX6_runScript cX6_runScript 4 (some .int) 0 := ⟨mTs_of 486 (by decide +kernel) (by decide +kernel), mTs_of 1 (by decide +kernel) (by decide +kernel), ⟨by decide +kernel, by decide +kernel⟩, by decide +kernel⟩
theorem yvX6_runScript : MYv yX6_runScript := ⟨mTs_of 484 (by decide +kernel) (by decide +kernel), mTs_of 485 (by decide +kernel) (by decide +kernel)⟩
theorem ykX6_count : MYk yX6_count cX6_count 3 (some .int) 1 := ⟨mTs_of 597 (by decide +kernel) (by decide +kernel), mTs_of 1 (by decide +kernel) (by decide +kernel), ⟨by decide +kernel, by decide +kernel⟩, by decide +kernel⟩
theorem yvX6_count : MYv yX6_count := ⟨mTs_of 595 (by decide +kernel) (by decide +kernel), mTs_of 596 (by decide +kernel) (by decide +kernel)⟩
theorem ykX6_lot : MYk yX6_lot cX6_lot 4 (some .int) 2 := ⟨mTs_of 601 (by decide +kernel) (by decide +kernel), mTs_of 1 (by decide +kernel) (by decide +kernel), ⟨by decide +kernel, by decide +kernel⟩, by decide +kernel⟩
theorem yvX6_lot : MYv yX6_lot := ⟨mTs_of 599 (by decide +kernel) (by decide +kernel), mTs_of 600 (by decide +kernel) (by decide +kernel)⟩
theorem ykX6_variety : MYk yX6_variety cX6_variety 3 (some .int) 2 := ⟨mTs_of 606 (by decide +kernel) (by decide +kernel), mTs_of 1 (by decide +kernel) (by decide +kernel), ⟨by decide +kernel, by decide +kernel⟩, by decide +kernel⟩
theorem yvX6_variety : MYv yX6_variety := ⟨mTs_of 604 (by decide +kernel) (by decide +kernel), mTs_of 605 (by decide +kernel) (by decide +kernel)⟩
theorem ykX6_tank : MYk yX6_tank cX6_tank 4 (some .int) 2 := ⟨mTs_of 614 (by decide +kernel) (by decide +kernel), mTs_of 1 (by decide +kernel) (by decide +kernel), ⟨by decide +kernel, by decide +kernel⟩, by decide +kernel⟩
theorem yvX6_tank : MYv yX6_tank := ⟨mTs_of 612 (by decide +kernel) (by decide +kernel), mTs_of 613 (by decide +kernel) (by decide +kernel)⟩
theorem ykX6_share : MYk yX6_share cX6_share 5 (some .int) 2 := ⟨mTs_of 624 (by decide +kernel) (by decide +kernel), mTs_of 1 (by decide +kernel) (by decide +kernel), ⟨by decide +kernel, by decide +kernel⟩, by decide +kernel⟩
theorem yvX6_share : MYv yX6_share := ⟨mTs_of 622 (by decide +kernel) (by decide +kernel), mTs_of 623 (by decide +kernel) (by decide +kernel)⟩
theorem ykX6_why : MYk yX6_why cX6_why 4 (some .int) 2 := ⟨mTs_of 629 (by decide +kernel) (by decide +kernel), mTs_of 1 (by decide +kernel) (by decide +kernel), ⟨by decide +kernel, by decide +kernel⟩, by decide +kernel⟩
theorem yvX6_why : MYv yX6_why := ⟨mTs_of 627 (by decide +kernel) (by decide +kernel), mTs_of 628 (by decide +kernel) (by decide +kernel)⟩
theorem ykX6_account : MYk yX6_account cX6_account 2 (some .int) 1 := ⟨mTs_of 634 (by decide +kernel) (by decide +kernel), mTs_of 1 (by decide +kernel) (by decide +kernel), ⟨by decide +kernel, by decide +kernel⟩, by decide +kernel⟩
theorem yvX6_account : MYv yX6_account := ⟨mTs_of 632 (by decide +kernel) (by decide +kernel), mTs_of 633 (by decide +kernel) (by decide +kernel)⟩
theorem ykX6_bottles : MYk yX6_bottles cX6_bottles 3 (some .int) 2 := ⟨mTs_of 654 (by decide +kernel) (by decide +kernel), mTs_of 1 (by decide +kernel) (by decide +kernel), ⟨by decide +kernel, by decide +kernel⟩, by decide +kernel⟩
theorem yvX6_bottles : MYv yX6_bottles := ⟨mTs_of 652 (by decide +kernel) (by decide +kernel), mTs_of 653 (by decide +kernel) (by decide +kernel)⟩
theorem ykX6_daysTo : MYk yX6_daysTo cX6_daysTo 5 (some .int) 2 := ⟨mTs_of 658 (by decide +kernel) (by decide +kernel), mTs_of 1 (by decide +kernel) (by decide +kernel), ⟨by decide +kernel, by decide +kernel⟩, by decide +kernel⟩
theorem yvX6_daysTo : MYv yX6_daysTo := ⟨mTs_of 656 (by decide +kernel) (by decide +kernel), mTs_of 657 (by decide +kernel) (by decide +kernel)⟩
theorem ykX6_blendFor : MYk yX6_blendFor cX6_blendFor 10 (some .int) 3 := ⟨mTs_of 664 (by decide +kernel) (by decide +kernel), mTs_of 1 (by decide +kernel) (by decide +kernel), ⟨by decide +kernel, by decide +kernel⟩, by decide +kernel⟩
theorem yvX6_blendFor : MYv yX6_blendFor := ⟨mTs_of 662 (by decide +kernel) (by decide +kernel), mTs_of 663 (by decide +kernel) (by decide +kernel)⟩
theorem ykX6_undo : MYk yX6_undo cX6_undo 1 (some .int) 0 := ⟨mTs_of 674 (by decide +kernel) (by decide +kernel), mTs_of 1 (by decide +kernel) (by decide +kernel), ⟨by decide +kernel, by decide +kernel⟩, by decide +kernel⟩
theorem yvX6_undo : MYv yX6_undo := ⟨mTs_of 672 (by decide +kernel) (by decide +kernel), mTs_of 673 (by decide +kernel) (by decide +kernel)⟩
theorem ykX7_in : MYk yX7_in cX7_in 3 (some .boolean) 3 := ⟨mTs_of 734 (by decide +kernel) (by decide +kernel), mTs_of 8 (by decide +kernel) (by decide +kernel), ⟨by decide +kernel, by decide +kernel⟩, by decide +kernel⟩
theorem ysX7_in : Cond.static yX7_in ∈ mTs := mTs_of 733 (by decide +kernel) (by decide +kernel)
theorem ykX7_edits : MYk yX7_edits cX7_edits 2 (none) 0 := ⟨mTs_of 738 (by decide +kernel) (by decide +kernel), mTs_of 8 (by decide +kernel) (by decide +kernel), ⟨by decide +kernel, by decide +kernel⟩, by decide +kernel⟩
theorem yvX7_edits : MYv yX7_edits := ⟨mTs_of 737 (by decide +kernel) (by decide +kernel), mTs_sel (q := (yX7_edits, 14)) 19 (by decide +kernel)⟩
theorem ykX7_undo : MYk yX7_undo cX7_undo 2 (some .int) 0 := ⟨mTs_of 727 (by decide +kernel) (by decide +kernel), mTs_of 8 (by decide +kernel) (by decide +kernel), ⟨by decide +kernel, by decide +kernel⟩, by decide +kernel⟩
theorem yvX7_undo : MYv yX7_undo := ⟨mTs_of 725 (by decide +kernel) (by decide +kernel), mTs_of 726 (by decide +kernel) (by decide +kernel)⟩
theorem ykX7_refuses : MYk yX7_refuses cX7_refuses 2 (some .int) 1 := ⟨mTs_of 782 (by decide +kernel) (by decide +kernel), mTs_of 8 (by decide +kernel) (by decide +kernel), ⟨by decide +kernel, by decide +kernel⟩, by decide +kernel⟩
theorem yvX7_refuses : MYv yX7_refuses := ⟨mTs_of 781 (by decide +kernel) (by decide +kernel), mTs_sel (q := (yX7_refuses, 14)) 25 (by decide +kernel)⟩
theorem ykX7_keeps : MYk yX7_keeps cX7_keeps 2 (none) 0 := ⟨mTs_of 766 (by decide +kernel) (by decide +kernel), mTs_of 8 (by decide +kernel) (by decide +kernel), ⟨by decide +kernel, by decide +kernel⟩, by decide +kernel⟩
theorem yvX7_keeps : MYv yX7_keeps := ⟨mTs_of 765 (by decide +kernel) (by decide +kernel), mTs_sel (q := (yX7_keeps, 14)) 21 (by decide +kernel)⟩
theorem ykX7_restores : MYk yX7_restores cX7_restores 2 (none) 0 := ⟨mTs_of 929 (by decide +kernel) (by decide +kernel), mTs_of 8 (by decide +kernel) (by decide +kernel), ⟨by decide +kernel, by decide +kernel⟩, by decide +kernel⟩
theorem yvX7_restores : MYv yX7_restores := ⟨mTs_of 928 (by decide +kernel) (by decide +kernel), mTs_sel (q := (yX7_restores, 14)) 47 (by decide +kernel)⟩
theorem ykX7_changes : MYk yX7_changes cX7_changes 4 (some .int) 2 := ⟨mTs_of 746 (by decide +kernel) (by decide +kernel), mTs_of 8 (by decide +kernel) (by decide +kernel), ⟨by decide +kernel, by decide +kernel⟩, by decide +kernel⟩
theorem yvX7_changes : MYv yX7_changes := ⟨mTs_of 745 (by decide +kernel) (by decide +kernel), mTs_sel (q := (yX7_changes, 14)) 20 (by decide +kernel)⟩
theorem ykX7_setVariety : MYk yX7_setVariety cX7_setVariety 6 (some .int) 4 := ⟨mTs_of 731 (by decide +kernel) (by decide +kernel), mTs_of 8 (by decide +kernel) (by decide +kernel), ⟨by decide +kernel, by decide +kernel⟩, by decide +kernel⟩
theorem yvX7_setVariety : MYv yX7_setVariety := ⟨mTs_of 729 (by decide +kernel) (by decide +kernel), mTs_of 730 (by decide +kernel) (by decide +kernel)⟩
theorem ykX7_setRates : MYk yX7_setRates cX7_setRates 6 (some .int) 4 := ⟨mTs_of 742 (by decide +kernel) (by decide +kernel), mTs_of 8 (by decide +kernel) (by decide +kernel), ⟨by decide +kernel, by decide +kernel⟩, by decide +kernel⟩
theorem yvX7_setRates : MYv yX7_setRates := ⟨mTs_of 740 (by decide +kernel) (by decide +kernel), mTs_of 741 (by decide +kernel) (by decide +kernel)⟩
theorem ykX7_setLabel : MYk yX7_setLabel cX7_setLabel 10 (some .int) 6 := ⟨mTs_of 750 (by decide +kernel) (by decide +kernel), mTs_of 8 (by decide +kernel) (by decide +kernel), ⟨by decide +kernel, by decide +kernel⟩, by decide +kernel⟩
theorem yvX7_setLabel : MYv yX7_setLabel := ⟨mTs_of 748 (by decide +kernel) (by decide +kernel), mTs_of 749 (by decide +kernel) (by decide +kernel)⟩
theorem ykX7_isLot : MYk yX7_isLot cX7_isLot 2 (some .boolean) 1 := ⟨mTs_of 774 (by decide +kernel) (by decide +kernel), mTs_of 8 (by decide +kernel) (by decide +kernel), ⟨by decide +kernel, by decide +kernel⟩, by decide +kernel⟩
theorem yvX7_isLot : MYv yX7_isLot := ⟨mTs_of 773 (by decide +kernel) (by decide +kernel), mTs_sel (q := (yX7_isLot, 14)) 23 (by decide +kernel)⟩
theorem ykX7_isTank : MYk yX7_isTank cX7_isTank 2 (some .boolean) 1 := ⟨mTs_of 778 (by decide +kernel) (by decide +kernel), mTs_of 8 (by decide +kernel) (by decide +kernel), ⟨by decide +kernel, by decide +kernel⟩, by decide +kernel⟩
theorem yvX7_isTank : MYv yX7_isTank := ⟨mTs_of 777 (by decide +kernel) (by decide +kernel), mTs_sel (q := (yX7_isTank, 14)) 24 (by decide +kernel)⟩
theorem ykX7_of : MYk yX7_of cX7_of 3 (some .int) 2 := ⟨mTs_of 790 (by decide +kernel) (by decide +kernel), mTs_of 8 (by decide +kernel) (by decide +kernel), ⟨by decide +kernel, by decide +kernel⟩, by decide +kernel⟩
theorem yvX7_of : MYv yX7_of := ⟨mTs_of 789 (by decide +kernel) (by decide +kernel), mTs_sel (q := (yX7_of, 14)) 27 (by decide +kernel)⟩
theorem ykX7_adds : MYk yX7_adds cX7_adds 4 (none) 3 := ⟨mTs_of 794 (by decide +kernel) (by decide +kernel), mTs_of 8 (by decide +kernel) (by decide +kernel), ⟨by decide +kernel, by decide +kernel⟩, by decide +kernel⟩
theorem yvX7_adds : MYv yX7_adds := ⟨mTs_of 793 (by decide +kernel) (by decide +kernel), mTs_sel (q := (yX7_adds, 14)) 28 (by decide +kernel)⟩
theorem ykX7_left : MYk yX7_left cX7_left 2 (some .int) 1 := ⟨mTs_of 786 (by decide +kernel) (by decide +kernel), mTs_of 8 (by decide +kernel) (by decide +kernel), ⟨by decide +kernel, by decide +kernel⟩, by decide +kernel⟩
theorem yvX7_left : MYv yX7_left := ⟨mTs_of 785 (by decide +kernel) (by decide +kernel), mTs_sel (q := (yX7_left, 14)) 26 (by decide +kernel)⟩
theorem ykX7_buy : MYk yX7_buy cX7_buy 3 (some .int) 2 := ⟨mTs_of 754 (by decide +kernel) (by decide +kernel), mTs_of 8 (by decide +kernel) (by decide +kernel), ⟨by decide +kernel, by decide +kernel⟩, by decide +kernel⟩
theorem yvX7_buy : MYv yX7_buy := ⟨mTs_of 752 (by decide +kernel) (by decide +kernel), mTs_of 753 (by decide +kernel) (by decide +kernel)⟩
theorem ykX7_addTank : MYk yX7_addTank cX7_addTank 3 (some .int) 1 := ⟨mTs_of 758 (by decide +kernel) (by decide +kernel), mTs_of 8 (by decide +kernel) (by decide +kernel), ⟨by decide +kernel, by decide +kernel⟩, by decide +kernel⟩
theorem yvX7_addTank : MYv yX7_addTank := ⟨mTs_of 756 (by decide +kernel) (by decide +kernel), mTs_of 757 (by decide +kernel) (by decide +kernel)⟩
theorem ykX7_presses : MYk yX7_presses cX7_presses 6 (some .int) 3 := ⟨mTs_of 770 (by decide +kernel) (by decide +kernel), mTs_of 8 (by decide +kernel) (by decide +kernel), ⟨by decide +kernel, by decide +kernel⟩, by decide +kernel⟩
theorem yvX7_presses : MYv yX7_presses := ⟨mTs_of 769 (by decide +kernel) (by decide +kernel), mTs_sel (q := (yX7_presses, 14)) 22 (by decide +kernel)⟩
theorem ykX7_wets : MYk yX7_wets cX7_wets 4 (some .int) 2 := ⟨mTs_of 810 (by decide +kernel) (by decide +kernel), mTs_of 8 (by decide +kernel) (by decide +kernel), ⟨by decide +kernel, by decide +kernel⟩, by decide +kernel⟩
theorem yvX7_wets : MYv yX7_wets := ⟨mTs_of 809 (by decide +kernel) (by decide +kernel), mTs_sel (q := (yX7_wets, 14)) 31 (by decide +kernel)⟩
theorem ykX7_carries : MYk yX7_carries cX7_carries 8 (some .int) 3 := ⟨mTs_of 830 (by decide +kernel) (by decide +kernel), mTs_of 8 (by decide +kernel) (by decide +kernel), ⟨by decide +kernel, by decide +kernel⟩, by decide +kernel⟩
theorem yvX7_carries : MYv yX7_carries := ⟨mTs_of 829 (by decide +kernel) (by decide +kernel), mTs_sel (q := (yX7_carries, 14)) 34 (by decide +kernel)⟩
theorem ykX7_areTwo : MYk yX7_areTwo cX7_areTwo 3 (some .boolean) 2 := ⟨mTs_of 826 (by decide +kernel) (by decide +kernel), mTs_of 8 (by decide +kernel) (by decide +kernel), ⟨by decide +kernel, by decide +kernel⟩, by decide +kernel⟩
theorem yvX7_areTwo : MYv yX7_areTwo := ⟨mTs_of 825 (by decide +kernel) (by decide +kernel), mTs_sel (q := (yX7_areTwo, 14)) 33 (by decide +kernel)⟩
theorem ykX7_moves : MYk yX7_moves cX7_moves 4 (some .int) 3 := ⟨mTs_of 822 (by decide +kernel) (by decide +kernel), mTs_of 8 (by decide +kernel) (by decide +kernel), ⟨by decide +kernel, by decide +kernel⟩, by decide +kernel⟩
theorem yvX7_moves : MYv yX7_moves := ⟨mTs_of 821 (by decide +kernel) (by decide +kernel), mTs_sel (q := (yX7_moves, 14)) 32 (by decide +kernel)⟩
theorem ykX7_racks : MYk yX7_racks cX7_racks 5 (some .int) 2 := ⟨mTs_of 838 (by decide +kernel) (by decide +kernel), mTs_of 8 (by decide +kernel) (by decide +kernel), ⟨by decide +kernel, by decide +kernel⟩, by decide +kernel⟩
theorem yvX7_racks : MYv yX7_racks := ⟨mTs_of 837 (by decide +kernel) (by decide +kernel), mTs_sel (q := (yX7_racks, 14)) 35 (by decide +kernel)⟩
theorem ykX7_cleans : MYk yX7_cleans cX7_cleans 3 (some .int) 1 := ⟨mTs_of 846 (by decide +kernel) (by decide +kernel), mTs_of 8 (by decide +kernel) (by decide +kernel), ⟨by decide +kernel, by decide +kernel⟩, by decide +kernel⟩
theorem yvX7_cleans : MYv yX7_cleans := ⟨mTs_of 845 (by decide +kernel) (by decide +kernel), mTs_sel (q := (yX7_cleans, 14)) 36 (by decide +kernel)⟩
theorem ykX7_bottled : MYk yX7_bottled cX7_bottled 4 (some .int) 1 := ⟨mTs_of 870 (by decide +kernel) (by decide +kernel), mTs_of 8 (by decide +kernel) (by decide +kernel), ⟨by decide +kernel, by decide +kernel⟩, by decide +kernel⟩
theorem yvX7_bottled : MYv yX7_bottled := ⟨mTs_of 869 (by decide +kernel) (by decide +kernel), mTs_sel (q := (yX7_bottled, 14)) 40 (by decide +kernel)⟩
theorem ykX7_portion : MYk yX7_portion cX7_portion 3 (some .int) 2 := ⟨mTs_of 866 (by decide +kernel) (by decide +kernel), mTs_of 8 (by decide +kernel) (by decide +kernel), ⟨by decide +kernel, by decide +kernel⟩, by decide +kernel⟩
theorem yvX7_portion : MYv yX7_portion := ⟨mTs_of 865 (by decide +kernel) (by decide +kernel), mTs_sel (q := (yX7_portion, 14)) 39 (by decide +kernel)⟩
theorem ykX7_forbids : MYk yX7_forbids cX7_forbids 6 (some .int) 2 := ⟨mTs_of 862 (by decide +kernel) (by decide +kernel), mTs_of 8 (by decide +kernel) (by decide +kernel), ⟨by decide +kernel, by decide +kernel⟩, by decide +kernel⟩
theorem yvX7_forbids : MYv yX7_forbids := ⟨mTs_of 861 (by decide +kernel) (by decide +kernel), mTs_sel (q := (yX7_forbids, 14)) 38 (by decide +kernel)⟩
theorem ykX7_fillsBottles : MYk yX7_fillsBottles cX7_fillsBottles 8 (some .int) 5 := ⟨mTs_of 858 (by decide +kernel) (by decide +kernel), mTs_of 8 (by decide +kernel) (by decide +kernel), ⟨by decide +kernel, by decide +kernel⟩, by decide +kernel⟩
theorem yvX7_fillsBottles : MYv yX7_fillsBottles := ⟨mTs_of 857 (by decide +kernel) (by decide +kernel), mTs_sel (q := (yX7_fillsBottles, 14)) 37 (by decide +kernel)⟩
theorem ykX7_works : MYk yX7_works cX7_works 4 (none) 1 := ⟨mTs_of 882 (by decide +kernel) (by decide +kernel), mTs_of 8 (by decide +kernel) (by decide +kernel), ⟨by decide +kernel, by decide +kernel⟩, by decide +kernel⟩
theorem yvX7_works : MYv yX7_works := ⟨mTs_of 881 (by decide +kernel) (by decide +kernel), mTs_sel (q := (yX7_works, 14)) 42 (by decide +kernel)⟩
theorem ykX7_days : MYk yX7_days cX7_days 3 (some .int) 0 := ⟨mTs_of 878 (by decide +kernel) (by decide +kernel), mTs_of 8 (by decide +kernel) (by decide +kernel), ⟨by decide +kernel, by decide +kernel⟩, by decide +kernel⟩
theorem yvX7_days : MYv yX7_days := ⟨mTs_of 877 (by decide +kernel) (by decide +kernel), mTs_sel (q := (yX7_days, 14)) 41 (by decide +kernel)⟩
theorem ykX7_exchanges : MYk yX7_exchanges cX7_exchanges 3 (none) 0 := ⟨mTs_of 802 (by decide +kernel) (by decide +kernel), mTs_of 8 (by decide +kernel) (by decide +kernel), ⟨by decide +kernel, by decide +kernel⟩, by decide +kernel⟩
theorem yvX7_exchanges : MYv yX7_exchanges := ⟨mTs_of 801 (by decide +kernel) (by decide +kernel), mTs_sel (q := (yX7_exchanges, 14)) 30 (by decide +kernel)⟩
theorem ykX7_done : MYk yX7_done cX7_done 2 (some .int) 1 := ⟨mTs_of 798 (by decide +kernel) (by decide +kernel), mTs_of 8 (by decide +kernel) (by decide +kernel), ⟨by decide +kernel, by decide +kernel⟩, by decide +kernel⟩
theorem yvX7_done : MYv yX7_done := ⟨mTs_of 797 (by decide +kernel) (by decide +kernel), mTs_sel (q := (yX7_done, 14)) 29 (by decide +kernel)⟩
theorem ykX7_press : MYk yX7_press cX7_press 4 (some .int) 3 := ⟨mTs_of 762 (by decide +kernel) (by decide +kernel), mTs_of 8 (by decide +kernel) (by decide +kernel), ⟨by decide +kernel, by decide +kernel⟩, by decide +kernel⟩
theorem yvX7_press : MYv yX7_press := ⟨mTs_of 760 (by decide +kernel) (by decide +kernel), mTs_of 761 (by decide +kernel) (by decide +kernel)⟩
theorem ykX7_wet : MYk yX7_wet cX7_wet 3 (some .int) 2 := ⟨mTs_of 806 (by decide +kernel) (by decide +kernel), mTs_of 8 (by decide +kernel) (by decide +kernel), ⟨by decide +kernel, by decide +kernel⟩, by decide +kernel⟩
theorem yvX7_wet : MYv yX7_wet := ⟨mTs_of 804 (by decide +kernel) (by decide +kernel), mTs_of 805 (by decide +kernel) (by decide +kernel)⟩
theorem ykX7_sellPomace : MYk yX7_sellPomace cX7_sellPomace 2 (some .int) 0 := ⟨mTs_of 814 (by decide +kernel) (by decide +kernel), mTs_of 8 (by decide +kernel) (by decide +kernel), ⟨by decide +kernel, by decide +kernel⟩, by decide +kernel⟩
theorem yvX7_sellPomace : MYv yX7_sellPomace := ⟨mTs_of 812 (by decide +kernel) (by decide +kernel), mTs_of 813 (by decide +kernel) (by decide +kernel)⟩
theorem ykX7_move : MYk yX7_move cX7_move 4 (some .int) 3 := ⟨mTs_of 818 (by decide +kernel) (by decide +kernel), mTs_of 8 (by decide +kernel) (by decide +kernel), ⟨by decide +kernel, by decide +kernel⟩, by decide +kernel⟩
theorem yvX7_move : MYv yX7_move := ⟨mTs_of 816 (by decide +kernel) (by decide +kernel), mTs_of 817 (by decide +kernel) (by decide +kernel)⟩
theorem ykX7_rack : MYk yX7_rack cX7_rack 3 (some .int) 2 := ⟨mTs_of 834 (by decide +kernel) (by decide +kernel), mTs_of 8 (by decide +kernel) (by decide +kernel), ⟨by decide +kernel, by decide +kernel⟩, by decide +kernel⟩
theorem yvX7_rack : MYv yX7_rack := ⟨mTs_of 832 (by decide +kernel) (by decide +kernel), mTs_of 833 (by decide +kernel) (by decide +kernel)⟩
theorem ykX7_clean : MYk yX7_clean cX7_clean 2 (some .int) 1 := ⟨mTs_of 842 (by decide +kernel) (by decide +kernel), mTs_of 8 (by decide +kernel) (by decide +kernel), ⟨by decide +kernel, by decide +kernel⟩, by decide +kernel⟩
theorem yvX7_clean : MYv yX7_clean := ⟨mTs_of 840 (by decide +kernel) (by decide +kernel), mTs_of 841 (by decide +kernel) (by decide +kernel)⟩
theorem ykX7_pour : MYk yX7_pour cX7_pour 4 (some .int) 1 := ⟨mTs_of 850 (by decide +kernel) (by decide +kernel), mTs_of 8 (by decide +kernel) (by decide +kernel), ⟨by decide +kernel, by decide +kernel⟩, by decide +kernel⟩
theorem yvX7_pour : MYv yX7_pour := ⟨mTs_of 848 (by decide +kernel) (by decide +kernel), mTs_of 849 (by decide +kernel) (by decide +kernel)⟩
theorem ykX7_bottle : MYk yX7_bottle cX7_bottle 5 (some .int) 4 := ⟨mTs_of 854 (by decide +kernel) (by decide +kernel), mTs_of 8 (by decide +kernel) (by decide +kernel), ⟨by decide +kernel, by decide +kernel⟩, by decide +kernel⟩
theorem yvX7_bottle : MYv yX7_bottle := ⟨mTs_of 852 (by decide +kernel) (by decide +kernel), mTs_of 853 (by decide +kernel) (by decide +kernel)⟩
theorem ykX7_day : MYk yX7_day cX7_day 1 (some .int) 0 := ⟨mTs_of 874 (by decide +kernel) (by decide +kernel), mTs_of 8 (by decide +kernel) (by decide +kernel), ⟨by decide +kernel, by decide +kernel⟩, by decide +kernel⟩
theorem yvX7_day : MYv yX7_day := ⟨mTs_of 872 (by decide +kernel) (by decide +kernel), mTs_of 873 (by decide +kernel) (by decide +kernel)⟩
theorem ykX7_appendCharacter : MYk yX7_appendCharacter cX7_appendCharacter 2 (some .int) 1 := ⟨mTs_of 886 (by decide +kernel) (by decide +kernel), mTs_of 8 (by decide +kernel) (by decide +kernel), ⟨by decide +kernel, by decide +kernel⟩, by decide +kernel⟩
theorem yvX7_appendCharacter : MYv yX7_appendCharacter := ⟨mTs_of 884 (by decide +kernel) (by decide +kernel), mTs_of 885 (by decide +kernel) (by decide +kernel)⟩
theorem ykX7_clearText : MYk yX7_clearText cX7_clearText 2 (some .int) 0 := ⟨mTs_of 890 (by decide +kernel) (by decide +kernel), mTs_of 8 (by decide +kernel) (by decide +kernel), ⟨by decide +kernel, by decide +kernel⟩, by decide +kernel⟩
theorem yvX7_clearText : MYv yX7_clearText := ⟨mTs_of 888 (by decide +kernel) (by decide +kernel), mTs_of 889 (by decide +kernel) (by decide +kernel)⟩
theorem ykX7_goes : MYk yX7_goes cX7_goes 4 (some .boolean) 0 := ⟨mTs_of 902 (by decide +kernel) (by decide +kernel), mTs_of 8 (by decide +kernel) (by decide +kernel), ⟨by decide +kernel, by decide +kernel⟩, by decide +kernel⟩
theorem yvX7_goes : MYv yX7_goes := ⟨mTs_of 901 (by decide +kernel) (by decide +kernel), mTs_sel (q := (yX7_goes, 14)) 44 (by decide +kernel)⟩
theorem ykX7_wants : MYk yX7_wants cX7_wants 2 (some .int) 1 := ⟨mTs_of 911 (by decide +kernel) (by decide +kernel), mTs_of 8 (by decide +kernel) (by decide +kernel), ⟨by decide +kernel, by decide +kernel⟩, by decide +kernel⟩
theorem ysX7_wants : Cond.static yX7_wants ∈ mTs := mTs_of 910 (by decide +kernel) (by decide +kernel)
theorem ykX7_kind : MYk yX7_kind cX7_kind 2 (some .int) 1 := ⟨mTs_of 921 (by decide +kernel) (by decide +kernel), mTs_of 8 (by decide +kernel) (by decide +kernel), ⟨by decide +kernel, by decide +kernel⟩, by decide +kernel⟩
theorem ysX7_kind : Cond.static yX7_kind ∈ mTs := mTs_of 920 (by decide +kernel) (by decide +kernel)
theorem ykX7_readsCommand : MYk yX7_readsCommand cX7_readsCommand 3 (some .boolean) 0 := ⟨mTs_of 908 (by decide +kernel) (by decide +kernel), mTs_of 8 (by decide +kernel) (by decide +kernel), ⟨by decide +kernel, by decide +kernel⟩, by decide +kernel⟩
theorem yvX7_readsCommand : MYv yX7_readsCommand := ⟨mTs_of 907 (by decide +kernel) (by decide +kernel), mTs_sel (q := (yX7_readsCommand, 14)) 45 (by decide +kernel)⟩
theorem ykX7_reads : MYk yX7_reads cX7_reads 1 (some .boolean) 0 := ⟨mTs_of 898 (by decide +kernel) (by decide +kernel), mTs_of 8 (by decide +kernel) (by decide +kernel), ⟨by decide +kernel, by decide +kernel⟩, by decide +kernel⟩
theorem yvX7_reads : MYv yX7_reads := ⟨mTs_of 897 (by decide +kernel) (by decide +kernel), mTs_sel (q := (yX7_reads, 14)) 43 (by decide +kernel)⟩
theorem ykX7_does : MYk yX7_does cX7_does 3 (some .int) 1 := ⟨mTs_of 925 (by decide +kernel) (by decide +kernel), mTs_of 8 (by decide +kernel) (by decide +kernel), ⟨by decide +kernel, by decide +kernel⟩, by decide +kernel⟩
theorem yvX7_does : MYv yX7_does := ⟨mTs_of 924 (by decide +kernel) (by decide +kernel), mTs_sel (q := (yX7_does, 14)) 46 (by decide +kernel)⟩
theorem ykX7_runScript : MYk yX7_runScript cX7_runScript 2 (some .int) 0 := ⟨mTs_of 894 (by decide +kernel) (by decide +kernel), mTs_of 8 (by decide +kernel) (by decide +kernel), ⟨by decide +kernel, by decide +kernel⟩, by decide +kernel⟩
theorem yvX7_runScript : MYv yX7_runScript := ⟨mTs_of 892 (by decide +kernel) (by decide +kernel), mTs_of 893 (by decide +kernel) (by decide +kernel)⟩
theorem ykX7_count : MYk yX7_count cX7_count 2 (some .int) 1 := ⟨mTs_of 933 (by decide +kernel) (by decide +kernel), mTs_of 8 (by decide +kernel) (by decide +kernel), ⟨by decide +kernel, by decide +kernel⟩, by decide +kernel⟩
theorem yvX7_count : MYv yX7_count := ⟨mTs_of 931 (by decide +kernel) (by decide +kernel), mTs_of 932 (by decide +kernel) (by decide +kernel)⟩
theorem ykX7_lot : MYk yX7_lot cX7_lot 3 (some .int) 2 := ⟨mTs_of 937 (by decide +kernel) (by decide +kernel), mTs_of 8 (by decide +kernel) (by decide +kernel), ⟨by decide +kernel, by decide +kernel⟩, by decide +kernel⟩
theorem yvX7_lot : MYv yX7_lot := ⟨mTs_of 935 (by decide +kernel) (by decide +kernel), mTs_of 936 (by decide +kernel) (by decide +kernel)⟩
theorem ykX7_variety : MYk yX7_variety cX7_variety 3 (some .int) 2 := ⟨mTs_of 941 (by decide +kernel) (by decide +kernel), mTs_of 8 (by decide +kernel) (by decide +kernel), ⟨by decide +kernel, by decide +kernel⟩, by decide +kernel⟩
theorem yvX7_variety : MYv yX7_variety := ⟨mTs_of 939 (by decide +kernel) (by decide +kernel), mTs_of 940 (by decide +kernel) (by decide +kernel)⟩
theorem ykX7_tank : MYk yX7_tank cX7_tank 3 (some .int) 2 := ⟨mTs_of 945 (by decide +kernel) (by decide +kernel), mTs_of 8 (by decide +kernel) (by decide +kernel), ⟨by decide +kernel, by decide +kernel⟩, by decide +kernel⟩
theorem yvX7_tank : MYv yX7_tank := ⟨mTs_of 943 (by decide +kernel) (by decide +kernel), mTs_of 944 (by decide +kernel) (by decide +kernel)⟩
theorem ykX7_share : MYk yX7_share cX7_share 3 (some .int) 2 := ⟨mTs_of 949 (by decide +kernel) (by decide +kernel), mTs_of 8 (by decide +kernel) (by decide +kernel), ⟨by decide +kernel, by decide +kernel⟩, by decide +kernel⟩
theorem yvX7_share : MYv yX7_share := ⟨mTs_of 947 (by decide +kernel) (by decide +kernel), mTs_of 948 (by decide +kernel) (by decide +kernel)⟩
theorem ykX7_why : MYk yX7_why cX7_why 3 (some .int) 2 := ⟨mTs_of 953 (by decide +kernel) (by decide +kernel), mTs_of 8 (by decide +kernel) (by decide +kernel), ⟨by decide +kernel, by decide +kernel⟩, by decide +kernel⟩
theorem yvX7_why : MYv yX7_why := ⟨mTs_of 951 (by decide +kernel) (by decide +kernel), mTs_of 952 (by decide +kernel) (by decide +kernel)⟩
theorem ykX7_account : MYk yX7_account cX7_account 4 (some .int) 1 := ⟨mTs_of 957 (by decide +kernel) (by decide +kernel), mTs_of 8 (by decide +kernel) (by decide +kernel), ⟨by decide +kernel, by decide +kernel⟩, by decide +kernel⟩
theorem yvX7_account : MYv yX7_account := ⟨mTs_of 955 (by decide +kernel) (by decide +kernel), mTs_of 956 (by decide +kernel) (by decide +kernel)⟩
theorem ykX7_bottles : MYk yX7_bottles cX7_bottles 3 (some .int) 2 := ⟨mTs_of 961 (by decide +kernel) (by decide +kernel), mTs_of 8 (by decide +kernel) (by decide +kernel), ⟨by decide +kernel, by decide +kernel⟩, by decide +kernel⟩
theorem yvX7_bottles : MYv yX7_bottles := ⟨mTs_of 959 (by decide +kernel) (by decide +kernel), mTs_of 960 (by decide +kernel) (by decide +kernel)⟩
theorem ykX7_daysTo : MYk yX7_daysTo cX7_daysTo 5 (some .int) 2 := ⟨mTs_of 965 (by decide +kernel) (by decide +kernel), mTs_of 8 (by decide +kernel) (by decide +kernel), ⟨by decide +kernel, by decide +kernel⟩, by decide +kernel⟩
theorem yvX7_daysTo : MYv yX7_daysTo := ⟨mTs_of 963 (by decide +kernel) (by decide +kernel), mTs_of 964 (by decide +kernel) (by decide +kernel)⟩
theorem ykX7_blendFor : MYk yX7_blendFor cX7_blendFor 8 (some .int) 3 := ⟨mTs_of 969 (by decide +kernel) (by decide +kernel), mTs_of 8 (by decide +kernel) (by decide +kernel), ⟨by decide +kernel, by decide +kernel⟩, by decide +kernel⟩
theorem yvX7_blendFor : MYv yX7_blendFor := ⟨mTs_of 967 (by decide +kernel) (by decide +kernel), mTs_of 968 (by decide +kernel) (by decide +kernel)⟩
theorem ykJ0_length_8abf5 : MYk yJ0_length_8abf5 cJ0_length_8abf5 1 (some .int) 0 := ⟨mTs_of 519 (by decide +kernel) (by decide +kernel), mTs_of 11 (by decide +kernel) (by decide +kernel), ⟨by decide +kernel, by decide +kernel⟩, by decide +kernel⟩
theorem yvJ0_length_8abf5 : MYv yJ0_length_8abf5 := ⟨mTs_of 517 (by decide +kernel) (by decide +kernel), mTs_of 518 (by decide +kernel) (by decide +kernel)⟩
theorem ykJ0_charAt_5068e : MYk yJ0_charAt_5068e cJ0_charAt_5068e 2 (some .char) 1 := ⟨mTs_of 529 (by decide +kernel) (by decide +kernel), mTs_of 11 (by decide +kernel) (by decide +kernel), ⟨by decide +kernel, by decide +kernel⟩, by decide +kernel⟩
theorem yvJ0_charAt_5068e : MYv yJ0_charAt_5068e := ⟨mTs_of 527 (by decide +kernel) (by decide +kernel), mTs_of 528 (by decide +kernel) (by decide +kernel)⟩
theorem ml_8_13 : Cond.methodLink (ownN 8) 13 yX6_setVariety ∈ mTs := mTs_of 242 (by decide +kernel) (by decide +kernel)
theorem ml_6_40 : Cond.methodLink (ownN 6) 40 yX6_draft ∈ mTs := mTs_of 246 (by decide +kernel) (by decide +kernel)
theorem ml_6_237 : Cond.methodLink (ownN 6) 237 yX6_nextPage ∈ mTs := mTs_of 250 (by decide +kernel) (by decide +kernel)
theorem ml_6_120 : Cond.methodLink (ownN 6) 120 yX6_books ∈ mTs := mTs_of 254 (by decide +kernel) (by decide +kernel)
theorem ml_6_240 : Cond.methodLink (ownN 6) 240 yX0_copyFrom ∈ mTs := mTs_of 258 (by decide +kernel) (by decide +kernel)
theorem ml_0_71 : Cond.methodLink (ownN 0) 71 yX5_copyFrom ∈ mTs := mTs_of 262 (by decide +kernel) (by decide +kernel)
theorem ml_0_75 : Cond.methodLink (ownN 0) 75 yX1_copyFrom ∈ mTs := mTs_of 266 (by decide +kernel) (by decide +kernel)
theorem ml_0_78 : Cond.methodLink (ownN 0) 78 yX2_copyFrom ∈ mTs := mTs_of 273 (by decide +kernel) (by decide +kernel)
theorem ml_0_81 : Cond.methodLink (ownN 0) 81 yX4_copyFrom ∈ mTs := mTs_of 277 (by decide +kernel) (by decide +kernel)
theorem ml_6_44 : Cond.methodLink (ownN 6) 44 yX0_changeVariety ∈ mTs := mTs_of 282 (by decide +kernel) (by decide +kernel)
theorem ml_0_90 : Cond.methodLinkNest (ownN 0) 90 yX6_within RX6 ∈ mTs := mTs_of 286 (by decide +kernel) (by decide +kernel)
theorem ml_6_48 : Cond.methodLink (ownN 6) 48 yX6_finish ∈ mTs := mTs_of 289 (by decide +kernel) (by decide +kernel)
theorem ml_6_228 : Cond.methodLink (ownN 6) 228 yJ9_min_7cf53 ∈ mTs := mTs_of 293 (by decide +kernel) (by decide +kernel)
theorem ml_8_18 : Cond.methodLink (ownN 8) 18 yX6_setRates ∈ mTs := mTs_of 296 (by decide +kernel) (by decide +kernel)
theorem ml_6_52 : Cond.methodLink (ownN 6) 52 yX0_changeRates ∈ mTs := mTs_of 300 (by decide +kernel) (by decide +kernel)
theorem ml_8_22 : Cond.methodLink (ownN 8) 22 yX6_setLabel ∈ mTs := mTs_of 304 (by decide +kernel) (by decide +kernel)
theorem ml_6_55 : Cond.methodLink (ownN 6) 55 yX0_changeLabel ∈ mTs := mTs_of 308 (by decide +kernel) (by decide +kernel)
theorem ml_0_103 : Cond.methodLink (ownN 0) 103 yX1_change ∈ mTs := mTs_of 312 (by decide +kernel) (by decide +kernel)
theorem ml_8_27 : Cond.methodLink (ownN 8) 27 yX6_buy ∈ mTs := mTs_of 316 (by decide +kernel) (by decide +kernel)
theorem ml_6_59 : Cond.methodLink (ownN 6) 59 yX0_buyLot ∈ mTs := mTs_of 320 (by decide +kernel) (by decide +kernel)
theorem ml_8_32 : Cond.methodLink (ownN 8) 32 yX6_addTank ∈ mTs := mTs_of 324 (by decide +kernel) (by decide +kernel)
theorem ml_6_63 : Cond.methodLink (ownN 6) 63 yX0_openTank ∈ mTs := mTs_of 328 (by decide +kernel) (by decide +kernel)
theorem ml_8_37 : Cond.methodLink (ownN 8) 37 yX6_press ∈ mTs := mTs_of 332 (by decide +kernel) (by decide +kernel)
theorem ml_6_67 : Cond.methodLink (ownN 6) 67 yX0_pressLot ∈ mTs := mTs_of 336 (by decide +kernel) (by decide +kernel)
theorem ml_0_116 : Cond.methodLink (ownN 0) 116 yX0_hasLot ∈ mTs := mTs_of 340 (by decide +kernel) (by decide +kernel)
theorem ml_0_120 : Cond.methodLink (ownN 0) 120 yX0_hasTank ∈ mTs := mTs_of 344 (by decide +kernel) (by decide +kernel)
theorem ml_0_123 : Cond.methodLink (ownN 0) 123 yX0_refuse ∈ mTs := mTs_of 348 (by decide +kernel) (by decide +kernel)
theorem ml_0_127 : Cond.methodLinkNest (ownN 0) 127 yX6_thousandths RX6 ∈ mTs := mTs_of 352 (by decide +kernel) (by decide +kernel)
theorem ml_0_131 : Cond.methodLink (ownN 0) 131 yX4_left ∈ mTs := mTs_of 356 (by decide +kernel) (by decide +kernel)
theorem ml_0_135 : Cond.methodLink (ownN 0) 135 yX4_fill ∈ mTs := mTs_of 360 (by decide +kernel) (by decide +kernel)
theorem ml_8_42 : Cond.methodLink (ownN 8) 42 yX6_wet ∈ mTs := mTs_of 364 (by decide +kernel) (by decide +kernel)
theorem ml_6_71 : Cond.methodLink (ownN 6) 71 yX0_wetHeap ∈ mTs := mTs_of 368 (by decide +kernel) (by decide +kernel)
theorem ml_8_46 : Cond.methodLink (ownN 8) 46 yX6_sellPomace ∈ mTs := mTs_of 372 (by decide +kernel) (by decide +kernel)
theorem ml_6_74 : Cond.methodLink (ownN 6) 74 yX0_sellHeap ∈ mTs := mTs_of 376 (by decide +kernel) (by decide +kernel)
theorem ml_8_51 : Cond.methodLink (ownN 8) 51 yX6_move ∈ mTs := mTs_of 380 (by decide +kernel) (by decide +kernel)
theorem ml_6_78 : Cond.methodLink (ownN 6) 78 yX0_moveJuice ∈ mTs := mTs_of 384 (by decide +kernel) (by decide +kernel)
theorem ml_0_145 : Cond.methodLink (ownN 0) 145 yX4_part ∈ mTs := mTs_of 388 (by decide +kernel) (by decide +kernel)
theorem ml_0_148 : Cond.methodLink (ownN 0) 148 yX4_give ∈ mTs := mTs_of 392 (by decide +kernel) (by decide +kernel)
theorem ml_4_35 : Cond.methodLink (ownN 4) 35 yX4_part ∈ mTs := mTs_of 396 (by decide +kernel) (by decide +kernel)
theorem ml_4_39 : Cond.methodLink (ownN 4) 39 yX4_fill ∈ mTs := mTs_of 397 (by decide +kernel) (by decide +kernel)
theorem ml_4_43 : Cond.methodLink (ownN 4) 43 yX4_drop ∈ mTs := mTs_of 398 (by decide +kernel) (by decide +kernel)
theorem ml_8_55 : Cond.methodLink (ownN 8) 55 yX6_rack ∈ mTs := mTs_of 402 (by decide +kernel) (by decide +kernel)
theorem ml_6_81 : Cond.methodLink (ownN 6) 81 yX0_rackJuice ∈ mTs := mTs_of 406 (by decide +kernel) (by decide +kernel)
theorem ml_0_152 : Cond.methodLink (ownN 0) 152 yJ9_min_7cf53 ∈ mTs := mTs_of 410 (by decide +kernel) (by decide +kernel)
theorem ml_8_59 : Cond.methodLink (ownN 8) 59 yX6_clean ∈ mTs := mTs_of 411 (by decide +kernel) (by decide +kernel)
theorem ml_6_84 : Cond.methodLink (ownN 6) 84 yX0_cleanTank ∈ mTs := mTs_of 415 (by decide +kernel) (by decide +kernel)
theorem ml_8_63 : Cond.methodLink (ownN 8) 63 yX6_pour ∈ mTs := mTs_of 419 (by decide +kernel) (by decide +kernel)
theorem ml_6_87 : Cond.methodLink (ownN 6) 87 yX0_pourJuice ∈ mTs := mTs_of 423 (by decide +kernel) (by decide +kernel)
theorem ml_0_160 : Cond.methodLink (ownN 0) 160 yX4_drop ∈ mTs := mTs_of 427 (by decide +kernel) (by decide +kernel)
theorem ml_8_67 : Cond.methodLink (ownN 8) 67 yX6_bottle ∈ mTs := mTs_of 428 (by decide +kernel) (by decide +kernel)
theorem ml_6_90 : Cond.methodLink (ownN 6) 90 yX0_bottleJuice ∈ mTs := mTs_of 432 (by decide +kernel) (by decide +kernel)
theorem ml_0_164 : Cond.methodLink (ownN 0) 164 yX1_reasonAgainst ∈ mTs := mTs_of 436 (by decide +kernel) (by decide +kernel)
theorem ml_1_51 : Cond.methodLink (ownN 1) 51 yX1_reasonAgainstJuice ∈ mTs := mTs_of 440 (by decide +kernel) (by decide +kernel)
theorem ml_1_59 : Cond.methodLinkNest (ownN 1) 59 yX6_perThousand RX6 ∈ mTs := mTs_of 444 (by decide +kernel) (by decide +kernel)
theorem ml_0_168 : Cond.methodLink (ownN 0) 168 yX1_addBottles ∈ mTs := mTs_of 447 (by decide +kernel) (by decide +kernel)
theorem ml_1_62 : Cond.methodLinkNest (ownN 1) 62 yX6_within RX6 ∈ mTs := mTs_of 451 (by decide +kernel) (by decide +kernel)
theorem ml_8_71 : Cond.methodLink (ownN 8) 71 yX6_day ∈ mTs := mTs_of 452 (by decide +kernel) (by decide +kernel)
theorem ml_6_93 : Cond.methodLink (ownN 6) 93 yX0_passDay ∈ mTs := mTs_of 456 (by decide +kernel) (by decide +kernel)
theorem ml_0_175 : Cond.methodLink (ownN 0) 175 yX4_passDay ∈ mTs := mTs_of 460 (by decide +kernel) (by decide +kernel)
theorem ml_4_47 : Cond.methodLinkNest (ownN 4) 47 yX6_thousandths RX6 ∈ mTs := mTs_of 464 (by decide +kernel) (by decide +kernel)
theorem ml_8_75 : Cond.methodLink (ownN 8) 75 yX6_appendCharacter ∈ mTs := mTs_of 465 (by decide +kernel) (by decide +kernel)
theorem ml_6_96 : Cond.methodLink (ownN 6) 96 yX6_within ∈ mTs := mTs_of 469 (by decide +kernel) (by decide +kernel)
theorem ml_6_100 : Cond.methodLink (ownN 6) 100 yX3_append ∈ mTs := mTs_of 470 (by decide +kernel) (by decide +kernel)
theorem ml_3_29 : Cond.methodLinkNest (ownN 3) 29 yX6_within RX6 ∈ mTs := mTs_of 474 (by decide +kernel) (by decide +kernel)
theorem ml_8_79 : Cond.methodLink (ownN 8) 79 yX6_clearText ∈ mTs := mTs_of 475 (by decide +kernel) (by decide +kernel)
theorem ml_6_104 : Cond.methodLink (ownN 6) 104 yX3_clear ∈ mTs := mTs_of 479 (by decide +kernel) (by decide +kernel)
theorem ml_8_83 : Cond.methodLink (ownN 8) 83 yX6_runScript ∈ mTs := mTs_of 483 (by decide +kernel) (by decide +kernel)
theorem ml_6_107 : Cond.methodLink (ownN 6) 107 yX3_read ∈ mTs := mTs_of 487 (by decide +kernel) (by decide +kernel)
theorem ml_3_33 : Cond.methodLink (ownN 3) 33 yX3_skipSpaces ∈ mTs := mTs_of 491 (by decide +kernel) (by decide +kernel)
theorem ml_3_59 : Cond.methodLink (ownN 3) 59 yX3_endOf ∈ mTs := mTs_of 495 (by decide +kernel) (by decide +kernel)
theorem ml_3_36 : Cond.methodLink (ownN 3) 36 yX3_readCommand ∈ mTs := mTs_of 499 (by decide +kernel) (by decide +kernel)
theorem ml_3_40 : Cond.methodLink (ownN 3) 40 yX3_readWord ∈ mTs := mTs_of 503 (by decide +kernel) (by decide +kernel)
theorem ml_3_63 : Cond.methodLink (ownN 3) 63 yX3_kindOfWord ∈ mTs := mTs_of 507 (by decide +kernel) (by decide +kernel)
theorem ml_3_68 : Cond.methodLink (ownN 3) 68 yX3_isWord ∈ mTs := mTs_of 512 (by decide +kernel) (by decide +kernel)
theorem ml_3_84 : Cond.methodLink (ownN 3) 84 yJ0_length_8abf5 ∈ mTs := mTs_of 516 (by decide +kernel) (by decide +kernel)
theorem ml_3_88 : Cond.methodLink (ownN 3) 88 yJ0_charAt_5068e ∈ mTs := mTs_of 526 (by decide +kernel) (by decide +kernel)
theorem ml_3_44 : Cond.methodLink (ownN 3) 44 yX3_keep ∈ mTs := mTs_of 570 (by decide +kernel) (by decide +kernel)
theorem ml_3_48 : Cond.methodLink (ownN 3) 48 yX3_numbersOf ∈ mTs := mTs_of 574 (by decide +kernel) (by decide +kernel)
theorem ml_3_52 : Cond.methodLink (ownN 3) 52 yX3_readNumber ∈ mTs := mTs_of 577 (by decide +kernel) (by decide +kernel)
theorem ml_3_56 : Cond.methodLink (ownN 3) 56 yX3_readEnd ∈ mTs := mTs_of 581 (by decide +kernel) (by decide +kernel)
theorem ml_6_117 : Cond.methodLink (ownN 6) 117 yX6_perform ∈ mTs := mTs_of 585 (by decide +kernel) (by decide +kernel)
theorem ml_6_246 : Cond.methodLink (ownN 6) 246 yX3_number ∈ mTs := mTs_of 589 (by decide +kernel) (by decide +kernel)
theorem ml_8_87 : Cond.methodLink (ownN 8) 87 yX6_count ∈ mTs := mTs_of 594 (by decide +kernel) (by decide +kernel)
theorem ml_8_91 : Cond.methodLink (ownN 8) 91 yX6_lot ∈ mTs := mTs_of 598 (by decide +kernel) (by decide +kernel)
theorem ml_6_150 : Cond.methodLink (ownN 6) 150 yX0_hasLot ∈ mTs := mTs_of 602 (by decide +kernel) (by decide +kernel)
theorem ml_8_95 : Cond.methodLink (ownN 8) 95 yX6_variety ∈ mTs := mTs_of 603 (by decide +kernel) (by decide +kernel)
theorem ml_6_170 : Cond.methodLink (ownN 6) 170 yX5_property ∈ mTs := mTs_of 607 (by decide +kernel) (by decide +kernel)
theorem ml_8_99 : Cond.methodLink (ownN 8) 99 yX6_tank ∈ mTs := mTs_of 611 (by decide +kernel) (by decide +kernel)
theorem ml_6_175 : Cond.methodLink (ownN 6) 175 yX0_hasTank ∈ mTs := mTs_of 615 (by decide +kernel) (by decide +kernel)
theorem ml_6_182 : Cond.methodLink (ownN 6) 182 yX4_property ∈ mTs := mTs_of 616 (by decide +kernel) (by decide +kernel)
theorem ml_4_31 : Cond.methodLink (ownN 4) 31 yX4_left ∈ mTs := mTs_of 620 (by decide +kernel) (by decide +kernel)
theorem ml_8_103 : Cond.methodLink (ownN 8) 103 yX6_share ∈ mTs := mTs_of 621 (by decide +kernel) (by decide +kernel)
theorem ml_6_189 : Cond.methodLink (ownN 6) 189 yX6_perThousand ∈ mTs := mTs_of 625 (by decide +kernel) (by decide +kernel)
theorem ml_8_107 : Cond.methodLink (ownN 8) 107 yX6_why ∈ mTs := mTs_of 626 (by decide +kernel) (by decide +kernel)
theorem ml_6_205 : Cond.methodLink (ownN 6) 205 yX1_reasonAgainst ∈ mTs := mTs_of 630 (by decide +kernel) (by decide +kernel)
theorem ml_8_111 : Cond.methodLink (ownN 8) 111 yX6_account ∈ mTs := mTs_of 631 (by decide +kernel) (by decide +kernel)
theorem ml_6_211 : Cond.methodLink (ownN 6) 211 yX0_sumOf ∈ mTs := mTs_of 635 (by decide +kernel) (by decide +kernel)
theorem ml_0_178 : Cond.methodLink (ownN 0) 178 yX0_applesInLots ∈ mTs := mTs_of 639 (by decide +kernel) (by decide +kernel)
theorem ml_0_181 : Cond.methodLink (ownN 0) 181 yX0_juiceInTanks ∈ mTs := mTs_of 643 (by decide +kernel) (by decide +kernel)
theorem ml_0_184 : Cond.methodLink (ownN 0) 184 yX0_leesInTanks ∈ mTs := mTs_of 647 (by decide +kernel) (by decide +kernel)
theorem ml_8_115 : Cond.methodLink (ownN 8) 115 yX6_bottles ∈ mTs := mTs_of 651 (by decide +kernel) (by decide +kernel)
theorem ml_8_119 : Cond.methodLink (ownN 8) 119 yX6_daysTo ∈ mTs := mTs_of 655 (by decide +kernel) (by decide +kernel)
theorem ml_6_218 : Cond.methodLink (ownN 6) 218 yX4_copyFrom ∈ mTs := mTs_of 659 (by decide +kernel) (by decide +kernel)
theorem ml_6_222 : Cond.methodLink (ownN 6) 222 yX4_passDay ∈ mTs := mTs_of 660 (by decide +kernel) (by decide +kernel)
theorem ml_8_123 : Cond.methodLink (ownN 8) 123 yX6_blendFor ∈ mTs := mTs_of 661 (by decide +kernel) (by decide +kernel)
theorem ml_6_225 : Cond.methodLink (ownN 6) 225 yX4_left ∈ mTs := mTs_of 665 (by decide +kernel) (by decide +kernel)
theorem ml_6_233 : Cond.methodLink (ownN 6) 233 yX1_reasonAgainstBlend ∈ mTs := mTs_of 666 (by decide +kernel) (by decide +kernel)
theorem ml_1_55 : Cond.methodLink (ownN 1) 55 yX4_part ∈ mTs := mTs_of 670 (by decide +kernel) (by decide +kernel)
theorem ml_8_127 : Cond.methodLink (ownN 8) 127 yX6_undo ∈ mTs := mTs_of 671 (by decide +kernel) (by decide +kernel)
theorem ml_8_130 : Cond.methodLink (ownN 8) 130 yX7_undo ∈ mTs := mTs_of 724 (by decide +kernel) (by decide +kernel)
theorem ml_8_17 : Cond.methodLink (ownN 8) 17 yX7_setVariety ∈ mTs := mTs_of 728 (by decide +kernel) (by decide +kernel)
theorem ml_7_33 : Cond.methodLink (ownN 7) 33 yX7_in ∈ mTs := mTs_of 732 (by decide +kernel) (by decide +kernel)
theorem ml_7_37 : Cond.methodLink (ownN 7) 37 yX7_edits ∈ mTs := mTs_of 735 (by decide +kernel) (by decide +kernel)
theorem ml_8_21 : Cond.methodLink (ownN 8) 21 yX7_setRates ∈ mTs := mTs_of 739 (by decide +kernel) (by decide +kernel)
theorem ml_7_40 : Cond.methodLink (ownN 7) 40 yX7_changes ∈ mTs := mTs_of 743 (by decide +kernel) (by decide +kernel)
theorem ml_8_26 : Cond.methodLink (ownN 8) 26 yX7_setLabel ∈ mTs := mTs_of 747 (by decide +kernel) (by decide +kernel)
theorem ml_8_31 : Cond.methodLink (ownN 8) 31 yX7_buy ∈ mTs := mTs_of 751 (by decide +kernel) (by decide +kernel)
theorem ml_8_36 : Cond.methodLink (ownN 8) 36 yX7_addTank ∈ mTs := mTs_of 755 (by decide +kernel) (by decide +kernel)
theorem ml_8_41 : Cond.methodLink (ownN 8) 41 yX7_press ∈ mTs := mTs_of 759 (by decide +kernel) (by decide +kernel)
theorem ml_7_89 : Cond.methodLink (ownN 7) 89 yX7_keeps ∈ mTs := mTs_of 763 (by decide +kernel) (by decide +kernel)
theorem ml_7_92 : Cond.methodLink (ownN 7) 92 yX7_presses ∈ mTs := mTs_of 767 (by decide +kernel) (by decide +kernel)
theorem ml_7_47 : Cond.methodLink (ownN 7) 47 yX7_isLot ∈ mTs := mTs_of 771 (by decide +kernel) (by decide +kernel)
theorem ml_7_51 : Cond.methodLink (ownN 7) 51 yX7_isTank ∈ mTs := mTs_of 775 (by decide +kernel) (by decide +kernel)
theorem ml_7_54 : Cond.methodLink (ownN 7) 54 yX7_refuses ∈ mTs := mTs_of 779 (by decide +kernel) (by decide +kernel)
theorem ml_7_58 : Cond.methodLink (ownN 7) 58 yX7_left ∈ mTs := mTs_of 783 (by decide +kernel) (by decide +kernel)
theorem ml_7_44 : Cond.methodLink (ownN 7) 44 yX7_of ∈ mTs := mTs_of 787 (by decide +kernel) (by decide +kernel)
theorem ml_7_61 : Cond.methodLink (ownN 7) 61 yX7_adds ∈ mTs := mTs_of 791 (by decide +kernel) (by decide +kernel)
theorem ml_7_95 : Cond.methodLink (ownN 7) 95 yX7_done ∈ mTs := mTs_of 795 (by decide +kernel) (by decide +kernel)
theorem ml_7_86 : Cond.methodLink (ownN 7) 86 yX7_exchanges ∈ mTs := mTs_of 799 (by decide +kernel) (by decide +kernel)
theorem ml_8_45 : Cond.methodLink (ownN 8) 45 yX7_wet ∈ mTs := mTs_of 803 (by decide +kernel) (by decide +kernel)
theorem ml_7_98 : Cond.methodLink (ownN 7) 98 yX7_wets ∈ mTs := mTs_of 807 (by decide +kernel) (by decide +kernel)
theorem ml_8_50 : Cond.methodLink (ownN 8) 50 yX7_sellPomace ∈ mTs := mTs_of 811 (by decide +kernel) (by decide +kernel)
theorem ml_8_54 : Cond.methodLink (ownN 8) 54 yX7_move ∈ mTs := mTs_of 815 (by decide +kernel) (by decide +kernel)
theorem ml_7_101 : Cond.methodLink (ownN 7) 101 yX7_moves ∈ mTs := mTs_of 819 (by decide +kernel) (by decide +kernel)
theorem ml_7_65 : Cond.methodLink (ownN 7) 65 yX7_areTwo ∈ mTs := mTs_of 823 (by decide +kernel) (by decide +kernel)
theorem ml_7_69 : Cond.methodLink (ownN 7) 69 yX7_carries ∈ mTs := mTs_of 827 (by decide +kernel) (by decide +kernel)
theorem ml_8_58 : Cond.methodLink (ownN 8) 58 yX7_rack ∈ mTs := mTs_of 831 (by decide +kernel) (by decide +kernel)
theorem ml_7_104 : Cond.methodLink (ownN 7) 104 yX7_racks ∈ mTs := mTs_of 835 (by decide +kernel) (by decide +kernel)
theorem ml_8_62 : Cond.methodLink (ownN 8) 62 yX7_clean ∈ mTs := mTs_of 839 (by decide +kernel) (by decide +kernel)
theorem ml_7_107 : Cond.methodLink (ownN 7) 107 yX7_cleans ∈ mTs := mTs_of 843 (by decide +kernel) (by decide +kernel)
theorem ml_8_66 : Cond.methodLink (ownN 8) 66 yX7_pour ∈ mTs := mTs_of 847 (by decide +kernel) (by decide +kernel)
theorem ml_8_70 : Cond.methodLink (ownN 8) 70 yX7_bottle ∈ mTs := mTs_of 851 (by decide +kernel) (by decide +kernel)
theorem ml_7_110 : Cond.methodLink (ownN 7) 110 yX7_fillsBottles ∈ mTs := mTs_of 855 (by decide +kernel) (by decide +kernel)
theorem ml_7_76 : Cond.methodLink (ownN 7) 76 yX7_forbids ∈ mTs := mTs_of 859 (by decide +kernel) (by decide +kernel)
theorem ml_7_73 : Cond.methodLink (ownN 7) 73 yX7_portion ∈ mTs := mTs_of 863 (by decide +kernel) (by decide +kernel)
theorem ml_7_79 : Cond.methodLink (ownN 7) 79 yX7_bottled ∈ mTs := mTs_of 867 (by decide +kernel) (by decide +kernel)
theorem ml_8_74 : Cond.methodLink (ownN 8) 74 yX7_day ∈ mTs := mTs_of 871 (by decide +kernel) (by decide +kernel)
theorem ml_7_114 : Cond.methodLink (ownN 7) 114 yX7_days ∈ mTs := mTs_of 875 (by decide +kernel) (by decide +kernel)
theorem ml_7_82 : Cond.methodLink (ownN 7) 82 yX7_works ∈ mTs := mTs_of 879 (by decide +kernel) (by decide +kernel)
theorem ml_8_78 : Cond.methodLink (ownN 8) 78 yX7_appendCharacter ∈ mTs := mTs_of 883 (by decide +kernel) (by decide +kernel)
theorem ml_8_82 : Cond.methodLink (ownN 8) 82 yX7_clearText ∈ mTs := mTs_of 887 (by decide +kernel) (by decide +kernel)
theorem ml_8_86 : Cond.methodLink (ownN 8) 86 yX7_runScript ∈ mTs := mTs_of 891 (by decide +kernel) (by decide +kernel)
theorem ml_7_173 : Cond.methodLink (ownN 7) 173 yX7_reads ∈ mTs := mTs_of 895 (by decide +kernel) (by decide +kernel)
theorem ml_7_166 : Cond.methodLink (ownN 7) 166 yX7_goes ∈ mTs := mTs_of 899 (by decide +kernel) (by decide +kernel)
theorem ml_7_170 : Cond.methodLink (ownN 7) 170 yX7_readsCommand ∈ mTs := mTs_of 905 (by decide +kernel) (by decide +kernel)
theorem ml_7_156 : Cond.methodLink (ownN 7) 156 yX7_wants ∈ mTs := mTs_of 909 (by decide +kernel) (by decide +kernel)
theorem ml_7_163 : Cond.methodLink (ownN 7) 163 yX7_kind ∈ mTs := mTs_of 919 (by decide +kernel) (by decide +kernel)
theorem ml_7_176 : Cond.methodLink (ownN 7) 176 yX7_does ∈ mTs := mTs_of 922 (by decide +kernel) (by decide +kernel)
theorem ml_7_179 : Cond.methodLink (ownN 7) 179 yX7_restores ∈ mTs := mTs_of 926 (by decide +kernel) (by decide +kernel)
theorem ml_8_90 : Cond.methodLink (ownN 8) 90 yX7_count ∈ mTs := mTs_of 930 (by decide +kernel) (by decide +kernel)
theorem ml_8_94 : Cond.methodLink (ownN 8) 94 yX7_lot ∈ mTs := mTs_of 934 (by decide +kernel) (by decide +kernel)
theorem ml_8_98 : Cond.methodLink (ownN 8) 98 yX7_variety ∈ mTs := mTs_of 938 (by decide +kernel) (by decide +kernel)
theorem ml_8_102 : Cond.methodLink (ownN 8) 102 yX7_tank ∈ mTs := mTs_of 942 (by decide +kernel) (by decide +kernel)
theorem ml_8_106 : Cond.methodLink (ownN 8) 106 yX7_share ∈ mTs := mTs_of 946 (by decide +kernel) (by decide +kernel)
theorem ml_8_110 : Cond.methodLink (ownN 8) 110 yX7_why ∈ mTs := mTs_of 950 (by decide +kernel) (by decide +kernel)
theorem ml_8_114 : Cond.methodLink (ownN 8) 114 yX7_account ∈ mTs := mTs_of 954 (by decide +kernel) (by decide +kernel)
theorem ml_8_118 : Cond.methodLink (ownN 8) 118 yX7_bottles ∈ mTs := mTs_of 958 (by decide +kernel) (by decide +kernel)
theorem ml_8_122 : Cond.methodLink (ownN 8) 122 yX7_daysTo ∈ mTs := mTs_of 962 (by decide +kernel) (by decide +kernel)
theorem ml_8_126 : Cond.methodLink (ownN 8) 126 yX7_blendFor ∈ mTs := mTs_of 966 (by decide +kernel) (by decide +kernel)
