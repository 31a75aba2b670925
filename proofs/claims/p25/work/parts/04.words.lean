theorem ilX0 : ∀ w ∈ wsX00, w ∈ wsL_law := by
  intro w h
  obtain ⟨k, hk, rfl⟩ := List.mem_map.mp h
  have hk := List.mem_range.mp hk
  rcases (show k = 0 ∨ k = 1 ∨ k = 2 ∨ k = 3 ∨ k = 4 by omega) with rfl | rfl | rfl | rfl | rfl
  · exact kwm 119 (by decide +kernel) (by decide +kernel)
  · exact kwm 121 (by decide +kernel) (by decide +kernel)
  · exact kwm 123 (by decide +kernel) (by decide +kernel)
  · exact kwm 125 (by decide +kernel) (by decide +kernel)
  · exact kwm 127 (by decide +kernel) (by decide +kernel)
theorem ilX2 : ∀ w ∈ wsX20, w ∈ wsL_law := by
  intro w h
  obtain ⟨k, hk, rfl⟩ := List.mem_map.mp h
  have hk := List.mem_range.mp hk
  rcases (show k = 0 ∨ k = 1 ∨ k = 2 ∨ k = 3 ∨ k = 4 ∨ k = 5 ∨ k = 6 ∨ k = 7 ∨ k = 8 by omega) with rfl | rfl | rfl | rfl | rfl | rfl | rfl | rfl | rfl
  · exact kwm 71 (by decide +kernel) (by decide +kernel)
  · exact kwm 73 (by decide +kernel) (by decide +kernel)
  · exact kwm 75 (by decide +kernel) (by decide +kernel)
  · exact kwm 77 (by decide +kernel) (by decide +kernel)
  · exact kwm 79 (by decide +kernel) (by decide +kernel)
  · exact kwm 81 (by decide +kernel) (by decide +kernel)
  · exact kwm 83 (by decide +kernel) (by decide +kernel)
  · exact kwm 85 (by decide +kernel) (by decide +kernel)
  · exact kwm 87 (by decide +kernel) (by decide +kernel)
theorem ilX3 : ∀ w ∈ wsX30, w ∈ wsL_law := by
  intro w h
  obtain ⟨k, hk, rfl⟩ := List.mem_map.mp h
  have hk := List.mem_range.mp hk
  rcases (show k = 0 ∨ k = 1 ∨ k = 2 by omega) with rfl | rfl | rfl
  · exact kwm 154 (by decide +kernel) (by decide +kernel)
  · exact kwm 156 (by decide +kernel) (by decide +kernel)
  · exact kwm 158 (by decide +kernel) (by decide +kernel)
theorem ilX4 : ∀ w ∈ wsX40, w ∈ wsL_law := by
  intro w h
  obtain ⟨k, hk, rfl⟩ := List.mem_map.mp h
  have hk := List.mem_range.mp hk
  rcases (show k = 0 ∨ k = 1 by omega) with rfl | rfl
  · exact kwm 169 (by decide +kernel) (by decide +kernel)
  · exact kwm 171 (by decide +kernel) (by decide +kernel)
theorem ilX5 : ∀ w ∈ wsX50, w ∈ wsL_law := by
  intro w h
  obtain ⟨k, hk, rfl⟩ := List.mem_map.mp h
  have hk := List.mem_range.mp hk
  rcases (show k = 0 ∨ k = 1 ∨ k = 2 ∨ k = 3 by omega) with rfl | rfl | rfl | rfl
  · exact kwm 101 (by decide +kernel) (by decide +kernel)
  · exact kwm 103 (by decide +kernel) (by decide +kernel)
  · exact kwm 105 (by decide +kernel) (by decide +kernel)
  · exact kwm 107 (by decide +kernel) (by decide +kernel)
theorem ilX6 : ∀ w ∈ wsX60, w ∈ wsL_law := by
  intro w h
  obtain ⟨k, hk, rfl⟩ := List.mem_map.mp h
  have hk := List.mem_range.mp hk
  rcases (show k = 0 ∨ k = 1 ∨ k = 2 ∨ k = 3 ∨ k = 4 ∨ k = 5 by omega) with rfl | rfl | rfl | rfl | rfl | rfl
  · exact kwm 182 (by decide +kernel) (by decide +kernel)
  · exact kwm 184 (by decide +kernel) (by decide +kernel)
  · exact kwm 186 (by decide +kernel) (by decide +kernel)
  · exact kwm 188 (by decide +kernel) (by decide +kernel)
  · exact kwm 190 (by decide +kernel) (by decide +kernel)
  · exact kwm 192 (by decide +kernel) (by decide +kernel)
theorem ilX7 : ∀ w ∈ wsX70, w ∈ wsL_law := by
  intro w h
  obtain ⟨k, hk, rfl⟩ := List.mem_map.mp h
  have hk := List.mem_range.mp hk
  rcases (show k = 0 ∨ k = 1 ∨ k = 2 by omega) with rfl | rfl | rfl
  · exact kwm 135 (by decide +kernel) (by decide +kernel)
  · exact kwm 137 (by decide +kernel) (by decide +kernel)
  · exact kwm 139 (by decide +kernel) (by decide +kernel)
theorem ilX8 : ∀ w ∈ wsX80, w ∈ wsL_law := by
  intro w h
  obtain ⟨k, hk, rfl⟩ := List.mem_map.mp h
  have hk := List.mem_range.mp hk
  rcases (show k = 0 ∨ k = 1 ∨ k = 2 by omega) with rfl | rfl | rfl
  · exact kwm 40 (by decide +kernel) (by decide +kernel)
  · exact kwm 42 (by decide +kernel) (by decide +kernel)
  · exact kwm 44 (by decide +kernel) (by decide +kernel)
theorem ilX9 : ∀ w ∈ wsX90, w ∈ wsL_law := by
  intro w h
  obtain ⟨k, hk, rfl⟩ := List.mem_map.mp h
  have hk := List.mem_range.mp hk
  rcases (show k = 0 ∨ k = 1 ∨ k = 2 ∨ k = 3 ∨ k = 4 ∨ k = 5 by omega) with rfl | rfl | rfl | rfl | rfl | rfl
  · exact kwm 203 (by decide +kernel) (by decide +kernel)
  · exact kwm 205 (by decide +kernel) (by decide +kernel)
  · exact kwm 207 (by decide +kernel) (by decide +kernel)
  · exact kwm 209 (by decide +kernel) (by decide +kernel)
  · exact kwm 211 (by decide +kernel) (by decide +kernel)
  · exact kwm 213 (by decide +kernel) (by decide +kernel)
theorem ms_L_act : jMS yL_act cL_act 5 (some .int) 3 := ⟨(kwm 381 (by decide +kernel) (by decide +kernel)), (kwm 0 (by decide +kernel) (by decide +kernel)), (kwm 382 (by decide +kernel) (by decide +kernel)), (by decide +kernel), (by decide +kernel), (by decide +kernel)⟩
theorem ms_L_cell : jMS yL_cell cL_cell 2 (some .int) 2 := ⟨(kwm 343 (by decide +kernel) (by decide +kernel)), (kwm 0 (by decide +kernel) (by decide +kernel)), (kwm 344 (by decide +kernel) (by decide +kernel)), (by decide +kernel), (by decide +kernel), (by decide +kernel)⟩
theorem ms_L_column : jMS yL_column cL_column 7 (some .boolean) 2 := ⟨(kwm 347 (by decide +kernel) (by decide +kernel)), (kwm 0 (by decide +kernel) (by decide +kernel)), (kwm 348 (by decide +kernel) (by decide +kernel)), (by decide +kernel), (by decide +kernel), (by decide +kernel)⟩
theorem ms_L_estimates : jMS yL_estimates cL_estimates 9 (some .boolean) 3 := ⟨(kwm 378 (by decide +kernel) (by decide +kernel)), (kwm 0 (by decide +kernel) (by decide +kernel)), (kwm 379 (by decide +kernel) (by decide +kernel)), (by decide +kernel), (by decide +kernel), (by decide +kernel)⟩
theorem ms_L_low : jMS yL_low cL_low 2 (some .int) 2 := ⟨(kwm 339 (by decide +kernel) (by decide +kernel)), (kwm 0 (by decide +kernel) (by decide +kernel)), (kwm 340 (by decide +kernel) (by decide +kernel)), (by decide +kernel), (by decide +kernel), (by decide +kernel)⟩
theorem mv_X0_copyFrom : jMV yX0_copyFrom cX0_copyFrom 2 none 1 0 := ⟨(kwm 405 (by decide +kernel) (by decide +kernel)), (kwm 406 (by decide +kernel) (by decide +kernel)), (kwm 4 (by decide +kernel) (by decide +kernel)), (kwm 407 (by decide +kernel) (by decide +kernel)), (by decide +kernel), (by decide +kernel), (by decide +kernel), (RX0, TX0, 5), rfl, rfl⟩
theorem mv_X0_facts : jMV yX0_facts cX0_facts 2 (some (.object "EqualHeights$ColumnFacts")) 1 0 := ⟨(kwm 240 (by decide +kernel) (by decide +kernel)), (kwm 241 (by decide +kernel) (by decide +kernel)), (kwm 4 (by decide +kernel) (by decide +kernel)), (kwm 242 (by decide +kernel) (by decide +kernel)), (by decide +kernel), (by decide +kernel), (by decide +kernel), (RX0, TX0, 5), rfl, rfl⟩
theorem mv_X0_guessBoth : jMV yX0_guessBoth cX0_guessBoth 11 (some .int) 4 0 := ⟨(kwm 299 (by decide +kernel) (by decide +kernel)), (kwm 300 (by decide +kernel) (by decide +kernel)), (kwm 4 (by decide +kernel) (by decide +kernel)), (kwm 301 (by decide +kernel) (by decide +kernel)), (by decide +kernel), (by decide +kernel), (by decide +kernel), (RX0, TX0, 5), rfl, rfl⟩
theorem mi_X0_init : jMI yX0_init cX0_init 1 0 := ⟨(kwm 51 (by decide +kernel) (by decide +kernel)), rfl, (kwm 4 (by decide +kernel) (by decide +kernel)), (kwm 52 (by decide +kernel) (by decide +kernel)), (by decide +kernel), (by decide +kernel), (by decide +kernel)⟩
theorem mv_X0_isMade : jMV yX0_isMade cX0_isMade 1 (some .boolean) 0 0 := ⟨(kwm 225 (by decide +kernel) (by decide +kernel)), (kwm 226 (by decide +kernel) (by decide +kernel)), (kwm 4 (by decide +kernel) (by decide +kernel)), (kwm 227 (by decide +kernel) (by decide +kernel)), (by decide +kernel), (by decide +kernel), (by decide +kernel), (RX0, TX0, 5), rfl, rfl⟩
theorem mv_X0_isStale : jMV yX0_isStale cX0_isStale 2 (some .boolean) 1 0 := ⟨(kwm 236 (by decide +kernel) (by decide +kernel)), (kwm 237 (by decide +kernel) (by decide +kernel)), (kwm 4 (by decide +kernel) (by decide +kernel)), (kwm 238 (by decide +kernel) (by decide +kernel)), (by decide +kernel), (by decide +kernel), (by decide +kernel), (RX0, TX0, 5), rfl, rfl⟩
theorem mv_X0_learn : jMV yX0_learn cX0_learn 5 none 4 0 := ⟨(kwm 492 (by decide +kernel) (by decide +kernel)), (kwm 493 (by decide +kernel) (by decide +kernel)), (kwm 4 (by decide +kernel) (by decide +kernel)), (kwm 494 (by decide +kernel) (by decide +kernel)), (by decide +kernel), (by decide +kernel), (by decide +kernel), (RX0, TX0, 5), rfl, rfl⟩
theorem mv_X0_noteChange : jMV yX0_noteChange cX0_noteChange 1 none 0 0 := ⟨(kwm 433 (by decide +kernel) (by decide +kernel)), (kwm 434 (by decide +kernel) (by decide +kernel)), (kwm 4 (by decide +kernel) (by decide +kernel)), (kwm 435 (by decide +kernel) (by decide +kernel)), (by decide +kernel), (by decide +kernel), (by decide +kernel), (RX0, TX0, 5), rfl, rfl⟩
theorem ms_X1_bits : jMS yX1_bits cX1_bits 10 (some .long) 3 := ⟨(kwm 317 (by decide +kernel) (by decide +kernel)), (kwm 11 (by decide +kernel) (by decide +kernel)), (kwm 318 (by decide +kernel) (by decide +kernel)), (by decide +kernel), (by decide +kernel), (by decide +kernel)⟩
theorem ms_X1_ofDouble : jMS yX1_ofDouble cX1_ofDouble 2 (some .long) 1 := ⟨(kwm 375 (by decide +kernel) (by decide +kernel)), (kwm 11 (by decide +kernel) (by decide +kernel)), (kwm 376 (by decide +kernel) (by decide +kernel)), (by decide +kernel), (by decide +kernel), (by decide +kernel)⟩
theorem ms_X1_ofFloat : jMS yX1_ofFloat cX1_ofFloat 1 (some .int) 1 := ⟨(kwm 314 (by decide +kernel) (by decide +kernel)), (kwm 11 (by decide +kernel) (by decide +kernel)), (kwm 315 (by decide +kernel) (by decide +kernel)), (by decide +kernel), (by decide +kernel), (by decide +kernel)⟩
theorem mv_X2_addToBucket : jMV yX2_addToBucket cX2_addToBucket 3 none 2 1 := ⟨(kwm 534 (by decide +kernel) (by decide +kernel)), (kws 10 (by decide +kernel) (by decide +kernel)), (kwm 5 (by decide +kernel) (by decide +kernel)), (kwm 535 (by decide +kernel) (by decide +kernel)), (by decide +kernel), (by decide +kernel), (by decide +kernel), (RX2, TX2, 9), rfl, rfl⟩
theorem mv_X2_chooseCommon : jMV yX2_chooseCommon cX2_chooseCommon 4 none 1 1 := ⟨(kwm 509 (by decide +kernel) (by decide +kernel)), (kws 4 (by decide +kernel) (by decide +kernel)), (kwm 5 (by decide +kernel) (by decide +kernel)), (kwm 510 (by decide +kernel) (by decide +kernel)), (by decide +kernel), (by decide +kernel), (by decide +kernel), (RX2, TX2, 9), rfl, rfl⟩
theorem mv_X2_copyFrom : jMV yX2_copyFrom cX2_copyFrom 2 none 1 1 := ⟨(kwm 409 (by decide +kernel) (by decide +kernel)), (kwm 410 (by decide +kernel) (by decide +kernel)), (kwm 5 (by decide +kernel) (by decide +kernel)), (kwm 411 (by decide +kernel) (by decide +kernel)), (by decide +kernel), (by decide +kernel), (by decide +kernel), (RX2, TX2, 9), rfl, rfl⟩
theorem mv_X2_countValues : jMV yX2_countValues cX2_countValues 5 none 2 1 := ⟨(kwm 501 (by decide +kernel) (by decide +kernel)), (kws 3 (by decide +kernel) (by decide +kernel)), (kwm 5 (by decide +kernel) (by decide +kernel)), (kwm 502 (by decide +kernel) (by decide +kernel)), (by decide +kernel), (by decide +kernel), (by decide +kernel), (RX2, TX2, 9), rfl, rfl⟩
theorem mv_X2_cutBuckets : jMV yX2_cutBuckets cX2_cutBuckets 9 none 2 1 := ⟨(kwm 518 (by decide +kernel) (by decide +kernel)), (kws 6 (by decide +kernel) (by decide +kernel)), (kwm 5 (by decide +kernel) (by decide +kernel)), (kwm 519 (by decide +kernel) (by decide +kernel)), (by decide +kernel), (by decide +kernel), (by decide +kernel), (RX2, TX2, 9), rfl, rfl⟩
theorem mv_X2_fullHeight : jMV yX2_fullHeight cX2_fullHeight 3 (some .int) 2 1 := ⟨(kwm 526 (by decide +kernel) (by decide +kernel)), (kws 8 (by decide +kernel) (by decide +kernel)), (kwm 5 (by decide +kernel) (by decide +kernel)), (kwm 527 (by decide +kernel) (by decide +kernel)), (by decide +kernel), (by decide +kernel), (by decide +kernel), (RX2, TX2, 9), rfl, rfl⟩
theorem mv_X2_guess : jMV yX2_guess cX2_guess 7 (some .int) 2 1 := ⟨(kwm 267 (by decide +kernel) (by decide +kernel)), (kwm 268 (by decide +kernel) (by decide +kernel)), (kwm 5 (by decide +kernel) (by decide +kernel)), (kwm 269 (by decide +kernel) (by decide +kernel)), (by decide +kernel), (by decide +kernel), (by decide +kernel), (RX2, TX2, 9), rfl, rfl⟩
theorem mi_X2_init : jMI yX2_init cX2_init 1 0 := ⟨(kwm 57 (by decide +kernel) (by decide +kernel)), rfl, (kwm 5 (by decide +kernel) (by decide +kernel)), (kwm 58 (by decide +kernel) (by decide +kernel)), (by decide +kernel), (by decide +kernel), (by decide +kernel)⟩
theorem mv_X2_isCommon : jMV yX2_isCommon cX2_isCommon 3 (some .boolean) 1 1 := ⟨(kwm 522 (by decide +kernel) (by decide +kernel)), (kws 7 (by decide +kernel) (by decide +kernel)), (kwm 5 (by decide +kernel) (by decide +kernel)), (kwm 523 (by decide +kernel) (by decide +kernel)), (by decide +kernel), (by decide +kernel), (by decide +kernel), (RX2, TX2, 9), rfl, rfl⟩
theorem mv_X2_learn : jMV yX2_learn cX2_learn 5 none 4 1 := ⟨(kwm 496 (by decide +kernel) (by decide +kernel)), (kwm 497 (by decide +kernel) (by decide +kernel)), (kwm 5 (by decide +kernel) (by decide +kernel)), (kwm 498 (by decide +kernel) (by decide +kernel)), (by decide +kernel), (by decide +kernel), (by decide +kernel), (RX2, TX2, 9), rfl, rfl⟩
theorem mv_X2_least : jMV yX2_least cX2_least 5 (some .int) 2 1 := ⟨(kwm 282 (by decide +kernel) (by decide +kernel)), (kwm 283 (by decide +kernel) (by decide +kernel)), (kwm 5 (by decide +kernel) (by decide +kernel)), (kwm 284 (by decide +kernel) (by decide +kernel)), (by decide +kernel), (by decide +kernel), (by decide +kernel), (RX2, TX2, 9), rfl, rfl⟩
theorem mv_X2_miss : jMV yX2_miss cX2_miss 2 (some .int) 1 1 := ⟨(kwm 329 (by decide +kernel) (by decide +kernel)), (kwm 330 (by decide +kernel) (by decide +kernel)), (kwm 5 (by decide +kernel) (by decide +kernel)), (kwm 331 (by decide +kernel) (by decide +kernel)), (by decide +kernel), (by decide +kernel), (by decide +kernel), (RX2, TX2, 9), rfl, rfl⟩
theorem mv_X2_most : jMV yX2_most cX2_most 5 (some .int) 2 1 := ⟨(kwm 286 (by decide +kernel) (by decide +kernel)), (kwm 287 (by decide +kernel) (by decide +kernel)), (kwm 5 (by decide +kernel) (by decide +kernel)), (kwm 288 (by decide +kernel) (by decide +kernel)), (by decide +kernel), (by decide +kernel), (by decide +kernel), (RX2, TX2, 9), rfl, rfl⟩
theorem mv_X2_nextRank : jMV yX2_nextRank cX2_nextRank 5 (some .int) 1 1 := ⟨(kwm 514 (by decide +kernel) (by decide +kernel)), (kws 5 (by decide +kernel) (by decide +kernel)), (kwm 5 (by decide +kernel) (by decide +kernel)), (kwm 515 (by decide +kernel) (by decide +kernel)), (by decide +kernel), (by decide +kernel), (by decide +kernel), (RX2, TX2, 9), rfl, rfl⟩
theorem mv_X2_rowsOfBuckets : jMV yX2_rowsOfBuckets cX2_rowsOfBuckets 3 (some .int) 0 1 := ⟨(kwm 371 (by decide +kernel) (by decide +kernel)), (kwm 372 (by decide +kernel) (by decide +kernel)), (kwm 5 (by decide +kernel) (by decide +kernel)), (kwm 373 (by decide +kernel) (by decide +kernel)), (by decide +kernel), (by decide +kernel), (by decide +kernel), (RX2, TX2, 9), rfl, rfl⟩
theorem mv_X2_rowsOfCommon : jMV yX2_rowsOfCommon cX2_rowsOfCommon 5 (some .int) 2 1 := ⟨(kwm 272 (by decide +kernel) (by decide +kernel)), (kws 1 (by decide +kernel) (by decide +kernel)), (kwm 5 (by decide +kernel) (by decide +kernel)), (kwm 273 (by decide +kernel) (by decide +kernel)), (by decide +kernel), (by decide +kernel), (by decide +kernel), (RX2, TX2, 9), rfl, rfl⟩
theorem mv_X2_startBucket : jMV yX2_startBucket cX2_startBucket 3 none 2 1 := ⟨(kwm 530 (by decide +kernel) (by decide +kernel)), (kws 9 (by decide +kernel) (by decide +kernel)), (kwm 5 (by decide +kernel) (by decide +kernel)), (kwm 531 (by decide +kernel) (by decide +kernel)), (by decide +kernel), (by decide +kernel), (by decide +kernel), (RX2, TX2, 9), rfl, rfl⟩
theorem mv_X2_tellBucket : jMV yX2_tellBucket cX2_tellBucket 3 (some .int) 2 1 := ⟨(kwm 362 (by decide +kernel) (by decide +kernel)), (kwm 363 (by decide +kernel) (by decide +kernel)), (kwm 5 (by decide +kernel) (by decide +kernel)), (kwm 364 (by decide +kernel) (by decide +kernel)), (by decide +kernel), (by decide +kernel), (by decide +kernel), (RX2, TX2, 9), rfl, rfl⟩
theorem mv_X2_tellCommon : jMV yX2_tellCommon cX2_tellCommon 3 (some .int) 2 1 := ⟨(kwm 354 (by decide +kernel) (by decide +kernel)), (kwm 355 (by decide +kernel) (by decide +kernel)), (kwm 5 (by decide +kernel) (by decide +kernel)), (kwm 356 (by decide +kernel) (by decide +kernel)), (by decide +kernel), (by decide +kernel), (by decide +kernel), (RX2, TX2, 9), rfl, rfl⟩
theorem mv_X2_worstValue : jMV yX2_worstValue cX2_worstValue 5 (some .int) 0 1 := ⟨(kwm 325 (by decide +kernel) (by decide +kernel)), (kwm 326 (by decide +kernel) (by decide +kernel)), (kwm 5 (by decide +kernel) (by decide +kernel)), (kwm 327 (by decide +kernel) (by decide +kernel)), (by decide +kernel), (by decide +kernel), (by decide +kernel), (RX2, TX2, 9), rfl, rfl⟩
theorem mv_X3_bringBack : jMV yX3_bringBack cX3_bringBack 4 none 1 2 := ⟨(kwm 479 (by decide +kernel) (by decide +kernel)), (kwm 480 (by decide +kernel) (by decide +kernel)), (kwm 7 (by decide +kernel) (by decide +kernel)), (kwm 481 (by decide +kernel) (by decide +kernel)), (by decide +kernel), (by decide +kernel), (by decide +kernel), (RX3, TX3, 3), rfl, rfl⟩
theorem mi_X3_init : jMI yX3_init cX3_init 1 0 := ⟨(kwm 146 (by decide +kernel) (by decide +kernel)), rfl, (kwm 7 (by decide +kernel) (by decide +kernel)), (kwm 147 (by decide +kernel) (by decide +kernel)), (by decide +kernel), (by decide +kernel), (by decide +kernel)⟩
theorem mv_X3_keep : jMV yX3_keep cX3_keep 1 none 0 2 := ⟨(kwm 442 (by decide +kernel) (by decide +kernel)), (kwm 443 (by decide +kernel) (by decide +kernel)), (kwm 7 (by decide +kernel) (by decide +kernel)), (kwm 444 (by decide +kernel) (by decide +kernel)), (by decide +kernel), (by decide +kernel), (by decide +kernel), (RX3, TX3, 3), rfl, rfl⟩
theorem mv_X3_prepare : jMV yX3_prepare cX3_prepare 3 none 1 2 := ⟨(kwm 388 (by decide +kernel) (by decide +kernel)), (kwm 389 (by decide +kernel) (by decide +kernel)), (kwm 7 (by decide +kernel) (by decide +kernel)), (kwm 390 (by decide +kernel) (by decide +kernel)), (by decide +kernel), (by decide +kernel), (by decide +kernel), (RX3, TX3, 3), rfl, rfl⟩
theorem mi_X4_init : jMI yX4_init cX4_init 1 0 := ⟨(kwm 164 (by decide +kernel) (by decide +kernel)), rfl, (kwm 8 (by decide +kernel) (by decide +kernel)), (kwm 165 (by decide +kernel) (by decide +kernel)), (by decide +kernel), (by decide +kernel), (by decide +kernel)⟩
theorem mv_X5_copyFrom : jMV yX5_copyFrom cX5_copyFrom 2 none 1 4 := ⟨(kwm 414 (by decide +kernel) (by decide +kernel)), (kwm 415 (by decide +kernel) (by decide +kernel)), (kwm 6 (by decide +kernel) (by decide +kernel)), (kwm 416 (by decide +kernel) (by decide +kernel)), (by decide +kernel), (by decide +kernel), (by decide +kernel), (RX5, TX5, 4), rfl, rfl⟩
theorem mi_X5_init : jMI yX5_init cX5_init 1 0 := ⟨(kwm 93 (by decide +kernel) (by decide +kernel)), rfl, (kwm 6 (by decide +kernel) (by decide +kernel)), (kwm 94 (by decide +kernel) (by decide +kernel)), (by decide +kernel), (by decide +kernel), (by decide +kernel)⟩
theorem mv_X5_learn : jMV yX5_learn cX5_learn 5 none 2 4 := ⟨(kwm 537 (by decide +kernel) (by decide +kernel)), (kwm 538 (by decide +kernel) (by decide +kernel)), (kwm 6 (by decide +kernel) (by decide +kernel)), (kwm 539 (by decide +kernel) (by decide +kernel)), (by decide +kernel), (by decide +kernel), (by decide +kernel), (RX5, TX5, 4), rfl, rfl⟩
theorem ms_X5_nextRank : jMS yX5_nextRank cX5_nextRank 8 (some .int) 2 := ⟨(kwm 542 (by decide +kernel) (by decide +kernel)), (kwm 6 (by decide +kernel) (by decide +kernel)), (kwm 543 (by decide +kernel) (by decide +kernel)), (by decide +kernel), (by decide +kernel), (by decide +kernel)⟩
theorem mv_X5_rowsInside : jMV yX5_rowsInside cX5_rowsInside 7 (some .int) 4 4 := ⟨(kwm 303 (by decide +kernel) (by decide +kernel)), (kwm 304 (by decide +kernel) (by decide +kernel)), (kwm 6 (by decide +kernel) (by decide +kernel)), (kwm 305 (by decide +kernel) (by decide +kernel)), (by decide +kernel), (by decide +kernel), (by decide +kernel), (RX5, TX5, 4), rfl, rfl⟩
theorem mi_X6_init : jMI yX6_init cX6_init 2 1 := ⟨(kwm 178 (by decide +kernel) (by decide +kernel)), rfl, (kwm 9 (by decide +kernel) (by decide +kernel)), (kwm 179 (by decide +kernel) (by decide +kernel)), (by decide +kernel), (by decide +kernel), (by decide +kernel)⟩
theorem mv_X7_addRow : jMV yX7_addRow cX7_addRow 3 (some .int) 2 6 := ⟨(kwm 419 (by decide +kernel) (by decide +kernel)), (kwm 420 (by decide +kernel) (by decide +kernel)), (kwm 2 (by decide +kernel) (by decide +kernel)), (kwm 421 (by decide +kernel) (by decide +kernel)), (by decide +kernel), (by decide +kernel), (by decide +kernel), (RX7, TX7, 3), rfl, rfl⟩
theorem mv_X7_change : jMV yX7_change cX7_change 4 (some .int) 2 6 := ⟨(kwm 468 (by decide +kernel) (by decide +kernel)), (kwm 469 (by decide +kernel) (by decide +kernel)), (kwm 2 (by decide +kernel) (by decide +kernel)), (kwm 470 (by decide +kernel) (by decide +kernel)), (by decide +kernel), (by decide +kernel), (by decide +kernel), (RX7, TX7, 3), rfl, rfl⟩
theorem mv_X7_copyFrom : jMV yX7_copyFrom cX7_copyFrom 2 none 1 6 := ⟨(kwm 393 (by decide +kernel) (by decide +kernel)), (kwm 394 (by decide +kernel) (by decide +kernel)), (kwm 2 (by decide +kernel) (by decide +kernel)), (kwm 395 (by decide +kernel) (by decide +kernel)), (by decide +kernel), (by decide +kernel), (by decide +kernel), (RX7, TX7, 3), rfl, rfl⟩
theorem mv_X7_dropRow : jMV yX7_dropRow cX7_dropRow 2 (some .int) 1 6 := ⟨(kwm 451 (by decide +kernel) (by decide +kernel)), (kwm 452 (by decide +kernel) (by decide +kernel)), (kwm 2 (by decide +kernel) (by decide +kernel)), (kwm 453 (by decide +kernel) (by decide +kernel)), (by decide +kernel), (by decide +kernel), (by decide +kernel), (RX7, TX7, 3), rfl, rfl⟩
theorem mi_X7_init : jMI yX7_init cX7_init 1 0 := ⟨(kwm 23 (by decide +kernel) (by decide +kernel)), rfl, (kwm 2 (by decide +kernel) (by decide +kernel)), (kwm 24 (by decide +kernel) (by decide +kernel)), (by decide +kernel), (by decide +kernel), (by decide +kernel)⟩
theorem ms_X7_isInRange : jMS yX7_isInRange cX7_isInRange 2 (some .boolean) 2 := ⟨(kwm 472 (by decide +kernel) (by decide +kernel)), (kwm 2 (by decide +kernel) (by decide +kernel)), (kwm 473 (by decide +kernel) (by decide +kernel)), (by decide +kernel), (by decide +kernel), (by decide +kernel)⟩
theorem mv_X7_makeAnalysis : jMV yX7_makeAnalysis cX7_makeAnalysis 1 (some .int) 0 6 := ⟨(kwm 487 (by decide +kernel) (by decide +kernel)), (kwm 488 (by decide +kernel) (by decide +kernel)), (kwm 2 (by decide +kernel) (by decide +kernel)), (kwm 489 (by decide +kernel) (by decide +kernel)), (by decide +kernel), (by decide +kernel), (by decide +kernel), (RX7, TX7, 3), rfl, rfl⟩
theorem mv_X7_scale : jMV yX7_scale cX7_scale 2 (some .int) 1 6 := ⟨(kwm 290 (by decide +kernel) (by decide +kernel)), (kwm 291 (by decide +kernel) (by decide +kernel)), (kwm 2 (by decide +kernel) (by decide +kernel)), (kwm 292 (by decide +kernel) (by decide +kernel)), (by decide +kernel), (by decide +kernel), (by decide +kernel), (RX7, TX7, 3), rfl, rfl⟩
theorem mv_X7_setting : jMV yX7_setting cX7_setting 2 (some .int) 1 6 := ⟨(kwm 229 (by decide +kernel) (by decide +kernel)), (kwm 230 (by decide +kernel) (by decide +kernel)), (kwm 2 (by decide +kernel) (by decide +kernel)), (kwm 231 (by decide +kernel) (by decide +kernel)), (by decide +kernel), (by decide +kernel), (by decide +kernel), (RX7, TX7, 3), rfl, rfl⟩
theorem mv_X8_add : jMV yX8_add cX8_add 3 none 2 7 := ⟨(kwm 428 (by decide +kernel) (by decide +kernel)), (kwm 429 (by decide +kernel) (by decide +kernel)), (kwm 3 (by decide +kernel) (by decide +kernel)), (kwm 430 (by decide +kernel) (by decide +kernel)), (by decide +kernel), (by decide +kernel), (by decide +kernel), (RX8, TX8, 3), rfl, rfl⟩
theorem mv_X8_copyFrom : jMV yX8_copyFrom cX8_copyFrom 2 none 1 7 := ⟨(kwm 400 (by decide +kernel) (by decide +kernel)), (kwm 401 (by decide +kernel) (by decide +kernel)), (kwm 3 (by decide +kernel) (by decide +kernel)), (kwm 402 (by decide +kernel) (by decide +kernel)), (by decide +kernel), (by decide +kernel), (by decide +kernel), (RX8, TX8, 3), rfl, rfl⟩
theorem mv_X8_drop : jMV yX8_drop cX8_drop 3 none 1 7 := ⟨(kwm 459 (by decide +kernel) (by decide +kernel)), (kwm 460 (by decide +kernel) (by decide +kernel)), (kwm 3 (by decide +kernel) (by decide +kernel)), (kwm 461 (by decide +kernel) (by decide +kernel)), (by decide +kernel), (by decide +kernel), (by decide +kernel), (RX8, TX8, 3), rfl, rfl⟩
theorem mv_X8_hasRow : jMV yX8_hasRow cX8_hasRow 2 (some .boolean) 1 7 := ⟨(kwm 455 (by decide +kernel) (by decide +kernel)), (kwm 456 (by decide +kernel) (by decide +kernel)), (kwm 3 (by decide +kernel) (by decide +kernel)), (kwm 457 (by decide +kernel) (by decide +kernel)), (by decide +kernel), (by decide +kernel), (by decide +kernel), (RX8, TX8, 3), rfl, rfl⟩
theorem mi_X8_init : jMI yX8_init cX8_init 1 0 := ⟨(kwm 29 (by decide +kernel) (by decide +kernel)), rfl, (kwm 3 (by decide +kernel) (by decide +kernel)), (kwm 30 (by decide +kernel) (by decide +kernel)), (by decide +kernel), (by decide +kernel), (by decide +kernel)⟩
theorem mv_X8_isFull : jMV yX8_isFull cX8_isFull 1 (some .boolean) 0 7 := ⟨(kwm 424 (by decide +kernel) (by decide +kernel)), (kwm 425 (by decide +kernel) (by decide +kernel)), (kwm 3 (by decide +kernel) (by decide +kernel)), (kwm 426 (by decide +kernel) (by decide +kernel)), (by decide +kernel), (by decide +kernel), (by decide +kernel), (RX8, TX8, 3), rfl, rfl⟩
theorem mv_X8_rowsInside : jMV yX8_rowsInside cX8_rowsInside 4 (some .int) 3 7 := ⟨(kwm 258 (by decide +kernel) (by decide +kernel)), (kwm 259 (by decide +kernel) (by decide +kernel)), (kwm 3 (by decide +kernel) (by decide +kernel)), (kwm 260 (by decide +kernel) (by decide +kernel)), (by decide +kernel), (by decide +kernel), (by decide +kernel), (RX8, TX8, 3), rfl, rfl⟩
theorem mv_X8_rowsInsideBoth : jMV yX8_rowsInsideBoth cX8_rowsInsideBoth 7 (some .int) 4 7 := ⟨(kwm 262 (by decide +kernel) (by decide +kernel)), (kwm 263 (by decide +kernel) (by decide +kernel)), (kwm 3 (by decide +kernel) (by decide +kernel)), (kwm 264 (by decide +kernel) (by decide +kernel)), (by decide +kernel), (by decide +kernel), (by decide +kernel), (RX8, TX8, 3), rfl, rfl⟩
theorem mv_X8_rowsLike : jMV yX8_rowsLike cX8_rowsLike 4 (some .int) 1 7 := ⟨(kwm 545 (by decide +kernel) (by decide +kernel)), (kwm 546 (by decide +kernel) (by decide +kernel)), (kwm 3 (by decide +kernel) (by decide +kernel)), (kwm 547 (by decide +kernel) (by decide +kernel)), (by decide +kernel), (by decide +kernel), (by decide +kernel), (RX8, TX8, 3), rfl, rfl⟩
theorem mv_X8_value : jMV yX8_value cX8_value 3 (some .int) 2 7 := ⟨(kwm 504 (by decide +kernel) (by decide +kernel)), (kwm 505 (by decide +kernel) (by decide +kernel)), (kwm 3 (by decide +kernel) (by decide +kernel)), (kwm 506 (by decide +kernel) (by decide +kernel)), (by decide +kernel), (by decide +kernel), (by decide +kernel), (RX8, TX8, 3), rfl, rfl⟩
theorem mv_X9_analyse : jMV yX9_analyse cX9_analyse 1 (some .int) 0 8 := ⟨(kwm 483 (by decide +kernel) (by decide +kernel)), (kwm 484 (by decide +kernel) (by decide +kernel)), (kwm 1 (by decide +kernel) (by decide +kernel)), (kwm 485 (by decide +kernel) (by decide +kernel)), (by decide +kernel), (by decide +kernel), (by decide +kernel), (RX9, TX9, 6), rfl, rfl⟩
theorem ms_X9_areBounds : jMS yX9_areBounds cX9_areBounds 2 (some .boolean) 2 := ⟨(kwm 251 (by decide +kernel) (by decide +kernel)), (kwm 1 (by decide +kernel) (by decide +kernel)), (kwm 252 (by decide +kernel) (by decide +kernel)), (by decide +kernel), (by decide +kernel), (by decide +kernel)⟩
theorem mv_X9_both : jMV yX9_both cX9_both 7 (some .int) 5 8 := ⟨(kwm 294 (by decide +kernel) (by decide +kernel)), (kwm 295 (by decide +kernel) (by decide +kernel)), (kwm 1 (by decide +kernel) (by decide +kernel)), (kwm 296 (by decide +kernel) (by decide +kernel)), (by decide +kernel), (by decide +kernel), (by decide +kernel), (RX9, TX9, 6), rfl, rfl⟩
theorem mv_X9_bucket : jMV yX9_bucket cX9_bucket 4 (some .int) 3 8 := ⟨(kwm 358 (by decide +kernel) (by decide +kernel)), (kwm 359 (by decide +kernel) (by decide +kernel)), (kwm 1 (by decide +kernel) (by decide +kernel)), (kwm 360 (by decide +kernel) (by decide +kernel)), (by decide +kernel), (by decide +kernel), (by decide +kernel), (RX9, TX9, 6), rfl, rfl⟩
theorem mv_X9_common : jMV yX9_common cX9_common 4 (some .int) 3 8 := ⟨(kwm 350 (by decide +kernel) (by decide +kernel)), (kwm 351 (by decide +kernel) (by decide +kernel)), (kwm 1 (by decide +kernel) (by decide +kernel)), (kwm 352 (by decide +kernel) (by decide +kernel)), (by decide +kernel), (by decide +kernel), (by decide +kernel), (RX9, TX9, 6), rfl, rfl⟩
theorem ms_X9_copyNumbers : jMS yX9_copyNumbers cX9_copyNumbers 3 none 2 := ⟨(kwm 397 (by decide +kernel) (by decide +kernel)), (kwm 1 (by decide +kernel) (by decide +kernel)), (kwm 398 (by decide +kernel) (by decide +kernel)), (by decide +kernel), (by decide +kernel), (by decide +kernel)⟩
theorem mv_X9_count : jMV yX9_count cX9_count 3 (some .int) 1 8 := ⟨(kwm 217 (by decide +kernel) (by decide +kernel)), (kwm 218 (by decide +kernel) (by decide +kernel)), (kwm 1 (by decide +kernel) (by decide +kernel)), (kwm 219 (by decide +kernel) (by decide +kernel)), (by decide +kernel), (by decide +kernel), (by decide +kernel), (RX9, TX9, 6), rfl, rfl⟩
theorem mv_X9_estimate : jMV yX9_estimate cX9_estimate 6 (some .int) 4 8 := ⟨(kwm 244 (by decide +kernel) (by decide +kernel)), (kwm 245 (by decide +kernel) (by decide +kernel)), (kwm 1 (by decide +kernel) (by decide +kernel)), (kwm 246 (by decide +kernel) (by decide +kernel)), (by decide +kernel), (by decide +kernel), (by decide +kernel), (RX9, TX9, 6), rfl, rfl⟩
theorem mv_X9_height : jMV yX9_height cX9_height 3 (some .long) 1 8 := ⟨(kwm 366 (by decide +kernel) (by decide +kernel)), (kwm 367 (by decide +kernel) (by decide +kernel)), (kwm 1 (by decide +kernel) (by decide +kernel)), (kwm 368 (by decide +kernel) (by decide +kernel)), (by decide +kernel), (by decide +kernel), (by decide +kernel), (RX9, TX9, 6), rfl, rfl⟩
theorem mi_X9_init : jMI yX9_init cX9_init 1 0 := ⟨(kwm 15 (by decide +kernel) (by decide +kernel)), rfl, (kwm 1 (by decide +kernel) (by decide +kernel)), (kwm 16 (by decide +kernel) (by decide +kernel)), (by decide +kernel), (by decide +kernel), (by decide +kernel)⟩
theorem mv_X9_insert : jMV yX9_insert cX9_insert 3 (some .int) 2 8 := ⟨(kwm 384 (by decide +kernel) (by decide +kernel)), (kwm 385 (by decide +kernel) (by decide +kernel)), (kwm 1 (by decide +kernel) (by decide +kernel)), (kwm 386 (by decide +kernel) (by decide +kernel)), (by decide +kernel), (by decide +kernel), (by decide +kernel), (RX9, TX9, 6), rfl, rfl⟩
theorem ms_X9_isBetween : jMS yX9_isBetween cX9_isBetween 3 (some .boolean) 3 := ⟨(kwm 233 (by decide +kernel) (by decide +kernel)), (kwm 1 (by decide +kernel) (by decide +kernel)), (kwm 234 (by decide +kernel) (by decide +kernel)), (by decide +kernel), (by decide +kernel), (by decide +kernel)⟩
theorem ms_X9_isColumn : jMS yX9_isColumn cX9_isColumn 1 (some .boolean) 1 := ⟨(kwm 248 (by decide +kernel) (by decide +kernel)), (kwm 1 (by decide +kernel) (by decide +kernel)), (kwm 249 (by decide +kernel) (by decide +kernel)), (by decide +kernel), (by decide +kernel), (by decide +kernel)⟩
theorem ms_X9_isValue : jMS yX9_isValue cX9_isValue 1 (some .boolean) 1 := ⟨(kwm 254 (by decide +kernel) (by decide +kernel)), (kwm 1 (by decide +kernel) (by decide +kernel)), (kwm 255 (by decide +kernel) (by decide +kernel)), (by decide +kernel), (by decide +kernel), (by decide +kernel)⟩
theorem mv_X9_recorded : jMV yX9_recorded cX9_recorded 2 (some .int) 1 8 := ⟨(kwm 439 (by decide +kernel) (by decide +kernel)), (kws 2 (by decide +kernel) (by decide +kernel)), (kwm 1 (by decide +kernel) (by decide +kernel)), (kwm 440 (by decide +kernel) (by decide +kernel)), (by decide +kernel), (by decide +kernel), (by decide +kernel), (RX9, TX9, 6), rfl, rfl⟩
theorem mv_X9_remove : jMV yX9_remove cX9_remove 2 (some .int) 1 8 := ⟨(kwm 447 (by decide +kernel) (by decide +kernel)), (kwm 448 (by decide +kernel) (by decide +kernel)), (kwm 1 (by decide +kernel) (by decide +kernel)), (kwm 449 (by decide +kernel) (by decide +kernel)), (by decide +kernel), (by decide +kernel), (by decide +kernel), (RX9, TX9, 6), rfl, rfl⟩
theorem mv_X9_set : jMV yX9_set cX9_set 3 (some .int) 2 8 := ⟨(kwm 464 (by decide +kernel) (by decide +kernel)), (kwm 465 (by decide +kernel) (by decide +kernel)), (kwm 1 (by decide +kernel) (by decide +kernel)), (kwm 466 (by decide +kernel) (by decide +kernel)), (by decide +kernel), (by decide +kernel), (by decide +kernel), (RX9, TX9, 6), rfl, rfl⟩
theorem mv_X9_share : jMV yX9_share cX9_share 7 (some .int) 3 8 := ⟨(kwm 310 (by decide +kernel) (by decide +kernel)), (kwm 311 (by decide +kernel) (by decide +kernel)), (kwm 1 (by decide +kernel) (by decide +kernel)), (kwm 312 (by decide +kernel) (by decide +kernel)), (by decide +kernel), (by decide +kernel), (by decide +kernel), (RX9, TX9, 6), rfl, rfl⟩
theorem mv_X9_tellStale : jMV yX9_tellStale cX9_tellStale 1 (some .int) 0 8 := ⟨(kwm 222 (by decide +kernel) (by decide +kernel)), (kws 0 (by decide +kernel) (by decide +kernel)), (kwm 1 (by decide +kernel) (by decide +kernel)), (kwm 223 (by decide +kernel) (by decide +kernel)), (by decide +kernel), (by decide +kernel), (by decide +kernel), (RX9, TX9, 6), rfl, rfl⟩
theorem mv_X9_undo : jMV yX9_undo cX9_undo 1 (some .int) 0 8 := ⟨(kwm 475 (by decide +kernel) (by decide +kernel)), (kwm 476 (by decide +kernel) (by decide +kernel)), (kwm 1 (by decide +kernel) (by decide +kernel)), (kwm 477 (by decide +kernel) (by decide +kernel)), (by decide +kernel), (by decide +kernel), (by decide +kernel), (RX9, TX9, 6), rfl, rfl⟩
theorem mv_X9_worst : jMV yX9_worst cX9_worst 5 (some .int) 2 8 := ⟨(kwm 321 (by decide +kernel) (by decide +kernel)), (kwm 322 (by decide +kernel) (by decide +kernel)), (kwm 1 (by decide +kernel) (by decide +kernel)), (kwm 323 (by decide +kernel) (by decide +kernel)), (by decide +kernel), (by decide +kernel), (by decide +kernel), (RX9, TX9, 6), rfl, rfl⟩
theorem ml_L_38 : Cond.methodLink RL 38 yL_cell ∈ wsL_law := kwm 342 (by decide +kernel) (by decide +kernel)
theorem ml_L_44 : Cond.methodLink RL 44 yL_low ∈ wsL_law := kwm 338 (by decide +kernel) (by decide +kernel)
theorem ml_L_47 : Cond.methodLink RL 47 yX9_insert ∈ wsL_law := kwm 383 (by decide +kernel) (by decide +kernel)
theorem ml_L_50 : Cond.methodLink RL 50 yX9_remove ∈ wsL_law := kwm 446 (by decide +kernel) (by decide +kernel)
theorem ml_L_53 : Cond.methodLink RL 53 yX9_set ∈ wsL_law := kwm 463 (by decide +kernel) (by decide +kernel)
theorem ml_L_56 : Cond.methodLink RL 56 yX9_undo ∈ wsL_law := kwm 474 (by decide +kernel) (by decide +kernel)
theorem ml_L_60 : Cond.methodLink RL 60 yX9_analyse ∈ wsL_law := kwm 482 (by decide +kernel) (by decide +kernel)
theorem kc_L_8 : Cond.constant RL 8 (Int32.ofInt (40503)) ∈ wsL_law := kwm 345 (by decide +kernel) (by decide +kernel)
theorem ml_L_9 : Cond.methodLink RL 9 yX9_estimate ∈ wsL_law := kwm 243 (by decide +kernel) (by decide +kernel)
theorem ml_L_15 : Cond.methodLink RL 15 yX9_count ∈ wsL_law := kwm 216 (by decide +kernel) (by decide +kernel)
theorem ml_L_19 : Cond.methodLink RL 19 yX9_common ∈ wsL_law := kwm 349 (by decide +kernel) (by decide +kernel)
theorem ml_L_23 : Cond.methodLink RL 23 yX9_bucket ∈ wsL_law := kwm 357 (by decide +kernel) (by decide +kernel)
theorem ml_L_26 : Cond.methodLink RL 26 yX9_worst ∈ wsL_law := kwm 320 (by decide +kernel) (by decide +kernel)
theorem ml_L_30 : Cond.methodLink RL 30 yX9_height ∈ wsL_law := kwm 365 (by decide +kernel) (by decide +kernel)
theorem ml_L_34 : Cond.methodLink RL 34 yX9_both ∈ wsL_law := kwm 293 (by decide +kernel) (by decide +kernel)
theorem nw_L_10 : jFN RL 10 8 [.null, .null, .null, .null, .null, .null] := ⟨RX9, TX9, 6, tyX9, rfl, ilX9, tyX9_ok, (kwm 12 (by decide +kernel) (by decide +kernel)), (kwm 13 (by decide +kernel) (by decide +kernel)), (kwm 1 (by decide +kernel) (by decide +kernel)), rfl, fun j hj => by
  rcases (show j = 0 ∨ j = 1 ∨ j = 2 ∨ j = 3 ∨ j = 4 ∨ j = 5 by omega) with rfl | rfl | rfl | rfl | rfl | rfl <;> rfl⟩
theorem ml_L_63 : Cond.methodLink RL 63 yX9_init ∈ wsL_law := kwm 14 (by decide +kernel) (by decide +kernel)
theorem ml_L_64 : Cond.methodLink RL 64 yL_act ∈ wsL_law := kwm 380 (by decide +kernel) (by decide +kernel)
theorem ml_L_68 : Cond.methodLink RL 68 yX9_share ∈ wsL_law := kwm 309 (by decide +kernel) (by decide +kernel)
theorem ml_L_71 : Cond.methodLink RL 71 yL_column ∈ wsL_law := kwm 346 (by decide +kernel) (by decide +kernel)
theorem ml_L_75 : Cond.methodLink RL 75 yL_estimates ∈ wsL_law := kwm 377 (by decide +kernel) (by decide +kernel)
theorem kc_L_7 : Cond.constant RL 7 (Int32.ofInt (2147483647)) ∈ wsL_law := kwm 341 (by decide +kernel) (by decide +kernel)
theorem fg_X0_12 : jFG RX0 12 0 0 := ⟨RX0, TX0, 5, rfl, ilX0, (kwm 110 (by decide +kernel) (by decide +kernel)), by decide⟩
theorem ml_X0_64 : Cond.methodLink RX0 64 yX2_copyFrom ∈ wsL_law := kwm 408 (by decide +kernel) (by decide +kernel)
theorem fg_X0_18 : jFG RX0 18 0 1 := ⟨RX0, TX0, 5, rfl, ilX0, (kwm 111 (by decide +kernel) (by decide +kernel)), by decide⟩
theorem fg_X0_24 : jFG RX0 24 0 2 := ⟨RX0, TX0, 5, rfl, ilX0, (kwm 112 (by decide +kernel) (by decide +kernel)), by decide⟩
theorem ml_X0_68 : Cond.methodLink RX0 68 yX5_copyFrom ∈ wsL_law := kwm 413 (by decide +kernel) (by decide +kernel)
theorem fg_X0_28 : jFG RX0 28 0 3 := ⟨RX0, TX0, 5, rfl, ilX0, (kwm 114 (by decide +kernel) (by decide +kernel)), by decide⟩
theorem fp_X0_28 (z : Int) : jFP RX0 28 0 3 false (jI z) := ⟨RX0, TX0, 5, tyX0, .int, rfl, ilX0, (kwm 114 (by decide +kernel) (by decide +kernel)), by decide, tyX0_ok, nmX0, rfl, by decide +kernel, rfl, rfl⟩
theorem fg_X0_44 : jFG RX0 44 0 4 := ⟨RX0, TX0, 5, rfl, ilX0, (kwm 117 (by decide +kernel) (by decide +kernel)), by decide⟩
theorem fp_X0_44 (z : Int) : jFP RX0 44 0 4 false (jI z) := ⟨RX0, TX0, 5, tyX0, .int, rfl, ilX0, (kwm 117 (by decide +kernel) (by decide +kernel)), by decide, tyX0_ok, nmX0, rfl, by decide +kernel, rfl, rfl⟩
theorem ml_X0_51 : Cond.methodLink RX0 51 yX5_rowsInside ∈ wsL_law := kwm 302 (by decide +kernel) (by decide +kernel)
theorem ml_X0_55 : Cond.methodLink RX0 55 yX2_guess ∈ wsL_law := kwm 307 (by decide +kernel) (by decide +kernel)
theorem ml_X0_59 : Cond.methodLink RX0 59 Lib.Math.max.name ∈ wsL_law := kwm 308 (by decide +kernel) (by decide +kernel)
theorem ml_X0_3 : Cond.methodLink RX0 3 objectInit ∈ wsL_law := kwm 53 (by decide +kernel) (by decide +kernel)
theorem nw_X0_9 : jFN RX0 9 1 [.null, .null, .null, jI 0, .null, .null, .null, .null, jI 0] := ⟨RX2, TX2, 9, tyX2, rfl, ilX2, tyX2_ok, (kwm 54 (by decide +kernel) (by decide +kernel)), (kwm 55 (by decide +kernel) (by decide +kernel)), (kwm 5 (by decide +kernel) (by decide +kernel)), rfl, fun j hj => by
  rcases (show j = 0 ∨ j = 1 ∨ j = 2 ∨ j = 3 ∨ j = 4 ∨ j = 5 ∨ j = 6 ∨ j = 7 ∨ j = 8 by omega) with rfl | rfl | rfl | rfl | rfl | rfl | rfl | rfl | rfl <;> rfl⟩
theorem ml_X0_11 : Cond.methodLinkNest RX0 11 yX2_init "EqualHeights" ∈ jNest := kwn 56 (by decide +kernel) (by decide +kernel)
theorem fp_X0_12 (a : Nat) : jFP RX0 12 0 0 true (.ref a) := ⟨RX0, TX0, 5, tyX0, .object "EqualHeights$ColumnFacts", rfl, ilX0, (kwm 110 (by decide +kernel) (by decide +kernel)), by decide, tyX0_ok, nmX0, rfl, by decide +kernel, rfl, rfl⟩
theorem fd_X0_0 : jdecl 0 0 RX0 := fun r h => by cases h; rfl
theorem fp_X0_18 (a : Nat) : jFP RX0 18 0 1 true (.ref a) := ⟨RX0, TX0, 5, tyX0, .object "EqualHeights$ColumnFacts", rfl, ilX0, (kwm 111 (by decide +kernel) (by decide +kernel)), by decide, tyX0_ok, nmX0, rfl, by decide +kernel, rfl, rfl⟩
theorem fd_X0_1 : jdecl 0 1 RX0 := fun r h => by cases h; rfl
theorem nw_X0_21 : jFN RX0 21 4 [.null, .null, .null, jI 0] := ⟨RX5, TX5, 4, tyX5, rfl, ilX5, tyX5_ok, (kwm 90 (by decide +kernel) (by decide +kernel)), (kwm 91 (by decide +kernel) (by decide +kernel)), (kwm 6 (by decide +kernel) (by decide +kernel)), rfl, fun j hj => by
  rcases (show j = 0 ∨ j = 1 ∨ j = 2 ∨ j = 3 by omega) with rfl | rfl | rfl | rfl <;> rfl⟩
theorem ml_X0_23 : Cond.methodLinkNest RX0 23 yX5_init "EqualHeights" ∈ jNest := kwn 92 (by decide +kernel) (by decide +kernel)
theorem fp_X0_24 (a : Nat) : jFP RX0 24 0 2 true (.ref a) := ⟨RX0, TX0, 5, tyX0, .object "EqualHeights$PairFacts", rfl, ilX0, (kwm 112 (by decide +kernel) (by decide +kernel)), by decide, tyX0_ok, nmX0, rfl, by decide +kernel, rfl, rfl⟩
theorem fd_X0_2 : jdecl 0 2 RX0 := fun r h => by cases h; rfl
theorem ml_X0_32 : Cond.methodLink RX0 32 yX2_learn ∈ wsL_law := kwm 495 (by decide +kernel) (by decide +kernel)
theorem ml_X0_36 : Cond.methodLink RX0 36 yX5_learn ∈ wsL_law := kwm 536 (by decide +kernel) (by decide +kernel)
theorem fg_X0_39 : jFGn RX0 39 7 2 := ⟨RX8, TX8, 3, "EqualHeights", rfl, ilX8, (kwn 37 (by decide +kernel) (by decide +kernel)), by decide⟩
theorem ml_X0_47 : Cond.methodLink RX0 47 yX0_isMade ∈ wsL_law := kwm 436 (by decide +kernel) (by decide +kernel)
theorem kc_X1_13 : Cond.constantDouble RX1 13 (4611686018427387904) ∈ wsL_law := kwm 319 (by decide +kernel) (by decide +kernel)
theorem ml_X1_7 : Cond.methodLink RX1 7 yX1_bits ∈ wsL_law := kwm 316 (by decide +kernel) (by decide +kernel)
theorem fg_X2_68 : jFG RX2 68 1 8 := ⟨RX2, TX2, 9, rfl, ilX2, (kwm 69 (by decide +kernel) (by decide +kernel)), by decide⟩
theorem fg_X2_24 : jFG RX2 24 1 5 := ⟨RX2, TX2, 9, rfl, ilX2, (kwm 66 (by decide +kernel) (by decide +kernel)), by decide⟩
theorem fg_X2_30 : jFG RX2 30 1 7 := ⟨RX2, TX2, 9, rfl, ilX2, (kwm 68 (by decide +kernel) (by decide +kernel)), by decide⟩
theorem fg_X2_27 : jFG RX2 27 1 6 := ⟨RX2, TX2, 9, rfl, ilX2, (kwm 67 (by decide +kernel) (by decide +kernel)), by decide⟩
theorem fp_X2_55 (z : Int) : jFP RX2 55 1 3 false (jI z) := ⟨RX2, TX2, 9, tyX2, .int, rfl, ilX2, (kwm 63 (by decide +kernel) (by decide +kernel)), by decide, tyX2_ok, nmX2, rfl, by decide +kernel, rfl, rfl⟩
theorem kc_X2_58 : Cond.constant RX2 58 (Int32.ofInt (1000000)) ∈ wsL_law := kwm 511 (by decide +kernel) (by decide +kernel)
theorem ml_X2_59 : Cond.methodLink RX2 59 yX2_nextRank ∈ wsL_law := kwm 512 (by decide +kernel) (by decide +kernel)
theorem fg_X2_15 : jFG RX2 15 1 1 := ⟨RX2, TX2, 9, rfl, ilX2, (kwm 61 (by decide +kernel) (by decide +kernel)), by decide⟩
theorem fg_X2_18 : jFG RX2 18 1 2 := ⟨RX2, TX2, 9, rfl, ilX2, (kwm 62 (by decide +kernel) (by decide +kernel)), by decide⟩
theorem fg_X2_55 : jFG RX2 55 1 3 := ⟨RX2, TX2, 9, rfl, ilX2, (kwm 63 (by decide +kernel) (by decide +kernel)), by decide⟩
theorem fg_X2_9 : jFG RX2 9 1 0 := ⟨RX2, TX2, 9, rfl, ilX2, (kwm 60 (by decide +kernel) (by decide +kernel)), by decide⟩
theorem ml_X2_106 : Cond.methodLinkNest RX2 106 yX9_copyNumbers "EqualHeights" ∈ jNest := kwn 412 (by decide +kernel) (by decide +kernel)
theorem fg_X2_21 : jFG RX2 21 1 4 := ⟨RX2, TX2, 9, rfl, ilX2, (kwm 65 (by decide +kernel) (by decide +kernel)), by decide⟩
theorem fp_X2_68 (z : Int) : jFP RX2 68 1 8 false (jI z) := ⟨RX2, TX2, 9, tyX2, .int, rfl, ilX2, (kwm 69 (by decide +kernel) (by decide +kernel)), by decide, tyX2_ok, nmX2, rfl, by decide +kernel, rfl, rfl⟩
theorem fg_X2_41 : jFGn RX2 41 7 2 := ⟨RX8, TX8, 3, "EqualHeights", rfl, ilX8, (kwn 35 (by decide +kernel) (by decide +kernel)), by decide⟩
theorem ml_X2_51 : Cond.methodLink RX2 51 yX8_value ∈ wsL_law := kwm 503 (by decide +kernel) (by decide +kernel)
theorem ml_X2_63 : Cond.methodLink RX2 63 Lib.Math.min.name ∈ wsL_law := kwm 275 (by decide +kernel) (by decide +kernel)
theorem ml_X2_71 : Cond.methodLink RX2 71 yX2_isCommon ∈ wsL_law := kwm 520 (by decide +kernel) (by decide +kernel)
theorem ml_X2_75 : Cond.methodLink RX2 75 yX2_fullHeight ∈ wsL_law := kwm 524 (by decide +kernel) (by decide +kernel)
theorem ml_X2_78 : Cond.methodLink RX2 78 yX2_startBucket ∈ wsL_law := kwm 528 (by decide +kernel) (by decide +kernel)
theorem ml_X2_81 : Cond.methodLink RX2 81 yX2_addToBucket ∈ wsL_law := kwm 532 (by decide +kernel) (by decide +kernel)
theorem ml_X2_88 : Cond.methodLink RX2 88 yX2_rowsOfCommon ∈ wsL_law := kwm 270 (by decide +kernel) (by decide +kernel)
theorem ml_X2_91 : Cond.methodLink RX2 91 Lib.Math.max.name ∈ wsL_law := kwm 278 (by decide +kernel) (by decide +kernel)
theorem ml_X2_3 : Cond.methodLink RX2 3 objectInit ∈ wsL_law := kwm 59 (by decide +kernel) (by decide +kernel)
theorem fp_X2_9 (a : Nat) : jFP RX2 9 1 0 true (.ref a) := ⟨RX2, TX2, 9, tyX2, .array .int, rfl, ilX2, (kwm 60 (by decide +kernel) (by decide +kernel)), by decide, tyX2_ok, nmX2, rfl, by decide +kernel, rfl, rfl⟩
theorem fd_X2_0 : jdecl 1 0 RX2 := fun r h => by cases h; rfl
theorem fp_X2_15 (a : Nat) : jFP RX2 15 1 1 true (.ref a) := ⟨RX2, TX2, 9, tyX2, .array .int, rfl, ilX2, (kwm 61 (by decide +kernel) (by decide +kernel)), by decide, tyX2_ok, nmX2, rfl, by decide +kernel, rfl, rfl⟩
theorem fd_X2_1 : jdecl 1 1 RX2 := fun r h => by cases h; rfl
theorem fp_X2_18 (a : Nat) : jFP RX2 18 1 2 true (.ref a) := ⟨RX2, TX2, 9, tyX2, .array .int, rfl, ilX2, (kwm 62 (by decide +kernel) (by decide +kernel)), by decide, tyX2_ok, nmX2, rfl, by decide +kernel, rfl, rfl⟩
theorem fd_X2_2 : jdecl 1 2 RX2 := fun r h => by cases h; rfl
theorem fp_X2_21 (a : Nat) : jFP RX2 21 1 4 true (.ref a) := ⟨RX2, TX2, 9, tyX2, .array .int, rfl, ilX2, (kwm 65 (by decide +kernel) (by decide +kernel)), by decide, tyX2_ok, nmX2, rfl, by decide +kernel, rfl, rfl⟩
theorem fd_X2_4 : jdecl 1 4 RX2 := fun r h => by cases h; rfl
theorem fp_X2_24 (a : Nat) : jFP RX2 24 1 5 true (.ref a) := ⟨RX2, TX2, 9, tyX2, .array .int, rfl, ilX2, (kwm 66 (by decide +kernel) (by decide +kernel)), by decide, tyX2_ok, nmX2, rfl, by decide +kernel, rfl, rfl⟩
theorem fd_X2_5 : jdecl 1 5 RX2 := fun r h => by cases h; rfl
theorem fp_X2_27 (a : Nat) : jFP RX2 27 1 6 true (.ref a) := ⟨RX2, TX2, 9, tyX2, .array .int, rfl, ilX2, (kwm 67 (by decide +kernel) (by decide +kernel)), by decide, tyX2_ok, nmX2, rfl, by decide +kernel, rfl, rfl⟩
theorem fd_X2_6 : jdecl 1 6 RX2 := fun r h => by cases h; rfl
theorem fp_X2_30 (a : Nat) : jFP RX2 30 1 7 true (.ref a) := ⟨RX2, TX2, 9, tyX2, .array .int, rfl, ilX2, (kwm 68 (by decide +kernel) (by decide +kernel)), by decide, tyX2_ok, nmX2, rfl, by decide +kernel, rfl, rfl⟩
theorem fd_X2_7 : jdecl 1 7 RX2 := fun r h => by cases h; rfl
theorem ml_X2_33 : Cond.methodLink RX2 33 yX2_countValues ∈ wsL_law := kwm 499 (by decide +kernel) (by decide +kernel)
theorem ml_X2_37 : Cond.methodLink RX2 37 yX2_chooseCommon ∈ wsL_law := kwm 507 (by decide +kernel) (by decide +kernel)
theorem ml_X2_47 : Cond.methodLink RX2 47 yX2_cutBuckets ∈ wsL_law := kwm 516 (by decide +kernel) (by decide +kernel)
theorem ml_X2_94 : Cond.methodLinkNest RX2 94 yX9_isValue "EqualHeights" ∈ jNest := kwn 332 (by decide +kernel) (by decide +kernel)
theorem ml_X2_97 : Cond.methodLink RX2 97 yX2_guess ∈ wsL_law := kwm 333 (by decide +kernel) (by decide +kernel)
theorem ml_X2_100 : Cond.methodLink RX2 100 Lib.Math.abs.name ∈ wsL_law := kwm 334 (by decide +kernel) (by decide +kernel)
theorem ml_X2_84 : Cond.methodLinkNest RX2 84 yX9_isBetween "EqualHeights" ∈ jNest := kwn 274 (by decide +kernel) (by decide +kernel)
theorem ml_X2_103 : Cond.methodLink RX2 103 yX2_miss ∈ wsL_law := kwm 328 (by decide +kernel) (by decide +kernel)
theorem fg_X3_17 : jFG RX3 17 2 1 := ⟨RX3, TX3, 3, rfl, ilX3, (kwm 151 (by decide +kernel) (by decide +kernel)), by decide⟩
theorem fg_X3_26 : jFG RX3 26 2 2 := ⟨RX3, TX3, 3, rfl, ilX3, (kwm 152 (by decide +kernel) (by decide +kernel)), by decide⟩
theorem fg_X3_13 : jFG RX3 13 2 0 := ⟨RX3, TX3, 3, rfl, ilX3, (kwm 150 (by decide +kernel) (by decide +kernel)), by decide⟩
theorem ml_X3_22 : Cond.methodLink RX3 22 yX7_copyFrom ∈ wsL_law := kwm 392 (by decide +kernel) (by decide +kernel)
theorem fp_X3_17 (z : Int) : jFP RX3 17 2 1 false (jI z) := ⟨RX3, TX3, 3, tyX3, .int, rfl, ilX3, (kwm 151 (by decide +kernel) (by decide +kernel)), by decide, tyX3_ok, nmX3, rfl, by decide +kernel, rfl, rfl⟩
theorem fp_X3_26 (z : Int) : jFP RX3 26 2 2 false (jI z) := ⟨RX3, TX3, 3, tyX3, .int, rfl, ilX3, (kwm 152 (by decide +kernel) (by decide +kernel)), by decide, tyX3_ok, nmX3, rfl, by decide +kernel, rfl, rfl⟩
theorem ml_X3_3 : Cond.methodLink RX3 3 objectInit ∈ wsL_law := kwm 148 (by decide +kernel) (by decide +kernel)
theorem kq_X3_11 : Cond.classLink RX3 11 "EqualHeights$State" ∈ wsL_law := kwm 149 (by decide +kernel) (by decide +kernel)
theorem fp_X3_13 (a : Nat) : jFP RX3 13 2 0 true (.ref a) := ⟨RX3, TX3, 3, tyX3, .array (.object "EqualHeights$State"), rfl, ilX3, (kwm 150 (by decide +kernel) (by decide +kernel)), by decide, tyX3_ok, nmX3, rfl, by decide +kernel, rfl, rfl⟩
theorem fd_X3_0 : jdecl 2 0 RX3 := fun r h => by cases h; rfl
theorem ml_X3_29 : Cond.methodLink RX3 29 Lib.Math.min.name ∈ wsL_law := kwm 445 (by decide +kernel) (by decide +kernel)
theorem nw_X3_11 : jFN RX3 11 6 [.null, .null, .null] := ⟨RX7, TX7, 3, tyX7, rfl, ilX7, tyX7_ok, (kwm 149 (by decide +kernel) (by decide +kernel)), (kwm 21 (by decide +kernel) (by decide +kernel)), (kwm 2 (by decide +kernel) (by decide +kernel)), rfl, fun j hj => by
  rcases (show j = 0 ∨ j = 1 ∨ j = 2 by omega) with rfl | rfl | rfl <;> rfl⟩
theorem ml_X3_21 : Cond.methodLinkNest RX3 21 yX7_init "EqualHeights" ∈ jNest := kwn 391 (by decide +kernel) (by decide +kernel)
theorem ml_X4_3 : Cond.methodLink RX4 3 objectInit ∈ wsL_law := kwm 166 (by decide +kernel) (by decide +kernel)
theorem fp_X4_9 (a : Nat) : jFP RX4 9 3 0 true (.ref a) := ⟨RX4, TX4, 2, tyX4, .array .char, rfl, ilX4, (kwm 167 (by decide +kernel) (by decide +kernel)), by decide, tyX4_ok, nmX4, rfl, by decide +kernel, rfl, rfl⟩
theorem fd_X4_0 : jdecl 3 0 RX4 := fun r h => by cases h; rfl
theorem fg_X5_9 : jFG RX5 9 4 0 := ⟨RX5, TX5, 4, rfl, ilX5, (kwm 96 (by decide +kernel) (by decide +kernel)), by decide⟩
theorem ml_X5_47 : Cond.methodLinkNest RX5 47 yX9_copyNumbers "EqualHeights" ∈ jNest := kwn 417 (by decide +kernel) (by decide +kernel)
theorem fg_X5_15 : jFG RX5 15 4 1 := ⟨RX5, TX5, 4, rfl, ilX5, (kwm 97 (by decide +kernel) (by decide +kernel)), by decide⟩
theorem fg_X5_18 : jFG RX5 18 4 2 := ⟨RX5, TX5, 4, rfl, ilX5, (kwm 98 (by decide +kernel) (by decide +kernel)), by decide⟩
theorem fg_X5_21 : jFG RX5 21 4 3 := ⟨RX5, TX5, 4, rfl, ilX5, (kwm 99 (by decide +kernel) (by decide +kernel)), by decide⟩
theorem fp_X5_21 (z : Int) : jFP RX5 21 4 3 false (jI z) := ⟨RX5, TX5, 4, tyX5, .int, rfl, ilX5, (kwm 99 (by decide +kernel) (by decide +kernel)), by decide, tyX5_ok, nmX5, rfl, by decide +kernel, rfl, rfl⟩
theorem ml_X5_3 : Cond.methodLink RX5 3 objectInit ∈ wsL_law := kwm 95 (by decide +kernel) (by decide +kernel)
theorem fp_X5_9 (a : Nat) : jFP RX5 9 4 0 true (.ref a) := ⟨RX5, TX5, 4, tyX5, .array .int, rfl, ilX5, (kwm 96 (by decide +kernel) (by decide +kernel)), by decide, tyX5_ok, nmX5, rfl, by decide +kernel, rfl, rfl⟩
theorem fd_X5_0 : jdecl 4 0 RX5 := fun r h => by cases h; rfl
theorem fp_X5_15 (a : Nat) : jFP RX5 15 4 1 true (.ref a) := ⟨RX5, TX5, 4, tyX5, .array .int, rfl, ilX5, (kwm 97 (by decide +kernel) (by decide +kernel)), by decide, tyX5_ok, nmX5, rfl, by decide +kernel, rfl, rfl⟩
theorem fd_X5_1 : jdecl 4 1 RX5 := fun r h => by cases h; rfl
theorem fp_X5_18 (a : Nat) : jFP RX5 18 4 2 true (.ref a) := ⟨RX5, TX5, 4, tyX5, .array .int, rfl, ilX5, (kwm 98 (by decide +kernel) (by decide +kernel)), by decide, tyX5_ok, nmX5, rfl, by decide +kernel, rfl, rfl⟩
theorem fd_X5_2 : jdecl 4 2 RX5 := fun r h => by cases h; rfl
theorem kc_X5_25 : Cond.constant RX5 25 (Int32.ofInt (1000000)) ∈ wsL_law := kwm 540 (by decide +kernel) (by decide +kernel)
theorem ml_X5_26 : Cond.methodLink RX5 26 yX5_nextRank ∈ wsL_law := kwm 541 (by decide +kernel) (by decide +kernel)
theorem fg_X5_30 : jFGn RX5 30 7 2 := ⟨RX8, TX8, 3, "EqualHeights", rfl, ilX8, (kwn 36 (by decide +kernel) (by decide +kernel)), by decide⟩
theorem ml_X5_35 : Cond.methodLink RX5 35 yX8_rowsLike ∈ wsL_law := kwm 544 (by decide +kernel) (by decide +kernel)
theorem ml_X5_39 : Cond.methodLink RX5 39 yX8_value ∈ wsL_law := kwm 548 (by decide +kernel) (by decide +kernel)
theorem ml_X5_43 : Cond.methodLinkNest RX5 43 yX9_isBetween "EqualHeights" ∈ jNest := kwn 306 (by decide +kernel) (by decide +kernel)
theorem ml_X6_3 : Cond.methodLink RX6 3 objectInit ∈ wsL_law := kwm 180 (by decide +kernel) (by decide +kernel)
theorem fp_X6_9 (a : Nat) : jFP RX6 9 5 0 true (.ref a) := ⟨RX6, TX6, 6, tyX6, .object "EqualHeights$Pad", rfl, ilX6, (kwm 181 (by decide +kernel) (by decide +kernel)), by decide, tyX6_ok, nmX6, rfl, by decide +kernel, rfl, rfl⟩
theorem fd_X6_0 : jdecl 5 0 RX6 := fun r h => by cases h; rfl
theorem ml_X7_37 : Cond.methodLinkNest RX7 37 yX9_isValue "EqualHeights" ∈ jNest := kwn 422 (by decide +kernel) (by decide +kernel)
theorem fg_X7_18 : jFG RX7 18 6 1 := ⟨RX7, TX7, 3, rfl, ilX7, (kwm 131 (by decide +kernel) (by decide +kernel)), by decide⟩
theorem ml_X7_41 : Cond.methodLink RX7 41 yX8_isFull ∈ wsL_law := kwm 423 (by decide +kernel) (by decide +kernel)
theorem ml_X7_45 : Cond.methodLink RX7 45 yX8_add ∈ wsL_law := kwm 427 (by decide +kernel) (by decide +kernel)
theorem fg_X7_25 : jFG RX7 25 6 2 := ⟨RX7, TX7, 3, rfl, ilX7, (kwm 133 (by decide +kernel) (by decide +kernel)), by decide⟩
theorem ml_X7_49 : Cond.methodLink RX7 49 yX0_noteChange ∈ wsL_law := kwm 432 (by decide +kernel) (by decide +kernel)
theorem fg_X7_52 : jFGn RX7 52 7 2 := ⟨RX8, TX8, 3, "EqualHeights", rfl, ilX8, (kwn 38 (by decide +kernel) (by decide +kernel)), by decide⟩
theorem ml_X7_29 : Cond.methodLinkNest RX7 29 yX9_isBetween "EqualHeights" ∈ jNest := kwn 232 (by decide +kernel) (by decide +kernel)
theorem ml_X7_33 : Cond.methodLink RX7 33 yX7_isInRange ∈ wsL_law := kwm 471 (by decide +kernel) (by decide +kernel)
theorem fg_X7_9 : jFG RX7 9 6 0 := ⟨RX7, TX7, 3, rfl, ilX7, (kwm 130 (by decide +kernel) (by decide +kernel)), by decide⟩
theorem ml_X7_78 : Cond.methodLinkNest RX7 78 yX9_copyNumbers "EqualHeights" ∈ jNest := kwn 396 (by decide +kernel) (by decide +kernel)
theorem ml_X7_82 : Cond.methodLink RX7 82 yX8_copyFrom ∈ wsL_law := kwm 399 (by decide +kernel) (by decide +kernel)
theorem ml_X7_86 : Cond.methodLink RX7 86 yX0_copyFrom ∈ wsL_law := kwm 404 (by decide +kernel) (by decide +kernel)
theorem ml_X7_60 : Cond.methodLink RX7 60 yX8_hasRow ∈ wsL_law := kwm 454 (by decide +kernel) (by decide +kernel)
theorem ml_X7_63 : Cond.methodLink RX7 63 yX8_drop ∈ wsL_law := kwm 458 (by decide +kernel) (by decide +kernel)
theorem ml_X7_3 : Cond.methodLink RX7 3 objectInit ∈ wsL_law := kwm 25 (by decide +kernel) (by decide +kernel)
theorem fp_X7_9 (a : Nat) : jFP RX7 9 6 0 true (.ref a) := ⟨RX7, TX7, 3, tyX7, .array .int, rfl, ilX7, (kwm 130 (by decide +kernel) (by decide +kernel)), by decide, tyX7_ok, nmX7, rfl, by decide +kernel, rfl, rfl⟩
theorem fd_X7_0 : jdecl 6 0 RX7 := fun r h => by cases h; rfl
theorem nw_X7_15 : jFN RX7 15 7 [.null, .null, jI 0] := ⟨RX8, TX8, 3, tyX8, rfl, ilX8, tyX8_ok, (kwm 26 (by decide +kernel) (by decide +kernel)), (kwm 27 (by decide +kernel) (by decide +kernel)), (kwm 3 (by decide +kernel) (by decide +kernel)), rfl, fun j hj => by
  rcases (show j = 0 ∨ j = 1 ∨ j = 2 by omega) with rfl | rfl | rfl <;> rfl⟩
theorem ml_X7_17 : Cond.methodLinkNest RX7 17 yX8_init "EqualHeights" ∈ jNest := kwn 28 (by decide +kernel) (by decide +kernel)
theorem fp_X7_18 (a : Nat) : jFP RX7 18 6 1 true (.ref a) := ⟨RX7, TX7, 3, tyX7, .object "EqualHeights$Table", rfl, ilX7, (kwm 131 (by decide +kernel) (by decide +kernel)), by decide, tyX7_ok, nmX7, rfl, by decide +kernel, rfl, rfl⟩
theorem fd_X7_1 : jdecl 6 1 RX7 := fun r h => by cases h; rfl
theorem nw_X7_22 : jFN RX7 22 0 [.null, .null, .null, jI 0, jI 0] := ⟨RX0, TX0, 5, tyX0, rfl, ilX0, tyX0_ok, (kwm 48 (by decide +kernel) (by decide +kernel)), (kwm 49 (by decide +kernel) (by decide +kernel)), (kwm 4 (by decide +kernel) (by decide +kernel)), rfl, fun j hj => by
  rcases (show j = 0 ∨ j = 1 ∨ j = 2 ∨ j = 3 ∨ j = 4 by omega) with rfl | rfl | rfl | rfl | rfl <;> rfl⟩
theorem ml_X7_24 : Cond.methodLinkNest RX7 24 yX0_init "EqualHeights" ∈ jNest := kwn 50 (by decide +kernel) (by decide +kernel)
theorem fp_X7_25 (a : Nat) : jFP RX7 25 6 2 true (.ref a) := ⟨RX7, TX7, 3, tyX7, .object "EqualHeights$Analysis", rfl, ilX7, (kwm 133 (by decide +kernel) (by decide +kernel)), by decide, tyX7_ok, nmX7, rfl, by decide +kernel, rfl, rfl⟩
theorem fd_X7_2 : jdecl 6 2 RX7 := fun r h => by cases h; rfl
theorem ml_X7_67 : Cond.methodLink RX7 67 yX7_setting ∈ wsL_law := kwm 490 (by decide +kernel) (by decide +kernel)
theorem ml_X7_71 : Cond.methodLink RX7 71 yX0_learn ∈ wsL_law := kwm 491 (by decide +kernel) (by decide +kernel)
theorem fg_X7_75 : jFGn RX7 75 0 3 := ⟨RX0, TX0, 5, "EqualHeights", rfl, ilX0, (kwn 115 (by decide +kernel) (by decide +kernel)), by decide⟩
theorem fg_X8_18 : jFG RX8 18 7 2 := ⟨RX8, TX8, 3, rfl, ilX8, (kwm 34 (by decide +kernel) (by decide +kernel)), by decide⟩
theorem ml_X8_22 : Cond.methodLink RX8 22 yX8_isFull ∈ wsL_law := kwm 431 (by decide +kernel) (by decide +kernel)
theorem fg_X8_9 : jFG RX8 9 7 0 := ⟨RX8, TX8, 3, rfl, ilX8, (kwm 32 (by decide +kernel) (by decide +kernel)), by decide⟩
theorem fg_X8_15 : jFG RX8 15 7 1 := ⟨RX8, TX8, 3, rfl, ilX8, (kwm 33 (by decide +kernel) (by decide +kernel)), by decide⟩
theorem fp_X8_18 (z : Int) : jFP RX8 18 7 2 false (jI z) := ⟨RX8, TX8, 3, tyX8, .int, rfl, ilX8, (kwm 34 (by decide +kernel) (by decide +kernel)), by decide, tyX8_ok, nmX8, rfl, by decide +kernel, rfl, rfl⟩
theorem ml_X8_38 : Cond.methodLinkNest RX8 38 yX9_copyNumbers "EqualHeights" ∈ jNest := kwn 403 (by decide +kernel) (by decide +kernel)
theorem ml_X8_26 : Cond.methodLink RX8 26 yX8_hasRow ∈ wsL_law := kwm 462 (by decide +kernel) (by decide +kernel)
theorem ml_X8_3 : Cond.methodLink RX8 3 objectInit ∈ wsL_law := kwm 31 (by decide +kernel) (by decide +kernel)
theorem fp_X8_9 (a : Nat) : jFP RX8 9 7 0 true (.ref a) := ⟨RX8, TX8, 3, tyX8, .array .int, rfl, ilX8, (kwm 32 (by decide +kernel) (by decide +kernel)), by decide, tyX8_ok, nmX8, rfl, by decide +kernel, rfl, rfl⟩
theorem fd_X8_0 : jdecl 7 0 RX8 := fun r h => by cases h; rfl
theorem fp_X8_15 (a : Nat) : jFP RX8 15 7 1 true (.ref a) := ⟨RX8, TX8, 3, tyX8, .array .int, rfl, ilX8, (kwm 33 (by decide +kernel) (by decide +kernel)), by decide, tyX8_ok, nmX8, rfl, by decide +kernel, rfl, rfl⟩
theorem fd_X8_1 : jdecl 7 1 RX8 := fun r h => by cases h; rfl
theorem ml_X8_30 : Cond.methodLink RX8 30 yX8_rowsInsideBoth ∈ wsL_law := kwm 261 (by decide +kernel) (by decide +kernel)
theorem ml_X8_34 : Cond.methodLinkNest RX8 34 yX9_isBetween "EqualHeights" ∈ jNest := kwn 265 (by decide +kernel) (by decide +kernel)
theorem fg_X9_23 : jFG RX9 23 8 2 := ⟨RX9, TX9, 6, rfl, ilX9, (kwm 199 (by decide +kernel) (by decide +kernel)), by decide⟩
theorem fg_X9_12 : jFG RX9 12 8 0 := ⟨RX9, TX9, 6, rfl, ilX9, (kwm 197 (by decide +kernel) (by decide +kernel)), by decide⟩
theorem ml_X9_50 : Cond.methodLink RX9 50 yX3_prepare ∈ wsL_law := kwm 387 (by decide +kernel) (by decide +kernel)
theorem ml_X9_68 : Cond.methodLink RX9 68 yX7_makeAnalysis ∈ wsL_law := kwm 486 (by decide +kernel) (by decide +kernel)
theorem ml_X9_58 : Cond.methodLink RX9 58 yX9_recorded ∈ wsL_law := kwm 437 (by decide +kernel) (by decide +kernel)
theorem ml_X9_254 : Cond.methodLink RX9 254 yX9_isValue ∈ wsL_law := kwm 253 (by decide +kernel) (by decide +kernel)
theorem ml_X9_154 : Cond.methodLink RX9 154 yX9_areBounds ∈ wsL_law := kwm 250 (by decide +kernel) (by decide +kernel)
theorem ml_X9_88 : Cond.methodLink RX9 88 yX9_isBetween ∈ wsL_law := kwm 256 (by decide +kernel) (by decide +kernel)
theorem fg_X9_72 : jFGn RX9 72 6 1 := ⟨RX7, TX7, 3, "EqualHeights", rfl, ilX7, (kwn 132 (by decide +kernel) (by decide +kernel)), by decide⟩
theorem ml_X9_174 : Cond.methodLink RX9 174 yX8_rowsInsideBoth ∈ wsL_law := kwm 297 (by decide +kernel) (by decide +kernel)
theorem fg_X9_92 : jFGn RX9 92 6 2 := ⟨RX7, TX7, 3, "EqualHeights", rfl, ilX7, (kwn 134 (by decide +kernel) (by decide +kernel)), by decide⟩
theorem ml_X9_147 : Cond.methodLink RX9 147 yX0_isMade ∈ wsL_law := kwm 224 (by decide +kernel) (by decide +kernel)
theorem ml_X9_178 : Cond.methodLink RX9 178 yX0_guessBoth ∈ wsL_law := kwm 298 (by decide +kernel) (by decide +kernel)
theorem ml_X9_171 : Cond.methodLink RX9 171 yX7_scale ∈ wsL_law := kwm 289 (by decide +kernel) (by decide +kernel)
theorem ml_X9_82 : Cond.methodLink RX9 82 yX9_isColumn ∈ wsL_law := kwm 247 (by decide +kernel) (by decide +kernel)
theorem ml_X9_96 : Cond.methodLink RX9 96 yX0_facts ∈ wsL_law := kwm 239 (by decide +kernel) (by decide +kernel)
theorem ml_X9_102 : Cond.methodLink RX9 102 yX2_tellBucket ∈ wsL_law := kwm 361 (by decide +kernel) (by decide +kernel)
theorem ml_X9_105 : Cond.methodLink RX9 105 yX2_tellCommon ∈ wsL_law := kwm 353 (by decide +kernel) (by decide +kernel)
theorem fg_X9_117 : jFGn RX9 117 7 2 := ⟨RX8, TX8, 3, "EqualHeights", rfl, ilX8, (kwn 39 (by decide +kernel) (by decide +kernel)), by decide⟩
theorem fg_X9_121 : jFGn RX9 121 0 3 := ⟨RX0, TX0, 5, "EqualHeights", rfl, ilX0, (kwn 116 (by decide +kernel) (by decide +kernel)), by decide⟩
theorem fg_X9_124 : jFGn RX9 124 0 4 := ⟨RX0, TX0, 5, "EqualHeights", rfl, ilX0, (kwn 118 (by decide +kernel) (by decide +kernel)), by decide⟩
theorem ml_X9_127 : Cond.methodLink RX9 127 yX9_tellStale ∈ wsL_law := kwm 220 (by decide +kernel) (by decide +kernel)
theorem fg_X9_130 : jFGn RX9 130 1 8 := ⟨RX2, TX2, 9, "EqualHeights", rfl, ilX2, (kwn 70 (by decide +kernel) (by decide +kernel)), by decide⟩
theorem fg_X9_133 : jFGn RX9 133 1 3 := ⟨RX2, TX2, 9, "EqualHeights", rfl, ilX2, (kwn 64 (by decide +kernel) (by decide +kernel)), by decide⟩
theorem fg_X9_108 : jFGn RX9 108 0 2 := ⟨RX0, TX0, 5, "EqualHeights", rfl, ilX0, (kwn 113 (by decide +kernel) (by decide +kernel)), by decide⟩
theorem fg_X9_136 : jFGn RX9 136 4 3 := ⟨RX5, TX5, 4, "EqualHeights", rfl, ilX5, (kwn 100 (by decide +kernel) (by decide +kernel)), by decide⟩
theorem ml_X9_138 : Cond.methodLink RX9 138 yX7_setting ∈ wsL_law := kwm 228 (by decide +kernel) (by decide +kernel)
theorem fg_X9_30 : jFG RX9 30 8 3 := ⟨RX9, TX9, 6, rfl, ilX9, (kwm 200 (by decide +kernel) (by decide +kernel)), by decide⟩
theorem fg_X9_141 : jFGn RX9 141 3 1 := ⟨RX4, TX4, 2, "EqualHeights", rfl, ilX4, (kwn 168 (by decide +kernel) (by decide +kernel)), by decide⟩
theorem fg_X9_144 : jFGn RX9 144 2 2 := ⟨RX3, TX3, 3, "EqualHeights", rfl, ilX3, (kwn 153 (by decide +kernel) (by decide +kernel)), by decide⟩
theorem ml_X9_158 : Cond.methodLink RX9 158 yX8_rowsInside ∈ wsL_law := kwm 257 (by decide +kernel) (by decide +kernel)
theorem ml_X9_162 : Cond.methodLink RX9 162 yX2_guess ∈ wsL_law := kwm 266 (by decide +kernel) (by decide +kernel)
theorem ml_X9_165 : Cond.methodLink RX9 165 yX2_least ∈ wsL_law := kwm 281 (by decide +kernel) (by decide +kernel)
theorem ml_X9_168 : Cond.methodLink RX9 168 yX2_most ∈ wsL_law := kwm 285 (by decide +kernel) (by decide +kernel)
theorem kc_X9_187 : Cond.constantLong RX9 187 (-2) ∈ wsL_law := kwm 369 (by decide +kernel) (by decide +kernel)
theorem ml_X9_189 : Cond.methodLink RX9 189 yX2_rowsOfBuckets ∈ wsL_law := kwm 370 (by decide +kernel) (by decide +kernel)
theorem ml_X9_192 : Cond.methodLink RX9 192 yX1_ofDouble ∈ wsL_law := kwm 374 (by decide +kernel) (by decide +kernel)
theorem ml_X9_3 : Cond.methodLink RX9 3 objectInit ∈ wsL_law := kwm 17 (by decide +kernel) (by decide +kernel)
theorem nw_X9_9 : jFN RX9 9 6 [.null, .null, .null] := ⟨RX7, TX7, 3, tyX7, rfl, ilX7, tyX7_ok, (kwm 20 (by decide +kernel) (by decide +kernel)), (kwm 21 (by decide +kernel) (by decide +kernel)), (kwm 2 (by decide +kernel) (by decide +kernel)), rfl, fun j hj => by
  rcases (show j = 0 ∨ j = 1 ∨ j = 2 by omega) with rfl | rfl | rfl <;> rfl⟩
theorem ml_X9_11 : Cond.methodLinkNest RX9 11 yX7_init "EqualHeights" ∈ jNest := kwn 22 (by decide +kernel) (by decide +kernel)
theorem fp_X9_12 (a : Nat) : jFP RX9 12 8 0 true (.ref a) := ⟨RX9, TX9, 6, tyX9, .object "EqualHeights$State", rfl, ilX9, (kwm 197 (by decide +kernel) (by decide +kernel)), by decide, tyX9_ok, nmX9, rfl, by decide +kernel, rfl, rfl⟩
theorem fd_X9_0 : jdecl 8 0 RX9 := fun r h => by cases h; rfl
theorem kq_X9_9 : Cond.classLink RX9 9 "EqualHeights$State" ∈ wsL_law := kwm 20 (by decide +kernel) (by decide +kernel)
theorem fp_X9_16 (a : Nat) : jFP RX9 16 8 1 true (.ref a) := ⟨RX9, TX9, 6, tyX9, .array (.object "EqualHeights$State"), rfl, ilX9, (kwm 198 (by decide +kernel) (by decide +kernel)), by decide, tyX9_ok, nmX9, rfl, by decide +kernel, rfl, rfl⟩
theorem fd_X9_1 : jdecl 8 1 RX9 := fun r h => by cases h; rfl
theorem nw_X9_20 : jFN RX9 20 2 [.null, jI 0, jI 0] := ⟨RX3, TX3, 3, tyX3, rfl, ilX3, tyX3_ok, (kwm 143 (by decide +kernel) (by decide +kernel)), (kwm 144 (by decide +kernel) (by decide +kernel)), (kwm 7 (by decide +kernel) (by decide +kernel)), rfl, fun j hj => by
  rcases (show j = 0 ∨ j = 1 ∨ j = 2 by omega) with rfl | rfl | rfl <;> rfl⟩
theorem ml_X9_22 : Cond.methodLinkNest RX9 22 yX3_init "EqualHeights" ∈ jNest := kwn 145 (by decide +kernel) (by decide +kernel)
theorem fp_X9_23 (a : Nat) : jFP RX9 23 8 2 true (.ref a) := ⟨RX9, TX9, 6, tyX9, .object "EqualHeights$History", rfl, ilX9, (kwm 199 (by decide +kernel) (by decide +kernel)), by decide, tyX9_ok, nmX9, rfl, by decide +kernel, rfl, rfl⟩
theorem fd_X9_2 : jdecl 8 2 RX9 := fun r h => by cases h; rfl
theorem nw_X9_27 : jFN RX9 27 3 [.null, jI 0] := ⟨RX4, TX4, 2, tyX4, rfl, ilX4, tyX4_ok, (kwm 161 (by decide +kernel) (by decide +kernel)), (kwm 162 (by decide +kernel) (by decide +kernel)), (kwm 8 (by decide +kernel) (by decide +kernel)), rfl, fun j hj => by
  rcases (show j = 0 ∨ j = 1 by omega) with rfl | rfl <;> rfl⟩
theorem ml_X9_29 : Cond.methodLinkNest RX9 29 yX4_init "EqualHeights" ∈ jNest := kwn 163 (by decide +kernel) (by decide +kernel)
theorem fp_X9_30 (a : Nat) : jFP RX9 30 8 3 true (.ref a) := ⟨RX9, TX9, 6, tyX9, .object "EqualHeights$Pad", rfl, ilX9, (kwm 200 (by decide +kernel) (by decide +kernel)), by decide, tyX9_ok, nmX9, rfl, by decide +kernel, rfl, rfl⟩
theorem fd_X9_3 : jdecl 8 3 RX9 := fun r h => by cases h; rfl
theorem nw_X9_34 : jFN RX9 34 5 [.null, jI 0, jI 0, jI 0, jI 0, jI 0] := ⟨RX6, TX6, 6, tyX6, rfl, ilX6, tyX6_ok, (kwm 175 (by decide +kernel) (by decide +kernel)), (kwm 176 (by decide +kernel) (by decide +kernel)), (kwm 9 (by decide +kernel) (by decide +kernel)), rfl, fun j hj => by
  rcases (show j = 0 ∨ j = 1 ∨ j = 2 ∨ j = 3 ∨ j = 4 ∨ j = 5 by omega) with rfl | rfl | rfl | rfl | rfl | rfl <;> rfl⟩
theorem ml_X9_36 : Cond.methodLink RX9 36 yX6_init ∈ wsL_law := kwm 177 (by decide +kernel) (by decide +kernel)
theorem fp_X9_39 (a : Nat) : jFP RX9 39 8 4 true (.ref a) := ⟨RX9, TX9, 6, tyX9, .object "EqualHeights$Reader", rfl, ilX9, (kwm 201 (by decide +kernel) (by decide +kernel)), by decide, tyX9_ok, nmX9, rfl, by decide +kernel, rfl, rfl⟩
theorem fd_X9_4 : jdecl 8 4 RX9 := fun r h => by cases h; rfl
theorem nw_X9_43 : jFN RX9 43 1 [.null, .null, .null, jI 0, .null, .null, .null, .null, jI 0] := ⟨RX2, TX2, 9, tyX2, rfl, ilX2, tyX2_ok, (kwm 195 (by decide +kernel) (by decide +kernel)), (kwm 55 (by decide +kernel) (by decide +kernel)), (kwm 5 (by decide +kernel) (by decide +kernel)), rfl, fun j hj => by
  rcases (show j = 0 ∨ j = 1 ∨ j = 2 ∨ j = 3 ∨ j = 4 ∨ j = 5 ∨ j = 6 ∨ j = 7 ∨ j = 8 by omega) with rfl | rfl | rfl | rfl | rfl | rfl | rfl | rfl | rfl <;> rfl⟩
theorem ml_X9_45 : Cond.methodLinkNest RX9 45 yX2_init "EqualHeights" ∈ jNest := kwn 196 (by decide +kernel) (by decide +kernel)
theorem fp_X9_46 (a : Nat) : jFP RX9 46 8 5 true (.ref a) := ⟨RX9, TX9, 6, tyX9, .object "EqualHeights$ColumnFacts", rfl, ilX9, (kwm 202 (by decide +kernel) (by decide +kernel)), by decide, tyX9_ok, nmX9, rfl, by decide +kernel, rfl, rfl⟩
theorem fd_X9_5 : jdecl 8 5 RX9 := fun r h => by cases h; rfl
theorem ml_X9_62 : Cond.methodLink RX9 62 yX7_addRow ∈ wsL_law := kwm 418 (by decide +kernel) (by decide +kernel)
theorem ml_X9_251 : Cond.methodLink RX9 251 yX3_keep ∈ wsL_law := kwm 441 (by decide +kernel) (by decide +kernel)
theorem ml_X9_65 : Cond.methodLink RX9 65 yX7_dropRow ∈ wsL_law := kwm 450 (by decide +kernel) (by decide +kernel)
theorem ml_X9_54 : Cond.methodLink RX9 54 yX7_change ∈ wsL_law := kwm 467 (by decide +kernel) (by decide +kernel)
theorem ml_X9_181 : Cond.methodLink RX9 181 yX1_ofFloat ∈ wsL_law := kwm 313 (by decide +kernel) (by decide +kernel)
theorem ml_X9_151 : Cond.methodLink RX9 151 yX0_isStale ∈ wsL_law := kwm 235 (by decide +kernel) (by decide +kernel)
theorem ml_X9_245 : Cond.methodLink RX9 245 yX3_bringBack ∈ wsL_law := kwm 478 (by decide +kernel) (by decide +kernel)
theorem ml_X9_196 : Cond.methodLink RX9 196 yX2_worstValue ∈ wsL_law := kwm 324 (by decide +kernel) (by decide +kernel)
theorem ml_X9_199 : Cond.methodLink RX9 199 yX2_miss ∈ wsL_law := kwm 337 (by decide +kernel) (by decide +kernel)
theorem ka_int : Cond.arrayClass .int ∈ wsL_law := kwm 47 (by decide +kernel) (by decide +kernel)
theorem ka_char : Cond.arrayClass .char ∈ wsL_law := kwm 174 (by decide +kernel) (by decide +kernel)
theorem km_max_s : Cond.static Lib.Math.max.name ∈ wsL_law := (kwm 279 (by decide +kernel) (by decide +kernel))
theorem km_max_c : Cond.code Lib.Math.max.name Lib.Math.max.code 2 (some .int) ∈ wsL_law := kwm 280 (by decide +kernel) (by decide +kernel)
theorem km_min_s : Cond.static Lib.Math.min.name ∈ wsL_law := (kwm 276 (by decide +kernel) (by decide +kernel))
theorem km_min_c : Cond.code Lib.Math.min.name Lib.Math.min.code 2 (some .int) ∈ wsL_law := kwm 277 (by decide +kernel) (by decide +kernel)
theorem km_abs_s : Cond.static Lib.Math.abs.name ∈ wsL_law := (kwm 335 (by decide +kernel) (by decide +kernel))
theorem km_abs_c : Cond.code Lib.Math.abs.name Lib.Math.abs.code 1 (some .int) ∈ wsL_law := kwm 336 (by decide +kernel) (by decide +kernel)
theorem km_i : Cond.initialized "java/lang/Math" ∈ wsL_law := (kwm 10 (by decide +kernel) (by decide +kernel))
theorem ko_i : Cond.instanceMethod objectInit ∈ wsL_law := (kwm 18 (by decide +kernel) (by decide +kernel))
theorem ko_c : Cond.code objectInit ⟨#[0xb1]⟩ 1 none ∈ wsL_law := kwm 19 (by decide +kernel) (by decide +kernel)
