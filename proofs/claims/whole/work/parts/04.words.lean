theorem ilX0 : ∀ w ∈ wsX00, w ∈ wsL_law := by
  intro w h
  obtain ⟨k, hk, rfl⟩ := List.mem_map.mp h
  have hk := List.mem_range.mp hk
  rcases (show k = 0 ∨ k = 1 ∨ k = 2 ∨ k = 3 ∨ k = 4 by omega) with rfl | rfl | rfl | rfl | rfl
  · exact kwm 122 (by decide +kernel) (by decide +kernel)
  · exact kwm 124 (by decide +kernel) (by decide +kernel)
  · exact kwm 126 (by decide +kernel) (by decide +kernel)
  · exact kwm 128 (by decide +kernel) (by decide +kernel)
  · exact kwm 130 (by decide +kernel) (by decide +kernel)
theorem ilX2 : ∀ w ∈ wsX20, w ∈ wsL_law := by
  intro w h
  obtain ⟨k, hk, rfl⟩ := List.mem_map.mp h
  have hk := List.mem_range.mp hk
  rcases (show k = 0 ∨ k = 1 ∨ k = 2 ∨ k = 3 ∨ k = 4 ∨ k = 5 ∨ k = 6 ∨ k = 7 ∨ k = 8 by omega) with rfl | rfl | rfl | rfl | rfl | rfl | rfl | rfl | rfl
  · exact kwm 74 (by decide +kernel) (by decide +kernel)
  · exact kwm 76 (by decide +kernel) (by decide +kernel)
  · exact kwm 78 (by decide +kernel) (by decide +kernel)
  · exact kwm 80 (by decide +kernel) (by decide +kernel)
  · exact kwm 82 (by decide +kernel) (by decide +kernel)
  · exact kwm 84 (by decide +kernel) (by decide +kernel)
  · exact kwm 86 (by decide +kernel) (by decide +kernel)
  · exact kwm 88 (by decide +kernel) (by decide +kernel)
  · exact kwm 90 (by decide +kernel) (by decide +kernel)
theorem ilX3 : ∀ w ∈ wsX30, w ∈ wsL_law := by
  intro w h
  obtain ⟨k, hk, rfl⟩ := List.mem_map.mp h
  have hk := List.mem_range.mp hk
  rcases (show k = 0 ∨ k = 1 ∨ k = 2 by omega) with rfl | rfl | rfl
  · exact kwm 157 (by decide +kernel) (by decide +kernel)
  · exact kwm 159 (by decide +kernel) (by decide +kernel)
  · exact kwm 161 (by decide +kernel) (by decide +kernel)
theorem ilX4 : ∀ w ∈ wsX40, w ∈ wsL_law := by
  intro w h
  obtain ⟨k, hk, rfl⟩ := List.mem_map.mp h
  have hk := List.mem_range.mp hk
  rcases (show k = 0 ∨ k = 1 by omega) with rfl | rfl
  · exact kwm 174 (by decide +kernel) (by decide +kernel)
  · exact kwm 176 (by decide +kernel) (by decide +kernel)
theorem ilX5 : ∀ w ∈ wsX50, w ∈ wsL_law := by
  intro w h
  obtain ⟨k, hk, rfl⟩ := List.mem_map.mp h
  have hk := List.mem_range.mp hk
  rcases (show k = 0 ∨ k = 1 ∨ k = 2 ∨ k = 3 by omega) with rfl | rfl | rfl | rfl
  · exact kwm 104 (by decide +kernel) (by decide +kernel)
  · exact kwm 106 (by decide +kernel) (by decide +kernel)
  · exact kwm 108 (by decide +kernel) (by decide +kernel)
  · exact kwm 110 (by decide +kernel) (by decide +kernel)
theorem ilX6 : ∀ w ∈ wsX60, w ∈ wsL_law := by
  intro w h
  obtain ⟨k, hk, rfl⟩ := List.mem_map.mp h
  have hk := List.mem_range.mp hk
  rcases (show k = 0 ∨ k = 1 ∨ k = 2 ∨ k = 3 ∨ k = 4 ∨ k = 5 by omega) with rfl | rfl | rfl | rfl | rfl | rfl
  · exact kwm 196 (by decide +kernel) (by decide +kernel)
  · exact kwm 198 (by decide +kernel) (by decide +kernel)
  · exact kwm 200 (by decide +kernel) (by decide +kernel)
  · exact kwm 202 (by decide +kernel) (by decide +kernel)
  · exact kwm 204 (by decide +kernel) (by decide +kernel)
  · exact kwm 206 (by decide +kernel) (by decide +kernel)
theorem ilX7 : ∀ w ∈ wsX70, w ∈ wsL_law := by
  intro w h
  obtain ⟨k, hk, rfl⟩ := List.mem_map.mp h
  have hk := List.mem_range.mp hk
  rcases (show k = 0 ∨ k = 1 ∨ k = 2 by omega) with rfl | rfl | rfl
  · exact kwm 138 (by decide +kernel) (by decide +kernel)
  · exact kwm 140 (by decide +kernel) (by decide +kernel)
  · exact kwm 142 (by decide +kernel) (by decide +kernel)
theorem ilX8 : ∀ w ∈ wsX80, w ∈ wsL_law := by
  intro w h
  obtain ⟨k, hk, rfl⟩ := List.mem_map.mp h
  have hk := List.mem_range.mp hk
  rcases (show k = 0 ∨ k = 1 ∨ k = 2 by omega) with rfl | rfl | rfl
  · exact kwm 43 (by decide +kernel) (by decide +kernel)
  · exact kwm 45 (by decide +kernel) (by decide +kernel)
  · exact kwm 47 (by decide +kernel) (by decide +kernel)
theorem ilX9 : ∀ w ∈ wsX90, w ∈ wsL_law := by
  intro w h
  obtain ⟨k, hk, rfl⟩ := List.mem_map.mp h
  have hk := List.mem_range.mp hk
  rcases (show k = 0 ∨ k = 1 ∨ k = 2 ∨ k = 3 ∨ k = 4 ∨ k = 5 by omega) with rfl | rfl | rfl | rfl | rfl | rfl
  · exact kwm 217 (by decide +kernel) (by decide +kernel)
  · exact kwm 219 (by decide +kernel) (by decide +kernel)
  · exact kwm 221 (by decide +kernel) (by decide +kernel)
  · exact kwm 223 (by decide +kernel) (by decide +kernel)
  · exact kwm 225 (by decide +kernel) (by decide +kernel)
  · exact kwm 227 (by decide +kernel) (by decide +kernel)
theorem ilX10 : ∀ w ∈ wsX100, w ∈ wsL_law := by
  intro w h
  obtain ⟨k, hk, rfl⟩ := List.mem_map.mp h
  have hk := List.mem_range.mp hk
  rcases (show k = 0 ∨ k = 1 ∨ k = 2 ∨ k = 3 ∨ k = 4 ∨ k = 5 ∨ k = 6 ∨ k = 7 ∨ k = 8 ∨ k = 9 ∨ k = 10 ∨ k = 11 by omega) with rfl | rfl | rfl | rfl | rfl | rfl | rfl | rfl | rfl | rfl | rfl | rfl
  · exact kwm 669 (by decide +kernel) (by decide +kernel)
  · exact kwm 671 (by decide +kernel) (by decide +kernel)
  · exact kwm 673 (by decide +kernel) (by decide +kernel)
  · exact kwm 675 (by decide +kernel) (by decide +kernel)
  · exact kwm 677 (by decide +kernel) (by decide +kernel)
  · exact kwm 679 (by decide +kernel) (by decide +kernel)
  · exact kwm 681 (by decide +kernel) (by decide +kernel)
  · exact kwm 683 (by decide +kernel) (by decide +kernel)
  · exact kwm 685 (by decide +kernel) (by decide +kernel)
  · exact kwm 687 (by decide +kernel) (by decide +kernel)
  · exact kwm 689 (by decide +kernel) (by decide +kernel)
  · exact kwm 691 (by decide +kernel) (by decide +kernel)
theorem ms_Jxe99ae_doubleToLongBits_ccdee : jMS yJxe99ae_doubleToLongBits_ccdee cJxe99ae_doubleToLongBits_ccdee 2 (some .long) 1 := ⟨(kwm 776 (by decide +kernel) (by decide +kernel)), (kwm 14 (by decide +kernel) (by decide +kernel)), (kwm 777 (by decide +kernel) (by decide +kernel)), (by decide +kernel), (by decide +kernel), (by decide +kernel)⟩
theorem ms_Jxe99ae_isNaN_b9ae7 : jMS yJxe99ae_isNaN_b9ae7 cJxe99ae_isNaN_b9ae7 2 (some .boolean) 1 := ⟨(kwm 779 (by decide +kernel) (by decide +kernel)), (kwm 14 (by decide +kernel) (by decide +kernel)), (kwm 780 (by decide +kernel) (by decide +kernel)), (by decide +kernel), (by decide +kernel), (by decide +kernel)⟩
theorem ms_Jxf58ca_floatToIntBits_5c35a : jMS yJxf58ca_floatToIntBits_5c35a cJxf58ca_floatToIntBits_5c35a 1 (some .int) 1 := ⟨(kwm 761 (by decide +kernel) (by decide +kernel)), (kwm 13 (by decide +kernel) (by decide +kernel)), (kwm 762 (by decide +kernel) (by decide +kernel)), (by decide +kernel), (by decide +kernel), (by decide +kernel)⟩
theorem ms_Jxf58ca_isNaN_12338 : jMS yJxf58ca_isNaN_12338 cJxf58ca_isNaN_12338 1 (some .boolean) 1 := ⟨(kwm 764 (by decide +kernel) (by decide +kernel)), (kwm 13 (by decide +kernel) (by decide +kernel)), (kwm 765 (by decide +kernel) (by decide +kernel)), (by decide +kernel), (by decide +kernel), (by decide +kernel)⟩
theorem mv_X0_copyFrom : jMV yX0_copyFrom cX0_copyFrom 2 none 1 0 := ⟨(kwm 252 (by decide +kernel) (by decide +kernel)), (kwm 253 (by decide +kernel) (by decide +kernel)), (kwm 4 (by decide +kernel) (by decide +kernel)), (kwm 254 (by decide +kernel) (by decide +kernel)), (by decide +kernel), (by decide +kernel), (by decide +kernel), (RX0, TX0, 5), rfl, rfl⟩
theorem mv_X0_facts : jMV yX0_facts cX0_facts 2 (some (.object "EqualHeights$ColumnFacts")) 1 0 := ⟨(kwm 417 (by decide +kernel) (by decide +kernel)), (kwm 418 (by decide +kernel) (by decide +kernel)), (kwm 4 (by decide +kernel) (by decide +kernel)), (kwm 419 (by decide +kernel) (by decide +kernel)), (by decide +kernel), (by decide +kernel), (by decide +kernel), (RX0, TX0, 5), rfl, rfl⟩
theorem mv_X0_guessBoth : jMV yX0_guessBoth cX0_guessBoth 11 (some .int) 4 0 := ⟨(kwm 501 (by decide +kernel) (by decide +kernel)), (kwm 502 (by decide +kernel) (by decide +kernel)), (kwm 4 (by decide +kernel) (by decide +kernel)), (kwm 503 (by decide +kernel) (by decide +kernel)), (by decide +kernel), (by decide +kernel), (by decide +kernel), (RX0, TX0, 5), rfl, rfl⟩
theorem mi_X0_init : jMI yX0_init cX0_init 1 0 := ⟨(kwm 54 (by decide +kernel) (by decide +kernel)), rfl, (kwm 4 (by decide +kernel) (by decide +kernel)), (kwm 55 (by decide +kernel) (by decide +kernel)), (by decide +kernel), (by decide +kernel), (by decide +kernel)⟩
theorem mv_X0_isMade : jMV yX0_isMade cX0_isMade 1 (some .boolean) 0 0 := ⟨(kwm 312 (by decide +kernel) (by decide +kernel)), (kwm 313 (by decide +kernel) (by decide +kernel)), (kwm 4 (by decide +kernel) (by decide +kernel)), (kwm 314 (by decide +kernel) (by decide +kernel)), (by decide +kernel), (by decide +kernel), (by decide +kernel), (RX0, TX0, 5), rfl, rfl⟩
theorem mv_X0_isStale : jMV yX0_isStale cX0_isStale 2 (some .boolean) 1 0 := ⟨(kwm 451 (by decide +kernel) (by decide +kernel)), (kwm 452 (by decide +kernel) (by decide +kernel)), (kwm 4 (by decide +kernel) (by decide +kernel)), (kwm 453 (by decide +kernel) (by decide +kernel)), (by decide +kernel), (by decide +kernel), (by decide +kernel), (RX0, TX0, 5), rfl, rfl⟩
theorem mv_X0_learn : jMV yX0_learn cX0_learn 5 none 4 0 := ⟨(kwm 345 (by decide +kernel) (by decide +kernel)), (kwm 346 (by decide +kernel) (by decide +kernel)), (kwm 4 (by decide +kernel) (by decide +kernel)), (kwm 347 (by decide +kernel) (by decide +kernel)), (by decide +kernel), (by decide +kernel), (by decide +kernel), (RX0, TX0, 5), rfl, rfl⟩
theorem mv_X0_noteChange : jMV yX0_noteChange cX0_noteChange 1 none 0 0 := ⟨(kwm 308 (by decide +kernel) (by decide +kernel)), (kwm 309 (by decide +kernel) (by decide +kernel)), (kwm 4 (by decide +kernel) (by decide +kernel)), (kwm 310 (by decide +kernel) (by decide +kernel)), (by decide +kernel), (by decide +kernel), (by decide +kernel), (RX0, TX0, 5), rfl, rfl⟩
theorem mv_X10_analyse : jMV yX10_analyse cX10_analyse 1 (some .int) 0 9 := ⟨(kwm 859 (by decide +kernel) (by decide +kernel)), (kwm 860 (by decide +kernel) (by decide +kernel)), (kwm 10 (by decide +kernel) (by decide +kernel)), (kwm 861 (by decide +kernel) (by decide +kernel)), (by decide +kernel), (by decide +kernel), (by decide +kernel), (RX10, TX10, 12), rfl, rfl⟩
theorem mv_X10_analyses : jMV yX10_analyses cX10_analyses 3 none 1 9 := ⟨(kwm 804 (by decide +kernel) (by decide +kernel)), (kws 21 (by decide +kernel) (by decide +kernel)), (kwm 10 (by decide +kernel) (by decide +kernel)), (kwm 805 (by decide +kernel) (by decide +kernel)), (by decide +kernel), (by decide +kernel), (by decide +kernel), (RX10, TX10, 12), rfl, rfl⟩
theorem ms_X10_areBounds : jMS yX10_areBounds cX10_areBounds 2 (some .boolean) 2 := ⟨(kwm 725 (by decide +kernel) (by decide +kernel)), (kwm 10 (by decide +kernel) (by decide +kernel)), (kwm 726 (by decide +kernel) (by decide +kernel)), (by decide +kernel), (by decide +kernel), (by decide +kernel)⟩
theorem mv_X10_both : jMV yX10_both cX10_both 8 (some .int) 5 9 := ⟨(kwm 745 (by decide +kernel) (by decide +kernel)), (kwm 746 (by decide +kernel) (by decide +kernel)), (kwm 10 (by decide +kernel) (by decide +kernel)), (kwm 747 (by decide +kernel) (by decide +kernel)), (by decide +kernel), (by decide +kernel), (by decide +kernel), (RX10, TX10, 12), rfl, rfl⟩
theorem mv_X10_bothOf : jMV yX10_bothOf cX10_bothOf 9 (some .int) 4 9 := ⟨(kwm 750 (by decide +kernel) (by decide +kernel)), (kws 19 (by decide +kernel) (by decide +kernel)), (kwm 10 (by decide +kernel) (by decide +kernel)), (kwm 751 (by decide +kernel) (by decide +kernel)), (by decide +kernel), (by decide +kernel), (by decide +kernel), (RX10, TX10, 12), rfl, rfl⟩
theorem mv_X10_bucket : jMV yX10_bucket cX10_bucket 4 (some .int) 3 9 := ⟨(kwm 867 (by decide +kernel) (by decide +kernel)), (kwm 868 (by decide +kernel) (by decide +kernel)), (kwm 10 (by decide +kernel) (by decide +kernel)), (kwm 869 (by decide +kernel) (by decide +kernel)), (by decide +kernel), (by decide +kernel), (by decide +kernel), (RX10, TX10, 12), rfl, rfl⟩
theorem ms_X10_byteOf : jMS yX10_byteOf cX10_byteOf 3 (some .int) 2 := ⟨(kwm 890 (by decide +kernel) (by decide +kernel)), (kwm 10 (by decide +kernel) (by decide +kernel)), (kwm 891 (by decide +kernel) (by decide +kernel)), (by decide +kernel), (by decide +kernel), (by decide +kernel)⟩
theorem mv_X10_carryOut : jMV yX10_carryOut cX10_carryOut 2 (some .int) 0 9 := ⟨(kwm 926 (by decide +kernel) (by decide +kernel)), (kwm 927 (by decide +kernel) (by decide +kernel)), (kwm 10 (by decide +kernel) (by decide +kernel)), (kwm 928 (by decide +kernel) (by decide +kernel)), (by decide +kernel), (by decide +kernel), (by decide +kernel), (RX10, TX10, 12), rfl, rfl⟩
theorem mv_X10_chooses : jMV yX10_chooses cX10_chooses 6 none 2 9 := ⟨(kwm 808 (by decide +kernel) (by decide +kernel)), (kws 22 (by decide +kernel) (by decide +kernel)), (kwm 10 (by decide +kernel) (by decide +kernel)), (kwm 809 (by decide +kernel) (by decide +kernel)), (by decide +kernel), (by decide +kernel), (by decide +kernel), (RX10, TX10, 12), rfl, rfl⟩
theorem mv_X10_comeOften : jMV yX10_comeOften cX10_comeOften 5 (some .boolean) 3 9 := ⟨(kwm 935 (by decide +kernel) (by decide +kernel)), (kws 36 (by decide +kernel) (by decide +kernel)), (kwm 10 (by decide +kernel) (by decide +kernel)), (kwm 936 (by decide +kernel) (by decide +kernel)), (by decide +kernel), (by decide +kernel), (by decide +kernel), (RX10, TX10, 12), rfl, rfl⟩
theorem mv_X10_comes : jMV yX10_comes cX10_comes 3 (some .int) 2 9 := ⟨(kwm 844 (by decide +kernel) (by decide +kernel)), (kws 26 (by decide +kernel) (by decide +kernel)), (kwm 10 (by decide +kernel) (by decide +kernel)), (kwm 845 (by decide +kernel) (by decide +kernel)), (by decide +kernel), (by decide +kernel), (by decide +kernel), (RX10, TX10, 12), rfl, rfl⟩
theorem mv_X10_common : jMV yX10_common cX10_common 4 (some .int) 3 9 := ⟨(kwm 871 (by decide +kernel) (by decide +kernel)), (kwm 872 (by decide +kernel) (by decide +kernel)), (kwm 10 (by decide +kernel) (by decide +kernel)), (kwm 873 (by decide +kernel) (by decide +kernel)), (by decide +kernel), (by decide +kernel), (by decide +kernel), (RX10, TX10, 12), rfl, rfl⟩
theorem mv_X10_count : jMV yX10_count cX10_count 3 (some .int) 1 9 := ⟨(kwm 879 (by decide +kernel) (by decide +kernel)), (kwm 880 (by decide +kernel) (by decide +kernel)), (kwm 10 (by decide +kernel) (by decide +kernel)), (kwm 881 (by decide +kernel) (by decide +kernel)), (by decide +kernel), (by decide +kernel), (by decide +kernel), (RX10, TX10, 12), rfl, rfl⟩
theorem mv_X10_cuts : jMV yX10_cuts cX10_cuts 10 none 2 9 := ⟨(kwm 812 (by decide +kernel) (by decide +kernel)), (kws 23 (by decide +kernel) (by decide +kernel)), (kwm 10 (by decide +kernel) (by decide +kernel)), (kwm 813 (by decide +kernel) (by decide +kernel)), (by decide +kernel), (by decide +kernel), (by decide +kernel), (RX10, TX10, 12), rfl, rfl⟩
theorem mv_X10_does : jMV yX10_does cX10_does 6 (some .boolean) 1 9 := ⟨(kwm 931 (by decide +kernel) (by decide +kernel)), (kws 35 (by decide +kernel) (by decide +kernel)), (kwm 10 (by decide +kernel) (by decide +kernel)), (kwm 932 (by decide +kernel) (by decide +kernel)), (by decide +kernel), (by decide +kernel), (by decide +kernel), (RX10, TX10, 12), rfl, rfl⟩
theorem mv_X10_estimate : jMV yX10_estimate cX10_estimate 5 (some .int) 4 9 := ⟨(kwm 718 (by decide +kernel) (by decide +kernel)), (kwm 719 (by decide +kernel) (by decide +kernel)), (kwm 10 (by decide +kernel) (by decide +kernel)), (kwm 720 (by decide +kernel) (by decide +kernel)), (by decide +kernel), (by decide +kernel), (by decide +kernel), (RX10, TX10, 12), rfl, rfl⟩
theorem ms_X10_estimated : jMS yX10_estimated cX10_estimated 13 (some .int) 5 := ⟨(kwm 738 (by decide +kernel) (by decide +kernel)), (kwm 10 (by decide +kernel) (by decide +kernel)), (kwm 739 (by decide +kernel) (by decide +kernel)), (by decide +kernel), (by decide +kernel), (by decide +kernel)⟩
theorem mv_X10_fault : jMV yX10_fault cX10_fault 1 (some .int) 0 9 := ⟨(kwm 898 (by decide +kernel) (by decide +kernel)), (kwm 899 (by decide +kernel) (by decide +kernel)), (kwm 10 (by decide +kernel) (by decide +kernel)), (kwm 900 (by decide +kernel) (by decide +kernel)), (by decide +kernel), (by decide +kernel), (by decide +kernel), (RX10, TX10, 12), rfl, rfl⟩
theorem mv_X10_fewest : jMV yX10_fewest cX10_fewest 4 (some .int) 2 9 := ⟨(kwm 799 (by decide +kernel) (by decide +kernel)), (kwm 800 (by decide +kernel) (by decide +kernel)), (kwm 10 (by decide +kernel) (by decide +kernel)), (kwm 801 (by decide +kernel) (by decide +kernel)), (by decide +kernel), (by decide +kernel), (by decide +kernel), (RX10, TX10, 12), rfl, rfl⟩
theorem mv_X10_goes : jMV yX10_goes cX10_goes 3 (some .int) 1 9 := ⟨(kwm 856 (by decide +kernel) (by decide +kernel)), (kws 28 (by decide +kernel) (by decide +kernel)), (kwm 10 (by decide +kernel) (by decide +kernel)), (kwm 857 (by decide +kernel) (by decide +kernel)), (by decide +kernel), (by decide +kernel), (by decide +kernel), (RX10, TX10, 12), rfl, rfl⟩
theorem ms_X10_had : jMS yX10_had cX10_had 3 (some .int) 3 := ⟨(kwm 796 (by decide +kernel) (by decide +kernel)), (kwm 10 (by decide +kernel) (by decide +kernel)), (kwm 797 (by decide +kernel) (by decide +kernel)), (by decide +kernel), (by decide +kernel), (by decide +kernel)⟩
theorem mv_X10_height : jMV yX10_height cX10_height 4 (some .long) 1 9 := ⟨(kwm 771 (by decide +kernel) (by decide +kernel)), (kwm 772 (by decide +kernel) (by decide +kernel)), (kwm 10 (by decide +kernel) (by decide +kernel)), (kwm 773 (by decide +kernel) (by decide +kernel)), (by decide +kernel), (by decide +kernel), (by decide +kernel), (RX10, TX10, 12), rfl, rfl⟩
theorem ms_X10_in : jMS yX10_in cX10_in 3 (some .boolean) 3 := ⟨(kwm 707 (by decide +kernel) (by decide +kernel)), (kwm 10 (by decide +kernel) (by decide +kernel)), (kwm 708 (by decide +kernel) (by decide +kernel)), (by decide +kernel), (by decide +kernel), (by decide +kernel)⟩
theorem mi_X10_init : jMI yX10_init cX10_init 1 0 := ⟨(kwm 654 (by decide +kernel) (by decide +kernel)), rfl, (kwm 10 (by decide +kernel) (by decide +kernel)), (kwm 655 (by decide +kernel) (by decide +kernel)), (by decide +kernel), (by decide +kernel), (by decide +kernel)⟩
theorem mv_X10_insert : jMV yX10_insert cX10_insert 4 (some .int) 2 9 := ⟨(kwm 835 (by decide +kernel) (by decide +kernel)), (kwm 836 (by decide +kernel) (by decide +kernel)), (kwm 10 (by decide +kernel) (by decide +kernel)), (kwm 837 (by decide +kernel) (by decide +kernel)), (by decide +kernel), (by decide +kernel), (by decide +kernel), (RX10, TX10, 12), rfl, rfl⟩
theorem mv_X10_isAt : jMV yX10_isAt cX10_isAt 3 (some .boolean) 2 9 := ⟨(kwm 919 (by decide +kernel) (by decide +kernel)), (kws 33 (by decide +kernel) (by decide +kernel)), (kwm 10 (by decide +kernel) (by decide +kernel)), (kwm 920 (by decide +kernel) (by decide +kernel)), (by decide +kernel), (by decide +kernel), (by decide +kernel), (RX10, TX10, 12), rfl, rfl⟩
theorem ms_X10_isColumn : jMS yX10_isColumn cX10_isColumn 1 (some .boolean) 1 := ⟨(kwm 722 (by decide +kernel) (by decide +kernel)), (kwm 10 (by decide +kernel) (by decide +kernel)), (kwm 723 (by decide +kernel) (by decide +kernel)), (by decide +kernel), (by decide +kernel), (by decide +kernel)⟩
theorem mv_X10_isComing : jMV yX10_isComing cX10_isComing 1 (some .boolean) 0 9 := ⟨(kwm 911 (by decide +kernel) (by decide +kernel)), (kws 31 (by decide +kernel) (by decide +kernel)), (kwm 10 (by decide +kernel) (by decide +kernel)), (kwm 912 (by decide +kernel) (by decide +kernel)), (by decide +kernel), (by decide +kernel), (by decide +kernel), (RX10, TX10, 12), rfl, rfl⟩
theorem ms_X10_isFor : jMS yX10_isFor cX10_isFor 2 (some .boolean) 2 := ⟨(kwm 828 (by decide +kernel) (by decide +kernel)), (kwm 10 (by decide +kernel) (by decide +kernel)), (kwm 829 (by decide +kernel) (by decide +kernel)), (by decide +kernel), (by decide +kernel), (by decide +kernel)⟩
theorem mv_X10_isNumber : jMV yX10_isNumber cX10_isNumber 3 (some .boolean) 1 9 := ⟨(kwm 915 (by decide +kernel) (by decide +kernel)), (kws 32 (by decide +kernel) (by decide +kernel)), (kwm 10 (by decide +kernel) (by decide +kernel)), (kwm 916 (by decide +kernel) (by decide +kernel)), (by decide +kernel), (by decide +kernel), (by decide +kernel), (RX10, TX10, 12), rfl, rfl⟩
theorem mv_X10_isOrder : jMV yX10_isOrder cX10_isOrder 2 (some .boolean) 0 9 := ⟨(kwm 907 (by decide +kernel) (by decide +kernel)), (kws 30 (by decide +kernel) (by decide +kernel)), (kwm 10 (by decide +kernel) (by decide +kernel)), (kwm 908 (by decide +kernel) (by decide +kernel)), (by decide +kernel), (by decide +kernel), (by decide +kernel), (RX10, TX10, 12), rfl, rfl⟩
theorem ms_X10_isPaired : jMS yX10_isPaired cX10_isPaired 4 (some .boolean) 3 := ⟨(kwm 821 (by decide +kernel) (by decide +kernel)), (kwm 10 (by decide +kernel) (by decide +kernel)), (kwm 822 (by decide +kernel) (by decide +kernel)), (by decide +kernel), (by decide +kernel), (by decide +kernel)⟩
theorem mv_X10_isRow : jMV yX10_isRow cX10_isRow 2 (some .boolean) 1 9 := ⟨(kwm 852 (by decide +kernel) (by decide +kernel)), (kws 27 (by decide +kernel) (by decide +kernel)), (kwm 10 (by decide +kernel) (by decide +kernel)), (kwm 853 (by decide +kernel) (by decide +kernel)), (by decide +kernel), (by decide +kernel), (by decide +kernel), (RX10, TX10, 12), rfl, rfl⟩
theorem mv_X10_isSign : jMV yX10_isSign cX10_isSign 3 (some .boolean) 1 9 := ⟨(kwm 923 (by decide +kernel) (by decide +kernel)), (kws 34 (by decide +kernel) (by decide +kernel)), (kwm 10 (by decide +kernel) (by decide +kernel)), (kwm 924 (by decide +kernel) (by decide +kernel)), (by decide +kernel), (by decide +kernel), (by decide +kernel), (RX10, TX10, 12), rfl, rfl⟩
theorem mv_X10_isText : jMV yX10_isText cX10_isText 2 (some .boolean) 0 9 := ⟨(kwm 903 (by decide +kernel) (by decide +kernel)), (kws 29 (by decide +kernel) (by decide +kernel)), (kwm 10 (by decide +kernel) (by decide +kernel)), (kwm 904 (by decide +kernel) (by decide +kernel)), (by decide +kernel), (by decide +kernel), (by decide +kernel), (RX10, TX10, 12), rfl, rfl⟩
theorem ms_X10_isValue : jMS yX10_isValue cX10_isValue 1 (some .boolean) 1 := ⟨(kwm 728 (by decide +kernel) (by decide +kernel)), (kwm 10 (by decide +kernel) (by decide +kernel)), (kwm 729 (by decide +kernel) (by decide +kernel)), (by decide +kernel), (by decide +kernel), (by decide +kernel)⟩
theorem ms_X10_lays : jMS yX10_lays cX10_lays 5 none 4 := ⟨(kwm 700 (by decide +kernel) (by decide +kernel)), (kwm 10 (by decide +kernel) (by decide +kernel)), (kwm 701 (by decide +kernel) (by decide +kernel)), (by decide +kernel), (by decide +kernel), (by decide +kernel)⟩
theorem mv_X10_mayCome : jMV yX10_mayCome cX10_mayCome 3 (some .int) 2 9 := ⟨(kwm 840 (by decide +kernel) (by decide +kernel)), (kws 25 (by decide +kernel) (by decide +kernel)), (kwm 10 (by decide +kernel) (by decide +kernel)), (kwm 841 (by decide +kernel) (by decide +kernel)), (by decide +kernel), (by decide +kernel), (by decide +kernel), (RX10, TX10, 12), rfl, rfl⟩
theorem ms_X10_of : jMS yX10_of cX10_of 3 (some .int) 3 := ⟨(kwm 735 (by decide +kernel) (by decide +kernel)), (kwm 10 (by decide +kernel) (by decide +kernel)), (kwm 736 (by decide +kernel) (by decide +kernel)), (by decide +kernel), (by decide +kernel), (by decide +kernel)⟩
theorem ms_X10_off : jMS yX10_off cX10_off 4 (some .int) 3 := ⟨(kwm 793 (by decide +kernel) (by decide +kernel)), (kwm 10 (by decide +kernel) (by decide +kernel)), (kwm 794 (by decide +kernel) (by decide +kernel)), (by decide +kernel), (by decide +kernel), (by decide +kernel)⟩
theorem mv_X10_pair : jMV yX10_pair cX10_pair 3 (some .int) 2 9 := ⟨(kwm 875 (by decide +kernel) (by decide +kernel)), (kwm 876 (by decide +kernel) (by decide +kernel)), (kwm 10 (by decide +kernel) (by decide +kernel)), (kwm 877 (by decide +kernel) (by decide +kernel)), (by decide +kernel), (by decide +kernel), (by decide +kernel), (RX10, TX10, 12), rfl, rfl⟩
theorem mv_X10_paired : jMV yX10_paired cX10_paired 8 (some .int) 4 9 := ⟨(kwm 754 (by decide +kernel) (by decide +kernel)), (kws 20 (by decide +kernel) (by decide +kernel)), (kwm 10 (by decide +kernel) (by decide +kernel)), (kwm 755 (by decide +kernel) (by decide +kernel)), (by decide +kernel), (by decide +kernel), (by decide +kernel), (RX10, TX10, 12), rfl, rfl⟩
theorem ms_X10_pairs : jMS yX10_pairs cX10_pairs 8 none 1 := ⟨(kwm 815 (by decide +kernel) (by decide +kernel)), (kwm 10 (by decide +kernel) (by decide +kernel)), (kwm 816 (by decide +kernel) (by decide +kernel)), (by decide +kernel), (by decide +kernel), (by decide +kernel)⟩
theorem mv_X10_put : jMV yX10_put cX10_put 5 (some .int) 1 9 := ⟨(kwm 883 (by decide +kernel) (by decide +kernel)), (kwm 884 (by decide +kernel) (by decide +kernel)), (kwm 10 (by decide +kernel) (by decide +kernel)), (kwm 885 (by decide +kernel) (by decide +kernel)), (by decide +kernel), (by decide +kernel), (by decide +kernel), (RX10, TX10, 12), rfl, rfl⟩
theorem mv_X10_records : jMV yX10_records cX10_records 2 none 0 9 := ⟨(kwm 715 (by decide +kernel) (by decide +kernel)), (kws 16 (by decide +kernel) (by decide +kernel)), (kwm 10 (by decide +kernel) (by decide +kernel)), (kwm 716 (by decide +kernel) (by decide +kernel)), (by decide +kernel), (by decide +kernel), (by decide +kernel), (RX10, TX10, 12), rfl, rfl⟩
theorem mv_X10_remove : jMV yX10_remove cX10_remove 2 (some .int) 1 9 := ⟨(kwm 847 (by decide +kernel) (by decide +kernel)), (kwm 848 (by decide +kernel) (by decide +kernel)), (kwm 10 (by decide +kernel) (by decide +kernel)), (kwm 849 (by decide +kernel) (by decide +kernel)), (by decide +kernel), (by decide +kernel), (by decide +kernel), (RX10, TX10, 12), rfl, rfl⟩
theorem mv_X10_restore : jMV yX10_restore cX10_restore 2 (some .int) 1 9 := ⟨(kwm 710 (by decide +kernel) (by decide +kernel)), (kwm 711 (by decide +kernel) (by decide +kernel)), (kwm 10 (by decide +kernel) (by decide +kernel)), (kwm 712 (by decide +kernel) (by decide +kernel)), (by decide +kernel), (by decide +kernel), (by decide +kernel), (RX10, TX10, 12), rfl, rfl⟩
theorem mv_X10_row : jMV yX10_row cX10_row 3 (some .int) 2 9 := ⟨(kwm 863 (by decide +kernel) (by decide +kernel)), (kwm 864 (by decide +kernel) (by decide +kernel)), (kwm 10 (by decide +kernel) (by decide +kernel)), (kwm 865 (by decide +kernel) (by decide +kernel)), (by decide +kernel), (by decide +kernel), (by decide +kernel), (RX10, TX10, 12), rfl, rfl⟩
theorem ms_X10_rowsWith : jMS yX10_rowsWith cX10_rowsWith 5 (some .int) 3 := ⟨(kwm 818 (by decide +kernel) (by decide +kernel)), (kwm 10 (by decide +kernel) (by decide +kernel)), (kwm 819 (by decide +kernel) (by decide +kernel)), (by decide +kernel), (by decide +kernel), (by decide +kernel)⟩
theorem mv_X10_save : jMV yX10_save cX10_save 2 (some .int) 1 9 := ⟨(kwm 703 (by decide +kernel) (by decide +kernel)), (kwm 704 (by decide +kernel) (by decide +kernel)), (kwm 10 (by decide +kernel) (by decide +kernel)), (kwm 705 (by decide +kernel) (by decide +kernel)), (by decide +kernel), (by decide +kernel), (by decide +kernel), (RX10, TX10, 12), rfl, rfl⟩
theorem mv_X10_scaled : jMV yX10_scaled cX10_scaled 2 (some .int) 1 9 := ⟨(kwm 742 (by decide +kernel) (by decide +kernel)), (kws 18 (by decide +kernel) (by decide +kernel)), (kwm 10 (by decide +kernel) (by decide +kernel)), (kwm 743 (by decide +kernel) (by decide +kernel)), (by decide +kernel), (by decide +kernel), (by decide +kernel), (RX10, TX10, 12), rfl, rfl⟩
theorem mv_X10_set : jMV yX10_set cX10_set 3 (some .int) 2 9 := ⟨(kwm 824 (by decide +kernel) (by decide +kernel)), (kwm 825 (by decide +kernel) (by decide +kernel)), (kwm 10 (by decide +kernel) (by decide +kernel)), (kwm 826 (by decide +kernel) (by decide +kernel)), (by decide +kernel), (by decide +kernel), (by decide +kernel), (RX10, TX10, 12), rfl, rfl⟩
theorem mv_X10_sets : jMV yX10_sets cX10_sets 4 (some .int) 2 9 := ⟨(kwm 832 (by decide +kernel) (by decide +kernel)), (kws 24 (by decide +kernel) (by decide +kernel)), (kwm 10 (by decide +kernel) (by decide +kernel)), (kwm 833 (by decide +kernel) (by decide +kernel)), (by decide +kernel), (by decide +kernel), (by decide +kernel), (RX10, TX10, 12), rfl, rfl⟩
theorem mv_X10_share : jMV yX10_share cX10_share 4 (some .int) 3 9 := ⟨(kwm 757 (by decide +kernel) (by decide +kernel)), (kwm 758 (by decide +kernel) (by decide +kernel)), (kwm 10 (by decide +kernel) (by decide +kernel)), (kwm 759 (by decide +kernel) (by decide +kernel)), (by decide +kernel), (by decide +kernel), (by decide +kernel), (RX10, TX10, 12), rfl, rfl⟩
theorem ms_X10_toldBy : jMS yX10_toldBy cX10_toldBy 4 (some .int) 1 := ⟨(kwm 887 (by decide +kernel) (by decide +kernel)), (kwm 10 (by decide +kernel) (by decide +kernel)), (kwm 888 (by decide +kernel) (by decide +kernel)), (by decide +kernel), (by decide +kernel), (by decide +kernel)⟩
theorem mv_X10_truly : jMV yX10_truly cX10_truly 6 (some .int) 3 9 := ⟨(kwm 732 (by decide +kernel) (by decide +kernel)), (kws 17 (by decide +kernel) (by decide +kernel)), (kwm 10 (by decide +kernel) (by decide +kernel)), (kwm 733 (by decide +kernel) (by decide +kernel)), (by decide +kernel), (by decide +kernel), (by decide +kernel), (RX10, TX10, 12), rfl, rfl⟩
theorem mv_X10_undo : jMV yX10_undo cX10_undo 1 (some .int) 0 9 := ⟨(kwm 696 (by decide +kernel) (by decide +kernel)), (kwm 697 (by decide +kernel) (by decide +kernel)), (kwm 10 (by decide +kernel) (by decide +kernel)), (kwm 698 (by decide +kernel) (by decide +kernel)), (by decide +kernel), (by decide +kernel), (by decide +kernel), (RX10, TX10, 12), rfl, rfl⟩
theorem mv_X10_wipe : jMV yX10_wipe cX10_wipe 2 (some .int) 0 9 := ⟨(kwm 894 (by decide +kernel) (by decide +kernel)), (kwm 895 (by decide +kernel) (by decide +kernel)), (kwm 10 (by decide +kernel) (by decide +kernel)), (kwm 896 (by decide +kernel) (by decide +kernel)), (by decide +kernel), (by decide +kernel), (by decide +kernel), (RX10, TX10, 12), rfl, rfl⟩
theorem mv_X10_worst : jMV yX10_worst cX10_worst 4 (some .int) 2 9 := ⟨(kwm 786 (by decide +kernel) (by decide +kernel)), (kwm 787 (by decide +kernel) (by decide +kernel)), (kwm 10 (by decide +kernel) (by decide +kernel)), (kwm 788 (by decide +kernel) (by decide +kernel)), (by decide +kernel), (by decide +kernel), (by decide +kernel), (RX10, TX10, 12), rfl, rfl⟩
theorem ms_X10_worstOf : jMS yX10_worstOf cX10_worstOf 4 (some .int) 2 := ⟨(kwm 790 (by decide +kernel) (by decide +kernel)), (kwm 10 (by decide +kernel) (by decide +kernel)), (kwm 791 (by decide +kernel) (by decide +kernel)), (by decide +kernel), (by decide +kernel), (by decide +kernel)⟩
theorem ms_X1_bits : jMS yX1_bits cX1_bits 10 (some .long) 3 := ⟨(kwm 519 (by decide +kernel) (by decide +kernel)), (kwm 12 (by decide +kernel) (by decide +kernel)), (kwm 520 (by decide +kernel) (by decide +kernel)), (by decide +kernel), (by decide +kernel), (by decide +kernel)⟩
theorem ms_X1_ofDouble : jMS yX1_ofDouble cX1_ofDouble 2 (some .long) 1 := ⟨(kwm 532 (by decide +kernel) (by decide +kernel)), (kwm 12 (by decide +kernel) (by decide +kernel)), (kwm 533 (by decide +kernel) (by decide +kernel)), (by decide +kernel), (by decide +kernel), (by decide +kernel)⟩
theorem ms_X1_ofFloat : jMS yX1_ofFloat cX1_ofFloat 1 (some .int) 1 := ⟨(kwm 516 (by decide +kernel) (by decide +kernel)), (kwm 12 (by decide +kernel) (by decide +kernel)), (kwm 517 (by decide +kernel) (by decide +kernel)), (by decide +kernel), (by decide +kernel), (by decide +kernel)⟩
theorem mv_X2_addToBucket : jMV yX2_addToBucket cX2_addToBucket 3 none 2 1 := ⟨(kwm 388 (by decide +kernel) (by decide +kernel)), (kws 8 (by decide +kernel) (by decide +kernel)), (kwm 5 (by decide +kernel) (by decide +kernel)), (kwm 389 (by decide +kernel) (by decide +kernel)), (by decide +kernel), (by decide +kernel), (by decide +kernel), (RX2, TX2, 9), rfl, rfl⟩
theorem mv_X2_chooseCommon : jMV yX2_chooseCommon cX2_chooseCommon 4 none 1 1 := ⟨(kwm 362 (by decide +kernel) (by decide +kernel)), (kws 2 (by decide +kernel) (by decide +kernel)), (kwm 5 (by decide +kernel) (by decide +kernel)), (kwm 363 (by decide +kernel) (by decide +kernel)), (by decide +kernel), (by decide +kernel), (by decide +kernel), (RX2, TX2, 9), rfl, rfl⟩
theorem mv_X2_copyFrom : jMV yX2_copyFrom cX2_copyFrom 2 none 1 1 := ⟨(kwm 256 (by decide +kernel) (by decide +kernel)), (kwm 257 (by decide +kernel) (by decide +kernel)), (kwm 5 (by decide +kernel) (by decide +kernel)), (kwm 258 (by decide +kernel) (by decide +kernel)), (by decide +kernel), (by decide +kernel), (by decide +kernel), (RX2, TX2, 9), rfl, rfl⟩
theorem mv_X2_countValues : jMV yX2_countValues cX2_countValues 5 none 2 1 := ⟨(kwm 354 (by decide +kernel) (by decide +kernel)), (kws 1 (by decide +kernel) (by decide +kernel)), (kwm 5 (by decide +kernel) (by decide +kernel)), (kwm 355 (by decide +kernel) (by decide +kernel)), (by decide +kernel), (by decide +kernel), (by decide +kernel), (RX2, TX2, 9), rfl, rfl⟩
theorem mv_X2_cutBuckets : jMV yX2_cutBuckets cX2_cutBuckets 9 none 2 1 := ⟨(kwm 371 (by decide +kernel) (by decide +kernel)), (kws 4 (by decide +kernel) (by decide +kernel)), (kwm 5 (by decide +kernel) (by decide +kernel)), (kwm 372 (by decide +kernel) (by decide +kernel)), (by decide +kernel), (by decide +kernel), (by decide +kernel), (RX2, TX2, 9), rfl, rfl⟩
theorem mv_X2_fullHeight : jMV yX2_fullHeight cX2_fullHeight 3 (some .int) 2 1 := ⟨(kwm 380 (by decide +kernel) (by decide +kernel)), (kws 6 (by decide +kernel) (by decide +kernel)), (kwm 5 (by decide +kernel) (by decide +kernel)), (kwm 381 (by decide +kernel) (by decide +kernel)), (by decide +kernel), (by decide +kernel), (by decide +kernel), (RX2, TX2, 9), rfl, rfl⟩
theorem mv_X2_guess : jMV yX2_guess cX2_guess 7 (some .int) 2 1 := ⟨(kwm 472 (by decide +kernel) (by decide +kernel)), (kwm 473 (by decide +kernel) (by decide +kernel)), (kwm 5 (by decide +kernel) (by decide +kernel)), (kwm 474 (by decide +kernel) (by decide +kernel)), (by decide +kernel), (by decide +kernel), (by decide +kernel), (RX2, TX2, 9), rfl, rfl⟩
theorem mi_X2_init : jMI yX2_init cX2_init 1 0 := ⟨(kwm 60 (by decide +kernel) (by decide +kernel)), rfl, (kwm 5 (by decide +kernel) (by decide +kernel)), (kwm 61 (by decide +kernel) (by decide +kernel)), (by decide +kernel), (by decide +kernel), (by decide +kernel)⟩
theorem mv_X2_isCommon : jMV yX2_isCommon cX2_isCommon 3 (some .boolean) 1 1 := ⟨(kwm 376 (by decide +kernel) (by decide +kernel)), (kws 5 (by decide +kernel) (by decide +kernel)), (kwm 5 (by decide +kernel) (by decide +kernel)), (kwm 377 (by decide +kernel) (by decide +kernel)), (by decide +kernel), (by decide +kernel), (by decide +kernel), (RX2, TX2, 9), rfl, rfl⟩
theorem mv_X2_learn : jMV yX2_learn cX2_learn 5 none 4 1 := ⟨(kwm 349 (by decide +kernel) (by decide +kernel)), (kwm 350 (by decide +kernel) (by decide +kernel)), (kwm 5 (by decide +kernel) (by decide +kernel)), (kwm 351 (by decide +kernel) (by decide +kernel)), (by decide +kernel), (by decide +kernel), (by decide +kernel), (RX2, TX2, 9), rfl, rfl⟩
theorem mv_X2_least : jMV yX2_least cX2_least 5 (some .int) 2 1 := ⟨(kwm 484 (by decide +kernel) (by decide +kernel)), (kwm 485 (by decide +kernel) (by decide +kernel)), (kwm 5 (by decide +kernel) (by decide +kernel)), (kwm 486 (by decide +kernel) (by decide +kernel)), (by decide +kernel), (by decide +kernel), (by decide +kernel), (RX2, TX2, 9), rfl, rfl⟩
theorem mv_X2_miss : jMV yX2_miss cX2_miss 2 (some .int) 1 1 := ⟨(kwm 543 (by decide +kernel) (by decide +kernel)), (kwm 544 (by decide +kernel) (by decide +kernel)), (kwm 5 (by decide +kernel) (by decide +kernel)), (kwm 545 (by decide +kernel) (by decide +kernel)), (by decide +kernel), (by decide +kernel), (by decide +kernel), (RX2, TX2, 9), rfl, rfl⟩
theorem mv_X2_most : jMV yX2_most cX2_most 5 (some .int) 2 1 := ⟨(kwm 488 (by decide +kernel) (by decide +kernel)), (kwm 489 (by decide +kernel) (by decide +kernel)), (kwm 5 (by decide +kernel) (by decide +kernel)), (kwm 490 (by decide +kernel) (by decide +kernel)), (by decide +kernel), (by decide +kernel), (by decide +kernel), (RX2, TX2, 9), rfl, rfl⟩
theorem mv_X2_nextRank : jMV yX2_nextRank cX2_nextRank 5 (some .int) 1 1 := ⟨(kwm 367 (by decide +kernel) (by decide +kernel)), (kws 3 (by decide +kernel) (by decide +kernel)), (kwm 5 (by decide +kernel) (by decide +kernel)), (kwm 368 (by decide +kernel) (by decide +kernel)), (by decide +kernel), (by decide +kernel), (by decide +kernel), (RX2, TX2, 9), rfl, rfl⟩
theorem mv_X2_rowsOfBuckets : jMV yX2_rowsOfBuckets cX2_rowsOfBuckets 3 (some .int) 0 1 := ⟨(kwm 528 (by decide +kernel) (by decide +kernel)), (kwm 529 (by decide +kernel) (by decide +kernel)), (kwm 5 (by decide +kernel) (by decide +kernel)), (kwm 530 (by decide +kernel) (by decide +kernel)), (by decide +kernel), (by decide +kernel), (by decide +kernel), (RX2, TX2, 9), rfl, rfl⟩
theorem mv_X2_rowsOfCommon : jMV yX2_rowsOfCommon cX2_rowsOfCommon 5 (some .int) 2 1 := ⟨(kwm 477 (by decide +kernel) (by decide +kernel)), (kws 10 (by decide +kernel) (by decide +kernel)), (kwm 5 (by decide +kernel) (by decide +kernel)), (kwm 478 (by decide +kernel) (by decide +kernel)), (by decide +kernel), (by decide +kernel), (by decide +kernel), (RX2, TX2, 9), rfl, rfl⟩
theorem mv_X2_startBucket : jMV yX2_startBucket cX2_startBucket 3 none 2 1 := ⟨(kwm 384 (by decide +kernel) (by decide +kernel)), (kws 7 (by decide +kernel) (by decide +kernel)), (kwm 5 (by decide +kernel) (by decide +kernel)), (kwm 385 (by decide +kernel) (by decide +kernel)), (by decide +kernel), (by decide +kernel), (by decide +kernel), (RX2, TX2, 9), rfl, rfl⟩
theorem mv_X2_tellBucket : jMV yX2_tellBucket cX2_tellBucket 3 (some .int) 2 1 := ⟨(kwm 421 (by decide +kernel) (by decide +kernel)), (kwm 422 (by decide +kernel) (by decide +kernel)), (kwm 5 (by decide +kernel) (by decide +kernel)), (kwm 423 (by decide +kernel) (by decide +kernel)), (by decide +kernel), (by decide +kernel), (by decide +kernel), (RX2, TX2, 9), rfl, rfl⟩
theorem mv_X2_tellCommon : jMV yX2_tellCommon cX2_tellCommon 3 (some .int) 2 1 := ⟨(kwm 429 (by decide +kernel) (by decide +kernel)), (kwm 430 (by decide +kernel) (by decide +kernel)), (kwm 5 (by decide +kernel) (by decide +kernel)), (kwm 431 (by decide +kernel) (by decide +kernel)), (by decide +kernel), (by decide +kernel), (by decide +kernel), (RX2, TX2, 9), rfl, rfl⟩
theorem mv_X2_worstValue : jMV yX2_worstValue cX2_worstValue 5 (some .int) 0 1 := ⟨(kwm 539 (by decide +kernel) (by decide +kernel)), (kwm 540 (by decide +kernel) (by decide +kernel)), (kwm 5 (by decide +kernel) (by decide +kernel)), (kwm 541 (by decide +kernel) (by decide +kernel)), (by decide +kernel), (by decide +kernel), (by decide +kernel), (RX2, TX2, 9), rfl, rfl⟩
theorem mv_X3_bringBack : jMV yX3_bringBack cX3_bringBack 4 none 1 2 := ⟨(kwm 639 (by decide +kernel) (by decide +kernel)), (kwm 640 (by decide +kernel) (by decide +kernel)), (kwm 7 (by decide +kernel) (by decide +kernel)), (kwm 641 (by decide +kernel) (by decide +kernel)), (by decide +kernel), (by decide +kernel), (by decide +kernel), (RX3, TX3, 3), rfl, rfl⟩
theorem mi_X3_init : jMI yX3_init cX3_init 1 0 := ⟨(kwm 149 (by decide +kernel) (by decide +kernel)), rfl, (kwm 7 (by decide +kernel) (by decide +kernel)), (kwm 150 (by decide +kernel) (by decide +kernel)), (by decide +kernel), (by decide +kernel), (by decide +kernel)⟩
theorem mv_X3_keep : jMV yX3_keep cX3_keep 1 none 0 2 := ⟨(kwm 280 (by decide +kernel) (by decide +kernel)), (kwm 281 (by decide +kernel) (by decide +kernel)), (kwm 7 (by decide +kernel) (by decide +kernel)), (kwm 282 (by decide +kernel) (by decide +kernel)), (by decide +kernel), (by decide +kernel), (by decide +kernel), (RX3, TX3, 3), rfl, rfl⟩
theorem mv_X3_prepare : jMV yX3_prepare cX3_prepare 3 none 1 2 := ⟨(kwm 235 (by decide +kernel) (by decide +kernel)), (kwm 236 (by decide +kernel) (by decide +kernel)), (kwm 7 (by decide +kernel) (by decide +kernel)), (kwm 237 (by decide +kernel) (by decide +kernel)), (by decide +kernel), (by decide +kernel), (by decide +kernel), (RX3, TX3, 3), rfl, rfl⟩
theorem mv_X4_append : jMV yX4_append cX4_append 7 (some .int) 1 3 := ⟨(kwm 562 (by decide +kernel) (by decide +kernel)), (kwm 563 (by decide +kernel) (by decide +kernel)), (kwm 8 (by decide +kernel) (by decide +kernel)), (kwm 564 (by decide +kernel) (by decide +kernel)), (by decide +kernel), (by decide +kernel), (by decide +kernel), (RX4, TX4, 2), rfl, rfl⟩
theorem mv_X4_clear : jMV yX4_clear cX4_clear 2 (some .int) 0 3 := ⟨(kwm 575 (by decide +kernel) (by decide +kernel)), (kwm 576 (by decide +kernel) (by decide +kernel)), (kwm 8 (by decide +kernel) (by decide +kernel)), (kwm 577 (by decide +kernel) (by decide +kernel)), (by decide +kernel), (by decide +kernel), (by decide +kernel), (RX4, TX4, 2), rfl, rfl⟩
theorem mi_X4_init : jMI yX4_init cX4_init 1 0 := ⟨(kwm 167 (by decide +kernel) (by decide +kernel)), rfl, (kwm 8 (by decide +kernel) (by decide +kernel)), (kwm 168 (by decide +kernel) (by decide +kernel)), (by decide +kernel), (by decide +kernel), (by decide +kernel)⟩
theorem mv_X4_signAt : jMV yX4_signAt cX4_signAt 2 (some .char) 1 3 := ⟨(kwm 595 (by decide +kernel) (by decide +kernel)), (kwm 596 (by decide +kernel) (by decide +kernel)), (kwm 8 (by decide +kernel) (by decide +kernel)), (kwm 597 (by decide +kernel) (by decide +kernel)), (by decide +kernel), (by decide +kernel), (by decide +kernel), (RX4, TX4, 2), rfl, rfl⟩
theorem ms_X4_signsIn : jMS yX4_signsIn cX4_signsIn 7 (some .int) 1 := ⟨(kwm 566 (by decide +kernel) (by decide +kernel)), (kwm 8 (by decide +kernel) (by decide +kernel)), (kwm 567 (by decide +kernel) (by decide +kernel)), (by decide +kernel), (by decide +kernel), (by decide +kernel)⟩
theorem mv_X5_copyFrom : jMV yX5_copyFrom cX5_copyFrom 2 none 1 4 := ⟨(kwm 261 (by decide +kernel) (by decide +kernel)), (kwm 262 (by decide +kernel) (by decide +kernel)), (kwm 6 (by decide +kernel) (by decide +kernel)), (kwm 263 (by decide +kernel) (by decide +kernel)), (by decide +kernel), (by decide +kernel), (by decide +kernel), (RX5, TX5, 4), rfl, rfl⟩
theorem mi_X5_init : jMI yX5_init cX5_init 1 0 := ⟨(kwm 96 (by decide +kernel) (by decide +kernel)), rfl, (kwm 6 (by decide +kernel) (by decide +kernel)), (kwm 97 (by decide +kernel) (by decide +kernel)), (by decide +kernel), (by decide +kernel), (by decide +kernel)⟩
theorem mv_X5_learn : jMV yX5_learn cX5_learn 5 none 2 4 := ⟨(kwm 391 (by decide +kernel) (by decide +kernel)), (kwm 392 (by decide +kernel) (by decide +kernel)), (kwm 6 (by decide +kernel) (by decide +kernel)), (kwm 393 (by decide +kernel) (by decide +kernel)), (by decide +kernel), (by decide +kernel), (by decide +kernel), (RX5, TX5, 4), rfl, rfl⟩
theorem ms_X5_nextRank : jMS yX5_nextRank cX5_nextRank 8 (some .int) 2 := ⟨(kwm 396 (by decide +kernel) (by decide +kernel)), (kwm 6 (by decide +kernel) (by decide +kernel)), (kwm 397 (by decide +kernel) (by decide +kernel)), (by decide +kernel), (by decide +kernel), (by decide +kernel)⟩
theorem mv_X5_rowsInside : jMV yX5_rowsInside cX5_rowsInside 7 (some .int) 4 4 := ⟨(kwm 505 (by decide +kernel) (by decide +kernel)), (kwm 506 (by decide +kernel) (by decide +kernel)), (kwm 6 (by decide +kernel) (by decide +kernel)), (kwm 507 (by decide +kernel) (by decide +kernel)), (by decide +kernel), (by decide +kernel), (by decide +kernel), (RX5, TX5, 4), rfl, rfl⟩
theorem mv_X5_tellPair : jMV yX5_tellPair cX5_tellPair 3 (some .int) 2 4 := ⟨(kwm 437 (by decide +kernel) (by decide +kernel)), (kwm 438 (by decide +kernel) (by decide +kernel)), (kwm 6 (by decide +kernel) (by decide +kernel)), (kwm 439 (by decide +kernel) (by decide +kernel)), (by decide +kernel), (by decide +kernel), (by decide +kernel), (RX5, TX5, 4), rfl, rfl⟩
theorem mv_X6_findFault : jMV yX6_findFault cX6_findFault 2 (some .int) 0 5 := ⟨(kwm 583 (by decide +kernel) (by decide +kernel)), (kwm 584 (by decide +kernel) (by decide +kernel)), (kwm 9 (by decide +kernel) (by decide +kernel)), (kwm 585 (by decide +kernel) (by decide +kernel)), (by decide +kernel), (by decide +kernel), (by decide +kernel), (RX6, TX6, 6), rfl, rfl⟩
theorem mi_X6_init : jMI yX6_init cX6_init 2 1 := ⟨(kwm 183 (by decide +kernel) (by decide +kernel)), rfl, (kwm 9 (by decide +kernel) (by decide +kernel)), (kwm 184 (by decide +kernel) (by decide +kernel)), (by decide +kernel), (by decide +kernel), (by decide +kernel)⟩
theorem mv_X6_passSign : jMV yX6_passSign cX6_passSign 2 (some .boolean) 1 5 := ⟨(kwm 611 (by decide +kernel) (by decide +kernel)), (kwm 612 (by decide +kernel) (by decide +kernel)), (kwm 9 (by decide +kernel) (by decide +kernel)), (kwm 613 (by decide +kernel) (by decide +kernel)), (by decide +kernel), (by decide +kernel), (by decide +kernel), (RX6, TX6, 6), rfl, rfl⟩
theorem mv_X6_readDigit : jMV yX6_readDigit cX6_readDigit 2 (some .int) 0 5 := ⟨(kwm 608 (by decide +kernel) (by decide +kernel)), (kws 13 (by decide +kernel) (by decide +kernel)), (kwm 9 (by decide +kernel) (by decide +kernel)), (kwm 609 (by decide +kernel) (by decide +kernel)), (by decide +kernel), (by decide +kernel), (by decide +kernel), (RX6, TX6, 6), rfl, rfl⟩
theorem mv_X6_readNumber : jMV yX6_readNumber cX6_readNumber 3 (some .int) 0 5 := ⟨(kwm 604 (by decide +kernel) (by decide +kernel)), (kws 12 (by decide +kernel) (by decide +kernel)), (kwm 9 (by decide +kernel) (by decide +kernel)), (kwm 605 (by decide +kernel) (by decide +kernel)), (by decide +kernel), (by decide +kernel), (by decide +kernel), (RX6, TX6, 6), rfl, rfl⟩
theorem mv_X6_readOrder : jMV yX6_readOrder cX6_readOrder 1 (some .boolean) 0 5 := ⟨(kwm 591 (by decide +kernel) (by decide +kernel)), (kwm 592 (by decide +kernel) (by decide +kernel)), (kwm 9 (by decide +kernel) (by decide +kernel)), (kwm 593 (by decide +kernel) (by decide +kernel)), (by decide +kernel), (by decide +kernel), (by decide +kernel), (RX6, TX6, 6), rfl, rfl⟩
theorem mv_X6_readRow : jMV yX6_readRow cX6_readRow 1 (some .boolean) 0 5 := ⟨(kwm 600 (by decide +kernel) (by decide +kernel)), (kws 11 (by decide +kernel) (by decide +kernel)), (kwm 9 (by decide +kernel) (by decide +kernel)), (kwm 601 (by decide +kernel) (by decide +kernel)), (by decide +kernel), (by decide +kernel), (by decide +kernel), (RX6, TX6, 6), rfl, rfl⟩
theorem mv_X6_readTimes : jMV yX6_readTimes cX6_readTimes 1 (some .boolean) 0 5 := ⟨(kwm 616 (by decide +kernel) (by decide +kernel)), (kws 14 (by decide +kernel) (by decide +kernel)), (kwm 9 (by decide +kernel) (by decide +kernel)), (kwm 617 (by decide +kernel) (by decide +kernel)), (by decide +kernel), (by decide +kernel), (by decide +kernel), (RX6, TX6, 6), rfl, rfl⟩
theorem mv_X6_start : jMV yX6_start cX6_start 1 none 0 5 := ⟨(kwm 587 (by decide +kernel) (by decide +kernel)), (kwm 588 (by decide +kernel) (by decide +kernel)), (kwm 9 (by decide +kernel) (by decide +kernel)), (kwm 589 (by decide +kernel) (by decide +kernel)), (by decide +kernel), (by decide +kernel), (by decide +kernel), (RX6, TX6, 6), rfl, rfl⟩
theorem mv_X7_addRow : jMV yX7_addRow cX7_addRow 3 (some .int) 2 6 := ⟨(kwm 291 (by decide +kernel) (by decide +kernel)), (kwm 292 (by decide +kernel) (by decide +kernel)), (kwm 2 (by decide +kernel) (by decide +kernel)), (kwm 293 (by decide +kernel) (by decide +kernel)), (by decide +kernel), (by decide +kernel), (by decide +kernel), (RX7, TX7, 3), rfl, rfl⟩
theorem mv_X7_addRows : jMV yX7_addRows cX7_addRows 6 (some .int) 3 6 := ⟨(kwm 629 (by decide +kernel) (by decide +kernel)), (kwm 630 (by decide +kernel) (by decide +kernel)), (kwm 2 (by decide +kernel) (by decide +kernel)), (kwm 631 (by decide +kernel) (by decide +kernel)), (by decide +kernel), (by decide +kernel), (by decide +kernel), (RX7, TX7, 3), rfl, rfl⟩
theorem mv_X7_change : jMV yX7_change cX7_change 4 (some .int) 2 6 := ⟨(kwm 266 (by decide +kernel) (by decide +kernel)), (kwm 267 (by decide +kernel) (by decide +kernel)), (kwm 2 (by decide +kernel) (by decide +kernel)), (kwm 268 (by decide +kernel) (by decide +kernel)), (by decide +kernel), (by decide +kernel), (by decide +kernel), (RX7, TX7, 3), rfl, rfl⟩
theorem mv_X7_copyFrom : jMV yX7_copyFrom cX7_copyFrom 2 none 1 6 := ⟨(kwm 240 (by decide +kernel) (by decide +kernel)), (kwm 241 (by decide +kernel) (by decide +kernel)), (kwm 2 (by decide +kernel) (by decide +kernel)), (kwm 242 (by decide +kernel) (by decide +kernel)), (by decide +kernel), (by decide +kernel), (by decide +kernel), (RX7, TX7, 3), rfl, rfl⟩
theorem mv_X7_dropRow : jMV yX7_dropRow cX7_dropRow 2 (some .int) 1 6 := ⟨(kwm 320 (by decide +kernel) (by decide +kernel)), (kwm 321 (by decide +kernel) (by decide +kernel)), (kwm 2 (by decide +kernel) (by decide +kernel)), (kwm 322 (by decide +kernel) (by decide +kernel)), (by decide +kernel), (by decide +kernel), (by decide +kernel), (RX7, TX7, 3), rfl, rfl⟩
theorem mi_X7_init : jMI yX7_init cX7_init 1 0 := ⟨(kwm 26 (by decide +kernel) (by decide +kernel)), rfl, (kwm 2 (by decide +kernel) (by decide +kernel)), (kwm 27 (by decide +kernel) (by decide +kernel)), (by decide +kernel), (by decide +kernel), (by decide +kernel)⟩
theorem ms_X7_isInRange : jMS yX7_isInRange cX7_isInRange 2 (some .boolean) 2 := ⟨(kwm 273 (by decide +kernel) (by decide +kernel)), (kwm 2 (by decide +kernel) (by decide +kernel)), (kwm 274 (by decide +kernel) (by decide +kernel)), (by decide +kernel), (by decide +kernel), (by decide +kernel)⟩
theorem mv_X7_makeAnalysis : jMV yX7_makeAnalysis cX7_makeAnalysis 1 (some .int) 0 6 := ⟨(kwm 337 (by decide +kernel) (by decide +kernel)), (kwm 338 (by decide +kernel) (by decide +kernel)), (kwm 2 (by decide +kernel) (by decide +kernel)), (kwm 339 (by decide +kernel) (by decide +kernel)), (by decide +kernel), (by decide +kernel), (by decide +kernel), (RX7, TX7, 3), rfl, rfl⟩
theorem mv_X7_scale : jMV yX7_scale cX7_scale 2 (some .int) 1 6 := ⟨(kwm 492 (by decide +kernel) (by decide +kernel)), (kwm 493 (by decide +kernel) (by decide +kernel)), (kwm 2 (by decide +kernel) (by decide +kernel)), (kwm 494 (by decide +kernel) (by decide +kernel)), (by decide +kernel), (by decide +kernel), (by decide +kernel), (RX7, TX7, 3), rfl, rfl⟩
theorem mv_X7_setting : jMV yX7_setting cX7_setting 2 (some .int) 1 6 := ⟨(kwm 341 (by decide +kernel) (by decide +kernel)), (kwm 342 (by decide +kernel) (by decide +kernel)), (kwm 2 (by decide +kernel) (by decide +kernel)), (kwm 343 (by decide +kernel) (by decide +kernel)), (by decide +kernel), (by decide +kernel), (by decide +kernel), (RX7, TX7, 3), rfl, rfl⟩
theorem mv_X8_add : jMV yX8_add cX8_add 3 none 2 7 := ⟨(kwm 303 (by decide +kernel) (by decide +kernel)), (kwm 304 (by decide +kernel) (by decide +kernel)), (kwm 3 (by decide +kernel) (by decide +kernel)), (kwm 305 (by decide +kernel) (by decide +kernel)), (by decide +kernel), (by decide +kernel), (by decide +kernel), (RX8, TX8, 3), rfl, rfl⟩
theorem mv_X8_copyFrom : jMV yX8_copyFrom cX8_copyFrom 2 none 1 7 := ⟨(kwm 247 (by decide +kernel) (by decide +kernel)), (kwm 248 (by decide +kernel) (by decide +kernel)), (kwm 3 (by decide +kernel) (by decide +kernel)), (kwm 249 (by decide +kernel) (by decide +kernel)), (by decide +kernel), (by decide +kernel), (by decide +kernel), (RX8, TX8, 3), rfl, rfl⟩
theorem mv_X8_drop : jMV yX8_drop cX8_drop 3 none 1 7 := ⟨(kwm 328 (by decide +kernel) (by decide +kernel)), (kwm 329 (by decide +kernel) (by decide +kernel)), (kwm 3 (by decide +kernel) (by decide +kernel)), (kwm 330 (by decide +kernel) (by decide +kernel)), (by decide +kernel), (by decide +kernel), (by decide +kernel), (RX8, TX8, 3), rfl, rfl⟩
theorem mv_X8_hasRow : jMV yX8_hasRow cX8_hasRow 2 (some .boolean) 1 7 := ⟨(kwm 324 (by decide +kernel) (by decide +kernel)), (kwm 325 (by decide +kernel) (by decide +kernel)), (kwm 3 (by decide +kernel) (by decide +kernel)), (kwm 326 (by decide +kernel) (by decide +kernel)), (by decide +kernel), (by decide +kernel), (by decide +kernel), (RX8, TX8, 3), rfl, rfl⟩
theorem mi_X8_init : jMI yX8_init cX8_init 1 0 := ⟨(kwm 32 (by decide +kernel) (by decide +kernel)), rfl, (kwm 3 (by decide +kernel) (by decide +kernel)), (kwm 33 (by decide +kernel) (by decide +kernel)), (by decide +kernel), (by decide +kernel), (by decide +kernel)⟩
theorem mv_X8_isFull : jMV yX8_isFull cX8_isFull 1 (some .boolean) 0 7 := ⟨(kwm 299 (by decide +kernel) (by decide +kernel)), (kwm 300 (by decide +kernel) (by decide +kernel)), (kwm 3 (by decide +kernel) (by decide +kernel)), (kwm 301 (by decide +kernel) (by decide +kernel)), (by decide +kernel), (by decide +kernel), (by decide +kernel), (RX8, TX8, 3), rfl, rfl⟩
theorem mv_X8_rowsInside : jMV yX8_rowsInside cX8_rowsInside 4 (some .int) 3 7 := ⟨(kwm 463 (by decide +kernel) (by decide +kernel)), (kwm 464 (by decide +kernel) (by decide +kernel)), (kwm 3 (by decide +kernel) (by decide +kernel)), (kwm 465 (by decide +kernel) (by decide +kernel)), (by decide +kernel), (by decide +kernel), (by decide +kernel), (RX8, TX8, 3), rfl, rfl⟩
theorem mv_X8_rowsInsideBoth : jMV yX8_rowsInsideBoth cX8_rowsInsideBoth 7 (some .int) 4 7 := ⟨(kwm 467 (by decide +kernel) (by decide +kernel)), (kwm 468 (by decide +kernel) (by decide +kernel)), (kwm 3 (by decide +kernel) (by decide +kernel)), (kwm 469 (by decide +kernel) (by decide +kernel)), (by decide +kernel), (by decide +kernel), (by decide +kernel), (RX8, TX8, 3), rfl, rfl⟩
theorem mv_X8_rowsLike : jMV yX8_rowsLike cX8_rowsLike 4 (some .int) 1 7 := ⟨(kwm 399 (by decide +kernel) (by decide +kernel)), (kwm 400 (by decide +kernel) (by decide +kernel)), (kwm 3 (by decide +kernel) (by decide +kernel)), (kwm 401 (by decide +kernel) (by decide +kernel)), (by decide +kernel), (by decide +kernel), (by decide +kernel), (RX8, TX8, 3), rfl, rfl⟩
theorem mv_X8_value : jMV yX8_value cX8_value 3 (some .int) 2 7 := ⟨(kwm 357 (by decide +kernel) (by decide +kernel)), (kwm 358 (by decide +kernel) (by decide +kernel)), (kwm 3 (by decide +kernel) (by decide +kernel)), (kwm 359 (by decide +kernel) (by decide +kernel)), (by decide +kernel), (by decide +kernel), (by decide +kernel), (RX8, TX8, 3), rfl, rfl⟩
theorem mv_X9_analyse : jMV yX9_analyse cX9_analyse 1 (some .int) 0 8 := ⟨(kwm 333 (by decide +kernel) (by decide +kernel)), (kwm 334 (by decide +kernel) (by decide +kernel)), (kwm 1 (by decide +kernel) (by decide +kernel)), (kwm 335 (by decide +kernel) (by decide +kernel)), (by decide +kernel), (by decide +kernel), (by decide +kernel), (RX9, TX9, 6), rfl, rfl⟩
theorem ms_X9_areBounds : jMS yX9_areBounds cX9_areBounds 2 (some .boolean) 2 := ⟨(kwm 459 (by decide +kernel) (by decide +kernel)), (kwm 1 (by decide +kernel) (by decide +kernel)), (kwm 460 (by decide +kernel) (by decide +kernel)), (by decide +kernel), (by decide +kernel), (by decide +kernel)⟩
theorem mv_X9_both : jMV yX9_both cX9_both 7 (some .int) 5 8 := ⟨(kwm 496 (by decide +kernel) (by decide +kernel)), (kwm 497 (by decide +kernel) (by decide +kernel)), (kwm 1 (by decide +kernel) (by decide +kernel)), (kwm 498 (by decide +kernel) (by decide +kernel)), (by decide +kernel), (by decide +kernel), (by decide +kernel), (RX9, TX9, 6), rfl, rfl⟩
theorem mv_X9_bucket : jMV yX9_bucket cX9_bucket 4 (some .int) 3 8 := ⟨(kwm 413 (by decide +kernel) (by decide +kernel)), (kwm 414 (by decide +kernel) (by decide +kernel)), (kwm 1 (by decide +kernel) (by decide +kernel)), (kwm 415 (by decide +kernel) (by decide +kernel)), (by decide +kernel), (by decide +kernel), (by decide +kernel), (RX9, TX9, 6), rfl, rfl⟩
theorem mv_X9_carryOut : jMV yX9_carryOut cX9_carryOut 2 (some .int) 0 8 := ⟨(kwm 619 (by decide +kernel) (by decide +kernel)), (kwm 620 (by decide +kernel) (by decide +kernel)), (kwm 1 (by decide +kernel) (by decide +kernel)), (kwm 621 (by decide +kernel) (by decide +kernel)), (by decide +kernel), (by decide +kernel), (by decide +kernel), (RX9, TX9, 6), rfl, rfl⟩
theorem mv_X9_common : jMV yX9_common cX9_common 4 (some .int) 3 8 := ⟨(kwm 425 (by decide +kernel) (by decide +kernel)), (kwm 426 (by decide +kernel) (by decide +kernel)), (kwm 1 (by decide +kernel) (by decide +kernel)), (kwm 427 (by decide +kernel) (by decide +kernel)), (by decide +kernel), (by decide +kernel), (by decide +kernel), (RX9, TX9, 6), rfl, rfl⟩
theorem ms_X9_copyNumbers : jMS yX9_copyNumbers cX9_copyNumbers 3 none 2 := ⟨(kwm 244 (by decide +kernel) (by decide +kernel)), (kwm 1 (by decide +kernel) (by decide +kernel)), (kwm 245 (by decide +kernel) (by decide +kernel)), (by decide +kernel), (by decide +kernel), (by decide +kernel)⟩
theorem mv_X9_count : jMV yX9_count cX9_count 3 (some .int) 1 8 := ⟨(kwm 441 (by decide +kernel) (by decide +kernel)), (kwm 442 (by decide +kernel) (by decide +kernel)), (kwm 1 (by decide +kernel) (by decide +kernel)), (kwm 443 (by decide +kernel) (by decide +kernel)), (by decide +kernel), (by decide +kernel), (by decide +kernel), (RX9, TX9, 6), rfl, rfl⟩
theorem mv_X9_estimate : jMV yX9_estimate cX9_estimate 6 (some .int) 4 8 := ⟨(kwm 455 (by decide +kernel) (by decide +kernel)), (kwm 456 (by decide +kernel) (by decide +kernel)), (kwm 1 (by decide +kernel) (by decide +kernel)), (kwm 457 (by decide +kernel) (by decide +kernel)), (by decide +kernel), (by decide +kernel), (by decide +kernel), (RX9, TX9, 6), rfl, rfl⟩
theorem mv_X9_fault : jMV yX9_fault cX9_fault 1 (some .int) 0 8 := ⟨(kwm 579 (by decide +kernel) (by decide +kernel)), (kwm 580 (by decide +kernel) (by decide +kernel)), (kwm 1 (by decide +kernel) (by decide +kernel)), (kwm 581 (by decide +kernel) (by decide +kernel)), (by decide +kernel), (by decide +kernel), (by decide +kernel), (RX9, TX9, 6), rfl, rfl⟩
theorem mv_X9_fewest : jMV yX9_fewest cX9_fewest 4 (some .int) 2 8 := ⟨(kwm 553 (by decide +kernel) (by decide +kernel)), (kwm 554 (by decide +kernel) (by decide +kernel)), (kwm 1 (by decide +kernel) (by decide +kernel)), (kwm 555 (by decide +kernel) (by decide +kernel)), (by decide +kernel), (by decide +kernel), (by decide +kernel), (RX9, TX9, 6), rfl, rfl⟩
theorem mv_X9_followOrder : jMV yX9_followOrder cX9_followOrder 1 (some .int) 0 8 := ⟨(kwm 626 (by decide +kernel) (by decide +kernel)), (kws 15 (by decide +kernel) (by decide +kernel)), (kwm 1 (by decide +kernel) (by decide +kernel)), (kwm 627 (by decide +kernel) (by decide +kernel)), (by decide +kernel), (by decide +kernel), (by decide +kernel), (RX9, TX9, 6), rfl, rfl⟩
theorem mv_X9_height : jMV yX9_height cX9_height 3 (some .long) 1 8 := ⟨(kwm 523 (by decide +kernel) (by decide +kernel)), (kwm 524 (by decide +kernel) (by decide +kernel)), (kwm 1 (by decide +kernel) (by decide +kernel)), (kwm 525 (by decide +kernel) (by decide +kernel)), (by decide +kernel), (by decide +kernel), (by decide +kernel), (RX9, TX9, 6), rfl, rfl⟩
theorem mi_X9_init : jMI yX9_init cX9_init 1 0 := ⟨(kwm 18 (by decide +kernel) (by decide +kernel)), rfl, (kwm 1 (by decide +kernel) (by decide +kernel)), (kwm 19 (by decide +kernel) (by decide +kernel)), (by decide +kernel), (by decide +kernel), (by decide +kernel)⟩
theorem mv_X9_insert : jMV yX9_insert cX9_insert 3 (some .int) 2 8 := ⟨(kwm 287 (by decide +kernel) (by decide +kernel)), (kwm 288 (by decide +kernel) (by decide +kernel)), (kwm 1 (by decide +kernel) (by decide +kernel)), (kwm 289 (by decide +kernel) (by decide +kernel)), (by decide +kernel), (by decide +kernel), (by decide +kernel), (RX9, TX9, 6), rfl, rfl⟩
theorem ms_X9_isBetween : jMS yX9_isBetween cX9_isBetween 3 (some .boolean) 3 := ⟨(kwm 270 (by decide +kernel) (by decide +kernel)), (kwm 1 (by decide +kernel) (by decide +kernel)), (kwm 271 (by decide +kernel) (by decide +kernel)), (by decide +kernel), (by decide +kernel), (by decide +kernel)⟩
theorem ms_X9_isColumn : jMS yX9_isColumn cX9_isColumn 1 (some .boolean) 1 := ⟨(kwm 409 (by decide +kernel) (by decide +kernel)), (kwm 1 (by decide +kernel) (by decide +kernel)), (kwm 410 (by decide +kernel) (by decide +kernel)), (by decide +kernel), (by decide +kernel), (by decide +kernel)⟩
theorem ms_X9_isValue : jMS yX9_isValue cX9_isValue 1 (some .boolean) 1 := ⟨(kwm 295 (by decide +kernel) (by decide +kernel)), (kwm 1 (by decide +kernel) (by decide +kernel)), (kwm 296 (by decide +kernel) (by decide +kernel)), (by decide +kernel), (by decide +kernel), (by decide +kernel)⟩
theorem mv_X9_pair : jMV yX9_pair cX9_pair 3 (some .int) 2 8 := ⟨(kwm 433 (by decide +kernel) (by decide +kernel)), (kwm 434 (by decide +kernel) (by decide +kernel)), (kwm 1 (by decide +kernel) (by decide +kernel)), (kwm 435 (by decide +kernel) (by decide +kernel)), (by decide +kernel), (by decide +kernel), (by decide +kernel), (RX9, TX9, 6), rfl, rfl⟩
theorem mv_X9_put : jMV yX9_put cX9_put 3 (some .int) 1 8 := ⟨(kwm 558 (by decide +kernel) (by decide +kernel)), (kwm 559 (by decide +kernel) (by decide +kernel)), (kwm 1 (by decide +kernel) (by decide +kernel)), (kwm 560 (by decide +kernel) (by decide +kernel)), (by decide +kernel), (by decide +kernel), (by decide +kernel), (RX9, TX9, 6), rfl, rfl⟩
theorem mv_X9_recorded : jMV yX9_recorded cX9_recorded 2 (some .int) 1 8 := ⟨(kwm 277 (by decide +kernel) (by decide +kernel)), (kws 0 (by decide +kernel) (by decide +kernel)), (kwm 1 (by decide +kernel) (by decide +kernel)), (kwm 278 (by decide +kernel) (by decide +kernel)), (by decide +kernel), (by decide +kernel), (by decide +kernel), (RX9, TX9, 6), rfl, rfl⟩
theorem mv_X9_remove : jMV yX9_remove cX9_remove 2 (some .int) 1 8 := ⟨(kwm 316 (by decide +kernel) (by decide +kernel)), (kwm 317 (by decide +kernel) (by decide +kernel)), (kwm 1 (by decide +kernel) (by decide +kernel)), (kwm 318 (by decide +kernel) (by decide +kernel)), (by decide +kernel), (by decide +kernel), (by decide +kernel), (RX9, TX9, 6), rfl, rfl⟩
theorem mv_X9_restore : jMV yX9_restore cX9_restore 3 (some .int) 1 8 := ⟨(kwm 648 (by decide +kernel) (by decide +kernel)), (kwm 649 (by decide +kernel) (by decide +kernel)), (kwm 1 (by decide +kernel) (by decide +kernel)), (kwm 650 (by decide +kernel) (by decide +kernel)), (by decide +kernel), (by decide +kernel), (by decide +kernel), (RX9, TX9, 6), rfl, rfl⟩
theorem mv_X9_row : jMV yX9_row cX9_row 3 (some .int) 2 8 := ⟨(kwm 404 (by decide +kernel) (by decide +kernel)), (kwm 405 (by decide +kernel) (by decide +kernel)), (kwm 1 (by decide +kernel) (by decide +kernel)), (kwm 406 (by decide +kernel) (by decide +kernel)), (by decide +kernel), (by decide +kernel), (by decide +kernel), (RX9, TX9, 6), rfl, rfl⟩
theorem mv_X9_save : jMV yX9_save cX9_save 3 (some .int) 1 8 := ⟨(kwm 643 (by decide +kernel) (by decide +kernel)), (kwm 644 (by decide +kernel) (by decide +kernel)), (kwm 1 (by decide +kernel) (by decide +kernel)), (kwm 645 (by decide +kernel) (by decide +kernel)), (by decide +kernel), (by decide +kernel), (by decide +kernel), (RX9, TX9, 6), rfl, rfl⟩
theorem mv_X9_set : jMV yX9_set cX9_set 3 (some .int) 2 8 := ⟨(kwm 231 (by decide +kernel) (by decide +kernel)), (kwm 232 (by decide +kernel) (by decide +kernel)), (kwm 1 (by decide +kernel) (by decide +kernel)), (kwm 233 (by decide +kernel) (by decide +kernel)), (by decide +kernel), (by decide +kernel), (by decide +kernel), (RX9, TX9, 6), rfl, rfl⟩
theorem mv_X9_share : jMV yX9_share cX9_share 7 (some .int) 3 8 := ⟨(kwm 512 (by decide +kernel) (by decide +kernel)), (kwm 513 (by decide +kernel) (by decide +kernel)), (kwm 1 (by decide +kernel) (by decide +kernel)), (kwm 514 (by decide +kernel) (by decide +kernel)), (by decide +kernel), (by decide +kernel), (by decide +kernel), (RX9, TX9, 6), rfl, rfl⟩
theorem mv_X9_tellStale : jMV yX9_tellStale cX9_tellStale 1 (some .int) 0 8 := ⟨(kwm 446 (by decide +kernel) (by decide +kernel)), (kws 9 (by decide +kernel) (by decide +kernel)), (kwm 1 (by decide +kernel) (by decide +kernel)), (kwm 447 (by decide +kernel) (by decide +kernel)), (by decide +kernel), (by decide +kernel), (by decide +kernel), (RX9, TX9, 6), rfl, rfl⟩
theorem mv_X9_undo : jMV yX9_undo cX9_undo 1 (some .int) 0 8 := ⟨(kwm 635 (by decide +kernel) (by decide +kernel)), (kwm 636 (by decide +kernel) (by decide +kernel)), (kwm 1 (by decide +kernel) (by decide +kernel)), (kwm 637 (by decide +kernel) (by decide +kernel)), (by decide +kernel), (by decide +kernel), (by decide +kernel), (RX9, TX9, 6), rfl, rfl⟩
theorem mv_X9_wipe : jMV yX9_wipe cX9_wipe 1 (some .int) 0 8 := ⟨(kwm 571 (by decide +kernel) (by decide +kernel)), (kwm 572 (by decide +kernel) (by decide +kernel)), (kwm 1 (by decide +kernel) (by decide +kernel)), (kwm 573 (by decide +kernel) (by decide +kernel)), (by decide +kernel), (by decide +kernel), (by decide +kernel), (RX9, TX9, 6), rfl, rfl⟩
theorem mv_X9_worst : jMV yX9_worst cX9_worst 5 (some .int) 2 8 := ⟨(kwm 535 (by decide +kernel) (by decide +kernel)), (kwm 536 (by decide +kernel) (by decide +kernel)), (kwm 1 (by decide +kernel) (by decide +kernel)), (kwm 537 (by decide +kernel) (by decide +kernel)), (by decide +kernel), (by decide +kernel), (by decide +kernel), (RX9, TX9, 6), rfl, rfl⟩
theorem ml_Jxe99ae_122 : Cond.methodLink RJxe99ae 122 yJxe99ae_isNaN_b9ae7 ∈ wsL_law := kwm 778 (by decide +kernel) (by decide +kernel)
theorem ml_Jxe99ae_134 : Cond.methodLink RJxe99ae 134 ⟨"java/lang/Double", "doubleToRawLongBits", "(D)J"⟩ ∈ wsL_law := kwm 781 (by decide +kernel) (by decide +kernel)
theorem kc_Jxe99ae_137 : Cond.constantLong RJxe99ae 137 (9221120237041090560) ∈ wsL_law := kwm 784 (by decide +kernel) (by decide +kernel)
theorem ml_Jxf58ca_59 : Cond.methodLink RJxf58ca 59 yJxf58ca_isNaN_12338 ∈ wsL_law := kwm 763 (by decide +kernel) (by decide +kernel)
theorem ml_Jxf58ca_74 : Cond.methodLink RJxf58ca 74 ⟨"java/lang/Float", "floatToRawIntBits", "(F)I"⟩ ∈ wsL_law := kwm 766 (by decide +kernel) (by decide +kernel)
theorem kc_Jxf58ca_77 : Cond.constant RJxf58ca 77 (Int32.ofInt (2143289344)) ∈ wsL_law := kwm 769 (by decide +kernel) (by decide +kernel)
theorem nw_L_7 : jFN RL 7 8 [.null, .null, .null, .null, .null, .null] := ⟨RX9, TX9, 6, tyX9, rfl, ilX9, tyX9_ok, (kwm 15 (by decide +kernel) (by decide +kernel)), (kwm 16 (by decide +kernel) (by decide +kernel)), (kwm 1 (by decide +kernel) (by decide +kernel)), rfl, fun j hj => by
  rcases (show j = 0 ∨ j = 1 ∨ j = 2 ∨ j = 3 ∨ j = 4 ∨ j = 5 by omega) with rfl | rfl | rfl | rfl | rfl | rfl <;> rfl⟩
theorem ml_L_9 : Cond.methodLink RL 9 yX9_init ∈ wsL_law := kwm 17 (by decide +kernel) (by decide +kernel)
theorem nw_L_10 : jFN RL 10 9 [.null, .null, .null, jI 0, .null, .null, .null, jI 0, jI 0, .null, jI 0, .null] := ⟨RX10, TX10, 12, tyX10, rfl, ilX10, tyX10_ok, (kwm 651 (by decide +kernel) (by decide +kernel)), (kwm 652 (by decide +kernel) (by decide +kernel)), (kwm 10 (by decide +kernel) (by decide +kernel)), rfl, fun j hj => by
  rcases (show j = 0 ∨ j = 1 ∨ j = 2 ∨ j = 3 ∨ j = 4 ∨ j = 5 ∨ j = 6 ∨ j = 7 ∨ j = 8 ∨ j = 9 ∨ j = 10 ∨ j = 11 by omega) with rfl | rfl | rfl | rfl | rfl | rfl | rfl | rfl | rfl | rfl | rfl | rfl <;> rfl⟩
theorem ml_L_12 : Cond.methodLink RL 12 yX10_init ∈ wsL_law := kwm 653 (by decide +kernel) (by decide +kernel)
theorem ml_L_13 : Cond.methodLink RL 13 yX9_set ∈ wsL_law := kwm 230 (by decide +kernel) (by decide +kernel)
theorem ml_L_17 : Cond.methodLink RL 17 yX10_set ∈ wsL_law := kwm 823 (by decide +kernel) (by decide +kernel)
theorem ml_L_18 : Cond.methodLink RL 18 yX9_insert ∈ wsL_law := kwm 286 (by decide +kernel) (by decide +kernel)
theorem ml_L_21 : Cond.methodLink RL 21 yX10_insert ∈ wsL_law := kwm 834 (by decide +kernel) (by decide +kernel)
theorem ml_L_22 : Cond.methodLink RL 22 yX9_remove ∈ wsL_law := kwm 315 (by decide +kernel) (by decide +kernel)
theorem ml_L_26 : Cond.methodLink RL 26 yX10_remove ∈ wsL_law := kwm 846 (by decide +kernel) (by decide +kernel)
theorem ml_L_27 : Cond.methodLink RL 27 yX9_analyse ∈ wsL_law := kwm 332 (by decide +kernel) (by decide +kernel)
theorem ml_L_31 : Cond.methodLink RL 31 yX10_analyse ∈ wsL_law := kwm 858 (by decide +kernel) (by decide +kernel)
theorem ml_L_32 : Cond.methodLink RL 32 yX9_row ∈ wsL_law := kwm 403 (by decide +kernel) (by decide +kernel)
theorem ml_L_35 : Cond.methodLink RL 35 yX10_row ∈ wsL_law := kwm 862 (by decide +kernel) (by decide +kernel)
theorem ml_L_36 : Cond.methodLink RL 36 yX9_bucket ∈ wsL_law := kwm 412 (by decide +kernel) (by decide +kernel)
theorem ml_L_40 : Cond.methodLink RL 40 yX10_bucket ∈ wsL_law := kwm 866 (by decide +kernel) (by decide +kernel)
theorem ml_L_41 : Cond.methodLink RL 41 yX9_common ∈ wsL_law := kwm 424 (by decide +kernel) (by decide +kernel)
theorem ml_L_44 : Cond.methodLink RL 44 yX10_common ∈ wsL_law := kwm 870 (by decide +kernel) (by decide +kernel)
theorem ml_L_45 : Cond.methodLink RL 45 yX9_pair ∈ wsL_law := kwm 432 (by decide +kernel) (by decide +kernel)
theorem ml_L_48 : Cond.methodLink RL 48 yX10_pair ∈ wsL_law := kwm 874 (by decide +kernel) (by decide +kernel)
theorem ml_L_49 : Cond.methodLink RL 49 yX9_count ∈ wsL_law := kwm 440 (by decide +kernel) (by decide +kernel)
theorem ml_L_52 : Cond.methodLink RL 52 yX10_count ∈ wsL_law := kwm 878 (by decide +kernel) (by decide +kernel)
theorem ml_L_53 : Cond.methodLink RL 53 yX9_estimate ∈ wsL_law := kwm 454 (by decide +kernel) (by decide +kernel)
theorem ml_L_57 : Cond.methodLink RL 57 yX10_estimate ∈ wsL_law := kwm 717 (by decide +kernel) (by decide +kernel)
theorem ml_L_58 : Cond.methodLink RL 58 yX9_both ∈ wsL_law := kwm 495 (by decide +kernel) (by decide +kernel)
theorem ml_L_62 : Cond.methodLink RL 62 yX10_both ∈ wsL_law := kwm 744 (by decide +kernel) (by decide +kernel)
theorem ml_L_63 : Cond.methodLink RL 63 yX9_share ∈ wsL_law := kwm 511 (by decide +kernel) (by decide +kernel)
theorem ml_L_66 : Cond.methodLink RL 66 yX10_share ∈ wsL_law := kwm 756 (by decide +kernel) (by decide +kernel)
theorem ml_L_67 : Cond.methodLink RL 67 yX9_height ∈ wsL_law := kwm 522 (by decide +kernel) (by decide +kernel)
theorem ml_L_71 : Cond.methodLink RL 71 yX10_height ∈ wsL_law := kwm 770 (by decide +kernel) (by decide +kernel)
theorem ml_L_72 : Cond.methodLink RL 72 yX9_worst ∈ wsL_law := kwm 534 (by decide +kernel) (by decide +kernel)
theorem ml_L_75 : Cond.methodLink RL 75 yX10_worst ∈ wsL_law := kwm 785 (by decide +kernel) (by decide +kernel)
theorem ml_L_76 : Cond.methodLink RL 76 yX9_fewest ∈ wsL_law := kwm 552 (by decide +kernel) (by decide +kernel)
theorem ml_L_79 : Cond.methodLink RL 79 yX10_fewest ∈ wsL_law := kwm 798 (by decide +kernel) (by decide +kernel)
theorem kc_L_80 : Cond.constantLong RL 80 (4294967295) ∈ wsL_law := kwm 937 (by decide +kernel) (by decide +kernel)
theorem ml_L_82 : Cond.methodLink RL 82 yX9_put ∈ wsL_law := kwm 557 (by decide +kernel) (by decide +kernel)
theorem ml_L_86 : Cond.methodLink RL 86 yX10_put ∈ wsL_law := kwm 882 (by decide +kernel) (by decide +kernel)
theorem ml_L_87 : Cond.methodLink RL 87 yX9_wipe ∈ wsL_law := kwm 570 (by decide +kernel) (by decide +kernel)
theorem ml_L_90 : Cond.methodLink RL 90 yX10_wipe ∈ wsL_law := kwm 893 (by decide +kernel) (by decide +kernel)
theorem ml_L_91 : Cond.methodLink RL 91 yX9_fault ∈ wsL_law := kwm 578 (by decide +kernel) (by decide +kernel)
theorem ml_L_94 : Cond.methodLink RL 94 yX10_fault ∈ wsL_law := kwm 897 (by decide +kernel) (by decide +kernel)
theorem ml_L_95 : Cond.methodLink RL 95 yX9_carryOut ∈ wsL_law := kwm 618 (by decide +kernel) (by decide +kernel)
theorem ml_L_98 : Cond.methodLink RL 98 yX10_carryOut ∈ wsL_law := kwm 925 (by decide +kernel) (by decide +kernel)
theorem ml_L_99 : Cond.methodLink RL 99 yX9_undo ∈ wsL_law := kwm 634 (by decide +kernel) (by decide +kernel)
theorem ml_L_102 : Cond.methodLink RL 102 yX10_undo ∈ wsL_law := kwm 695 (by decide +kernel) (by decide +kernel)
theorem ml_L_103 : Cond.methodLink RL 103 yX9_save ∈ wsL_law := kwm 642 (by decide +kernel) (by decide +kernel)
theorem ml_L_106 : Cond.methodLink RL 106 yX10_save ∈ wsL_law := kwm 702 (by decide +kernel) (by decide +kernel)
theorem ml_L_107 : Cond.methodLink RL 107 yX9_restore ∈ wsL_law := kwm 647 (by decide +kernel) (by decide +kernel)
theorem ml_L_110 : Cond.methodLink RL 110 yX10_restore ∈ wsL_law := kwm 709 (by decide +kernel) (by decide +kernel)
theorem fg_X0_12 : jFG RX0 12 0 0 := ⟨RX0, TX0, 5, rfl, ilX0, (kwm 113 (by decide +kernel) (by decide +kernel)), by decide⟩
theorem ml_X0_64 : Cond.methodLink RX0 64 yX2_copyFrom ∈ wsL_law := kwm 255 (by decide +kernel) (by decide +kernel)
theorem fg_X0_18 : jFG RX0 18 0 1 := ⟨RX0, TX0, 5, rfl, ilX0, (kwm 114 (by decide +kernel) (by decide +kernel)), by decide⟩
theorem fg_X0_24 : jFG RX0 24 0 2 := ⟨RX0, TX0, 5, rfl, ilX0, (kwm 115 (by decide +kernel) (by decide +kernel)), by decide⟩
theorem ml_X0_68 : Cond.methodLink RX0 68 yX5_copyFrom ∈ wsL_law := kwm 260 (by decide +kernel) (by decide +kernel)
theorem fg_X0_28 : jFG RX0 28 0 3 := ⟨RX0, TX0, 5, rfl, ilX0, (kwm 117 (by decide +kernel) (by decide +kernel)), by decide⟩
theorem fp_X0_28 (z : Int) : jFP RX0 28 0 3 false (jI z) := ⟨RX0, TX0, 5, tyX0, .int, rfl, ilX0, (kwm 117 (by decide +kernel) (by decide +kernel)), by decide, tyX0_ok, nmX0, rfl, by decide +kernel, rfl, rfl⟩
theorem fg_X0_44 : jFG RX0 44 0 4 := ⟨RX0, TX0, 5, rfl, ilX0, (kwm 120 (by decide +kernel) (by decide +kernel)), by decide⟩
theorem fp_X0_44 (z : Int) : jFP RX0 44 0 4 false (jI z) := ⟨RX0, TX0, 5, tyX0, .int, rfl, ilX0, (kwm 120 (by decide +kernel) (by decide +kernel)), by decide, tyX0_ok, nmX0, rfl, by decide +kernel, rfl, rfl⟩
theorem ml_X0_51 : Cond.methodLink RX0 51 yX5_rowsInside ∈ wsL_law := kwm 504 (by decide +kernel) (by decide +kernel)
theorem ml_X0_55 : Cond.methodLink RX0 55 yX2_guess ∈ wsL_law := kwm 509 (by decide +kernel) (by decide +kernel)
theorem ml_X0_59 : Cond.methodLink RX0 59 Lib.Math.max.name ∈ wsL_law := kwm 510 (by decide +kernel) (by decide +kernel)
theorem ml_X0_3 : Cond.methodLink RX0 3 objectInit ∈ wsL_law := kwm 56 (by decide +kernel) (by decide +kernel)
theorem nw_X0_9 : jFN RX0 9 1 [.null, .null, .null, jI 0, .null, .null, .null, .null, jI 0] := ⟨RX2, TX2, 9, tyX2, rfl, ilX2, tyX2_ok, (kwm 57 (by decide +kernel) (by decide +kernel)), (kwm 58 (by decide +kernel) (by decide +kernel)), (kwm 5 (by decide +kernel) (by decide +kernel)), rfl, fun j hj => by
  rcases (show j = 0 ∨ j = 1 ∨ j = 2 ∨ j = 3 ∨ j = 4 ∨ j = 5 ∨ j = 6 ∨ j = 7 ∨ j = 8 by omega) with rfl | rfl | rfl | rfl | rfl | rfl | rfl | rfl | rfl <;> rfl⟩
theorem ml_X0_11 : Cond.methodLinkNest RX0 11 yX2_init "EqualHeights" ∈ jNest := kwn 59 (by decide +kernel) (by decide +kernel)
theorem fp_X0_12 (a : Nat) : jFP RX0 12 0 0 true (.ref a) := ⟨RX0, TX0, 5, tyX0, .object "EqualHeights$ColumnFacts", rfl, ilX0, (kwm 113 (by decide +kernel) (by decide +kernel)), by decide, tyX0_ok, nmX0, rfl, by decide +kernel, rfl, rfl⟩
theorem fd_X0_0 : jdecl 0 0 RX0 := fun r h => by cases h; rfl
theorem fp_X0_18 (a : Nat) : jFP RX0 18 0 1 true (.ref a) := ⟨RX0, TX0, 5, tyX0, .object "EqualHeights$ColumnFacts", rfl, ilX0, (kwm 114 (by decide +kernel) (by decide +kernel)), by decide, tyX0_ok, nmX0, rfl, by decide +kernel, rfl, rfl⟩
theorem fd_X0_1 : jdecl 0 1 RX0 := fun r h => by cases h; rfl
theorem nw_X0_21 : jFN RX0 21 4 [.null, .null, .null, jI 0] := ⟨RX5, TX5, 4, tyX5, rfl, ilX5, tyX5_ok, (kwm 93 (by decide +kernel) (by decide +kernel)), (kwm 94 (by decide +kernel) (by decide +kernel)), (kwm 6 (by decide +kernel) (by decide +kernel)), rfl, fun j hj => by
  rcases (show j = 0 ∨ j = 1 ∨ j = 2 ∨ j = 3 by omega) with rfl | rfl | rfl | rfl <;> rfl⟩
theorem ml_X0_23 : Cond.methodLinkNest RX0 23 yX5_init "EqualHeights" ∈ jNest := kwn 95 (by decide +kernel) (by decide +kernel)
theorem fp_X0_24 (a : Nat) : jFP RX0 24 0 2 true (.ref a) := ⟨RX0, TX0, 5, tyX0, .object "EqualHeights$PairFacts", rfl, ilX0, (kwm 115 (by decide +kernel) (by decide +kernel)), by decide, tyX0_ok, nmX0, rfl, by decide +kernel, rfl, rfl⟩
theorem fd_X0_2 : jdecl 0 2 RX0 := fun r h => by cases h; rfl
theorem ml_X0_32 : Cond.methodLink RX0 32 yX2_learn ∈ wsL_law := kwm 348 (by decide +kernel) (by decide +kernel)
theorem ml_X0_36 : Cond.methodLink RX0 36 yX5_learn ∈ wsL_law := kwm 390 (by decide +kernel) (by decide +kernel)
theorem fg_X0_39 : jFGn RX0 39 7 2 := ⟨RX8, TX8, 3, "EqualHeights", rfl, ilX8, (kwn 40 (by decide +kernel) (by decide +kernel)), by decide⟩
theorem ml_X0_47 : Cond.methodLink RX0 47 yX0_isMade ∈ wsL_law := kwm 311 (by decide +kernel) (by decide +kernel)
theorem fg_X10_7 : jFG RX10 7 9 0 := ⟨RX10, TX10, 12, rfl, ilX10, (kwm 657 (by decide +kernel) (by decide +kernel)), by decide⟩
theorem ml_X10_47 : Cond.methodLink RX10 47 yX10_records ∈ wsL_law := kwm 713 (by decide +kernel) (by decide +kernel)
theorem ml_X10_126 : Cond.methodLink RX10 126 yX10_analyses ∈ wsL_law := kwm 802 (by decide +kernel) (by decide +kernel)
theorem ml_X10_54 : Cond.methodLink RX10 54 yX10_of ∈ wsL_law := kwm 734 (by decide +kernel) (by decide +kernel)
theorem ml_X10_64 : Cond.methodLink RX10 64 yX10_chooses ∈ wsL_law := kwm 806 (by decide +kernel) (by decide +kernel)
theorem ml_X10_68 : Cond.methodLink RX10 68 yX10_cuts ∈ wsL_law := kwm 810 (by decide +kernel) (by decide +kernel)
theorem ml_X10_71 : Cond.methodLink RX10 71 yX10_pairs ∈ wsL_law := kwm 814 (by decide +kernel) (by decide +kernel)
theorem ml_X10_75 : Cond.methodLink RX10 75 yX10_isValue ∈ wsL_law := kwm 727 (by decide +kernel) (by decide +kernel)
theorem ml_X10_35 : Cond.methodLink RX10 35 yX10_in ∈ wsL_law := kwm 706 (by decide +kernel) (by decide +kernel)
theorem ml_X10_82 : Cond.methodLink RX10 82 yX10_areBounds ∈ wsL_law := kwm 724 (by decide +kernel) (by decide +kernel)
theorem ml_X10_102 : Cond.methodLink RX10 102 yX10_bothOf ∈ wsL_law := kwm 748 (by decide +kernel) (by decide +kernel)
theorem ml_X10_94 : Cond.methodLink RX10 94 yX10_scaled ∈ wsL_law := kwm 740 (by decide +kernel) (by decide +kernel)
theorem ml_X10_90 : Cond.methodLink RX10 90 yX10_estimated ∈ wsL_law := kwm 737 (by decide +kernel) (by decide +kernel)
theorem ml_X10_98 : Cond.methodLink RX10 98 yX10_paired ∈ wsL_law := kwm 752 (by decide +kernel) (by decide +kernel)
theorem ml_X10_79 : Cond.methodLink RX10 79 yX10_isColumn ∈ wsL_law := kwm 721 (by decide +kernel) (by decide +kernel)
theorem kc_X10_151 : Cond.constantLong RX10 151 (255) ∈ wsL_law := kwm 892 (by decide +kernel) (by decide +kernel)
theorem ml_X10_183 : Cond.methodLink RX10 183 yX10_isText ∈ wsL_law := kwm 901 (by decide +kernel) (by decide +kernel)
theorem fp_X10_148 (z : Int) : jFP RX10 148 9 7 false (jI z) := ⟨RX10, TX10, 12, tyX10, .int, rfl, ilX10, (kwm 664 (by decide +kernel) (by decide +kernel)), by decide, tyX10_ok, nmX10, rfl, by decide +kernel, rfl, rfl⟩
theorem fg_X10_167 : jFG RX10 167 9 10 := ⟨RX10, TX10, 12, rfl, ilX10, (kwm 667 (by decide +kernel) (by decide +kernel)), by decide⟩
theorem ml_X10_189 : Cond.methodLink RX10 189 yX10_does ∈ wsL_law := kwm 929 (by decide +kernel) (by decide +kernel)
theorem fg_X10_32 : jFG RX10 32 9 11 := ⟨RX10, TX10, 12, rfl, ilX10, (kwm 668 (by decide +kernel) (by decide +kernel)), by decide⟩
theorem ml_X10_50 : Cond.methodLink RX10 50 yX10_had ∈ wsL_law := kwm 795 (by decide +kernel) (by decide +kernel)
theorem ml_X10_136 : Cond.methodLink RX10 136 yX10_mayCome ∈ wsL_law := kwm 838 (by decide +kernel) (by decide +kernel)
theorem ml_X10_139 : Cond.methodLink RX10 139 yX10_comes ∈ wsL_law := kwm 842 (by decide +kernel) (by decide +kernel)
theorem fg_X10_148 : jFG RX10 148 9 7 := ⟨RX10, TX10, 12, rfl, ilX10, (kwm 664 (by decide +kernel) (by decide +kernel)), by decide⟩
theorem fg_X10_39 : jFG RX10 39 9 3 := ⟨RX10, TX10, 12, rfl, ilX10, (kwm 660 (by decide +kernel) (by decide +kernel)), by decide⟩
theorem fg_X10_29 : jFG RX10 29 9 9 := ⟨RX10, TX10, 12, rfl, ilX10, (kwm 666 (by decide +kernel) (by decide +kernel)), by decide⟩
theorem ml_X10_186 : Cond.methodLink RX10 186 yX10_comeOften ∈ wsL_law := kwm 933 (by decide +kernel) (by decide +kernel)
theorem ml_X10_142 : Cond.methodLink RX10 142 yX10_isRow ∈ wsL_law := kwm 850 (by decide +kernel) (by decide +kernel)
theorem ml_X10_129 : Cond.methodLink RX10 129 yX10_isFor ∈ wsL_law := kwm 827 (by decide +kernel) (by decide +kernel)
theorem ml_X10_145 : Cond.methodLink RX10 145 yX10_goes ∈ wsL_law := kwm 854 (by decide +kernel) (by decide +kernel)
theorem ml_X10_132 : Cond.methodLink RX10 132 yX10_sets ∈ wsL_law := kwm 830 (by decide +kernel) (by decide +kernel)
theorem ml_X10_86 : Cond.methodLink RX10 86 yX10_truly ∈ wsL_law := kwm 730 (by decide +kernel) (by decide +kernel)
theorem fg_X10_161 : jFG RX10 161 9 8 := ⟨RX10, TX10, 12, rfl, ilX10, (kwm 665 (by decide +kernel) (by decide +kernel)), by decide⟩
theorem fg_X10_13 : jFG RX10 13 9 1 := ⟨RX10, TX10, 12, rfl, ilX10, (kwm 658 (by decide +kernel) (by decide +kernel)), by decide⟩
theorem ml_X10_43 : Cond.methodLink RX10 43 yX10_lays ∈ wsL_law := kwm 699 (by decide +kernel) (by decide +kernel)
theorem ml_X10_122 : Cond.methodLink RX10 122 yX10_worstOf ∈ wsL_law := kwm 789 (by decide +kernel) (by decide +kernel)
theorem ml_X10_119 : Cond.methodLink RX10 119 yX10_off ∈ wsL_law := kwm 792 (by decide +kernel) (by decide +kernel)
theorem kc_X10_111 : Cond.constantLong RX10 111 (-2) ∈ wsL_law := kwm 774 (by decide +kernel) (by decide +kernel)
theorem ml_X10_113 : Cond.methodLink RX10 113 yJxe99ae_doubleToLongBits_ccdee ∈ wsL_law := kwm 775 (by decide +kernel) (by decide +kernel)
theorem ml_X10_1 : Cond.methodLink RX10 1 objectInit ∈ wsL_law := kwm 656 (by decide +kernel) (by decide +kernel)
theorem fp_X10_7 (a : Nat) : jFP RX10 7 9 0 true (.ref a) := ⟨RX10, TX10, 12, tyX10, .array .int, rfl, ilX10, (kwm 657 (by decide +kernel) (by decide +kernel)), by decide, tyX10_ok, nmX10, rfl, by decide +kernel, rfl, rfl⟩
theorem fd_X10_0 : jdecl 9 0 RX10 := fun r h => by cases h; rfl
theorem fp_X10_13 (a : Nat) : jFP RX10 13 9 1 true (.ref a) := ⟨RX10, TX10, 12, tyX10, .array .int, rfl, ilX10, (kwm 658 (by decide +kernel) (by decide +kernel)), by decide, tyX10_ok, nmX10, rfl, by decide +kernel, rfl, rfl⟩
theorem fd_X10_1 : jdecl 9 1 RX10 := fun r h => by cases h; rfl
theorem fp_X10_16 (a : Nat) : jFP RX10 16 9 2 true (.ref a) := ⟨RX10, TX10, 12, tyX10, .array .int, rfl, ilX10, (kwm 659 (by decide +kernel) (by decide +kernel)), by decide, tyX10_ok, nmX10, rfl, by decide +kernel, rfl, rfl⟩
theorem fd_X10_2 : jdecl 9 2 RX10 := fun r h => by cases h; rfl
theorem fp_X10_19 (a : Nat) : jFP RX10 19 9 4 true (.ref a) := ⟨RX10, TX10, 12, tyX10, .array .int, rfl, ilX10, (kwm 661 (by decide +kernel) (by decide +kernel)), by decide, tyX10_ok, nmX10, rfl, by decide +kernel, rfl, rfl⟩
theorem fd_X10_4 : jdecl 9 4 RX10 := fun r h => by cases h; rfl
theorem fp_X10_22 (a : Nat) : jFP RX10 22 9 5 true (.ref a) := ⟨RX10, TX10, 12, tyX10, .array .boolean, rfl, ilX10, (kwm 662 (by decide +kernel) (by decide +kernel)), by decide, tyX10_ok, nmX10, rfl, by decide +kernel, rfl, rfl⟩
theorem fd_X10_5 : jdecl 9 5 RX10 := fun r h => by cases h; rfl
theorem fp_X10_26 (a : Nat) : jFP RX10 26 9 6 true (.ref a) := ⟨RX10, TX10, 12, tyX10, .array .int, rfl, ilX10, (kwm 663 (by decide +kernel) (by decide +kernel)), by decide, tyX10_ok, nmX10, rfl, by decide +kernel, rfl, rfl⟩
theorem fd_X10_6 : jdecl 9 6 RX10 := fun r h => by cases h; rfl
theorem fp_X10_29 (a : Nat) : jFP RX10 29 9 9 true (.ref a) := ⟨RX10, TX10, 12, tyX10, .array .int, rfl, ilX10, (kwm 666 (by decide +kernel) (by decide +kernel)), by decide, tyX10_ok, nmX10, rfl, by decide +kernel, rfl, rfl⟩
theorem fd_X10_9 : jdecl 9 9 RX10 := fun r h => by cases h; rfl
theorem fp_X10_32 (a : Nat) : jFP RX10 32 9 11 true (.ref a) := ⟨RX10, TX10, 12, tyX10, .array .int, rfl, ilX10, (kwm 668 (by decide +kernel) (by decide +kernel)), by decide, tyX10_ok, nmX10, rfl, by decide +kernel, rfl, rfl⟩
theorem fd_X10_11 : jdecl 9 11 RX10 := fun r h => by cases h; rfl
theorem fg_X10_26 : jFG RX10 26 9 6 := ⟨RX10, TX10, 12, rfl, ilX10, (kwm 663 (by decide +kernel) (by decide +kernel)), by decide⟩
theorem ml_X10_170 : Cond.methodLink RX10 170 yX10_isNumber ∈ wsL_law := kwm 913 (by decide +kernel) (by decide +kernel)
theorem ml_X10_173 : Cond.methodLink RX10 173 yX10_isSign ∈ wsL_law := kwm 921 (by decide +kernel) (by decide +kernel)
theorem ml_X10_164 : Cond.methodLink RX10 164 yX10_isAt ∈ wsL_law := kwm 917 (by decide +kernel) (by decide +kernel)
theorem fp_X10_161 (z : Int) : jFP RX10 161 9 8 false (jI z) := ⟨RX10, TX10, 12, tyX10, .int, rfl, ilX10, (kwm 665 (by decide +kernel) (by decide +kernel)), by decide, tyX10_ok, nmX10, rfl, by decide +kernel, rfl, rfl⟩
theorem ml_X10_176 : Cond.methodLink RX10 176 yX10_isComing ∈ wsL_law := kwm 909 (by decide +kernel) (by decide +kernel)
theorem fp_X10_167 (z : Int) : jFP RX10 167 9 10 false (jI z) := ⟨RX10, TX10, 12, tyX10, .int, rfl, ilX10, (kwm 667 (by decide +kernel) (by decide +kernel)), by decide, tyX10_ok, nmX10, rfl, by decide +kernel, rfl, rfl⟩
theorem ml_X10_180 : Cond.methodLink RX10 180 yX10_isOrder ∈ wsL_law := kwm 905 (by decide +kernel) (by decide +kernel)
theorem ml_X10_57 : Cond.methodLink RX10 57 yX10_rowsWith ∈ wsL_law := kwm 817 (by decide +kernel) (by decide +kernel)
theorem ml_X10_60 : Cond.methodLink RX10 60 yX10_isPaired ∈ wsL_law := kwm 820 (by decide +kernel) (by decide +kernel)
theorem ml_X10_157 : Cond.methodLink RX10 157 yX10_toldBy ∈ wsL_law := kwm 886 (by decide +kernel) (by decide +kernel)
theorem ml_X10_153 : Cond.methodLink RX10 153 yX10_byteOf ∈ wsL_law := kwm 889 (by decide +kernel) (by decide +kernel)
theorem fg_X10_16 : jFG RX10 16 9 2 := ⟨RX10, TX10, 12, rfl, ilX10, (kwm 659 (by decide +kernel) (by decide +kernel)), by decide⟩
theorem fp_X10_39 (z : Int) : jFP RX10 39 9 3 false (jI z) := ⟨RX10, TX10, 12, tyX10, .int, rfl, ilX10, (kwm 660 (by decide +kernel) (by decide +kernel)), by decide, tyX10_ok, nmX10, rfl, by decide +kernel, rfl, rfl⟩
theorem fg_X10_22 : jFG RX10 22 9 5 := ⟨RX10, TX10, 12, rfl, ilX10, (kwm 662 (by decide +kernel) (by decide +kernel)), by decide⟩
theorem fg_X10_19 : jFG RX10 19 9 4 := ⟨RX10, TX10, 12, rfl, ilX10, (kwm 661 (by decide +kernel) (by decide +kernel)), by decide⟩
theorem ml_X10_105 : Cond.methodLink RX10 105 yJxf58ca_floatToIntBits_5c35a ∈ wsL_law := kwm 760 (by decide +kernel) (by decide +kernel)
theorem kc_X1_13 : Cond.constantDouble RX1 13 (4611686018427387904) ∈ wsL_law := kwm 521 (by decide +kernel) (by decide +kernel)
theorem ml_X1_7 : Cond.methodLink RX1 7 yX1_bits ∈ wsL_law := kwm 518 (by decide +kernel) (by decide +kernel)
theorem fg_X2_68 : jFG RX2 68 1 8 := ⟨RX2, TX2, 9, rfl, ilX2, (kwm 72 (by decide +kernel) (by decide +kernel)), by decide⟩
theorem fg_X2_24 : jFG RX2 24 1 5 := ⟨RX2, TX2, 9, rfl, ilX2, (kwm 69 (by decide +kernel) (by decide +kernel)), by decide⟩
theorem fg_X2_30 : jFG RX2 30 1 7 := ⟨RX2, TX2, 9, rfl, ilX2, (kwm 71 (by decide +kernel) (by decide +kernel)), by decide⟩
theorem fg_X2_27 : jFG RX2 27 1 6 := ⟨RX2, TX2, 9, rfl, ilX2, (kwm 70 (by decide +kernel) (by decide +kernel)), by decide⟩
theorem fp_X2_55 (z : Int) : jFP RX2 55 1 3 false (jI z) := ⟨RX2, TX2, 9, tyX2, .int, rfl, ilX2, (kwm 66 (by decide +kernel) (by decide +kernel)), by decide, tyX2_ok, nmX2, rfl, by decide +kernel, rfl, rfl⟩
theorem kc_X2_58 : Cond.constant RX2 58 (Int32.ofInt (1000000)) ∈ wsL_law := kwm 364 (by decide +kernel) (by decide +kernel)
theorem ml_X2_59 : Cond.methodLink RX2 59 yX2_nextRank ∈ wsL_law := kwm 365 (by decide +kernel) (by decide +kernel)
theorem fg_X2_15 : jFG RX2 15 1 1 := ⟨RX2, TX2, 9, rfl, ilX2, (kwm 64 (by decide +kernel) (by decide +kernel)), by decide⟩
theorem fg_X2_18 : jFG RX2 18 1 2 := ⟨RX2, TX2, 9, rfl, ilX2, (kwm 65 (by decide +kernel) (by decide +kernel)), by decide⟩
theorem fg_X2_55 : jFG RX2 55 1 3 := ⟨RX2, TX2, 9, rfl, ilX2, (kwm 66 (by decide +kernel) (by decide +kernel)), by decide⟩
theorem fg_X2_9 : jFG RX2 9 1 0 := ⟨RX2, TX2, 9, rfl, ilX2, (kwm 63 (by decide +kernel) (by decide +kernel)), by decide⟩
theorem ml_X2_106 : Cond.methodLinkNest RX2 106 yX9_copyNumbers "EqualHeights" ∈ jNest := kwn 259 (by decide +kernel) (by decide +kernel)
theorem fg_X2_21 : jFG RX2 21 1 4 := ⟨RX2, TX2, 9, rfl, ilX2, (kwm 68 (by decide +kernel) (by decide +kernel)), by decide⟩
theorem fp_X2_68 (z : Int) : jFP RX2 68 1 8 false (jI z) := ⟨RX2, TX2, 9, tyX2, .int, rfl, ilX2, (kwm 72 (by decide +kernel) (by decide +kernel)), by decide, tyX2_ok, nmX2, rfl, by decide +kernel, rfl, rfl⟩
theorem fg_X2_41 : jFGn RX2 41 7 2 := ⟨RX8, TX8, 3, "EqualHeights", rfl, ilX8, (kwn 38 (by decide +kernel) (by decide +kernel)), by decide⟩
theorem ml_X2_51 : Cond.methodLink RX2 51 yX8_value ∈ wsL_law := kwm 356 (by decide +kernel) (by decide +kernel)
theorem ml_X2_63 : Cond.methodLink RX2 63 Lib.Math.min.name ∈ wsL_law := kwm 373 (by decide +kernel) (by decide +kernel)
theorem ml_X2_71 : Cond.methodLink RX2 71 yX2_isCommon ∈ wsL_law := kwm 374 (by decide +kernel) (by decide +kernel)
theorem ml_X2_75 : Cond.methodLink RX2 75 yX2_fullHeight ∈ wsL_law := kwm 378 (by decide +kernel) (by decide +kernel)
theorem ml_X2_78 : Cond.methodLink RX2 78 yX2_startBucket ∈ wsL_law := kwm 382 (by decide +kernel) (by decide +kernel)
theorem ml_X2_81 : Cond.methodLink RX2 81 yX2_addToBucket ∈ wsL_law := kwm 386 (by decide +kernel) (by decide +kernel)
theorem ml_X2_88 : Cond.methodLink RX2 88 yX2_rowsOfCommon ∈ wsL_law := kwm 475 (by decide +kernel) (by decide +kernel)
theorem ml_X2_91 : Cond.methodLink RX2 91 Lib.Math.max.name ∈ wsL_law := kwm 480 (by decide +kernel) (by decide +kernel)
theorem ml_X2_3 : Cond.methodLink RX2 3 objectInit ∈ wsL_law := kwm 62 (by decide +kernel) (by decide +kernel)
theorem fp_X2_9 (a : Nat) : jFP RX2 9 1 0 true (.ref a) := ⟨RX2, TX2, 9, tyX2, .array .int, rfl, ilX2, (kwm 63 (by decide +kernel) (by decide +kernel)), by decide, tyX2_ok, nmX2, rfl, by decide +kernel, rfl, rfl⟩
theorem fd_X2_0 : jdecl 1 0 RX2 := fun r h => by cases h; rfl
theorem fp_X2_15 (a : Nat) : jFP RX2 15 1 1 true (.ref a) := ⟨RX2, TX2, 9, tyX2, .array .int, rfl, ilX2, (kwm 64 (by decide +kernel) (by decide +kernel)), by decide, tyX2_ok, nmX2, rfl, by decide +kernel, rfl, rfl⟩
theorem fd_X2_1 : jdecl 1 1 RX2 := fun r h => by cases h; rfl
theorem fp_X2_18 (a : Nat) : jFP RX2 18 1 2 true (.ref a) := ⟨RX2, TX2, 9, tyX2, .array .int, rfl, ilX2, (kwm 65 (by decide +kernel) (by decide +kernel)), by decide, tyX2_ok, nmX2, rfl, by decide +kernel, rfl, rfl⟩
theorem fd_X2_2 : jdecl 1 2 RX2 := fun r h => by cases h; rfl
theorem fp_X2_21 (a : Nat) : jFP RX2 21 1 4 true (.ref a) := ⟨RX2, TX2, 9, tyX2, .array .int, rfl, ilX2, (kwm 68 (by decide +kernel) (by decide +kernel)), by decide, tyX2_ok, nmX2, rfl, by decide +kernel, rfl, rfl⟩
theorem fd_X2_4 : jdecl 1 4 RX2 := fun r h => by cases h; rfl
theorem fp_X2_24 (a : Nat) : jFP RX2 24 1 5 true (.ref a) := ⟨RX2, TX2, 9, tyX2, .array .int, rfl, ilX2, (kwm 69 (by decide +kernel) (by decide +kernel)), by decide, tyX2_ok, nmX2, rfl, by decide +kernel, rfl, rfl⟩
theorem fd_X2_5 : jdecl 1 5 RX2 := fun r h => by cases h; rfl
theorem fp_X2_27 (a : Nat) : jFP RX2 27 1 6 true (.ref a) := ⟨RX2, TX2, 9, tyX2, .array .int, rfl, ilX2, (kwm 70 (by decide +kernel) (by decide +kernel)), by decide, tyX2_ok, nmX2, rfl, by decide +kernel, rfl, rfl⟩
theorem fd_X2_6 : jdecl 1 6 RX2 := fun r h => by cases h; rfl
theorem fp_X2_30 (a : Nat) : jFP RX2 30 1 7 true (.ref a) := ⟨RX2, TX2, 9, tyX2, .array .int, rfl, ilX2, (kwm 71 (by decide +kernel) (by decide +kernel)), by decide, tyX2_ok, nmX2, rfl, by decide +kernel, rfl, rfl⟩
theorem fd_X2_7 : jdecl 1 7 RX2 := fun r h => by cases h; rfl
theorem ml_X2_33 : Cond.methodLink RX2 33 yX2_countValues ∈ wsL_law := kwm 352 (by decide +kernel) (by decide +kernel)
theorem ml_X2_37 : Cond.methodLink RX2 37 yX2_chooseCommon ∈ wsL_law := kwm 360 (by decide +kernel) (by decide +kernel)
theorem ml_X2_47 : Cond.methodLink RX2 47 yX2_cutBuckets ∈ wsL_law := kwm 369 (by decide +kernel) (by decide +kernel)
theorem ml_X2_94 : Cond.methodLinkNest RX2 94 yX9_isValue "EqualHeights" ∈ jNest := kwn 546 (by decide +kernel) (by decide +kernel)
theorem ml_X2_97 : Cond.methodLink RX2 97 yX2_guess ∈ wsL_law := kwm 547 (by decide +kernel) (by decide +kernel)
theorem ml_X2_100 : Cond.methodLink RX2 100 Lib.Math.abs.name ∈ wsL_law := kwm 548 (by decide +kernel) (by decide +kernel)
theorem ml_X2_84 : Cond.methodLinkNest RX2 84 yX9_isBetween "EqualHeights" ∈ jNest := kwn 479 (by decide +kernel) (by decide +kernel)
theorem ml_X2_103 : Cond.methodLink RX2 103 yX2_miss ∈ wsL_law := kwm 542 (by decide +kernel) (by decide +kernel)
theorem fg_X3_17 : jFG RX3 17 2 1 := ⟨RX3, TX3, 3, rfl, ilX3, (kwm 154 (by decide +kernel) (by decide +kernel)), by decide⟩
theorem fg_X3_26 : jFG RX3 26 2 2 := ⟨RX3, TX3, 3, rfl, ilX3, (kwm 155 (by decide +kernel) (by decide +kernel)), by decide⟩
theorem fg_X3_13 : jFG RX3 13 2 0 := ⟨RX3, TX3, 3, rfl, ilX3, (kwm 153 (by decide +kernel) (by decide +kernel)), by decide⟩
theorem ml_X3_22 : Cond.methodLink RX3 22 yX7_copyFrom ∈ wsL_law := kwm 239 (by decide +kernel) (by decide +kernel)
theorem fp_X3_17 (z : Int) : jFP RX3 17 2 1 false (jI z) := ⟨RX3, TX3, 3, tyX3, .int, rfl, ilX3, (kwm 154 (by decide +kernel) (by decide +kernel)), by decide, tyX3_ok, nmX3, rfl, by decide +kernel, rfl, rfl⟩
theorem fp_X3_26 (z : Int) : jFP RX3 26 2 2 false (jI z) := ⟨RX3, TX3, 3, tyX3, .int, rfl, ilX3, (kwm 155 (by decide +kernel) (by decide +kernel)), by decide, tyX3_ok, nmX3, rfl, by decide +kernel, rfl, rfl⟩
theorem ml_X3_3 : Cond.methodLink RX3 3 objectInit ∈ wsL_law := kwm 151 (by decide +kernel) (by decide +kernel)
theorem kq_X3_11 : Cond.classLink RX3 11 "EqualHeights$State" ∈ wsL_law := kwm 152 (by decide +kernel) (by decide +kernel)
theorem fp_X3_13 (a : Nat) : jFP RX3 13 2 0 true (.ref a) := ⟨RX3, TX3, 3, tyX3, .array (.object "EqualHeights$State"), rfl, ilX3, (kwm 153 (by decide +kernel) (by decide +kernel)), by decide, tyX3_ok, nmX3, rfl, by decide +kernel, rfl, rfl⟩
theorem fd_X3_0 : jdecl 2 0 RX3 := fun r h => by cases h; rfl
theorem ml_X3_29 : Cond.methodLink RX3 29 Lib.Math.min.name ∈ wsL_law := kwm 283 (by decide +kernel) (by decide +kernel)
theorem nw_X3_11 : jFN RX3 11 6 [.null, .null, .null] := ⟨RX7, TX7, 3, tyX7, rfl, ilX7, tyX7_ok, (kwm 152 (by decide +kernel) (by decide +kernel)), (kwm 24 (by decide +kernel) (by decide +kernel)), (kwm 2 (by decide +kernel) (by decide +kernel)), rfl, fun j hj => by
  rcases (show j = 0 ∨ j = 1 ∨ j = 2 by omega) with rfl | rfl | rfl <;> rfl⟩
theorem ml_X3_21 : Cond.methodLinkNest RX3 21 yX7_init "EqualHeights" ∈ jNest := kwn 238 (by decide +kernel) (by decide +kernel)
theorem ml_X4_15 : Cond.methodLink RX4 15 yX4_signsIn ∈ wsL_law := kwm 565 (by decide +kernel) (by decide +kernel)
theorem fg_X4_19 : jFG RX4 19 3 1 := ⟨RX4, TX4, 2, rfl, ilX4, (kwm 171 (by decide +kernel) (by decide +kernel)), by decide⟩
theorem fg_X4_9 : jFG RX4 9 3 0 := ⟨RX4, TX4, 2, rfl, ilX4, (kwm 170 (by decide +kernel) (by decide +kernel)), by decide⟩
theorem kc_X4_23 : Cond.constantLong RX4 23 (255) ∈ wsL_law := kwm 568 (by decide +kernel) (by decide +kernel)
theorem fp_X4_19 (z : Int) : jFP RX4 19 3 1 false (jI z) := ⟨RX4, TX4, 2, tyX4, .int, rfl, ilX4, (kwm 171 (by decide +kernel) (by decide +kernel)), by decide, tyX4_ok, nmX4, rfl, by decide +kernel, rfl, rfl⟩
theorem ml_X4_3 : Cond.methodLink RX4 3 objectInit ∈ wsL_law := kwm 169 (by decide +kernel) (by decide +kernel)
theorem fp_X4_9 (a : Nat) : jFP RX4 9 3 0 true (.ref a) := ⟨RX4, TX4, 2, tyX4, .array .char, rfl, ilX4, (kwm 170 (by decide +kernel) (by decide +kernel)), by decide, tyX4_ok, nmX4, rfl, by decide +kernel, rfl, rfl⟩
theorem fd_X4_0 : jdecl 3 0 RX4 := fun r h => by cases h; rfl
theorem ml_X4_25 : Cond.methodLinkNest RX4 25 yX9_isBetween "EqualHeights" ∈ jNest := kwn 569 (by decide +kernel) (by decide +kernel)
theorem fg_X5_9 : jFG RX5 9 4 0 := ⟨RX5, TX5, 4, rfl, ilX5, (kwm 99 (by decide +kernel) (by decide +kernel)), by decide⟩
theorem ml_X5_47 : Cond.methodLinkNest RX5 47 yX9_copyNumbers "EqualHeights" ∈ jNest := kwn 264 (by decide +kernel) (by decide +kernel)
theorem fg_X5_15 : jFG RX5 15 4 1 := ⟨RX5, TX5, 4, rfl, ilX5, (kwm 100 (by decide +kernel) (by decide +kernel)), by decide⟩
theorem fg_X5_18 : jFG RX5 18 4 2 := ⟨RX5, TX5, 4, rfl, ilX5, (kwm 101 (by decide +kernel) (by decide +kernel)), by decide⟩
theorem fg_X5_21 : jFG RX5 21 4 3 := ⟨RX5, TX5, 4, rfl, ilX5, (kwm 102 (by decide +kernel) (by decide +kernel)), by decide⟩
theorem fp_X5_21 (z : Int) : jFP RX5 21 4 3 false (jI z) := ⟨RX5, TX5, 4, tyX5, .int, rfl, ilX5, (kwm 102 (by decide +kernel) (by decide +kernel)), by decide, tyX5_ok, nmX5, rfl, by decide +kernel, rfl, rfl⟩
theorem ml_X5_3 : Cond.methodLink RX5 3 objectInit ∈ wsL_law := kwm 98 (by decide +kernel) (by decide +kernel)
theorem fp_X5_9 (a : Nat) : jFP RX5 9 4 0 true (.ref a) := ⟨RX5, TX5, 4, tyX5, .array .int, rfl, ilX5, (kwm 99 (by decide +kernel) (by decide +kernel)), by decide, tyX5_ok, nmX5, rfl, by decide +kernel, rfl, rfl⟩
theorem fd_X5_0 : jdecl 4 0 RX5 := fun r h => by cases h; rfl
theorem fp_X5_15 (a : Nat) : jFP RX5 15 4 1 true (.ref a) := ⟨RX5, TX5, 4, tyX5, .array .int, rfl, ilX5, (kwm 100 (by decide +kernel) (by decide +kernel)), by decide, tyX5_ok, nmX5, rfl, by decide +kernel, rfl, rfl⟩
theorem fd_X5_1 : jdecl 4 1 RX5 := fun r h => by cases h; rfl
theorem fp_X5_18 (a : Nat) : jFP RX5 18 4 2 true (.ref a) := ⟨RX5, TX5, 4, tyX5, .array .int, rfl, ilX5, (kwm 101 (by decide +kernel) (by decide +kernel)), by decide, tyX5_ok, nmX5, rfl, by decide +kernel, rfl, rfl⟩
theorem fd_X5_2 : jdecl 4 2 RX5 := fun r h => by cases h; rfl
theorem kc_X5_25 : Cond.constant RX5 25 (Int32.ofInt (1000000)) ∈ wsL_law := kwm 394 (by decide +kernel) (by decide +kernel)
theorem ml_X5_26 : Cond.methodLink RX5 26 yX5_nextRank ∈ wsL_law := kwm 395 (by decide +kernel) (by decide +kernel)
theorem fg_X5_30 : jFGn RX5 30 7 2 := ⟨RX8, TX8, 3, "EqualHeights", rfl, ilX8, (kwn 39 (by decide +kernel) (by decide +kernel)), by decide⟩
theorem ml_X5_35 : Cond.methodLink RX5 35 yX8_rowsLike ∈ wsL_law := kwm 398 (by decide +kernel) (by decide +kernel)
theorem ml_X5_39 : Cond.methodLink RX5 39 yX8_value ∈ wsL_law := kwm 402 (by decide +kernel) (by decide +kernel)
theorem ml_X5_43 : Cond.methodLinkNest RX5 43 yX9_isBetween "EqualHeights" ∈ jNest := kwn 508 (by decide +kernel) (by decide +kernel)
theorem ml_X6_19 : Cond.methodLink RX6 19 yX6_start ∈ wsL_law := kwm 586 (by decide +kernel) (by decide +kernel)
theorem ml_X6_22 : Cond.methodLink RX6 22 yX6_readOrder ∈ wsL_law := kwm 590 (by decide +kernel) (by decide +kernel)
theorem fg_X6_15 : jFG RX6 15 5 1 := ⟨RX6, TX6, 6, rfl, ilX6, (kwm 187 (by decide +kernel) (by decide +kernel)), by decide⟩
theorem fg_X6_9 : jFG RX6 9 5 0 := ⟨RX6, TX6, 6, rfl, ilX6, (kwm 186 (by decide +kernel) (by decide +kernel)), by decide⟩
theorem fg_X6_26 : jFGn RX6 26 3 1 := ⟨RX4, TX4, 2, "EqualHeights", rfl, ilX4, (kwn 172 (by decide +kernel) (by decide +kernel)), by decide⟩
theorem ml_X6_31 : Cond.methodLink RX6 31 yX6_passSign ∈ wsL_law := kwm 610 (by decide +kernel) (by decide +kernel)
theorem ml_X6_3 : Cond.methodLink RX6 3 objectInit ∈ wsL_law := kwm 185 (by decide +kernel) (by decide +kernel)
theorem fp_X6_9 (a : Nat) : jFP RX6 9 5 0 true (.ref a) := ⟨RX6, TX6, 6, tyX6, .object "EqualHeights$Pad", rfl, ilX6, (kwm 186 (by decide +kernel) (by decide +kernel)), by decide, tyX6_ok, nmX6, rfl, by decide +kernel, rfl, rfl⟩
theorem fd_X6_0 : jdecl 5 0 RX6 := fun r h => by cases h; rfl
theorem ml_X6_35 : Cond.methodLink RX6 35 yX4_signAt ∈ wsL_law := kwm 594 (by decide +kernel) (by decide +kernel)
theorem fp_X6_15 (z : Int) : jFP RX6 15 5 1 false (jI z) := ⟨RX6, TX6, 6, tyX6, .int, rfl, ilX6, (kwm 187 (by decide +kernel) (by decide +kernel)), by decide, tyX6_ok, nmX6, rfl, by decide +kernel, rfl, rfl⟩
theorem ml_X6_62 : Cond.methodLink RX6 62 yX6_readDigit ∈ wsL_law := kwm 606 (by decide +kernel) (by decide +kernel)
theorem fp_X6_39 {z : Int} (h0 : 0 ≤ z) (h1 : z < 65536) : jFP RX6 39 5 2 false (jI z) := ⟨RX6, TX6, 6, tyX6, .char, rfl, ilX6, (kwm 188 (by decide +kernel) (by decide +kernel)), by decide, tyX6_ok, nmX6, rfl, by decide +kernel, jI_narC h0 h1, jI_fitC h0 h1⟩
theorem fg_X6_39 : jFG RX6 39 5 2 := ⟨RX6, TX6, 6, rfl, ilX6, (kwm 188 (by decide +kernel) (by decide +kernel)), by decide⟩
theorem ml_X6_43 : Cond.methodLink RX6 43 yX6_readRow ∈ wsL_law := kwm 598 (by decide +kernel) (by decide +kernel)
theorem ml_X6_46 : Cond.methodLink RX6 46 yX6_readNumber ∈ wsL_law := kwm 602 (by decide +kernel) (by decide +kernel)
theorem fp_X6_50 (z : Int) : jFP RX6 50 5 3 false (jI z) := ⟨RX6, TX6, 6, tyX6, .int, rfl, ilX6, (kwm 190 (by decide +kernel) (by decide +kernel)), by decide, tyX6_ok, nmX6, rfl, by decide +kernel, rfl, rfl⟩
theorem fg_X6_50 : jFG RX6 50 5 3 := ⟨RX6, TX6, 6, rfl, ilX6, (kwm 190 (by decide +kernel) (by decide +kernel)), by decide⟩
theorem fp_X6_53 (z : Int) : jFP RX6 53 5 4 false (jI z) := ⟨RX6, TX6, 6, tyX6, .int, rfl, ilX6, (kwm 192 (by decide +kernel) (by decide +kernel)), by decide, tyX6_ok, nmX6, rfl, by decide +kernel, rfl, rfl⟩
theorem fg_X6_53 : jFG RX6 53 5 4 := ⟨RX6, TX6, 6, rfl, ilX6, (kwm 192 (by decide +kernel) (by decide +kernel)), by decide⟩
theorem ml_X6_56 : Cond.methodLink RX6 56 yX6_readTimes ∈ wsL_law := kwm 614 (by decide +kernel) (by decide +kernel)
theorem fp_X6_59 (z : Int) : jFP RX6 59 5 5 false (jI z) := ⟨RX6, TX6, 6, tyX6, .int, rfl, ilX6, (kwm 194 (by decide +kernel) (by decide +kernel)), by decide, tyX6_ok, nmX6, rfl, by decide +kernel, rfl, rfl⟩
theorem fg_X6_59 : jFG RX6 59 5 5 := ⟨RX6, TX6, 6, rfl, ilX6, (kwm 194 (by decide +kernel) (by decide +kernel)), by decide⟩
theorem ml_X7_37 : Cond.methodLinkNest RX7 37 yX9_isValue "EqualHeights" ∈ jNest := kwn 294 (by decide +kernel) (by decide +kernel)
theorem fg_X7_18 : jFG RX7 18 6 1 := ⟨RX7, TX7, 3, rfl, ilX7, (kwm 134 (by decide +kernel) (by decide +kernel)), by decide⟩
theorem ml_X7_41 : Cond.methodLink RX7 41 yX8_isFull ∈ wsL_law := kwm 298 (by decide +kernel) (by decide +kernel)
theorem ml_X7_45 : Cond.methodLink RX7 45 yX8_add ∈ wsL_law := kwm 302 (by decide +kernel) (by decide +kernel)
theorem fg_X7_25 : jFG RX7 25 6 2 := ⟨RX7, TX7, 3, rfl, ilX7, (kwm 136 (by decide +kernel) (by decide +kernel)), by decide⟩
theorem ml_X7_49 : Cond.methodLink RX7 49 yX0_noteChange ∈ wsL_law := kwm 307 (by decide +kernel) (by decide +kernel)
theorem fg_X7_52 : jFGn RX7 52 7 2 := ⟨RX8, TX8, 3, "EqualHeights", rfl, ilX8, (kwn 41 (by decide +kernel) (by decide +kernel)), by decide⟩
theorem ml_X7_56 : Cond.methodLink RX7 56 yX7_addRow ∈ wsL_law := kwm 632 (by decide +kernel) (by decide +kernel)
theorem ml_X7_29 : Cond.methodLinkNest RX7 29 yX9_isBetween "EqualHeights" ∈ jNest := kwn 269 (by decide +kernel) (by decide +kernel)
theorem ml_X7_33 : Cond.methodLink RX7 33 yX7_isInRange ∈ wsL_law := kwm 272 (by decide +kernel) (by decide +kernel)
theorem fg_X7_9 : jFG RX7 9 6 0 := ⟨RX7, TX7, 3, rfl, ilX7, (kwm 133 (by decide +kernel) (by decide +kernel)), by decide⟩
theorem ml_X7_78 : Cond.methodLinkNest RX7 78 yX9_copyNumbers "EqualHeights" ∈ jNest := kwn 243 (by decide +kernel) (by decide +kernel)
theorem ml_X7_82 : Cond.methodLink RX7 82 yX8_copyFrom ∈ wsL_law := kwm 246 (by decide +kernel) (by decide +kernel)
theorem ml_X7_86 : Cond.methodLink RX7 86 yX0_copyFrom ∈ wsL_law := kwm 251 (by decide +kernel) (by decide +kernel)
theorem ml_X7_60 : Cond.methodLink RX7 60 yX8_hasRow ∈ wsL_law := kwm 323 (by decide +kernel) (by decide +kernel)
theorem ml_X7_63 : Cond.methodLink RX7 63 yX8_drop ∈ wsL_law := kwm 327 (by decide +kernel) (by decide +kernel)
theorem ml_X7_3 : Cond.methodLink RX7 3 objectInit ∈ wsL_law := kwm 28 (by decide +kernel) (by decide +kernel)
theorem fp_X7_9 (a : Nat) : jFP RX7 9 6 0 true (.ref a) := ⟨RX7, TX7, 3, tyX7, .array .int, rfl, ilX7, (kwm 133 (by decide +kernel) (by decide +kernel)), by decide, tyX7_ok, nmX7, rfl, by decide +kernel, rfl, rfl⟩
theorem fd_X7_0 : jdecl 6 0 RX7 := fun r h => by cases h; rfl
theorem nw_X7_15 : jFN RX7 15 7 [.null, .null, jI 0] := ⟨RX8, TX8, 3, tyX8, rfl, ilX8, tyX8_ok, (kwm 29 (by decide +kernel) (by decide +kernel)), (kwm 30 (by decide +kernel) (by decide +kernel)), (kwm 3 (by decide +kernel) (by decide +kernel)), rfl, fun j hj => by
  rcases (show j = 0 ∨ j = 1 ∨ j = 2 by omega) with rfl | rfl | rfl <;> rfl⟩
theorem ml_X7_17 : Cond.methodLinkNest RX7 17 yX8_init "EqualHeights" ∈ jNest := kwn 31 (by decide +kernel) (by decide +kernel)
theorem fp_X7_18 (a : Nat) : jFP RX7 18 6 1 true (.ref a) := ⟨RX7, TX7, 3, tyX7, .object "EqualHeights$Table", rfl, ilX7, (kwm 134 (by decide +kernel) (by decide +kernel)), by decide, tyX7_ok, nmX7, rfl, by decide +kernel, rfl, rfl⟩
theorem fd_X7_1 : jdecl 6 1 RX7 := fun r h => by cases h; rfl
theorem nw_X7_22 : jFN RX7 22 0 [.null, .null, .null, jI 0, jI 0] := ⟨RX0, TX0, 5, tyX0, rfl, ilX0, tyX0_ok, (kwm 51 (by decide +kernel) (by decide +kernel)), (kwm 52 (by decide +kernel) (by decide +kernel)), (kwm 4 (by decide +kernel) (by decide +kernel)), rfl, fun j hj => by
  rcases (show j = 0 ∨ j = 1 ∨ j = 2 ∨ j = 3 ∨ j = 4 by omega) with rfl | rfl | rfl | rfl | rfl <;> rfl⟩
theorem ml_X7_24 : Cond.methodLinkNest RX7 24 yX0_init "EqualHeights" ∈ jNest := kwn 53 (by decide +kernel) (by decide +kernel)
theorem fp_X7_25 (a : Nat) : jFP RX7 25 6 2 true (.ref a) := ⟨RX7, TX7, 3, tyX7, .object "EqualHeights$Analysis", rfl, ilX7, (kwm 136 (by decide +kernel) (by decide +kernel)), by decide, tyX7_ok, nmX7, rfl, by decide +kernel, rfl, rfl⟩
theorem fd_X7_2 : jdecl 6 2 RX7 := fun r h => by cases h; rfl
theorem ml_X7_67 : Cond.methodLink RX7 67 yX7_setting ∈ wsL_law := kwm 340 (by decide +kernel) (by decide +kernel)
theorem ml_X7_71 : Cond.methodLink RX7 71 yX0_learn ∈ wsL_law := kwm 344 (by decide +kernel) (by decide +kernel)
theorem fg_X7_75 : jFGn RX7 75 0 3 := ⟨RX0, TX0, 5, "EqualHeights", rfl, ilX0, (kwn 118 (by decide +kernel) (by decide +kernel)), by decide⟩
theorem fg_X8_18 : jFG RX8 18 7 2 := ⟨RX8, TX8, 3, rfl, ilX8, (kwm 37 (by decide +kernel) (by decide +kernel)), by decide⟩
theorem ml_X8_22 : Cond.methodLink RX8 22 yX8_isFull ∈ wsL_law := kwm 306 (by decide +kernel) (by decide +kernel)
theorem fg_X8_9 : jFG RX8 9 7 0 := ⟨RX8, TX8, 3, rfl, ilX8, (kwm 35 (by decide +kernel) (by decide +kernel)), by decide⟩
theorem fg_X8_15 : jFG RX8 15 7 1 := ⟨RX8, TX8, 3, rfl, ilX8, (kwm 36 (by decide +kernel) (by decide +kernel)), by decide⟩
theorem fp_X8_18 (z : Int) : jFP RX8 18 7 2 false (jI z) := ⟨RX8, TX8, 3, tyX8, .int, rfl, ilX8, (kwm 37 (by decide +kernel) (by decide +kernel)), by decide, tyX8_ok, nmX8, rfl, by decide +kernel, rfl, rfl⟩
theorem ml_X8_38 : Cond.methodLinkNest RX8 38 yX9_copyNumbers "EqualHeights" ∈ jNest := kwn 250 (by decide +kernel) (by decide +kernel)
theorem ml_X8_26 : Cond.methodLink RX8 26 yX8_hasRow ∈ wsL_law := kwm 331 (by decide +kernel) (by decide +kernel)
theorem ml_X8_3 : Cond.methodLink RX8 3 objectInit ∈ wsL_law := kwm 34 (by decide +kernel) (by decide +kernel)
theorem fp_X8_9 (a : Nat) : jFP RX8 9 7 0 true (.ref a) := ⟨RX8, TX8, 3, tyX8, .array .int, rfl, ilX8, (kwm 35 (by decide +kernel) (by decide +kernel)), by decide, tyX8_ok, nmX8, rfl, by decide +kernel, rfl, rfl⟩
theorem fd_X8_0 : jdecl 7 0 RX8 := fun r h => by cases h; rfl
theorem fp_X8_15 (a : Nat) : jFP RX8 15 7 1 true (.ref a) := ⟨RX8, TX8, 3, tyX8, .array .int, rfl, ilX8, (kwm 36 (by decide +kernel) (by decide +kernel)), by decide, tyX8_ok, nmX8, rfl, by decide +kernel, rfl, rfl⟩
theorem fd_X8_1 : jdecl 7 1 RX8 := fun r h => by cases h; rfl
theorem ml_X8_30 : Cond.methodLink RX8 30 yX8_rowsInsideBoth ∈ wsL_law := kwm 466 (by decide +kernel) (by decide +kernel)
theorem ml_X8_34 : Cond.methodLinkNest RX8 34 yX9_isBetween "EqualHeights" ∈ jNest := kwn 470 (by decide +kernel) (by decide +kernel)
theorem fg_X9_23 : jFG RX9 23 8 2 := ⟨RX9, TX9, 6, rfl, ilX9, (kwm 213 (by decide +kernel) (by decide +kernel)), by decide⟩
theorem fg_X9_12 : jFG RX9 12 8 0 := ⟨RX9, TX9, 6, rfl, ilX9, (kwm 211 (by decide +kernel) (by decide +kernel)), by decide⟩
theorem ml_X9_50 : Cond.methodLink RX9 50 yX3_prepare ∈ wsL_law := kwm 234 (by decide +kernel) (by decide +kernel)
theorem ml_X9_68 : Cond.methodLink RX9 68 yX7_makeAnalysis ∈ wsL_law := kwm 336 (by decide +kernel) (by decide +kernel)
theorem ml_X9_58 : Cond.methodLink RX9 58 yX9_recorded ∈ wsL_law := kwm 275 (by decide +kernel) (by decide +kernel)
theorem ml_X9_254 : Cond.methodLink RX9 254 yX9_isValue ∈ wsL_law := kwm 461 (by decide +kernel) (by decide +kernel)
theorem ml_X9_154 : Cond.methodLink RX9 154 yX9_areBounds ∈ wsL_law := kwm 458 (by decide +kernel) (by decide +kernel)
theorem ml_X9_88 : Cond.methodLink RX9 88 yX9_isBetween ∈ wsL_law := kwm 297 (by decide +kernel) (by decide +kernel)
theorem fg_X9_72 : jFGn RX9 72 6 1 := ⟨RX7, TX7, 3, "EqualHeights", rfl, ilX7, (kwn 135 (by decide +kernel) (by decide +kernel)), by decide⟩
theorem ml_X9_174 : Cond.methodLink RX9 174 yX8_rowsInsideBoth ∈ wsL_law := kwm 499 (by decide +kernel) (by decide +kernel)
theorem fg_X9_92 : jFGn RX9 92 6 2 := ⟨RX7, TX7, 3, "EqualHeights", rfl, ilX7, (kwn 137 (by decide +kernel) (by decide +kernel)), by decide⟩
theorem ml_X9_147 : Cond.methodLink RX9 147 yX0_isMade ∈ wsL_law := kwm 448 (by decide +kernel) (by decide +kernel)
theorem ml_X9_178 : Cond.methodLink RX9 178 yX0_guessBoth ∈ wsL_law := kwm 500 (by decide +kernel) (by decide +kernel)
theorem ml_X9_171 : Cond.methodLink RX9 171 yX7_scale ∈ wsL_law := kwm 491 (by decide +kernel) (by decide +kernel)
theorem ml_X9_82 : Cond.methodLink RX9 82 yX9_isColumn ∈ wsL_law := kwm 408 (by decide +kernel) (by decide +kernel)
theorem ml_X9_96 : Cond.methodLink RX9 96 yX0_facts ∈ wsL_law := kwm 416 (by decide +kernel) (by decide +kernel)
theorem ml_X9_102 : Cond.methodLink RX9 102 yX2_tellBucket ∈ wsL_law := kwm 420 (by decide +kernel) (by decide +kernel)
theorem fg_X9_39 : jFG RX9 39 8 4 := ⟨RX9, TX9, 6, rfl, ilX9, (kwm 215 (by decide +kernel) (by decide +kernel)), by decide⟩
theorem ml_X9_213 : Cond.methodLink RX9 213 yX6_findFault ∈ wsL_law := kwm 582 (by decide +kernel) (by decide +kernel)
theorem ml_X9_216 : Cond.methodLink RX9 216 yX6_start ∈ wsL_law := kwm 622 (by decide +kernel) (by decide +kernel)
theorem ml_X9_219 : Cond.methodLink RX9 219 yX6_readOrder ∈ wsL_law := kwm 623 (by decide +kernel) (by decide +kernel)
theorem ml_X9_222 : Cond.methodLink RX9 222 yX9_followOrder ∈ wsL_law := kwm 624 (by decide +kernel) (by decide +kernel)
theorem ml_X9_225 : Cond.methodLink RX9 225 yX6_passSign ∈ wsL_law := kwm 633 (by decide +kernel) (by decide +kernel)
theorem fg_X9_30 : jFG RX9 30 8 3 := ⟨RX9, TX9, 6, rfl, ilX9, (kwm 214 (by decide +kernel) (by decide +kernel)), by decide⟩
theorem ml_X9_210 : Cond.methodLink RX9 210 yX4_clear ∈ wsL_law := kwm 574 (by decide +kernel) (by decide +kernel)
theorem ml_X9_105 : Cond.methodLink RX9 105 yX2_tellCommon ∈ wsL_law := kwm 428 (by decide +kernel) (by decide +kernel)
theorem fg_X9_117 : jFGn RX9 117 7 2 := ⟨RX8, TX8, 3, "EqualHeights", rfl, ilX8, (kwn 42 (by decide +kernel) (by decide +kernel)), by decide⟩
theorem fg_X9_121 : jFGn RX9 121 0 3 := ⟨RX0, TX0, 5, "EqualHeights", rfl, ilX0, (kwn 119 (by decide +kernel) (by decide +kernel)), by decide⟩
theorem fg_X9_124 : jFGn RX9 124 0 4 := ⟨RX0, TX0, 5, "EqualHeights", rfl, ilX0, (kwn 121 (by decide +kernel) (by decide +kernel)), by decide⟩
theorem ml_X9_127 : Cond.methodLink RX9 127 yX9_tellStale ∈ wsL_law := kwm 444 (by decide +kernel) (by decide +kernel)
theorem fg_X9_130 : jFGn RX9 130 1 8 := ⟨RX2, TX2, 9, "EqualHeights", rfl, ilX2, (kwn 73 (by decide +kernel) (by decide +kernel)), by decide⟩
theorem fg_X9_133 : jFGn RX9 133 1 3 := ⟨RX2, TX2, 9, "EqualHeights", rfl, ilX2, (kwn 67 (by decide +kernel) (by decide +kernel)), by decide⟩
theorem fg_X9_108 : jFGn RX9 108 0 2 := ⟨RX0, TX0, 5, "EqualHeights", rfl, ilX0, (kwn 116 (by decide +kernel) (by decide +kernel)), by decide⟩
theorem fg_X9_136 : jFGn RX9 136 4 3 := ⟨RX5, TX5, 4, "EqualHeights", rfl, ilX5, (kwn 103 (by decide +kernel) (by decide +kernel)), by decide⟩
theorem ml_X9_138 : Cond.methodLink RX9 138 yX7_setting ∈ wsL_law := kwm 449 (by decide +kernel) (by decide +kernel)
theorem fg_X9_141 : jFGn RX9 141 3 1 := ⟨RX4, TX4, 2, "EqualHeights", rfl, ilX4, (kwn 173 (by decide +kernel) (by decide +kernel)), by decide⟩
theorem fg_X9_144 : jFGn RX9 144 2 2 := ⟨RX3, TX3, 3, "EqualHeights", rfl, ilX3, (kwn 156 (by decide +kernel) (by decide +kernel)), by decide⟩
theorem ml_X9_158 : Cond.methodLink RX9 158 yX8_rowsInside ∈ wsL_law := kwm 462 (by decide +kernel) (by decide +kernel)
theorem ml_X9_162 : Cond.methodLink RX9 162 yX2_guess ∈ wsL_law := kwm 471 (by decide +kernel) (by decide +kernel)
theorem ml_X9_165 : Cond.methodLink RX9 165 yX2_least ∈ wsL_law := kwm 483 (by decide +kernel) (by decide +kernel)
theorem ml_X9_168 : Cond.methodLink RX9 168 yX2_most ∈ wsL_law := kwm 487 (by decide +kernel) (by decide +kernel)
theorem fg_X9_46 : jFG RX9 46 8 5 := ⟨RX9, TX9, 6, rfl, ilX9, (kwm 216 (by decide +kernel) (by decide +kernel)), by decide⟩
theorem ml_X9_202 : Cond.methodLink RX9 202 yX2_learn ∈ wsL_law := kwm 556 (by decide +kernel) (by decide +kernel)
theorem ml_X9_196 : Cond.methodLink RX9 196 yX2_worstValue ∈ wsL_law := kwm 538 (by decide +kernel) (by decide +kernel)
theorem ml_X9_199 : Cond.methodLink RX9 199 yX2_miss ∈ wsL_law := kwm 551 (by decide +kernel) (by decide +kernel)
theorem fg_X9_229 : jFGn RX9 229 5 2 := ⟨RX6, TX6, 6, "EqualHeights", rfl, ilX6, (kwn 189 (by decide +kernel) (by decide +kernel)), by decide⟩
theorem fg_X9_233 : jFGn RX9 233 5 3 := ⟨RX6, TX6, 6, "EqualHeights", rfl, ilX6, (kwn 191 (by decide +kernel) (by decide +kernel)), by decide⟩
theorem fg_X9_236 : jFGn RX9 236 5 4 := ⟨RX6, TX6, 6, "EqualHeights", rfl, ilX6, (kwn 193 (by decide +kernel) (by decide +kernel)), by decide⟩
theorem fg_X9_239 : jFGn RX9 239 5 5 := ⟨RX6, TX6, 6, "EqualHeights", rfl, ilX6, (kwn 195 (by decide +kernel) (by decide +kernel)), by decide⟩
theorem ml_X9_242 : Cond.methodLink RX9 242 yX7_addRows ∈ wsL_law := kwm 628 (by decide +kernel) (by decide +kernel)
theorem ml_X9_65 : Cond.methodLink RX9 65 yX7_dropRow ∈ wsL_law := kwm 319 (by decide +kernel) (by decide +kernel)
theorem ml_X9_54 : Cond.methodLink RX9 54 yX7_change ∈ wsL_law := kwm 265 (by decide +kernel) (by decide +kernel)
theorem kc_X9_187 : Cond.constantLong RX9 187 (-2) ∈ wsL_law := kwm 526 (by decide +kernel) (by decide +kernel)
theorem ml_X9_189 : Cond.methodLink RX9 189 yX2_rowsOfBuckets ∈ wsL_law := kwm 527 (by decide +kernel) (by decide +kernel)
theorem ml_X9_192 : Cond.methodLink RX9 192 yX1_ofDouble ∈ wsL_law := kwm 531 (by decide +kernel) (by decide +kernel)
theorem ml_X9_3 : Cond.methodLink RX9 3 objectInit ∈ wsL_law := kwm 20 (by decide +kernel) (by decide +kernel)
theorem nw_X9_9 : jFN RX9 9 6 [.null, .null, .null] := ⟨RX7, TX7, 3, tyX7, rfl, ilX7, tyX7_ok, (kwm 23 (by decide +kernel) (by decide +kernel)), (kwm 24 (by decide +kernel) (by decide +kernel)), (kwm 2 (by decide +kernel) (by decide +kernel)), rfl, fun j hj => by
  rcases (show j = 0 ∨ j = 1 ∨ j = 2 by omega) with rfl | rfl | rfl <;> rfl⟩
theorem ml_X9_11 : Cond.methodLinkNest RX9 11 yX7_init "EqualHeights" ∈ jNest := kwn 25 (by decide +kernel) (by decide +kernel)
theorem fp_X9_12 (a : Nat) : jFP RX9 12 8 0 true (.ref a) := ⟨RX9, TX9, 6, tyX9, .object "EqualHeights$State", rfl, ilX9, (kwm 211 (by decide +kernel) (by decide +kernel)), by decide, tyX9_ok, nmX9, rfl, by decide +kernel, rfl, rfl⟩
theorem fd_X9_0 : jdecl 8 0 RX9 := fun r h => by cases h; rfl
theorem kq_X9_9 : Cond.classLink RX9 9 "EqualHeights$State" ∈ wsL_law := kwm 23 (by decide +kernel) (by decide +kernel)
theorem fp_X9_16 (a : Nat) : jFP RX9 16 8 1 true (.ref a) := ⟨RX9, TX9, 6, tyX9, .array (.object "EqualHeights$State"), rfl, ilX9, (kwm 212 (by decide +kernel) (by decide +kernel)), by decide, tyX9_ok, nmX9, rfl, by decide +kernel, rfl, rfl⟩
theorem fd_X9_1 : jdecl 8 1 RX9 := fun r h => by cases h; rfl
theorem nw_X9_20 : jFN RX9 20 2 [.null, jI 0, jI 0] := ⟨RX3, TX3, 3, tyX3, rfl, ilX3, tyX3_ok, (kwm 146 (by decide +kernel) (by decide +kernel)), (kwm 147 (by decide +kernel) (by decide +kernel)), (kwm 7 (by decide +kernel) (by decide +kernel)), rfl, fun j hj => by
  rcases (show j = 0 ∨ j = 1 ∨ j = 2 by omega) with rfl | rfl | rfl <;> rfl⟩
theorem ml_X9_22 : Cond.methodLinkNest RX9 22 yX3_init "EqualHeights" ∈ jNest := kwn 148 (by decide +kernel) (by decide +kernel)
theorem fp_X9_23 (a : Nat) : jFP RX9 23 8 2 true (.ref a) := ⟨RX9, TX9, 6, tyX9, .object "EqualHeights$History", rfl, ilX9, (kwm 213 (by decide +kernel) (by decide +kernel)), by decide, tyX9_ok, nmX9, rfl, by decide +kernel, rfl, rfl⟩
theorem fd_X9_2 : jdecl 8 2 RX9 := fun r h => by cases h; rfl
theorem nw_X9_27 : jFN RX9 27 3 [.null, jI 0] := ⟨RX4, TX4, 2, tyX4, rfl, ilX4, tyX4_ok, (kwm 164 (by decide +kernel) (by decide +kernel)), (kwm 165 (by decide +kernel) (by decide +kernel)), (kwm 8 (by decide +kernel) (by decide +kernel)), rfl, fun j hj => by
  rcases (show j = 0 ∨ j = 1 by omega) with rfl | rfl <;> rfl⟩
theorem ml_X9_29 : Cond.methodLinkNest RX9 29 yX4_init "EqualHeights" ∈ jNest := kwn 166 (by decide +kernel) (by decide +kernel)
theorem fp_X9_30 (a : Nat) : jFP RX9 30 8 3 true (.ref a) := ⟨RX9, TX9, 6, tyX9, .object "EqualHeights$Pad", rfl, ilX9, (kwm 214 (by decide +kernel) (by decide +kernel)), by decide, tyX9_ok, nmX9, rfl, by decide +kernel, rfl, rfl⟩
theorem fd_X9_3 : jdecl 8 3 RX9 := fun r h => by cases h; rfl
theorem nw_X9_34 : jFN RX9 34 5 [.null, jI 0, jI 0, jI 0, jI 0, jI 0] := ⟨RX6, TX6, 6, tyX6, rfl, ilX6, tyX6_ok, (kwm 180 (by decide +kernel) (by decide +kernel)), (kwm 181 (by decide +kernel) (by decide +kernel)), (kwm 9 (by decide +kernel) (by decide +kernel)), rfl, fun j hj => by
  rcases (show j = 0 ∨ j = 1 ∨ j = 2 ∨ j = 3 ∨ j = 4 ∨ j = 5 by omega) with rfl | rfl | rfl | rfl | rfl | rfl <;> rfl⟩
theorem ml_X9_36 : Cond.methodLink RX9 36 yX6_init ∈ wsL_law := kwm 182 (by decide +kernel) (by decide +kernel)
theorem fp_X9_39 (a : Nat) : jFP RX9 39 8 4 true (.ref a) := ⟨RX9, TX9, 6, tyX9, .object "EqualHeights$Reader", rfl, ilX9, (kwm 215 (by decide +kernel) (by decide +kernel)), by decide, tyX9_ok, nmX9, rfl, by decide +kernel, rfl, rfl⟩
theorem fd_X9_4 : jdecl 8 4 RX9 := fun r h => by cases h; rfl
theorem nw_X9_43 : jFN RX9 43 1 [.null, .null, .null, jI 0, .null, .null, .null, .null, jI 0] := ⟨RX2, TX2, 9, tyX2, rfl, ilX2, tyX2_ok, (kwm 209 (by decide +kernel) (by decide +kernel)), (kwm 58 (by decide +kernel) (by decide +kernel)), (kwm 5 (by decide +kernel) (by decide +kernel)), rfl, fun j hj => by
  rcases (show j = 0 ∨ j = 1 ∨ j = 2 ∨ j = 3 ∨ j = 4 ∨ j = 5 ∨ j = 6 ∨ j = 7 ∨ j = 8 by omega) with rfl | rfl | rfl | rfl | rfl | rfl | rfl | rfl | rfl <;> rfl⟩
theorem ml_X9_45 : Cond.methodLinkNest RX9 45 yX2_init "EqualHeights" ∈ jNest := kwn 210 (by decide +kernel) (by decide +kernel)
theorem fp_X9_46 (a : Nat) : jFP RX9 46 8 5 true (.ref a) := ⟨RX9, TX9, 6, tyX9, .object "EqualHeights$ColumnFacts", rfl, ilX9, (kwm 216 (by decide +kernel) (by decide +kernel)), by decide, tyX9_ok, nmX9, rfl, by decide +kernel, rfl, rfl⟩
theorem fd_X9_5 : jdecl 8 5 RX9 := fun r h => by cases h; rfl
theorem ml_X9_62 : Cond.methodLink RX9 62 yX7_addRow ∈ wsL_law := kwm 290 (by decide +kernel) (by decide +kernel)
theorem ml_X9_112 : Cond.methodLink RX9 112 yX5_tellPair ∈ wsL_law := kwm 436 (by decide +kernel) (by decide +kernel)
theorem ml_X9_206 : Cond.methodLink RX9 206 yX4_append ∈ wsL_law := kwm 561 (by decide +kernel) (by decide +kernel)
theorem ml_X9_251 : Cond.methodLink RX9 251 yX3_keep ∈ wsL_law := kwm 279 (by decide +kernel) (by decide +kernel)
theorem fg_X9_16 : jFG RX9 16 8 1 := ⟨RX9, TX9, 6, rfl, ilX9, (kwm 212 (by decide +kernel) (by decide +kernel)), by decide⟩
theorem ml_X9_248 : Cond.methodLink RX9 248 yX7_copyFrom ∈ wsL_law := kwm 646 (by decide +kernel) (by decide +kernel)
theorem ml_X9_76 : Cond.methodLink RX9 76 yX8_hasRow ∈ wsL_law := kwm 407 (by decide +kernel) (by decide +kernel)
theorem ml_X9_85 : Cond.methodLink RX9 85 yX8_value ∈ wsL_law := kwm 411 (by decide +kernel) (by decide +kernel)
theorem ml_X9_181 : Cond.methodLink RX9 181 yX1_ofFloat ∈ wsL_law := kwm 515 (by decide +kernel) (by decide +kernel)
theorem ml_X9_151 : Cond.methodLink RX9 151 yX0_isStale ∈ wsL_law := kwm 450 (by decide +kernel) (by decide +kernel)
theorem ml_X9_245 : Cond.methodLink RX9 245 yX3_bringBack ∈ wsL_law := kwm 638 (by decide +kernel) (by decide +kernel)
theorem ka_int : Cond.arrayClass .int ∈ wsL_law := kwm 50 (by decide +kernel) (by decide +kernel)
theorem ka_char : Cond.arrayClass .char ∈ wsL_law := kwm 179 (by decide +kernel) (by decide +kernel)
theorem ka_boolean : Cond.arrayClass .boolean ∈ wsL_law := kwm 694 (by decide +kernel) (by decide +kernel)
theorem km_max_s : Cond.static Lib.Math.max.name ∈ wsL_law := (kwm 481 (by decide +kernel) (by decide +kernel))
theorem km_max_c : Cond.code Lib.Math.max.name Lib.Math.max.code 2 (some .int) ∈ wsL_law := kwm 482 (by decide +kernel) (by decide +kernel)
theorem km_min_s : Cond.static Lib.Math.min.name ∈ wsL_law := (kwm 284 (by decide +kernel) (by decide +kernel))
theorem km_min_c : Cond.code Lib.Math.min.name Lib.Math.min.code 2 (some .int) ∈ wsL_law := kwm 285 (by decide +kernel) (by decide +kernel)
theorem km_abs_s : Cond.static Lib.Math.abs.name ∈ wsL_law := (kwm 549 (by decide +kernel) (by decide +kernel))
theorem km_abs_c : Cond.code Lib.Math.abs.name Lib.Math.abs.code 1 (some .int) ∈ wsL_law := kwm 550 (by decide +kernel) (by decide +kernel)
theorem km_i : Cond.initialized "java/lang/Math" ∈ wsL_law := (kwm 11 (by decide +kernel) (by decide +kernel))
theorem ko_i : Cond.instanceMethod objectInit ∈ wsL_law := (kwm 21 (by decide +kernel) (by decide +kernel))
theorem ko_c : Cond.code objectInit ⟨#[0xb1]⟩ 1 none ∈ wsL_law := kwm 22 (by decide +kernel) (by decide +kernel)
theorem kn_floatToRawIntBits : Cond.native ⟨"java/lang/Float", "floatToRawIntBits", "(F)I"⟩ ∈ wsL_law := (kwm 768 (by decide +kernel) (by decide +kernel))
theorem kt_floatToRawIntBits : Cond.static ⟨"java/lang/Float", "floatToRawIntBits", "(F)I"⟩ ∈ wsL_law := (kwm 767 (by decide +kernel) (by decide +kernel))
theorem kn_doubleToRawLongBits : Cond.native ⟨"java/lang/Double", "doubleToRawLongBits", "(D)J"⟩ ∈ wsL_law := (kwm 783 (by decide +kernel) (by decide +kernel))
theorem kt_doubleToRawLongBits : Cond.static ⟨"java/lang/Double", "doubleToRawLongBits", "(D)J"⟩ ∈ wsL_law := (kwm 782 (by decide +kernel) (by decide +kernel))
