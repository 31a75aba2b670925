/-! the law: column -/
theorem cn_0 {x : TS} {len hl r : Int} (h : cnQ x len hl 0 r) : r = x.2.1.2.2 := h.1 rfl
theorem cn_1 {x : TS} {len hl r : Int} (h : cnQ x len hl 1 r) : r = x.2.2.1.1 := h.2.1 rfl
theorem cn_2 {x : TS} {len hl r : Int} (h : cnQ x len hl 2 r) : r = x.2.2.1.2 := h.2.2.1 rfl
theorem cn_3 {x : TS} {len hl r : Int} (h : cnQ x len hl 3 r) : r = stlR x := h.2.2.2.1 rfl
theorem cn_12 {x : TS} {len hl r : Int} (h : cnQ x len hl 12 r) : r = x.1 3 := h.2.2.2.2.2.2.2.2.2.2.2.2.1 rfl
theorem cn_14 {x : TS} {len hl r : Int} (h : cnQ x len hl 14 r) : r = hl := h.2.2.2.2.2.2.2.2.2.2.2.2.2.2.1 rfl
theorem cn_4 {x : TS} {len hl r c : Int} (hc : c = 0 ∨ c = 1) (h : cnQ x len hl (4 + c) r) : r = (colA x c).2.2.2.2.2.2.2.2 := by
  rcases hc with rfl | rfl
  · exact h.2.2.2.2.1 rfl
  · exact h.2.2.2.2.2.1 rfl
theorem cn_6 {x : TS} {len hl r c : Int} (hc : c = 0 ∨ c = 1) (h : cnQ x len hl (6 + c) r) : r = (colA x c).2.2.2.1 := by
  rcases hc with rfl | rfl
  · exact h.2.2.2.2.2.2.1 rfl
  · exact h.2.2.2.2.2.2.2.1 rfl
theorem cn_b {x : TS} (hx : stQ x) (c : Int) : (0 ≤ (colA x c).2.2.2.1 ∧ (colA x c).2.2.2.1 ≤ 6) ∧ (0 ≤ (colA x c).2.2.2.2.2.2.2.2 ∧ (colA x c).2.2.2.2.2.2.2.2 ≤ 10) := ⟨(colA_Q hx c).2.2.2.1, (colA_Q hx c).2.2.2.2.2.2.2.2.1⟩

set_option maxHeartbeats 4000000 in
set_option maxRecDepth 100000 in
theorem c_L_column {l : Launch} {D : va_G} {b0 : Nat} {n : Nat} {M : jM} {e lo : Nat} {x : TS} {hl : Int} {hk : Nat → TS} {sl : Nat → Option TS} {sg : Nat → Int} {len : Int} (hW : ehP M n e lo x hl hk sl sg len none) (hg : gdQ x) (hp : 0 < x.2.2.1.1) {c : Int} (hc : c = 0 ∨ c = 1) : jCtr l D b0 yL_column cL_column 7 (some .boolean) 6 0 0 [.ref e, jI c] n M (jrd n M 1) := by
  refine jctr (lv := [some (.ref e), some (jI c), none, none, none, none, none]) RL "column" rfl rfl (by decide) (Nat.le_of_ble_eq_true rfl) rfl ?_
  intro X h hR hX
  have hx := hW.qs.1
  have hE := hW.ob
  obtain ⟨hE0, hE1, hE3, hE4⟩ := cl_est hx hg hp hc
  have hsum := cl_sum hg hx hc
  have hwr := cl_wr hg hx hp hc
  obtain ⟨hcb, hbb⟩ := cn_b hx c
  have hN := hx.2.2.1.2
  have hZ := hx.2.1.2.2
  refine jk_iconst (q := 1) h dL_column_0 rfl ?_
  refine jk_istore_n (q := 2) h dL_column_1 rfl (Nat.le_of_ble_eq_true rfl) rfl rfl ?_
  refine jk_iconst (q := 3) h dL_column_2 rfl ?_
  refine jk_istore_n (q := 4) h dL_column_3 rfl (Nat.le_of_ble_eq_true rfl) rfl rfl ?_
  refine jk_bipush (q := 6) h dL_column_4 (by decide) rfl ?_
  refine jk_istore (q := 8) h dL_column_6 rfl (Nat.le_of_ble_eq_true rfl) rfl rfl ?_
  refine jk_aload_n (q := 9) h dL_column_8 rfl rfl ?_
  refine jk_iload_n (q := 10) h dL_column_9 rfl rfl ?_
  refine jk_iconst (q := 11) h dL_column_10 rfl ?_
  refine jk_bipush (q := 13) h dL_column_11 (by decide) rfl ?_
  refine jk_iconst (q := 14) h dL_column_13 rfl ?_
  refine jk_callV (q := 17) h hX (c_X9_estimate hW ⟨by omega, by omega⟩ ⟨by omega, by omega⟩ ⟨by omega, by omega⟩ ⟨by omega, by omega⟩) mv_X9_estimate (hE.at 0 rfl) dL_column_14 ml_L_9 ⟨rfl, Nat.le_refl _⟩ rfl rfl (Nat.le_of_ble_eq_true rfl) (Nat.le_of_ble_eq_true rfl) rfl rfl (Nat.le_of_ble_eq_true rfl) rfl (fun v9 n9 M9 hp9 => ?_)
  obtain ⟨rfl, rfl, rfl⟩ := hp9
  rw [hE0]
  refine jk_aload_n (q := 18) h dL_column_17 rfl rfl ?_
  refine jk_iconst (q := 19) h dL_column_18 rfl ?_
  refine jk_callV (q := 22) h hX (c_X9_count hW ⟨by omega, by omega⟩) mv_X9_count (hE.at 0 rfl) dL_column_19 ml_L_15 ⟨rfl, Nat.le_refl _⟩ rfl rfl (Nat.le_of_ble_eq_true rfl) (Nat.le_of_ble_eq_true rfl) rfl rfl (Nat.le_of_ble_eq_true rfl) rfl (fun v9 n9 M9 hp9 => ?_)
  obtain ⟨r, rfl, rfl, rfl, hq9⟩ := hp9
  obtain rfl := cn_1 hq9
  refine jk_icmp_ne (q := 25) (tgt := 80) h dL_column_22 (by decide) rfl ⟨by omega, by omega⟩ ⟨by omega, by omega⟩ (fun c22 => ?_) (fun c22 => ?_)
  · omega
  · refine jk_aload_n (q := 26) h dL_column_25 rfl rfl ?_
    refine jk_iload_n (q := 27) h dL_column_26 rfl rfl ?_
    refine jk_iconst (q := 28) h dL_column_27 rfl ?_
    refine jk_bipush (q := 30) h dL_column_28 (by decide) rfl ?_
    refine jk_iconst (q := 31) h dL_column_30 rfl ?_
    refine jk_callV (q := 34) h hX (c_X9_estimate hW ⟨by omega, by omega⟩ ⟨by omega, by omega⟩ ⟨by omega, by omega⟩ ⟨by omega, by omega⟩) mv_X9_estimate (hE.at 0 rfl) dL_column_31 ml_L_9 ⟨rfl, Nat.le_refl _⟩ rfl rfl (Nat.le_of_ble_eq_true rfl) (Nat.le_of_ble_eq_true rfl) rfl rfl (Nat.le_of_ble_eq_true rfl) rfl (fun v9 n9 M9 hp9 => ?_)
    obtain ⟨rfl, rfl, rfl⟩ := hp9
    rw [hE1]
    refine jk_aload_n (q := 35) h dL_column_34 rfl rfl ?_
    refine jk_iconst (q := 36) h dL_column_35 rfl ?_
    refine jk_callV (q := 39) h hX (c_X9_count hW ⟨by omega, by omega⟩) mv_X9_count (hE.at 0 rfl) dL_column_36 ml_L_15 ⟨rfl, Nat.le_refl _⟩ rfl rfl (Nat.le_of_ble_eq_true rfl) (Nat.le_of_ble_eq_true rfl) rfl rfl (Nat.le_of_ble_eq_true rfl) rfl (fun v9 n9 M9 hp9 => ?_)
    obtain ⟨r, rfl, rfl, rfl, hq9⟩ := hp9
    obtain rfl := cn_1 hq9
    refine jk_icmp_ne (q := 42) (tgt := 80) h dL_column_39 (by decide) rfl ⟨by omega, by omega⟩ ⟨by omega, by omega⟩ (fun c39 => ?_) (fun c39 => ?_)
    · omega
    · refine jk_aload_n (q := 43) h dL_column_42 rfl rfl ?_
      refine jk_iload_n (q := 44) h dL_column_43 rfl rfl ?_
      refine jk_iconst (q := 45) h dL_column_44 rfl ?_
      refine jk_bipush (q := 47) h dL_column_45 (by decide) rfl ?_
      refine jk_iconst (q := 48) h dL_column_47 rfl ?_
      refine jk_callV (q := 51) h hX (c_X9_estimate hW ⟨by omega, by omega⟩ ⟨by omega, by omega⟩ ⟨by omega, by omega⟩ ⟨by omega, by omega⟩) mv_X9_estimate (hE.at 0 rfl) dL_column_48 ml_L_9 ⟨rfl, Nat.le_refl _⟩ rfl rfl (Nat.le_of_ble_eq_true rfl) (Nat.le_of_ble_eq_true rfl) rfl rfl (Nat.le_of_ble_eq_true rfl) rfl (fun v9 n9 M9 hp9 => ?_)
      obtain ⟨rfl, rfl, rfl⟩ := hp9
      rw [hE3]
      refine jk_aload_n (q := 52) h dL_column_51 rfl rfl ?_
      refine jk_iconst (q := 53) h dL_column_52 rfl ?_
      refine jk_callV (q := 56) h hX (c_X9_count hW ⟨by omega, by omega⟩) mv_X9_count (hE.at 0 rfl) dL_column_53 ml_L_15 ⟨rfl, Nat.le_refl _⟩ rfl rfl (Nat.le_of_ble_eq_true rfl) (Nat.le_of_ble_eq_true rfl) rfl rfl (Nat.le_of_ble_eq_true rfl) rfl (fun v9 n9 M9 hp9 => ?_)
      obtain ⟨r, rfl, rfl, rfl, hq9⟩ := hp9
      obtain rfl := cn_0 hq9
      refine jk_icmp_ne (q := 59) (tgt := 80) h dL_column_56 (by decide) rfl ⟨by omega, by omega⟩ ⟨by omega, by omega⟩ (fun c56 => ?_) (fun c56 => ?_)
      · omega
      · refine jk_aload_n (q := 60) h dL_column_59 rfl rfl ?_
        refine jk_iload_n (q := 61) h dL_column_60 rfl rfl ?_
        refine jk_iconst (q := 62) h dL_column_61 rfl ?_
        refine jk_bipush (q := 64) h dL_column_62 (by decide) rfl ?_
        refine jk_iconst (q := 65) h dL_column_64 rfl ?_
        refine jk_callV (q := 68) h hX (c_X9_estimate hW ⟨by omega, by omega⟩ ⟨by omega, by omega⟩ ⟨by omega, by omega⟩ ⟨by omega, by omega⟩) mv_X9_estimate (hE.at 0 rfl) dL_column_65 ml_L_9 ⟨rfl, Nat.le_refl _⟩ rfl rfl (Nat.le_of_ble_eq_true rfl) (Nat.le_of_ble_eq_true rfl) rfl rfl (Nat.le_of_ble_eq_true rfl) rfl (fun v9 n9 M9 hp9 => ?_)
        obtain ⟨rfl, rfl, rfl⟩ := hp9
        rw [hE4]
        refine jk_aload_n (q := 69) h dL_column_68 rfl rfl ?_
        refine jk_iconst (q := 70) h dL_column_69 rfl ?_
        refine jk_callV (q := 73) h hX (c_X9_count hW ⟨by omega, by omega⟩) mv_X9_count (hE.at 0 rfl) dL_column_70 ml_L_15 ⟨rfl, Nat.le_refl _⟩ rfl rfl (Nat.le_of_ble_eq_true rfl) (Nat.le_of_ble_eq_true rfl) rfl rfl (Nat.le_of_ble_eq_true rfl) rfl (fun v9 n9 M9 hp9 => ?_)
        obtain ⟨r, rfl, rfl, rfl, hq9⟩ := hp9
        obtain rfl := cn_0 hq9
        refine jk_icmp_ne (q := 76) (tgt := 80) h dL_column_73 (by decide) rfl ⟨by omega, by omega⟩ ⟨by omega, by omega⟩ (fun c73 => ?_) (fun c73 => ?_)
        · omega
        · refine jk_iconst (q := 77) h dL_column_76 rfl ?_
          refine jk_goto (q := 80) (tgt := 81) h dL_column_77 (by decide) ?_
          refine jk_istore (q := 83) h dL_column_81 rfl (Nat.le_of_ble_eq_true rfl) rfl rfl ?_
          refine jk_iconst (q := 84) h dL_column_83 rfl ?_
          refine jk_istore (q := 86) h dL_column_84 rfl (Nat.le_of_ble_eq_true rfl) rfl rfl ?_
          have lp86 : ∀ (k9 : Nat) (rows : Int) (most : Int) (k : Int) (hk0 : 0 ≤ k) (hk1 : k ≤ (colA x c).2.2.2.1) (hr : rows = smI (fun j => cmnR x c (j : Int) 1) k) (hrr : 0 ≤ rows ∧ rows ≤ 60 * k) (hm : 0 ≤ most ∧ most ≤ 61) (hm2 : k < (colA x c).2.2.2.1 → cmnR x c k 1 ≤ most) (hk9 : ((colA x c).2.2.2.1 - k).toNat = k9), jJ X 86 [some (.ref (e)), some (jI (c)), some (jI (rows)), some (jI (0)), some (jI (most)), some (jI (1)), some (jI (k))] [] n M 0 0 := by
            intro k9
            induction k9 using Nat.strongRecOn with
            | _ k9 ih86 =>
              intro rows most k hk0 hk1 hr hrr hm hm2 hk9
              refine jk_iload (q := 88) h dL_column_86 rfl rfl ?_
              refine jk_aload_n (q := 89) h dL_column_88 rfl rfl ?_
              refine jk_bipush (q := 91) h dL_column_89 (by decide) rfl ?_
              refine jk_iload_n (q := 92) h dL_column_91 rfl rfl ?_
              refine jk_iadd (q := 93) h dL_column_92 rfl ?_
              refine jk_callV (q := 96) h hX (c_X9_count hW ⟨by omega, by omega⟩) mv_X9_count (hE.at 0 rfl) dL_column_93 ml_L_15 ⟨rfl, Nat.le_refl _⟩ rfl rfl (Nat.le_of_ble_eq_true rfl) (Nat.le_of_ble_eq_true rfl) rfl rfl (Nat.le_of_ble_eq_true rfl) rfl (fun v9 n9 M9 hp9 => ?_)
              obtain ⟨r, rfl, rfl, rfl, hq9⟩ := hp9
              obtain rfl := cn_6 hc hq9
              refine jk_icmp_ge (q := 99) (tgt := 157) h dL_column_96 (by decide) rfl ⟨by omega, by omega⟩ ⟨by omega, by omega⟩ (fun c96 => ?_) (fun c96 => ?_)
              · refine jk_iconst (q := 158) h dL_column_157 rfl ?_
                refine jk_istore (q := 160) h dL_column_158 rfl (Nat.le_of_ble_eq_true rfl) rfl rfl ?_
                have lp160 : ∀ (k9 : Nat) (rows : Int) (before : Int) (b : Int) (hk0 : 0 ≤ b) (hk1 : b ≤ (colA x c).2.2.2.2.2.2.2.2) (hr : rows = smI (fun j => cmnR x c (j : Int) 1) (colA x c).2.2.2.1 + smI (fun j => bktR x c (j : Int) 2) b) (hrr : 0 ≤ rows ∧ rows ≤ 360 + 60 * b) (hm : 0 ≤ before ∧ before ≤ 99) (hm2 : b < (colA x c).2.2.2.2.2.2.2.2 → before ≤ bktR x c b 0) (hk9 : ((colA x c).2.2.2.2.2.2.2.2 - b).toNat = k9), jJ X 160 [some (.ref (e)), some (jI (c)), some (jI (rows)), some (jI (before)), none, some (jI (1)), some (jI (b))] [] n M 0 0 := by
                  intro k9
                  induction k9 using Nat.strongRecOn with
                  | _ k9 ih160 =>
                    intro rows before b hk0 hk1 hr hrr hm hm2 hk9
                    refine jk_iload (q := 162) h dL_column_160 rfl rfl ?_
                    refine jk_aload_n (q := 163) h dL_column_162 rfl rfl ?_
                    refine jk_iconst (q := 164) h dL_column_163 rfl ?_
                    refine jk_iload_n (q := 165) h dL_column_164 rfl rfl ?_
                    refine jk_iadd (q := 166) h dL_column_165 rfl ?_
                    refine jk_callV (q := 169) h hX (c_X9_count hW ⟨by omega, by omega⟩) mv_X9_count (hE.at 0 rfl) dL_column_166 ml_L_15 ⟨rfl, Nat.le_refl _⟩ rfl rfl (Nat.le_of_ble_eq_true rfl) (Nat.le_of_ble_eq_true rfl) rfl rfl (Nat.le_of_ble_eq_true rfl) rfl (fun v9 n9 M9 hp9 => ?_)
                    obtain ⟨r, rfl, rfl, rfl, hq9⟩ := hp9
                    obtain rfl := cn_4 hc hq9
                    refine jk_icmp_ge (q := 172) (tgt := 351) h dL_column_169 (by decide) rfl ⟨by omega, by omega⟩ ⟨by omega, by omega⟩ (fun c169 => ?_) (fun c169 => ?_)
                    · refine jk_iload (q := 353) h dL_column_351 rfl rfl ?_
                      refine jk_if_eq (q := 356) (tgt := 388) h dL_column_353 (by decide) rfl ⟨by omega, by omega⟩ (fun c353 => ?_) (fun c353 => ?_)
                      · omega
                      · have hrN : rows = x.2.2.1.1 := by rw [hr, show b = (colA x c).2.2.2.2.2.2.2.2 by omega]; exact hsum
                        refine jk_iload_n (q := 357) h dL_column_356 rfl rfl ?_
                        refine jk_aload_n (q := 358) h dL_column_357 rfl rfl ?_
                        refine jk_iconst (q := 359) h dL_column_358 rfl ?_
                        refine jk_callV (q := 362) h hX (c_X9_count hW ⟨by omega, by omega⟩) mv_X9_count (hE.at 0 rfl) dL_column_359 ml_L_15 ⟨rfl, Nat.le_refl _⟩ rfl rfl (Nat.le_of_ble_eq_true rfl) (Nat.le_of_ble_eq_true rfl) rfl rfl (Nat.le_of_ble_eq_true rfl) rfl (fun v9 n9 M9 hp9 => ?_)
                        obtain ⟨r, rfl, rfl, rfl, hq9⟩ := hp9
                        obtain rfl := cn_1 hq9
                        refine jk_icmp_ne (q := 365) (tgt := 388) h dL_column_362 (by decide) rfl ⟨by omega, by omega⟩ ⟨by omega, by omega⟩ (fun c362 => ?_) (fun c362 => ?_)
                        · omega
                        · refine jk_aload_n (q := 366) h dL_column_365 rfl rfl ?_
                          refine jk_iload_n (q := 367) h dL_column_366 rfl rfl ?_
                          refine jk_iconst (q := 368) h dL_column_367 rfl ?_
                          refine jk_callV (q := 371) h hX (c_X9_worst hW ⟨by omega, by omega⟩ ⟨by omega, by omega⟩) mv_X9_worst (hE.at 0 rfl) dL_column_368 ml_L_26 ⟨rfl, Nat.le_refl _⟩ rfl rfl (Nat.le_of_ble_eq_true rfl) (Nat.le_of_ble_eq_true rfl) rfl rfl (Nat.le_of_ble_eq_true rfl) rfl (fun v9 n9 M9 hp9 => ?_)
                          obtain ⟨rfl, rfl, rfl⟩ := hp9
                          refine jk_if_lt (q := 374) (tgt := 388) h dL_column_371 (by decide) rfl ⟨by omega, by omega⟩ (fun c371 => ?_) (fun c371 => ?_)
                          · omega
                          · refine jk_aload_n (q := 375) h dL_column_374 rfl rfl ?_
                            refine jk_iload_n (q := 376) h dL_column_375 rfl rfl ?_
                            refine jk_iconst (q := 377) h dL_column_376 rfl ?_
                            refine jk_callV (q := 380) h hX (c_X9_worst hW ⟨by omega, by omega⟩ ⟨by omega, by omega⟩) mv_X9_worst (hE.at 0 rfl) dL_column_377 ml_L_26 ⟨rfl, Nat.le_refl _⟩ rfl rfl (Nat.le_of_ble_eq_true rfl) (Nat.le_of_ble_eq_true rfl) rfl rfl (Nat.le_of_ble_eq_true rfl) rfl (fun v9 n9 M9 hp9 => ?_)
                            obtain ⟨rfl, rfl, rfl⟩ := hp9
                            refine jk_iload_n (q := 381) h dL_column_380 rfl rfl ?_
                            refine jk_icmp_gt (q := 384) (tgt := 388) h dL_column_381 (by decide) rfl ⟨by omega, by omega⟩ ⟨by omega, by omega⟩ (fun c381 => ?_) (fun c381 => ?_)
                            · omega
                            · refine jk_iconst (q := 385) h dL_column_384 rfl ?_
                              refine jk_goto (q := 388) (tgt := 389) h dL_column_385 (by decide) ?_
                              refine jk_istore (q := 391) h dL_column_389 rfl (Nat.le_of_ble_eq_true rfl) rfl rfl ?_
                              refine jk_iload (q := 393) h dL_column_391 rfl rfl ?_
                              refine jk_if_eq (q := 396) (tgt := 420) h dL_column_393 (by decide) rfl ⟨by omega, by omega⟩ (fun c393 => ?_) (fun c393 => ?_)
                              · omega
                              · refine jk_aload_n (q := 397) h dL_column_396 rfl rfl ?_
                                refine jk_iconst (q := 398) h dL_column_397 rfl ?_
                                refine jk_iload_n (q := 399) h dL_column_398 rfl rfl ?_
                                refine jk_iadd (q := 400) h dL_column_399 rfl ?_
                                refine jk_callV (q := 403) h hX (c_X9_count hW ⟨by omega, by omega⟩) mv_X9_count (hE.at 0 rfl) dL_column_400 ml_L_15 ⟨rfl, Nat.le_refl _⟩ rfl rfl (Nat.le_of_ble_eq_true rfl) (Nat.le_of_ble_eq_true rfl) rfl rfl (Nat.le_of_ble_eq_true rfl) rfl (fun v9 n9 M9 hp9 => ?_)
                                obtain ⟨r, rfl, rfl, rfl, hq9⟩ := hp9
                                obtain rfl := cn_4 hc hq9
                                refine jk_if_gt (q := 406) (tgt := 416) h dL_column_403 (by decide) rfl ⟨by omega, by omega⟩ (fun c403 => ?_) (fun c403 => ?_)
                                · refine jk_iconst (q := 417) h dL_column_416 rfl ?_
                                  refine jk_goto (q := 420) (tgt := 421) h dL_column_417 (by decide) ?_
                                  exact jk_zret h hR dL_column_421 (Nat.le_of_ble_eq_true rfl) (Nat.le_of_ble_eq_true rfl) (by first | exact Or.inl rfl | exact Or.inr rfl | omega) (jrd_of rfl)
                                · refine jk_aload_n (q := 407) h dL_column_406 rfl rfl ?_
                                  refine jk_iload_n (q := 408) h dL_column_407 rfl rfl ?_
                                  refine jk_callV (q := 411) h hX (c_X9_height hW ⟨by omega, by omega⟩ hg.1) mv_X9_height (hE.at 0 rfl) dL_column_408 ml_L_30 ⟨rfl, Nat.le_refl _⟩ rfl rfl (Nat.le_of_ble_eq_true rfl) (Nat.le_of_ble_eq_true rfl) rfl rfl (Nat.le_of_ble_eq_true rfl) rfl (fun v9 n9 M9 hp9 => ?_)
                                  obtain ⟨rfl, rfl, rfl⟩ := hp9
                                  rw [cl_ht hc (by omega)]
                                  refine jk_lconst (q := 412) h dL_column_411 rfl ?_
                                  refine jk_lcmp (q := 413) h dL_column_412 (lg_cmp_s _) rfl ?_
                                  refine jk_if_ne (q := 416) (tgt := 420) h dL_column_413 (by decide) rfl ⟨by omega, by omega⟩ (fun c413 => ?_) (fun c413 => ?_)
                                  · omega
                                  · refine jk_iconst (q := 417) h dL_column_416 rfl ?_
                                    refine jk_goto (q := 420) (tgt := 421) h dL_column_417 (by decide) ?_
                                    exact jk_zret h hR dL_column_421 (Nat.le_of_ble_eq_true rfl) (Nat.le_of_ble_eq_true rfl) (by first | exact Or.inl rfl | exact Or.inr rfl | omega) (jrd_of rfl)
                    · refine jk_iload (q := 174) h dL_column_172 rfl rfl ?_
                      refine jk_if_eq (q := 177) (tgt := 351) h dL_column_174 (by decide) rfl ⟨by omega, by omega⟩ (fun c174 => ?_) (fun c174 => ?_)
                      · omega
                      · have hbk := cl_bk hg hx hp hc (k := b) hk0 (by omega)
                        have hb0 := cl_bk hg hx hp hc (k := 0) (by omega) (by omega)
                        refine jk_aload_n (q := 178) h dL_column_177 rfl rfl ?_
                        refine jk_iload_n (q := 179) h dL_column_178 rfl rfl ?_
                        refine jk_iload (q := 181) h dL_column_179 rfl rfl ?_
                        refine jk_iconst (q := 182) h dL_column_181 rfl ?_
                        refine jk_callV (q := 185) h hX (c_X9_bucket hW ⟨by omega, by omega⟩ ⟨by omega, by omega⟩ ⟨by omega, by omega⟩) mv_X9_bucket (hE.at 0 rfl) dL_column_182 ml_L_23 ⟨rfl, Nat.le_refl _⟩ rfl rfl (Nat.le_of_ble_eq_true rfl) (Nat.le_of_ble_eq_true rfl) rfl rfl (Nat.le_of_ble_eq_true rfl) rfl (fun v9 n9 M9 hp9 => ?_)
                        obtain ⟨rfl, rfl, rfl⟩ := hp9
                        refine jk_iload_n (q := 186) h dL_column_185 rfl rfl ?_
                        refine jk_icmp_lt (q := 189) (tgt := 272) h dL_column_186 (by decide) rfl ⟨by omega, by omega⟩ ⟨by omega, by omega⟩ (fun c186 => ?_) (fun c186 => ?_)
                        · omega
                        · refine jk_aload_n (q := 190) h dL_column_189 rfl rfl ?_
                          refine jk_iload_n (q := 191) h dL_column_190 rfl rfl ?_
                          refine jk_iload (q := 193) h dL_column_191 rfl rfl ?_
                          refine jk_iconst (q := 194) h dL_column_193 rfl ?_
                          refine jk_callV (q := 197) h hX (c_X9_bucket hW ⟨by omega, by omega⟩ ⟨by omega, by omega⟩ ⟨by omega, by omega⟩) mv_X9_bucket (hE.at 0 rfl) dL_column_194 ml_L_23 ⟨rfl, Nat.le_refl _⟩ rfl rfl (Nat.le_of_ble_eq_true rfl) (Nat.le_of_ble_eq_true rfl) rfl rfl (Nat.le_of_ble_eq_true rfl) rfl (fun v9 n9 M9 hp9 => ?_)
                          obtain ⟨rfl, rfl, rfl⟩ := hp9
                          refine jk_aload_n (q := 198) h dL_column_197 rfl rfl ?_
                          refine jk_iload_n (q := 199) h dL_column_198 rfl rfl ?_
                          refine jk_iload (q := 201) h dL_column_199 rfl rfl ?_
                          refine jk_iconst (q := 202) h dL_column_201 rfl ?_
                          refine jk_callV (q := 205) h hX (c_X9_bucket hW ⟨by omega, by omega⟩ ⟨by omega, by omega⟩ ⟨by omega, by omega⟩) mv_X9_bucket (hE.at 0 rfl) dL_column_202 ml_L_23 ⟨rfl, Nat.le_refl _⟩ rfl rfl (Nat.le_of_ble_eq_true rfl) (Nat.le_of_ble_eq_true rfl) rfl rfl (Nat.le_of_ble_eq_true rfl) rfl (fun v9 n9 M9 hp9 => ?_)
                          obtain ⟨rfl, rfl, rfl⟩ := hp9
                          refine jk_icmp_lt (q := 208) (tgt := 272) h dL_column_205 (by decide) rfl ⟨by omega, by omega⟩ ⟨by omega, by omega⟩ (fun c205 => ?_) (fun c205 => ?_)
                          · omega
                          · refine jk_aload_n (q := 209) h dL_column_208 rfl rfl ?_
                            refine jk_iload_n (q := 210) h dL_column_209 rfl rfl ?_
                            refine jk_iload (q := 212) h dL_column_210 rfl rfl ?_
                            refine jk_iconst (q := 213) h dL_column_212 rfl ?_
                            refine jk_callV (q := 216) h hX (c_X9_bucket hW ⟨by omega, by omega⟩ ⟨by omega, by omega⟩ ⟨by omega, by omega⟩) mv_X9_bucket (hE.at 0 rfl) dL_column_213 ml_L_23 ⟨rfl, Nat.le_refl _⟩ rfl rfl (Nat.le_of_ble_eq_true rfl) (Nat.le_of_ble_eq_true rfl) rfl rfl (Nat.le_of_ble_eq_true rfl) rfl (fun v9 n9 M9 hp9 => ?_)
                            obtain ⟨rfl, rfl, rfl⟩ := hp9
                            refine jk_if_le (q := 219) (tgt := 272) h dL_column_216 (by decide) rfl ⟨by omega, by omega⟩ (fun c216 => ?_) (fun c216 => ?_)
                            · omega
                            · refine jk_aload_n (q := 220) h dL_column_219 rfl rfl ?_
                              refine jk_iload_n (q := 221) h dL_column_220 rfl rfl ?_
                              refine jk_iload (q := 223) h dL_column_221 rfl rfl ?_
                              refine jk_iconst (q := 224) h dL_column_223 rfl ?_
                              refine jk_callV (q := 227) h hX (c_X9_bucket hW ⟨by omega, by omega⟩ ⟨by omega, by omega⟩ ⟨by omega, by omega⟩) mv_X9_bucket (hE.at 0 rfl) dL_column_224 ml_L_23 ⟨rfl, Nat.le_refl _⟩ rfl rfl (Nat.le_of_ble_eq_true rfl) (Nat.le_of_ble_eq_true rfl) rfl rfl (Nat.le_of_ble_eq_true rfl) rfl (fun v9 n9 M9 hp9 => ?_)
                              obtain ⟨rfl, rfl, rfl⟩ := hp9
                              refine jk_aload_n (q := 228) h dL_column_227 rfl rfl ?_
                              refine jk_iload_n (q := 229) h dL_column_228 rfl rfl ?_
                              refine jk_iload (q := 231) h dL_column_229 rfl rfl ?_
                              refine jk_iconst (q := 232) h dL_column_231 rfl ?_
                              refine jk_callV (q := 235) h hX (c_X9_bucket hW ⟨by omega, by omega⟩ ⟨by omega, by omega⟩ ⟨by omega, by omega⟩) mv_X9_bucket (hE.at 0 rfl) dL_column_232 ml_L_23 ⟨rfl, Nat.le_refl _⟩ rfl rfl (Nat.le_of_ble_eq_true rfl) (Nat.le_of_ble_eq_true rfl) rfl rfl (Nat.le_of_ble_eq_true rfl) rfl (fun v9 n9 M9 hp9 => ?_)
                              obtain ⟨rfl, rfl, rfl⟩ := hp9
                              refine jk_icmp_gt (q := 238) (tgt := 272) h dL_column_235 (by decide) rfl ⟨by omega, by omega⟩ ⟨by omega, by omega⟩ (fun c235 => ?_) (fun c235 => ?_)
                              · omega
                              · refine jk_aload_n (q := 239) h dL_column_238 rfl rfl ?_
                                refine jk_iload_n (q := 240) h dL_column_239 rfl rfl ?_
                                refine jk_iload (q := 242) h dL_column_240 rfl rfl ?_
                                refine jk_iconst (q := 243) h dL_column_242 rfl ?_
                                refine jk_callV (q := 246) h hX (c_X9_bucket hW ⟨by omega, by omega⟩ ⟨by omega, by omega⟩ ⟨by omega, by omega⟩) mv_X9_bucket (hE.at 0 rfl) dL_column_243 ml_L_23 ⟨rfl, Nat.le_refl _⟩ rfl rfl (Nat.le_of_ble_eq_true rfl) (Nat.le_of_ble_eq_true rfl) rfl rfl (Nat.le_of_ble_eq_true rfl) rfl (fun v9 n9 M9 hp9 => ?_)
                                obtain ⟨rfl, rfl, rfl⟩ := hp9
                                refine jk_aload_n (q := 247) h dL_column_246 rfl rfl ?_
                                refine jk_iload_n (q := 248) h dL_column_247 rfl rfl ?_
                                refine jk_iload (q := 250) h dL_column_248 rfl rfl ?_
                                refine jk_iconst (q := 251) h dL_column_250 rfl ?_
                                refine jk_callV (q := 254) h hX (c_X9_bucket hW ⟨by omega, by omega⟩ ⟨by omega, by omega⟩ ⟨by omega, by omega⟩) mv_X9_bucket (hE.at 0 rfl) dL_column_251 ml_L_23 ⟨rfl, Nat.le_refl _⟩ rfl rfl (Nat.le_of_ble_eq_true rfl) (Nat.le_of_ble_eq_true rfl) rfl rfl (Nat.le_of_ble_eq_true rfl) rfl (fun v9 n9 M9 hp9 => ?_)
                                obtain ⟨rfl, rfl, rfl⟩ := hp9
                                refine jk_aload_n (q := 255) h dL_column_254 rfl rfl ?_
                                refine jk_iload_n (q := 256) h dL_column_255 rfl rfl ?_
                                refine jk_iload (q := 258) h dL_column_256 rfl rfl ?_
                                refine jk_iconst (q := 259) h dL_column_258 rfl ?_
                                refine jk_callV (q := 262) h hX (c_X9_bucket hW ⟨by omega, by omega⟩ ⟨by omega, by omega⟩ ⟨by omega, by omega⟩) mv_X9_bucket (hE.at 0 rfl) dL_column_259 ml_L_23 ⟨rfl, Nat.le_refl _⟩ rfl rfl (Nat.le_of_ble_eq_true rfl) (Nat.le_of_ble_eq_true rfl) rfl rfl (Nat.le_of_ble_eq_true rfl) rfl (fun v9 n9 M9 hp9 => ?_)
                                obtain ⟨rfl, rfl, rfl⟩ := hp9
                                refine jk_isub (q := 263) h dL_column_262 rfl ?_
                                refine jk_iconst (q := 264) h dL_column_263 rfl ?_
                                refine jk_iadd (q := 265) h dL_column_264 rfl ?_
                                refine jk_icmp_gt (q := 268) (tgt := 272) h dL_column_265 (by decide) rfl ⟨by omega, by omega⟩ ⟨by omega, by omega⟩ (fun c265 => ?_) (fun c265 => ?_)
                                · omega
                                · refine jk_iconst (q := 269) h dL_column_268 rfl ?_
                                  refine jk_goto (q := 272) (tgt := 273) h dL_column_269 (by decide) ?_
                                  refine jk_istore (q := 275) h dL_column_273 rfl (Nat.le_of_ble_eq_true rfl) rfl rfl ?_
                                  refine jk_iload (q := 277) h dL_column_275 rfl rfl ?_
                                  refine jk_if_eq (q := 280) (tgt := 322) h dL_column_277 (by decide) rfl ⟨by omega, by omega⟩ (fun c277 => ?_) (fun c277 => ?_)
                                  · omega
                                  · refine jk_aload_n (q := 281) h dL_column_280 rfl rfl ?_
                                    refine jk_iload_n (q := 282) h dL_column_281 rfl rfl ?_
                                    refine jk_iconst (q := 283) h dL_column_282 rfl ?_
                                    refine jk_iconst (q := 284) h dL_column_283 rfl ?_
                                    refine jk_callV (q := 287) h hX (c_X9_bucket hW ⟨by omega, by omega⟩ ⟨by omega, by omega⟩ ⟨by omega, by omega⟩) mv_X9_bucket (hE.at 0 rfl) dL_column_284 ml_L_23 ⟨rfl, Nat.le_refl _⟩ rfl rfl (Nat.le_of_ble_eq_true rfl) (Nat.le_of_ble_eq_true rfl) rfl rfl (Nat.le_of_ble_eq_true rfl) rfl (fun v9 n9 M9 hp9 => ?_)
                                    obtain ⟨rfl, rfl, rfl⟩ := hp9
                                    refine jk_aload_n (q := 288) h dL_column_287 rfl rfl ?_
                                    refine jk_iload_n (q := 289) h dL_column_288 rfl rfl ?_
                                    refine jk_iload (q := 291) h dL_column_289 rfl rfl ?_
                                    refine jk_iconst (q := 292) h dL_column_291 rfl ?_
                                    refine jk_callV (q := 295) h hX (c_X9_bucket hW ⟨by omega, by omega⟩ ⟨by omega, by omega⟩ ⟨by omega, by omega⟩) mv_X9_bucket (hE.at 0 rfl) dL_column_292 ml_L_23 ⟨rfl, Nat.le_refl _⟩ rfl rfl (Nat.le_of_ble_eq_true rfl) (Nat.le_of_ble_eq_true rfl) rfl rfl (Nat.le_of_ble_eq_true rfl) rfl (fun v9 n9 M9 hp9 => ?_)
                                    obtain ⟨rfl, rfl, rfl⟩ := hp9
                                    refine jk_icmp_eq (q := 298) (tgt := 318) h dL_column_295 (by decide) rfl ⟨by omega, by omega⟩ ⟨by omega, by omega⟩ (fun c295 => ?_) (fun c295 => ?_)
                                    · refine jk_iconst (q := 319) h dL_column_318 rfl ?_
                                      refine jk_goto (q := 322) (tgt := 323) h dL_column_319 (by decide) ?_
                                      refine jk_istore (q := 325) h dL_column_323 rfl (Nat.le_of_ble_eq_true rfl) rfl rfl ?_
                                      refine jk_aload_n (q := 326) h dL_column_325 rfl rfl ?_
                                      refine jk_iload_n (q := 327) h dL_column_326 rfl rfl ?_
                                      refine jk_iload (q := 329) h dL_column_327 rfl rfl ?_
                                      refine jk_iconst (q := 330) h dL_column_329 rfl ?_
                                      refine jk_callV (q := 333) h hX (c_X9_bucket hW ⟨by omega, by omega⟩ ⟨by omega, by omega⟩ ⟨by omega, by omega⟩) mv_X9_bucket (hE.at 0 rfl) dL_column_330 ml_L_23 ⟨rfl, Nat.le_refl _⟩ rfl rfl (Nat.le_of_ble_eq_true rfl) (Nat.le_of_ble_eq_true rfl) rfl rfl (Nat.le_of_ble_eq_true rfl) rfl (fun v9 n9 M9 hp9 => ?_)
                                      obtain ⟨rfl, rfl, rfl⟩ := hp9
                                      refine jk_istore_n (q := 334) h dL_column_333 rfl (Nat.le_of_ble_eq_true rfl) rfl rfl ?_
                                      refine jk_iload_n (q := 335) h dL_column_334 rfl rfl ?_
                                      refine jk_aload_n (q := 336) h dL_column_335 rfl rfl ?_
                                      refine jk_iload_n (q := 337) h dL_column_336 rfl rfl ?_
                                      refine jk_iload (q := 339) h dL_column_337 rfl rfl ?_
                                      refine jk_iconst (q := 340) h dL_column_339 rfl ?_
                                      refine jk_callV (q := 343) h hX (c_X9_bucket hW ⟨by omega, by omega⟩ ⟨by omega, by omega⟩ ⟨by omega, by omega⟩) mv_X9_bucket (hE.at 0 rfl) dL_column_340 ml_L_23 ⟨rfl, Nat.le_refl _⟩ rfl rfl (Nat.le_of_ble_eq_true rfl) (Nat.le_of_ble_eq_true rfl) rfl rfl (Nat.le_of_ble_eq_true rfl) rfl (fun v9 n9 M9 hp9 => ?_)
                                      obtain ⟨rfl, rfl, rfl⟩ := hp9
                                      refine jk_iadd (q := 344) h dL_column_343 rfl ?_
                                      refine jk_istore_n (q := 345) h dL_column_344 rfl (Nat.le_of_ble_eq_true rfl) rfl rfl ?_
                                      refine jk_iinc (q := 348) h dL_column_345 rfl rfl rfl rfl ?_
                                      refine jk_goto (q := 351) (tgt := 160) h dL_column_348 (by decide) ?_
                                      exact jk_weak (jwk_s rfl (jwk_s rfl (jwk_s rfl (jwk_s rfl (jwk_n (jwk_s rfl (jwk_s rfl jwk_0))))))) (ih160 _ (by omega) _ _ _ (by omega) (by omega) (by rw [smI_s hk0, Int.toNat_of_nonneg hk0]; omega) (by omega) (by omega) hbk.2.2.2.2 rfl)
                                    · refine jk_aload_n (q := 299) h dL_column_298 rfl rfl ?_
                                      refine jk_iload_n (q := 300) h dL_column_299 rfl rfl ?_
                                      refine jk_iconst (q := 301) h dL_column_300 rfl ?_
                                      refine jk_iconst (q := 302) h dL_column_301 rfl ?_
                                      refine jk_callV (q := 305) h hX (c_X9_bucket hW ⟨by omega, by omega⟩ ⟨by omega, by omega⟩ ⟨by omega, by omega⟩) mv_X9_bucket (hE.at 0 rfl) dL_column_302 ml_L_23 ⟨rfl, Nat.le_refl _⟩ rfl rfl (Nat.le_of_ble_eq_true rfl) (Nat.le_of_ble_eq_true rfl) rfl rfl (Nat.le_of_ble_eq_true rfl) rfl (fun v9 n9 M9 hp9 => ?_)
                                      obtain ⟨rfl, rfl, rfl⟩ := hp9
                                      refine jk_aload_n (q := 306) h dL_column_305 rfl rfl ?_
                                      refine jk_iload_n (q := 307) h dL_column_306 rfl rfl ?_
                                      refine jk_iload (q := 309) h dL_column_307 rfl rfl ?_
                                      refine jk_iconst (q := 310) h dL_column_309 rfl ?_
                                      refine jk_callV (q := 313) h hX (c_X9_bucket hW ⟨by omega, by omega⟩ ⟨by omega, by omega⟩ ⟨by omega, by omega⟩) mv_X9_bucket (hE.at 0 rfl) dL_column_310 ml_L_23 ⟨rfl, Nat.le_refl _⟩ rfl rfl (Nat.le_of_ble_eq_true rfl) (Nat.le_of_ble_eq_true rfl) rfl rfl (Nat.le_of_ble_eq_true rfl) rfl (fun v9 n9 M9 hp9 => ?_)
                                      obtain ⟨rfl, rfl, rfl⟩ := hp9
                                      refine jk_iconst (q := 314) h dL_column_313 rfl ?_
                                      refine jk_iadd (q := 315) h dL_column_314 rfl ?_
                                      refine jk_icmp_ne (q := 318) (tgt := 322) h dL_column_315 (by decide) rfl ⟨by omega, by omega⟩ ⟨by omega, by omega⟩ (fun c315 => ?_) (fun c315 => ?_)
                                      · omega
                                      · refine jk_iconst (q := 319) h dL_column_318 rfl ?_
                                        refine jk_goto (q := 322) (tgt := 323) h dL_column_319 (by decide) ?_
                                        refine jk_istore (q := 325) h dL_column_323 rfl (Nat.le_of_ble_eq_true rfl) rfl rfl ?_
                                        refine jk_aload_n (q := 326) h dL_column_325 rfl rfl ?_
                                        refine jk_iload_n (q := 327) h dL_column_326 rfl rfl ?_
                                        refine jk_iload (q := 329) h dL_column_327 rfl rfl ?_
                                        refine jk_iconst (q := 330) h dL_column_329 rfl ?_
                                        refine jk_callV (q := 333) h hX (c_X9_bucket hW ⟨by omega, by omega⟩ ⟨by omega, by omega⟩ ⟨by omega, by omega⟩) mv_X9_bucket (hE.at 0 rfl) dL_column_330 ml_L_23 ⟨rfl, Nat.le_refl _⟩ rfl rfl (Nat.le_of_ble_eq_true rfl) (Nat.le_of_ble_eq_true rfl) rfl rfl (Nat.le_of_ble_eq_true rfl) rfl (fun v9 n9 M9 hp9 => ?_)
                                        obtain ⟨rfl, rfl, rfl⟩ := hp9
                                        refine jk_istore_n (q := 334) h dL_column_333 rfl (Nat.le_of_ble_eq_true rfl) rfl rfl ?_
                                        refine jk_iload_n (q := 335) h dL_column_334 rfl rfl ?_
                                        refine jk_aload_n (q := 336) h dL_column_335 rfl rfl ?_
                                        refine jk_iload_n (q := 337) h dL_column_336 rfl rfl ?_
                                        refine jk_iload (q := 339) h dL_column_337 rfl rfl ?_
                                        refine jk_iconst (q := 340) h dL_column_339 rfl ?_
                                        refine jk_callV (q := 343) h hX (c_X9_bucket hW ⟨by omega, by omega⟩ ⟨by omega, by omega⟩ ⟨by omega, by omega⟩) mv_X9_bucket (hE.at 0 rfl) dL_column_340 ml_L_23 ⟨rfl, Nat.le_refl _⟩ rfl rfl (Nat.le_of_ble_eq_true rfl) (Nat.le_of_ble_eq_true rfl) rfl rfl (Nat.le_of_ble_eq_true rfl) rfl (fun v9 n9 M9 hp9 => ?_)
                                        obtain ⟨rfl, rfl, rfl⟩ := hp9
                                        refine jk_iadd (q := 344) h dL_column_343 rfl ?_
                                        refine jk_istore_n (q := 345) h dL_column_344 rfl (Nat.le_of_ble_eq_true rfl) rfl rfl ?_
                                        refine jk_iinc (q := 348) h dL_column_345 rfl rfl rfl rfl ?_
                                        refine jk_goto (q := 351) (tgt := 160) h dL_column_348 (by decide) ?_
                                        exact jk_weak (jwk_s rfl (jwk_s rfl (jwk_s rfl (jwk_s rfl (jwk_n (jwk_s rfl (jwk_s rfl jwk_0))))))) (ih160 _ (by omega) _ _ _ (by omega) (by omega) (by rw [smI_s hk0, Int.toNat_of_nonneg hk0]; omega) (by omega) (by omega) hbk.2.2.2.2 rfl)
                exact jk_weak (jwk_s rfl (jwk_s rfl (jwk_s rfl (jwk_s rfl (jwk_n (jwk_s rfl (jwk_s rfl jwk_0))))))) (lp160 _ rows 0 0 (by omega) (by omega) (by rw [hr, show k = (colA x c).2.2.2.1 by omega, smI_0]; omega) (by omega) (by omega) (fun hz => (cl_bk hg hx hp hc (k := 0) (by omega) hz).1.1) rfl)
              · refine jk_iload (q := 101) h dL_column_99 rfl rfl ?_
                refine jk_if_eq (q := 104) (tgt := 157) h dL_column_101 (by decide) rfl ⟨by omega, by omega⟩ (fun c101 => ?_) (fun c101 => ?_)
                · omega
                · have hkc := cl_cm hg hx hp hc (k := k) hk0 (by omega)
                  refine jk_aload_n (q := 105) h dL_column_104 rfl rfl ?_
                  refine jk_iload_n (q := 106) h dL_column_105 rfl rfl ?_
                  refine jk_iload (q := 108) h dL_column_106 rfl rfl ?_
                  refine jk_iconst (q := 109) h dL_column_108 rfl ?_
                  refine jk_callV (q := 112) h hX (c_X9_common hW ⟨by omega, by omega⟩ ⟨by omega, by omega⟩ ⟨by omega, by omega⟩) mv_X9_common (hE.at 0 rfl) dL_column_109 ml_L_19 ⟨rfl, Nat.le_refl _⟩ rfl rfl (Nat.le_of_ble_eq_true rfl) (Nat.le_of_ble_eq_true rfl) rfl rfl (Nat.le_of_ble_eq_true rfl) rfl (fun v9 n9 M9 hp9 => ?_)
                  obtain ⟨rfl, rfl, rfl⟩ := hp9
                  refine jk_iconst (q := 113) h dL_column_112 rfl ?_
                  refine jk_icmp_lt (q := 116) (tgt := 133) h dL_column_113 (by decide) rfl ⟨by omega, by omega⟩ ⟨by omega, by omega⟩ (fun c113 => ?_) (fun c113 => ?_)
                  · omega
                  · refine jk_aload_n (q := 117) h dL_column_116 rfl rfl ?_
                    refine jk_iload_n (q := 118) h dL_column_117 rfl rfl ?_
                    refine jk_iload (q := 120) h dL_column_118 rfl rfl ?_
                    refine jk_iconst (q := 121) h dL_column_120 rfl ?_
                    refine jk_callV (q := 124) h hX (c_X9_common hW ⟨by omega, by omega⟩ ⟨by omega, by omega⟩ ⟨by omega, by omega⟩) mv_X9_common (hE.at 0 rfl) dL_column_121 ml_L_19 ⟨rfl, Nat.le_refl _⟩ rfl rfl (Nat.le_of_ble_eq_true rfl) (Nat.le_of_ble_eq_true rfl) rfl rfl (Nat.le_of_ble_eq_true rfl) rfl (fun v9 n9 M9 hp9 => ?_)
                    obtain ⟨rfl, rfl, rfl⟩ := hp9
                    refine jk_iload (q := 126) h dL_column_124 rfl rfl ?_
                    refine jk_icmp_gt (q := 129) (tgt := 133) h dL_column_126 (by decide) rfl ⟨by omega, by omega⟩ ⟨by omega, by omega⟩ (fun c126 => ?_) (fun c126 => ?_)
                    · omega
                    · refine jk_iconst (q := 130) h dL_column_129 rfl ?_
                      refine jk_goto (q := 133) (tgt := 134) h dL_column_130 (by decide) ?_
                      refine jk_istore (q := 136) h dL_column_134 rfl (Nat.le_of_ble_eq_true rfl) rfl rfl ?_
                      refine jk_aload_n (q := 137) h dL_column_136 rfl rfl ?_
                      refine jk_iload_n (q := 138) h dL_column_137 rfl rfl ?_
                      refine jk_iload (q := 140) h dL_column_138 rfl rfl ?_
                      refine jk_iconst (q := 141) h dL_column_140 rfl ?_
                      refine jk_callV (q := 144) h hX (c_X9_common hW ⟨by omega, by omega⟩ ⟨by omega, by omega⟩ ⟨by omega, by omega⟩) mv_X9_common (hE.at 0 rfl) dL_column_141 ml_L_19 ⟨rfl, Nat.le_refl _⟩ rfl rfl (Nat.le_of_ble_eq_true rfl) (Nat.le_of_ble_eq_true rfl) rfl rfl (Nat.le_of_ble_eq_true rfl) rfl (fun v9 n9 M9 hp9 => ?_)
                      obtain ⟨rfl, rfl, rfl⟩ := hp9
                      refine jk_istore (q := 146) h dL_column_144 rfl (Nat.le_of_ble_eq_true rfl) rfl rfl ?_
                      refine jk_iload_n (q := 147) h dL_column_146 rfl rfl ?_
                      refine jk_iload (q := 149) h dL_column_147 rfl rfl ?_
                      refine jk_iadd (q := 150) h dL_column_149 rfl ?_
                      refine jk_istore_n (q := 151) h dL_column_150 rfl (Nat.le_of_ble_eq_true rfl) rfl rfl ?_
                      refine jk_iinc (q := 154) h dL_column_151 rfl rfl rfl rfl ?_
                      refine jk_goto (q := 157) (tgt := 86) h dL_column_154 (by decide) ?_
                      exact jk_weak (jwk_s rfl (jwk_s rfl (jwk_s rfl (jwk_s rfl (jwk_s rfl (jwk_s rfl (jwk_s rfl jwk_0))))))) (ih86 _ (by omega) _ _ _ (by omega) (by omega) (smI_t hk0 hr (by show cmnR x c ((k.toNat : Nat) : Int) 1 = _; rw [Int.toNat_of_nonneg hk0])) (by omega) (by omega) hkc.2 rfl)
          exact jk_weak (jwk_s rfl (jwk_s rfl (jwk_s rfl (jwk_s rfl (jwk_s rfl (jwk_s rfl (jwk_s rfl jwk_0))))))) (lp86 _ 0 61 0 (by omega) (by omega) (smI_0 _).symm (by omega) (by omega) (fun hz => by have := (cl_cm hg hx hp hc (k := 0) (by omega) hz).1; omega) rfl)
