theorem ccI_b {had cv cr : Nat → Int} {i nr x y : Int} (hi : 0 ≤ i) (h : ccI had (i + 1) nr (jfup cv i.toNat x) (jfup cr i.toNat y)) (hh : jrF had 0 60) : 0 ≤ y ∧ y ≤ 60 := by
  obtain ⟨v, -, -, -, h4⟩ := h.1 i.toNat (by omega)
  rw [jfup_s] at h4
  have := hh v
  omega
theorem fhS_le {all bn b : Int} (h0 : 0 ≤ all) (h1 : all ≤ 60) (hb : 0 < bn) : 0 ≤ fhS all bn b ∧ fhS all bn b ≤ 61 := by
  have h2 := jdivb h0 h1 hb
  unfold fhS
  split <;> omega
theorem lfS_0 {had cv : Nat → Int} {cn : Int} (h : jrF had 0 60) (k : Nat) : 0 ≤ lfS had cv cn k := by
  unfold lfS
  have := h k
  split <;> omega
theorem sm_step (f : Nat → Int) (v : Nat) : sm f (v + 1) = sm f v + f v := rfl

set_option maxHeartbeats 4000000 in
set_option maxRecDepth 100000 in
theorem c_X2_countValues {l : Launch} {D : va_G} {b0 : Nat} {n : Nat} {M : jM} {c : Nat} {had cv cr : Nat → Int} {cn : Int} {lo hi br un : Nat → Int} {bn : Int} (hC : jPic M c (cfL c had cv cr cn lo hi br un bn)) {t : Nat} {y : TT} (hT : jPic M t (tbP t y)) (hy : tbQ y) (hd : c + 8 ≤ t ∨ t + 3 ≤ c) {q : Int} (hq : q = 0 ∨ q = 1) : jCtr l D b0 yX2_countValues cX2_countValues 5 none 1 0 0 [.ref c, .ref t, jI q] n M (fun v n2 M2 => none = v ∧ n = n2 ∧ jPic M2 c (cfL c (hcS (colT y q) y.2.2) cv cr cn lo hi br un bn) ∧ jout M M2 c 8) := by
  refine jctr (lv := [some (.ref c), some (.ref t), some (jI q), none, none]) RX2 "countValues" rfl rfl (by decide) (Nat.le_of_ble_eq_true rfl) rfl ?_
  intro X h hR hX
  have ho := jout.rf M c 8
  obtain ⟨hya, hyb, hys⟩ := id hy
  refine jk_iconst (q := 1) h dX2_countValues_0 rfl ?_
  refine jk_istore_n (q := 2) h dX2_countValues_1 rfl (Nat.le_of_ble_eq_true rfl) rfl rfl ?_
  have lp2 : ∀ (k9 : Nat) (i : Int) (M9 : jM) (hi9 : 0 ≤ i) (hi2 : i ≤ 100) (hC : jPic M9 c (cfL c (jmix jz had i) cv cr cn lo hi br un bn)) (hT : jPic M9 t (tbP t y)) (ho : jout M M9 c 8) (hk9 : (100 - i).toNat = k9), jJ X 2 [some (.ref (c)), some (.ref (t)), some (jI (q)), some (jI (i)), none] [] n M9 0 0 := by
    intro k9
    induction k9 using Nat.strongRecOn with
    | _ k9 ih2 =>
      intro i M9 hi9 hi2 hC hT ho hk9
      refine jk_iload_n (q := 3) h dX2_countValues_2 rfl rfl ?_
      refine jk_bipush (q := 5) h dX2_countValues_3 (by decide) rfl ?_
      refine jk_icmp_ge (q := 8) (tgt := 21) h dX2_countValues_5 (by decide) rfl ⟨by omega, by omega⟩ ⟨by omega, by omega⟩ (fun c5 => ?_) (fun c5 => ?_)
      · refine  jk_ext (G := fun k => jI (jz k)) (hC.at 1 rfl) (fun k hk => ?_) (fun M9b hs9 => ?_)
        · show jI (jmix jz had i k) = jI 0
          simp only [jmix]
          rw [if_pos (by omega)]
        have hC := hC.put (i := 1) hs9 rfl
        have hT := hT.other hs9 3 rfl (by omega)
        have ho := ho.st (i := 1) hs9 (by omega)
        refine jk_iconst (q := 22) h dX2_countValues_21 rfl ?_
        refine jk_istore_n (q := 23) h dX2_countValues_22 rfl (Nat.le_of_ble_eq_true rfl) rfl rfl ?_
        have lp23 : ∀ (k9 : Nat) (i : Int) (M9 : jM) (hi9 : 0 ≤ i) (hi2 : i ≤ y.2.2) (hC : jPic M9 c (cfL c (hcS (colT y q) i) cv cr cn lo hi br un bn)) (hT : jPic M9 t (tbP t y)) (ho : jout M M9 c 8) (hk9 : (y.2.2 - i).toNat = k9), jJ X 23 [some (.ref (c)), some (.ref (t)), some (jI (q)), some (jI (i)), none] [] n M9 0 0 := by
          intro k9
          induction k9 using Nat.strongRecOn with
          | _ k9 ih23 =>
            intro i M9 hi9 hi2 hC hT ho hk9
            refine jk_iload_n (q := 24) h dX2_countValues_23 rfl rfl ?_
            refine jk_aload_n (q := 25) h dX2_countValues_24 rfl rfl ?_
            refine jk_getN (q := 28) h fg_X2_41 dX2_countValues_25 (hT.at 0 rfl) rfl rfl ?_
            refine jk_icmp_ge (q := 31) (tgt := 68) h dX2_countValues_28 (by decide) rfl ⟨by omega, by omega⟩ ⟨by omega, by omega⟩ (fun c28 => ?_) (fun c28 => ?_)
            · have hi3 : i = y.2.2 := by omega
              subst hi3
              exact jk_vret h hR dX2_countValues_68 (Nat.le_of_ble_eq_true rfl) (Nat.le_of_ble_eq_true rfl) ⟨rfl, rfl, hC, ho⟩
            · refine jk_aload_n (q := 32) h dX2_countValues_31 rfl rfl ?_
              refine jk_iload_n (q := 33) h dX2_countValues_32 rfl rfl ?_
              refine jk_iload_n (q := 34) h dX2_countValues_33 rfl rfl ?_
              refine jk_callV (q := 37) h hX (c_X8_value hT ⟨by omega, by omega⟩ ⟨by omega, by omega⟩ ⟨by omega, by omega⟩) mv_X8_value (hT.at 0 rfl) dX2_countValues_34 ml_X2_51 ⟨rfl, Nat.le_refl _⟩ rfl rfl (Nat.le_of_ble_eq_true rfl) (Nat.le_of_ble_eq_true rfl) rfl rfl (Nat.le_of_ble_eq_true rfl) rfl (fun v9 n9 M9 hp9 => ?_)
              obtain ⟨rfl, rfl, rfl⟩ := hp9
              refine jk_name (fun v hv => ?_)
              have hv2 : v = colT y q i.toNat := by
                rw [hv, if_pos (by omega)]
                unfold colT
                split <;> rfl
              have hv3 := colT_F (q := q) hy i.toNat
              rw [← hv2] at hv3
              refine jk_istore (q := 39) h dX2_countValues_37 rfl (Nat.le_of_ble_eq_true rfl) rfl rfl ?_
              refine jk_iload (q := 41) h dX2_countValues_39 rfl rfl ?_
              refine jk_if_lt (q := 44) (tgt := 62) h dX2_countValues_41 (by decide) rfl ⟨by omega, by omega⟩ (fun c41 => ?_) (fun c41 => ?_)
              · omega
              · refine jk_iload (q := 46) h dX2_countValues_44 rfl rfl ?_
                refine jk_bipush (q := 48) h dX2_countValues_46 (by decide) rfl ?_
                refine jk_icmp_ge (q := 51) (tgt := 62) h dX2_countValues_48 (by decide) rfl ⟨by omega, by omega⟩ ⟨by omega, by omega⟩ (fun c48 => ?_) (fun c48 => ?_)
                · omega
                · refine jk_aload_n (q := 52) h dX2_countValues_51 rfl rfl ?_
                  refine jk_get (q := 55) h fg_X2_9 dX2_countValues_52 (hC.at 0 rfl) rfl rfl ?_
                  refine jk_iload (q := 57) h dX2_countValues_55 rfl rfl ?_
                  refine jk_dup2 (q := 58) h dX2_countValues_57 rfl rfl rfl ?_
                  refine jk_ialdI (q := 59) h dX2_countValues_58 (hC.at 1 rfl) (by omega) (by omega) rfl rfl ?_
                  refine jk_iconst (q := 60) h dX2_countValues_59 rfl ?_
                  refine jk_iadd (q := 61) h dX2_countValues_60 rfl ?_
                  refine jk_iast (q := 62) h dX2_countValues_61 (hC.at 1 rfl) (by omega) (by omega) rfl rfl (fun M_1 s_1 => ?_)
                  have hC := hC.put (i := 1) s_1 rfl
                  have hT := hT.other s_1 3 rfl (by omega)
                  have ho := ho.st (i := 1) s_1 (by omega)
                  refine jk_iinc (q := 65) h dX2_countValues_62 rfl rfl rfl rfl ?_
                  refine jk_goto (q := 68) (tgt := 23) h dX2_countValues_65 (by decide) ?_
                  exact jk_weak (jwk_s rfl (jwk_s rfl (jwk_s rfl (jwk_s rfl (jwk_n jwk_0))))) (ih23 _ (by omega) _ _ (by omega) (by omega) (by rw [← hcS_up hi9 hv2.symm (by omega)]; exact hC) hT ho rfl)
        exact jk_weak (jwk_s rfl (jwk_s rfl (jwk_s rfl (jwk_s rfl (jwk_n jwk_0))))) (lp23 _ _ _ (by omega) (by omega) hC hT ho rfl)
      · refine jk_aload_n (q := 9) h dX2_countValues_8 rfl rfl ?_
        refine jk_get (q := 12) h fg_X2_9 dX2_countValues_9 (hC.at 0 rfl) rfl rfl ?_
        refine jk_iload_n (q := 13) h dX2_countValues_12 rfl rfl ?_
        refine jk_iconst (q := 14) h dX2_countValues_13 rfl ?_
        refine jk_iast (q := 15) h dX2_countValues_14 (hC.at 1 rfl) (by omega) (by omega) rfl rfl (fun M_2 s_2 => ?_)
        have hC := hC.put (i := 1) s_2 rfl
        have hT := hT.other s_2 3 rfl (by omega)
        have ho := ho.st (i := 1) s_2 (by omega)
        refine jk_iinc (q := 18) h dX2_countValues_15 rfl rfl rfl rfl ?_
        refine jk_goto (q := 21) (tgt := 2) h dX2_countValues_18 (by decide) ?_
        exact jk_weak (jwk_s rfl (jwk_s rfl (jwk_s rfl (jwk_s rfl (jwk_n jwk_0))))) (ih2 _ (by omega) _ _ (by omega) (by omega) (by rw [← jmix_up hi9]; exact hC) hT ho rfl)
  exact jk_weak (jwk_s rfl (jwk_s rfl (jwk_s rfl (jwk_s rfl (jwk_n jwk_0))))) (lp2 _ _ _ (by omega) (by omega) (by rw [jmix_0]; exact hC) hT ho rfl)

set_option maxHeartbeats 4000000 in
set_option maxRecDepth 100000 in
theorem c_X2_nextRank {l : Launch} {D : va_G} {b0 : Nat} {n : Nat} {M : jM} {c : Nat} {had cv cr : Nat → Int} {cn : Int} {lo hi br un : Nat → Int} {bn : Int} (hC : jPic M c (cfL c had cv cr cn lo hi br un bn)) (hhad : jrF had 0 60) {ab : Int} (hab : 0 < ab ∧ ab ≤ 1000000) : jCtr l D b0 yX2_nextRank cX2_nextRank 5 (some .int) 0 0 0 [.ref c, jI ab] n M (jrd n M (mxI (ccp had ab) (rnk had) 100)) := by
  refine jctr (lv := [some (.ref c), some (jI ab), none, none, none]) RX2 "nextRank" rfl rfl (by decide) (Nat.le_of_ble_eq_true rfl) rfl ?_
  intro X h hR hX
  refine jk_iconst (q := 1) h dX2_nextRank_0 rfl ?_
  refine jk_istore_n (q := 2) h dX2_nextRank_1 rfl (Nat.le_of_ble_eq_true rfl) rfl rfl ?_
  refine jk_iconst (q := 3) h dX2_nextRank_2 rfl ?_
  refine jk_istore_n (q := 4) h dX2_nextRank_3 rfl (Nat.le_of_ble_eq_true rfl) rfl rfl ?_
  have lp4 : ∀ (k9 : Nat) (w : Int) (i : Int) (hi9 : 0 ≤ i) (hi2 : i ≤ 100) (hw : w = mxI (ccp had ab) (rnk had) i) (hw2 : 0 ≤ w ∧ w ≤ 10000) (hk9 : (100 - i).toNat = k9), jJ X 4 [some (.ref (c)), some (jI (ab)), some (jI (w)), some (jI (i)), none] [] n M 0 0 := by
    intro k9
    induction k9 using Nat.strongRecOn with
    | _ k9 ih4 =>
      intro w i hi9 hi2 hw hw2 hk9
      have hhi := hhad i.toNat
      refine jk_iload_n (q := 5) h dX2_nextRank_4 rfl rfl ?_
      refine jk_bipush (q := 7) h dX2_nextRank_5 (by decide) rfl ?_
      refine jk_icmp_ge (q := 10) (tgt := 57) h dX2_nextRank_7 (by decide) rfl ⟨by omega, by omega⟩ ⟨by omega, by omega⟩ (fun c7 => ?_) (fun c7 => ?_)
      · have hi3 : i = 100 := by omega
        subst hi3
        refine jk_iload_n (q := 58) h dX2_nextRank_57 rfl rfl ?_
        exact jk_iret h hR dX2_nextRank_58 (Nat.le_of_ble_eq_true rfl) (Nat.le_of_ble_eq_true rfl) (jrd_of hw.symm)
      · refine jk_aload_n (q := 11) h dX2_nextRank_10 rfl rfl ?_
        refine jk_get (q := 14) h fg_X2_9 dX2_nextRank_11 (hC.at 0 rfl) rfl rfl ?_
        refine jk_iload_n (q := 15) h dX2_nextRank_14 rfl rfl ?_
        refine jk_ialdI (q := 16) h dX2_nextRank_15 (hC.at 1 rfl) (by omega) (by omega) rfl rfl ?_
        refine jk_bipush (q := 18) h dX2_nextRank_16 (by decide) rfl ?_
        refine jk_imul (q := 19) h dX2_nextRank_18 rfl ?_
        refine jk_bipush (q := 21) h dX2_nextRank_19 (by decide) rfl ?_
        refine jk_iadd (q := 22) h dX2_nextRank_21 rfl ?_
        refine jk_iload_n (q := 23) h dX2_nextRank_22 rfl rfl ?_
        refine jk_isub (q := 24) h dX2_nextRank_23 rfl ?_
        refine jk_name (fun rk hrk => ?_)
        have hrk2 : rk = rnk had i.toNat := by { unfold rnk; omega }
        refine jk_istore (q := 26) h dX2_nextRank_24 rfl (Nat.le_of_ble_eq_true rfl) rfl rfl ?_
        refine jk_aload_n (q := 27) h dX2_nextRank_26 rfl rfl ?_
        refine jk_get (q := 30) h fg_X2_9 dX2_nextRank_27 (hC.at 0 rfl) rfl rfl ?_
        refine jk_iload_n (q := 31) h dX2_nextRank_30 rfl rfl ?_
        refine jk_ialdI (q := 32) h dX2_nextRank_31 (hC.at 1 rfl) (by omega) (by omega) rfl rfl ?_
        refine jk_iconst (q := 33) h dX2_nextRank_32 rfl ?_
        refine jk_icmp_lt (q := 36) (tgt := 51) h dX2_nextRank_33 (by decide) rfl ⟨by omega, by omega⟩ ⟨by omega, by omega⟩ (fun c33 => ?_) (fun c33 => ?_)
        · refine jk_iinc (q := 54) h dX2_nextRank_51 rfl rfl rfl rfl ?_
          refine jk_goto (q := 57) (tgt := 4) h dX2_nextRank_54 (by decide) ?_
          exact jk_weak (jwk_s rfl (jwk_s rfl (jwk_s rfl (jwk_s rfl (jwk_n jwk_0))))) (ih4 _ (by omega) _ _ (by omega) (by omega) (by rw [mxI_s hi9, ← hw]; first | (rw [if_pos ⟨⟨by omega, by omega⟩, by omega⟩]; exact hrk2) | (rw [if_neg (fun z => by have := z.1.1; have := z.1.2; have := z.2; omega)])) (by omega) rfl)
        · refine jk_iload (q := 38) h dX2_nextRank_36 rfl rfl ?_
          refine jk_iload_n (q := 39) h dX2_nextRank_38 rfl rfl ?_
          refine jk_icmp_ge (q := 42) (tgt := 51) h dX2_nextRank_39 (by decide) rfl ⟨by omega, by omega⟩ ⟨by omega, by omega⟩ (fun c39 => ?_) (fun c39 => ?_)
          · refine jk_iinc (q := 54) h dX2_nextRank_51 rfl rfl rfl rfl ?_
            refine jk_goto (q := 57) (tgt := 4) h dX2_nextRank_54 (by decide) ?_
            exact jk_weak (jwk_s rfl (jwk_s rfl (jwk_s rfl (jwk_s rfl (jwk_n jwk_0))))) (ih4 _ (by omega) _ _ (by omega) (by omega) (by rw [mxI_s hi9, ← hw]; first | (rw [if_pos ⟨⟨by omega, by omega⟩, by omega⟩]; exact hrk2) | (rw [if_neg (fun z => by have := z.1.1; have := z.1.2; have := z.2; omega)])) (by omega) rfl)
          · refine jk_iload (q := 44) h dX2_nextRank_42 rfl rfl ?_
            refine jk_iload_n (q := 45) h dX2_nextRank_44 rfl rfl ?_
            refine jk_icmp_le (q := 48) (tgt := 51) h dX2_nextRank_45 (by decide) rfl ⟨by omega, by omega⟩ ⟨by omega, by omega⟩ (fun c45 => ?_) (fun c45 => ?_)
            · refine jk_iinc (q := 54) h dX2_nextRank_51 rfl rfl rfl rfl ?_
              refine jk_goto (q := 57) (tgt := 4) h dX2_nextRank_54 (by decide) ?_
              exact jk_weak (jwk_s rfl (jwk_s rfl (jwk_s rfl (jwk_s rfl (jwk_n jwk_0))))) (ih4 _ (by omega) _ _ (by omega) (by omega) (by rw [mxI_s hi9, ← hw]; first | (rw [if_pos ⟨⟨by omega, by omega⟩, by omega⟩]; exact hrk2) | (rw [if_neg (fun z => by have := z.1.1; have := z.1.2; have := z.2; omega)])) (by omega) rfl)
            · refine jk_iload (q := 50) h dX2_nextRank_48 rfl rfl ?_
              refine jk_istore_n (q := 51) h dX2_nextRank_50 rfl (Nat.le_of_ble_eq_true rfl) rfl rfl ?_
              refine jk_iinc (q := 54) h dX2_nextRank_51 rfl rfl rfl rfl ?_
              refine jk_goto (q := 57) (tgt := 4) h dX2_nextRank_54 (by decide) ?_
              exact jk_weak (jwk_s rfl (jwk_s rfl (jwk_s rfl (jwk_s rfl (jwk_n jwk_0))))) (ih4 _ (by omega) _ _ (by omega) (by omega) (by rw [mxI_s hi9, ← hw]; first | (rw [if_pos ⟨⟨by omega, by omega⟩, by omega⟩]; exact hrk2) | (rw [if_neg (fun z => by have := z.1.1; have := z.1.2; have := z.2; omega)])) (by omega) rfl)
  exact jk_weak (jwk_s rfl (jwk_s rfl (jwk_s rfl (jwk_s rfl (jwk_n jwk_0))))) (lp4 _ _ _ (by omega) (by omega) rfl (by omega) rfl)

set_option maxHeartbeats 4000000 in
set_option maxRecDepth 100000 in
theorem c_X2_chooseCommon {l : Launch} {D : va_G} {b0 : Nat} {n : Nat} {M : jM} {c : Nat} {had cv cr : Nat → Int} {cn : Int} {lo hi br un : Nat → Int} {bn : Int} (hC : jPic M c (cfL c had cv cr cn lo hi br un bn)) (hhad : jrF had 0 60) (hcv : jrF cv 0 99) (hcr : jrF cr 0 60) {m9 : Int} (hm9 : 0 ≤ m9 ∧ m9 ≤ 6) : jCtr l D b0 yX2_chooseCommon cX2_chooseCommon 4 none 1 0 0 [.ref c, jI m9] n M (fun v n2 M2 => none = v ∧ n = n2 ∧ ∃ (cn2 : Int) (cv2 cr2 : Nat → Int), jPic M2 c (cfL c had cv2 cr2 cn2 lo hi br un bn) ∧ cmQ had m9 cn2 cv2 cr2 ∧ jrF cv2 0 99 ∧ jrF cr2 0 60 ∧ jout M M2 c 8) := by
  refine jctr (lv := [some (.ref c), some (jI m9), none, none]) RX2 "chooseCommon" rfl rfl (by decide) (Nat.le_of_ble_eq_true rfl) rfl ?_
  intro X h hR hX
  have ho := jout.rf M c 8
  refine jk_aload_n (q := 1) h dX2_chooseCommon_0 rfl rfl ?_
  refine jk_iconst (q := 2) h dX2_chooseCommon_1 rfl ?_
  refine jk_put (q := 5) h (fp_X2_55 _) dX2_chooseCommon_2 (hC.at 0 rfl) (Nat.le_of_ble_eq_true rfl) rfl (fun M_1 s_1 => ?_)
  have hC := hC.put (i := 0) s_1 rfl
  have ho := ho.st (i := 0) s_1 (by omega)
  refine jk_ldc (q := 7) h dX2_chooseCommon_5 kc_X2_58 rfl ?_
  refine jk_istore_n (q := 8) h dX2_chooseCommon_7 rfl (Nat.le_of_ble_eq_true rfl) rfl rfl ?_
  refine jk_iconst (q := 9) h dX2_chooseCommon_8 rfl ?_
  refine jk_istore_n (q := 10) h dX2_chooseCommon_9 rfl (Nat.le_of_ble_eq_true rfl) rfl rfl ?_
  have lp10 : ∀ (k9 : Nat) (la : Int) (i : Int) (cv9 : Nat → Int) (cr9 : Nat → Int) (M9 : jM) (hi9 : 0 ≤ i) (him : i ≤ m9) (hC : jPic M9 c (cfL c had cv9 cr9 i lo hi br un bn)) (hI : ccI had i la cv9 cr9) (hF1 : jrF cv9 0 99) (hF2 : jrF cr9 0 60) (ho : jout M M9 c 8) (hk9 : (m9 - i).toNat = k9), jJ X 10 [some (.ref (c)), some (jI (m9)), some (jI (la)), some (jI (i))] [] n M9 0 0 := by
    intro k9
    induction k9 using Nat.strongRecOn with
    | _ k9 ih10 =>
      intro la i cv9 cr9 M9 hi9 him hC hI hF1 hF2 ho hk9
      have hla := hI.2.2.2.2
      refine jk_iload_n (q := 11) h dX2_chooseCommon_10 rfl rfl ?_
      refine jk_iload_n (q := 12) h dX2_chooseCommon_11 rfl rfl ?_
      refine jk_icmp_ge (q := 15) (tgt := 71) h dX2_chooseCommon_12 (by decide) rfl ⟨by omega, by omega⟩ ⟨by omega, by omega⟩ (fun c12 => ?_) (fun c12 => ?_)
      · exact jk_vret h hR dX2_chooseCommon_71 (Nat.le_of_ble_eq_true rfl) (Nat.le_of_ble_eq_true rfl) ⟨rfl, rfl, i, cv9, cr9, hC, ccI_e hi9 him hI (Or.inl (by omega)) hhad, hF1, hF2, ho⟩
      · refine jk_iload_n (q := 16) h dX2_chooseCommon_15 rfl rfl ?_
        refine jk_bipush (q := 18) h dX2_chooseCommon_16 (by decide) rfl ?_
        refine jk_icmp_ge (q := 21) (tgt := 71) h dX2_chooseCommon_18 (by decide) rfl ⟨by omega, by omega⟩ ⟨by omega, by omega⟩ (fun c18 => ?_) (fun c18 => ?_)
        · omega
        · refine jk_aload_n (q := 22) h dX2_chooseCommon_21 rfl rfl ?_
          refine jk_iload_n (q := 23) h dX2_chooseCommon_22 rfl rfl ?_
          refine jk_callV (q := 26) h hX (c_X2_nextRank hC hhad hla) mv_X2_nextRank (hC.at 0 rfl) dX2_chooseCommon_23 ml_X2_59 ⟨rfl, Nat.le_refl _⟩ rfl rfl (Nat.le_of_ble_eq_true rfl) (Nat.le_of_ble_eq_true rfl) rfl rfl (Nat.le_of_ble_eq_true rfl) rfl (fun v9 n9 M9 hp9 => ?_)
          obtain ⟨rfl, rfl, rfl⟩ := hp9
          refine jk_name (fun nr hnr => ?_)
          have hnr0 := mxS_spec (p := ccp had la) (r := rnk had) 100
          have hnr1 : 0 ≤ nr := by { rw [hnr]; exact hnr0.1 }
          have hnr2 : nr ≤ 1000000 := by
            rcases hnr0.2.1 with e9 | ⟨k9, hk9, hp9, e9⟩
            · rw [hnr]; show mxS _ _ 100 ≤ _; omega
            · rw [hnr]; show mxS _ _ 100 ≤ _; have := hp9.2; omega
          clear hnr0
          refine jk_istore_n (q := 27) h dX2_chooseCommon_26 rfl (Nat.le_of_ble_eq_true rfl) rfl rfl ?_
          refine jk_iload_n (q := 28) h dX2_chooseCommon_27 rfl rfl ?_
          refine jk_if_ne (q := 31) (tgt := 32) h dX2_chooseCommon_28 (by decide) rfl ⟨by omega, by omega⟩ (fun c28 => ?_) (fun c28 => ?_)
          · obtain ⟨hI2, hv9, hnr3⟩ := ccI_s hi9 hI hnr c28
            have hcb := ccI_b hi9 hI2 hhad
            refine jk_aload_n (q := 33) h dX2_chooseCommon_32 rfl rfl ?_
            refine jk_get (q := 36) h fg_X2_15 dX2_chooseCommon_33 (hC.at 0 rfl) rfl rfl ?_
            refine jk_iload_n (q := 37) h dX2_chooseCommon_36 rfl rfl ?_
            refine jk_bipush (q := 39) h dX2_chooseCommon_37 (by decide) rfl ?_
            refine jk_iload_n (q := 40) h dX2_chooseCommon_39 rfl rfl ?_
            refine jk_bipush (q := 42) h dX2_chooseCommon_40 (by decide) rfl ?_
            refine jk_irem (q := 43) h dX2_chooseCommon_42 (by omega) (by omega) (by omega) (by omega) rfl ?_
            refine jk_isub (q := 44) h dX2_chooseCommon_43 rfl ?_
            refine jk_iast (q := 45) h dX2_chooseCommon_44 (hC.at 2 rfl) (by omega) (by omega) rfl rfl (fun M_2 s_2 => ?_)
            have hC := hC.put (i := 2) s_2 rfl
            have ho := ho.st (i := 2) s_2 (by omega)
            refine jk_aload_n (q := 46) h dX2_chooseCommon_45 rfl rfl ?_
            refine jk_get (q := 49) h fg_X2_18 dX2_chooseCommon_46 (hC.at 0 rfl) rfl rfl ?_
            refine jk_iload_n (q := 50) h dX2_chooseCommon_49 rfl rfl ?_
            refine jk_iload_n (q := 51) h dX2_chooseCommon_50 rfl rfl ?_
            refine jk_bipush (q := 53) h dX2_chooseCommon_51 (by decide) rfl ?_
            refine jk_idiv (q := 54) h dX2_chooseCommon_53 (by omega) (by omega) (by omega) (by omega) rfl ?_
            refine jk_iast (q := 55) h dX2_chooseCommon_54 (hC.at 3 rfl) (by omega) (by omega) rfl rfl (fun M_3 s_3 => ?_)
            have hC := hC.put (i := 3) s_3 rfl
            have ho := ho.st (i := 3) s_3 (by omega)
            refine jk_aload_n (q := 56) h dX2_chooseCommon_55 rfl rfl ?_
            refine jk_dup (q := 57) h dX2_chooseCommon_56 rfl rfl ?_
            refine jk_get (q := 60) h fg_X2_55 dX2_chooseCommon_57 (hC.at 0 rfl) rfl rfl ?_
            refine jk_iconst (q := 61) h dX2_chooseCommon_60 rfl ?_
            refine jk_iadd (q := 62) h dX2_chooseCommon_61 rfl ?_
            refine jk_put (q := 65) h (fp_X2_55 _) dX2_chooseCommon_62 (hC.at 0 rfl) (Nat.le_of_ble_eq_true rfl) rfl (fun M_4 s_4 => ?_)
            have hC := hC.put (i := 0) s_4 rfl
            have ho := ho.st (i := 0) s_4 (by omega)
            refine jk_iinc (q := 68) h dX2_chooseCommon_65 rfl rfl rfl rfl ?_
            refine jk_goto (q := 71) (tgt := 10) h dX2_chooseCommon_68 (by decide) ?_
            exact jk_weak (jwk_s rfl (jwk_s rfl (jwk_s rfl (jwk_s rfl jwk_0)))) (ih10 _ (by omega) _ _ _ _ _ (by omega) (by omega) hC hI2 (jrF_up hF1 hv9.1 hv9.2) (jrF_up hF2 hcb.1 hcb.2) ho rfl)
          · exact jk_vret h hR dX2_chooseCommon_31 (Nat.le_of_ble_eq_true rfl) (Nat.le_of_ble_eq_true rfl) ⟨rfl, rfl, i, cv9, cr9, hC, ccI_e hi9 him hI (Or.inr (by rw [← hnr]; omega)) hhad, hF1, hF2, ho⟩
  exact jk_weak (jwk_s rfl (jwk_s rfl (jwk_s rfl (jwk_s rfl jwk_0)))) (lp10 _ _ _ _ _ _ (by omega) (by omega) hC (ccI_0 hhad) hcv hcr ho rfl)

set_option maxHeartbeats 4000000 in
set_option maxRecDepth 100000 in
theorem c_X2_fullHeight {l : Launch} {D : va_G} {b0 : Nat} {n : Nat} {M : jM} {c : Nat} {had cv cr : Nat → Int} {cn : Int} {lo hi br un : Nat → Int} {bn : Int} (hC : jPic M c (cfL c had cv cr cn lo hi br un bn)) (hbn : 0 < bn ∧ bn ≤ 10) {b r : Int} (hb : jRng b) (hr : 0 ≤ r ∧ r ≤ 60) : jCtr l D b0 yX2_fullHeight cX2_fullHeight 3 (some .int) 0 0 0 [.ref c, jI b, jI r] n M (jrd n M (fhS r bn b)) := by
  refine jctr (lv := [some (.ref c), some (jI b), some (jI r)]) RX2 "fullHeight" rfl rfl (by decide) (Nat.le_of_ble_eq_true rfl) rfl ?_
  intro X h hR hX
  refine jk_aload_n (q := 1) h dX2_fullHeight_0 rfl rfl ?_
  refine jk_get (q := 4) h fg_X2_68 dX2_fullHeight_1 (hC.at 0 rfl) rfl rfl ?_
  refine jk_if_gt (q := 7) (tgt := 9) h dX2_fullHeight_4 (by decide) rfl ⟨by omega, by omega⟩ (fun c4 => ?_) (fun c4 => ?_)
  · refine jk_iload_n (q := 10) h dX2_fullHeight_9 rfl rfl ?_
    refine jk_aload_n (q := 11) h dX2_fullHeight_10 rfl rfl ?_
    refine jk_get (q := 14) h fg_X2_68 dX2_fullHeight_11 (hC.at 0 rfl) rfl rfl ?_
    refine jk_idiv (q := 15) h dX2_fullHeight_14 (by omega) (by omega) (by omega) (by omega) rfl ?_
    refine jk_iload_n (q := 16) h dX2_fullHeight_15 rfl rfl ?_
    refine jk_iload_n (q := 17) h dX2_fullHeight_16 rfl rfl ?_
    refine jk_aload_n (q := 18) h dX2_fullHeight_17 rfl rfl ?_
    refine jk_get (q := 21) h fg_X2_68 dX2_fullHeight_18 (hC.at 0 rfl) rfl rfl ?_
    refine jk_irem (q := 22) h dX2_fullHeight_21 (by omega) (by omega) (by omega) (by omega) rfl ?_
    have hm9 := Int.emod_lt_of_pos r hbn.1
    have hm8 := Int.emod_nonneg r (show bn ≠ 0 by omega)
    refine jk_icmp_ge (q := 25) (tgt := 29) h dX2_fullHeight_22 (by decide) rfl ⟨by omega, by omega⟩ ⟨by omega, by omega⟩ (fun c22 => ?_) (fun c22 => ?_)
    · refine jk_iconst (q := 30) h dX2_fullHeight_29 rfl ?_
      refine jk_iadd (q := 31) h dX2_fullHeight_30 rfl ?_
      exact jk_iret h hR dX2_fullHeight_31 (Nat.le_of_ble_eq_true rfl) (Nat.le_of_ble_eq_true rfl) (jrd_of (by unfold fhS; first | rw [if_pos (by omega)] | rw [if_neg (by omega)]))
    · refine jk_iconst (q := 26) h dX2_fullHeight_25 rfl ?_
      refine jk_goto (q := 29) (tgt := 30) h dX2_fullHeight_26 (by decide) ?_
      refine jk_iadd (q := 31) h dX2_fullHeight_30 rfl ?_
      exact jk_iret h hR dX2_fullHeight_31 (Nat.le_of_ble_eq_true rfl) (Nat.le_of_ble_eq_true rfl) (jrd_of (by unfold fhS; first | rw [if_pos (by omega)] | rw [if_neg (by omega)]))
  · omega

set_option maxHeartbeats 4000000 in
set_option maxRecDepth 100000 in
theorem c_X2_startBucket {l : Launch} {D : va_G} {b0 : Nat} {n : Nat} {M : jM} {c : Nat} {had cv cr : Nat → Int} {cn : Int} {lo hi br un : Nat → Int} {bn : Int} (hC : jPic M c (cfL c had cv cr cn lo hi br un bn)) (hbn : bn ≤ 10) {b v : Int} (hb : 0 ≤ b ∧ b < bn) (hv : 0 ≤ v ∧ v ≤ 99) : jCtr l D b0 yX2_startBucket cX2_startBucket 3 none 0 0 0 [.ref c, jI b, jI v] n M (fun v9 n2 M2 => none = v9 ∧ n = n2 ∧ jPic M2 c (cfL c had cv cr cn (jfup lo b.toNat v) (jfup hi b.toNat v) (jfup br b.toNat 0) (jfup un b.toNat 1) bn) ∧ jout M M2 c 8) := by
  refine jctr (lv := [some (.ref c), some (jI b), some (jI v)]) RX2 "startBucket" rfl rfl (by decide) (Nat.le_of_ble_eq_true rfl) rfl ?_
  intro X h hR hX
  have ho := jout.rf M c 8
  refine jk_iload_n (q := 1) h dX2_startBucket_0 rfl rfl ?_
  refine jk_if_lt (q := 4) (tgt := 12) h dX2_startBucket_1 (by decide) rfl ⟨by omega, by omega⟩ (fun c1 => ?_) (fun c1 => ?_)
  · omega
  · refine jk_iload_n (q := 5) h dX2_startBucket_4 rfl rfl ?_
    refine jk_aload_n (q := 6) h dX2_startBucket_5 rfl rfl ?_
    refine jk_get (q := 9) h fg_X2_68 dX2_startBucket_6 (hC.at 0 rfl) rfl rfl ?_
    refine jk_icmp_lt (q := 12) (tgt := 13) h dX2_startBucket_9 (by decide) rfl ⟨by omega, by omega⟩ ⟨by omega, by omega⟩ (fun c9 => ?_) (fun c9 => ?_)
    · refine jk_aload_n (q := 14) h dX2_startBucket_13 rfl rfl ?_
      refine jk_get (q := 17) h fg_X2_21 dX2_startBucket_14 (hC.at 0 rfl) rfl rfl ?_
      refine jk_iload_n (q := 18) h dX2_startBucket_17 rfl rfl ?_
      refine jk_iload_n (q := 19) h dX2_startBucket_18 rfl rfl ?_
      refine jk_iast (q := 20) h dX2_startBucket_19 (hC.at 4 rfl) (by omega) (by omega) rfl rfl (fun M_1 s_1 => ?_)
      have hC := hC.put (i := 4) s_1 rfl
      have ho := ho.st (i := 4) s_1 (by omega)
      refine jk_aload_n (q := 21) h dX2_startBucket_20 rfl rfl ?_
      refine jk_get (q := 24) h fg_X2_24 dX2_startBucket_21 (hC.at 0 rfl) rfl rfl ?_
      refine jk_iload_n (q := 25) h dX2_startBucket_24 rfl rfl ?_
      refine jk_iload_n (q := 26) h dX2_startBucket_25 rfl rfl ?_
      refine jk_iast (q := 27) h dX2_startBucket_26 (hC.at 5 rfl) (by omega) (by omega) rfl rfl (fun M_2 s_2 => ?_)
      have hC := hC.put (i := 5) s_2 rfl
      have ho := ho.st (i := 5) s_2 (by omega)
      refine jk_aload_n (q := 28) h dX2_startBucket_27 rfl rfl ?_
      refine jk_get (q := 31) h fg_X2_27 dX2_startBucket_28 (hC.at 0 rfl) rfl rfl ?_
      refine jk_iload_n (q := 32) h dX2_startBucket_31 rfl rfl ?_
      refine jk_iconst (q := 33) h dX2_startBucket_32 rfl ?_
      refine jk_iast (q := 34) h dX2_startBucket_33 (hC.at 6 rfl) (by omega) (by omega) rfl rfl (fun M_3 s_3 => ?_)
      have hC := hC.put (i := 6) s_3 rfl
      have ho := ho.st (i := 6) s_3 (by omega)
      refine jk_aload_n (q := 35) h dX2_startBucket_34 rfl rfl ?_
      refine jk_get (q := 38) h fg_X2_30 dX2_startBucket_35 (hC.at 0 rfl) rfl rfl ?_
      refine jk_iload_n (q := 39) h dX2_startBucket_38 rfl rfl ?_
      refine jk_iconst (q := 40) h dX2_startBucket_39 rfl ?_
      refine jk_iast (q := 41) h dX2_startBucket_40 (hC.at 7 rfl) (by omega) (by omega) rfl rfl (fun M_4 s_4 => ?_)
      have hC := hC.put (i := 7) s_4 rfl
      have ho := ho.st (i := 7) s_4 (by omega)
      exact jk_vret h hR dX2_startBucket_41 (Nat.le_of_ble_eq_true rfl) (Nat.le_of_ble_eq_true rfl) ⟨rfl, rfl, hC, ho⟩
    · omega

set_option maxHeartbeats 4000000 in
set_option maxRecDepth 100000 in
theorem c_X2_addToBucket {l : Launch} {D : va_G} {b0 : Nat} {n : Nat} {M : jM} {c : Nat} {had cv cr : Nat → Int} {cn : Int} {lo hi br un : Nat → Int} {bn : Int} (hC : jPic M c (cfL c had cv cr cn lo hi br un bn)) (hbn : bn ≤ 10) {b v : Int} (hb : 0 ≤ b ∧ b < bn) (hv : 0 ≤ v ∧ v ≤ 99) (hhi : jrF hi 0 99) : jCtr l D b0 yX2_addToBucket cX2_addToBucket 3 none 0 0 0 [.ref c, jI b, jI v] n M (fun v9 n2 M2 => none = v9 ∧ n = n2 ∧ jPic M2 c (cfL c had cv cr cn lo (jfup hi b.toNat v) (jfup br b.toNat (br b.toNat + 1)) (if v = hi b.toNat then un else jfup un b.toNat (un b.toNat + 1)) bn) ∧ jout M M2 c 8) := by
  refine jctr (lv := [some (.ref c), some (jI b), some (jI v)]) RX2 "addToBucket" rfl rfl (by decide) (Nat.le_of_ble_eq_true rfl) rfl ?_
  intro X h hR hX
  have ho := jout.rf M c 8
  have hhb := hhi b.toNat
  refine jk_iload_n (q := 1) h dX2_addToBucket_0 rfl rfl ?_
  refine jk_if_lt (q := 4) (tgt := 12) h dX2_addToBucket_1 (by decide) rfl ⟨by omega, by omega⟩ (fun c1 => ?_) (fun c1 => ?_)
  · omega
  · refine jk_iload_n (q := 5) h dX2_addToBucket_4 rfl rfl ?_
    refine jk_aload_n (q := 6) h dX2_addToBucket_5 rfl rfl ?_
    refine jk_get (q := 9) h fg_X2_68 dX2_addToBucket_6 (hC.at 0 rfl) rfl rfl ?_
    refine jk_icmp_lt (q := 12) (tgt := 13) h dX2_addToBucket_9 (by decide) rfl ⟨by omega, by omega⟩ ⟨by omega, by omega⟩ (fun c9 => ?_) (fun c9 => ?_)
    · refine jk_iload_n (q := 14) h dX2_addToBucket_13 rfl rfl ?_
      refine jk_aload_n (q := 15) h dX2_addToBucket_14 rfl rfl ?_
      refine jk_get (q := 18) h fg_X2_24 dX2_addToBucket_15 (hC.at 0 rfl) rfl rfl ?_
      refine jk_iload_n (q := 19) h dX2_addToBucket_18 rfl rfl ?_
      refine jk_ialdI (q := 20) h dX2_addToBucket_19 (hC.at 5 rfl) (by omega) (by omega) rfl rfl ?_
      refine jk_icmp_eq (q := 23) (tgt := 33) h dX2_addToBucket_20 (by decide) rfl ⟨by omega, by omega⟩ ⟨by omega, by omega⟩ (fun c20 => ?_) (fun c20 => ?_)
      · refine jk_aload_n (q := 34) h dX2_addToBucket_33 rfl rfl ?_
        refine jk_get (q := 37) h fg_X2_24 dX2_addToBucket_34 (hC.at 0 rfl) rfl rfl ?_
        refine jk_iload_n (q := 38) h dX2_addToBucket_37 rfl rfl ?_
        refine jk_iload_n (q := 39) h dX2_addToBucket_38 rfl rfl ?_
        refine jk_iast (q := 40) h dX2_addToBucket_39 (hC.at 5 rfl) (by omega) (by omega) rfl rfl (fun M_1 s_1 => ?_)
        have hC := hC.put (i := 5) s_1 rfl
        have ho := ho.st (i := 5) s_1 (by omega)
        refine jk_aload_n (q := 41) h dX2_addToBucket_40 rfl rfl ?_
        refine jk_get (q := 44) h fg_X2_27 dX2_addToBucket_41 (hC.at 0 rfl) rfl rfl ?_
        refine jk_iload_n (q := 45) h dX2_addToBucket_44 rfl rfl ?_
        refine jk_dup2 (q := 46) h dX2_addToBucket_45 rfl rfl rfl ?_
        refine jk_ialdI (q := 47) h dX2_addToBucket_46 (hC.at 6 rfl) (by omega) (by omega) rfl rfl ?_
        refine jk_iconst (q := 48) h dX2_addToBucket_47 rfl ?_
        refine jk_iadd (q := 49) h dX2_addToBucket_48 rfl ?_
        refine jk_iast (q := 50) h dX2_addToBucket_49 (hC.at 6 rfl) (by omega) (by omega) rfl rfl (fun M_2 s_2 => ?_)
        have hC := hC.put (i := 6) s_2 rfl
        have ho := ho.st (i := 6) s_2 (by omega)
        exact jk_vret h hR dX2_addToBucket_50 (Nat.le_of_ble_eq_true rfl) (Nat.le_of_ble_eq_true rfl) ⟨rfl, rfl, by first | (rw [if_pos (by omega)]; exact hC) | (rw [if_neg (by omega)]; exact hC), ho⟩
      · refine jk_aload_n (q := 24) h dX2_addToBucket_23 rfl rfl ?_
        refine jk_get (q := 27) h fg_X2_30 dX2_addToBucket_24 (hC.at 0 rfl) rfl rfl ?_
        refine jk_iload_n (q := 28) h dX2_addToBucket_27 rfl rfl ?_
        refine jk_dup2 (q := 29) h dX2_addToBucket_28 rfl rfl rfl ?_
        refine jk_ialdI (q := 30) h dX2_addToBucket_29 (hC.at 7 rfl) (by omega) (by omega) rfl rfl ?_
        refine jk_iconst (q := 31) h dX2_addToBucket_30 rfl ?_
        refine jk_iadd (q := 32) h dX2_addToBucket_31 rfl ?_
        refine jk_iast (q := 33) h dX2_addToBucket_32 (hC.at 7 rfl) (by omega) (by omega) rfl rfl (fun M_3 s_3 => ?_)
        have hC := hC.put (i := 7) s_3 rfl
        have ho := ho.st (i := 7) s_3 (by omega)
        refine jk_aload_n (q := 34) h dX2_addToBucket_33 rfl rfl ?_
        refine jk_get (q := 37) h fg_X2_24 dX2_addToBucket_34 (hC.at 0 rfl) rfl rfl ?_
        refine jk_iload_n (q := 38) h dX2_addToBucket_37 rfl rfl ?_
        refine jk_iload_n (q := 39) h dX2_addToBucket_38 rfl rfl ?_
        refine jk_iast (q := 40) h dX2_addToBucket_39 (hC.at 5 rfl) (by omega) (by omega) rfl rfl (fun M_4 s_4 => ?_)
        have hC := hC.put (i := 5) s_4 rfl
        have ho := ho.st (i := 5) s_4 (by omega)
        refine jk_aload_n (q := 41) h dX2_addToBucket_40 rfl rfl ?_
        refine jk_get (q := 44) h fg_X2_27 dX2_addToBucket_41 (hC.at 0 rfl) rfl rfl ?_
        refine jk_iload_n (q := 45) h dX2_addToBucket_44 rfl rfl ?_
        refine jk_dup2 (q := 46) h dX2_addToBucket_45 rfl rfl rfl ?_
        refine jk_ialdI (q := 47) h dX2_addToBucket_46 (hC.at 6 rfl) (by omega) (by omega) rfl rfl ?_
        refine jk_iconst (q := 48) h dX2_addToBucket_47 rfl ?_
        refine jk_iadd (q := 49) h dX2_addToBucket_48 rfl ?_
        refine jk_iast (q := 50) h dX2_addToBucket_49 (hC.at 6 rfl) (by omega) (by omega) rfl rfl (fun M_5 s_5 => ?_)
        have hC := hC.put (i := 6) s_5 rfl
        have ho := ho.st (i := 6) s_5 (by omega)
        exact jk_vret h hR dX2_addToBucket_50 (Nat.le_of_ble_eq_true rfl) (Nat.le_of_ble_eq_true rfl) ⟨rfl, rfl, by first | (rw [if_pos (by omega)]; exact hC) | (rw [if_neg (by omega)]; exact hC), ho⟩
    · omega

set_option maxHeartbeats 4000000 in
set_option maxRecDepth 100000 in
theorem c_X2_isCommon2 {l : Launch} {D : va_G} {b0 : Nat} {n : Nat} {M : jM} {c : Nat} {had cv cr : Nat → Int} {cn : Int} {lo hi br un : Nat → Int} {bn : Int} (hC : jPic M c (cfL c had cv cr cn lo hi br un bn)) (hcv : jrF cv 0 99) (hcn : 0 ≤ cn ∧ cn ≤ 6) {v : Int} (hv : 0 ≤ v ∧ v ≤ 99) : jCtr l D b0 yX2_isCommon cX2_isCommon 3 (some .boolean) 0 0 0 [.ref c, jI v] n M (jrd n M (if isC cv cn v = true then 1 else 0)) := by
  refine jctr (lv := [some (.ref c), some (jI v), none]) RX2 "isCommon" rfl rfl (by decide) (Nat.le_of_ble_eq_true rfl) rfl ?_
  intro X h hR hX
  refine jk_iconst (q := 1) h dX2_isCommon_0 rfl ?_
  refine jk_istore_n (q := 2) h dX2_isCommon_1 rfl (Nat.le_of_ble_eq_true rfl) rfl rfl ?_
  have lp2 : ∀ (k9 : Nat) (i : Int) (hi1 : 0 ≤ i) (hi2 : i ≤ cn) (hn : ∀ k : Nat, (k : Int) < i → ¬ cv k = v) (hk9 : (cn - i).toNat = k9), jJ X 2 [some (.ref (c)), some (jI (v)), some (jI (i))] [] n M 0 0 := by
    intro k9
    induction k9 using Nat.strongRecOn with
    | _ k9 ih2 =>
      intro i hi1 hi2 hn hk9
      have hcvi := hcv i.toNat
      refine jk_iload_n (q := 3) h dX2_isCommon_2 rfl rfl ?_
      refine jk_aload_n (q := 4) h dX2_isCommon_3 rfl rfl ?_
      refine jk_get (q := 7) h fg_X2_55 dX2_isCommon_4 (hC.at 0 rfl) rfl rfl ?_
      refine jk_icmp_ge (q := 10) (tgt := 28) h dX2_isCommon_7 (by decide) rfl ⟨by omega, by omega⟩ ⟨by omega, by omega⟩ (fun c7 => ?_) (fun c7 => ?_)
      · refine jk_iconst (q := 29) h dX2_isCommon_28 rfl ?_
        exact jk_zret h hR dX2_isCommon_29 (Nat.le_of_ble_eq_true rfl) (Nat.le_of_ble_eq_true rfl) (by first | exact Or.inl rfl | exact Or.inr rfl | omega) (jrd_of (if_neg (fun h9 => by
                  obtain ⟨k, h8, h7⟩ := (isC_iff hcn.1).mp h9
                  exact hn k (by omega) h7)))
      · refine jk_aload_n (q := 11) h dX2_isCommon_10 rfl rfl ?_
        refine jk_get (q := 14) h fg_X2_15 dX2_isCommon_11 (hC.at 0 rfl) rfl rfl ?_
        refine jk_iload_n (q := 15) h dX2_isCommon_14 rfl rfl ?_
        refine jk_ialdI (q := 16) h dX2_isCommon_15 (hC.at 2 rfl) (by omega) (by omega) rfl rfl ?_
        refine jk_iload_n (q := 17) h dX2_isCommon_16 rfl rfl ?_
        refine jk_icmp_ne (q := 20) (tgt := 22) h dX2_isCommon_17 (by decide) rfl ⟨by omega, by omega⟩ ⟨by omega, by omega⟩ (fun c17 => ?_) (fun c17 => ?_)
        · refine jk_iinc (q := 25) h dX2_isCommon_22 rfl rfl rfl rfl ?_
          refine jk_goto (q := 28) (tgt := 2) h dX2_isCommon_25 (by decide) ?_
          exact jk_weak (jwk_s rfl (jwk_s rfl (jwk_s rfl jwk_0))) (ih2 _ (by omega) _ (by omega) (by omega) (fun k hk => by
                      by_cases h9 : (k : Int) < i
                      · exact hn k h9
                      · have h8 : k = i.toNat := by omega
                        rw [h8]; exact c17) rfl)
        · refine jk_iconst (q := 21) h dX2_isCommon_20 rfl ?_
          exact jk_zret h hR dX2_isCommon_21 (Nat.le_of_ble_eq_true rfl) (Nat.le_of_ble_eq_true rfl) (by first | exact Or.inl rfl | exact Or.inr rfl | omega) (jrd_of (if_pos ((isC_iff hcn.1).mpr ⟨i.toNat, by omega, by omega⟩)))
  exact jk_weak (jwk_s rfl (jwk_s rfl (jwk_s rfl jwk_0))) (lp2 _ _ (by omega) (by omega) (fun k hk => absurd hk (by omega)) rfl)

set_option maxHeartbeats 4000000 in
set_option maxRecDepth 100000 in
theorem c_X2_cutBuckets {l : Launch} {D : va_G} {b0 : Nat} {n : Nat} {M : jM} {c : Nat} {had cv cr : Nat → Int} {cn : Int} {lo hi br un : Nat → Int} {bn : Int} (hC : jPic M c (cfL c had cv cr cn lo hi br un bn)) (hhad : jrF had 0 60) (hcv : jrF cv 0 99) (hcr : jrF cr 0 60) (hcn : 0 ≤ cn ∧ cn ≤ 6) (hlo : jrF lo 0 99) (hhi : jrF hi 0 99) (hbr : jrF br 0 60) {rows mb all : Int} {lf : Nat → Int} (hlf : lf = lfS had cv cn) (hall : smI cr cn + all = rows) (hcum : sm lf 100 = all) (hrows : 0 ≤ rows ∧ rows ≤ 60) (hal : 0 ≤ all) (hmb : 1 ≤ mb ∧ mb ≤ 10) : jCtr l D b0 yX2_cutBuckets cX2_cutBuckets 9 none 1 0 0 [.ref c, jI rows, jI mb] n M (fun v9 n2 M2 => none = v9 ∧ n = n2 ∧ ∃ (lo2 hi2 br2 un2 : Nat → Int), jPic M2 c (cfL c had cv cr cn lo2 hi2 br2 un2 (if all < mb then all else mb)) ∧ bkQ lf all (if all < mb then all else mb) lo2 hi2 br2 un2 ∧ jrF lo2 0 99 ∧ jrF hi2 0 99 ∧ jrF br2 0 60 ∧ jout M M2 c 8) := by
  refine jctr (lv := [some (.ref c), some (jI rows), some (jI mb), none, none, none, none, none, none]) RX2 "cutBuckets" rfl rfl (by decide) (Nat.le_of_ble_eq_true rfl) rfl ?_
  intro X h hR hX
  have ho := jout.rf M c 8
  have hlf0 : ∀ k, 0 ≤ lf k := by { rw [hlf]; exact lfS_0 hhad }
  have hsc := smI_bd (f := cr) (c := 60) (z := cn) (N := 6) hcn.1 hcn.2 (by omega) (fun k _ => hcr k)
  refine jk_iload_n (q := 1) h dX2_cutBuckets_0 rfl rfl ?_
  refine jk_istore_n (q := 2) h dX2_cutBuckets_1 rfl (Nat.le_of_ble_eq_true rfl) rfl rfl ?_
  refine jk_iconst (q := 3) h dX2_cutBuckets_2 rfl ?_
  refine jk_istore (q := 5) h dX2_cutBuckets_3 rfl (Nat.le_of_ble_eq_true rfl) rfl rfl ?_
  have lp5 : ∀ (k9 : Nat) (r : Int) (i : Int) (hi9 : 0 ≤ i) (hi2 : i ≤ cn) (hr : r = rows - smI cr i) (hk9 : (cn - i).toNat = k9), jJ X 5 [some (.ref (c)), some (jI (rows)), some (jI (mb)), some (jI (r)), some (jI (i)), none, none, none, none] [] n M 0 0 := by
    intro k9
    induction k9 using Nat.strongRecOn with
    | _ k9 ih5 =>
      intro r i hi9 hi2 hr hk9
      refine jk_iload (q := 7) h dX2_cutBuckets_5 rfl rfl ?_
      refine jk_aload_n (q := 8) h dX2_cutBuckets_7 rfl rfl ?_
      refine jk_get (q := 11) h fg_X2_55 dX2_cutBuckets_8 (hC.at 0 rfl) rfl rfl ?_
      refine jk_icmp_ge (q := 14) (tgt := 30) h dX2_cutBuckets_11 (by decide) rfl ⟨by omega, by omega⟩ ⟨by omega, by omega⟩ (fun c11 => ?_) (fun c11 => ?_)
      · have hi3 : cn = i := by omega
        subst hi3
        have hr2 : all = r := by omega
        subst hr2
        refine jk_aload_n (q := 31) h dX2_cutBuckets_30 rfl rfl ?_
        refine jk_iload_n (q := 32) h dX2_cutBuckets_31 rfl rfl ?_
        refine jk_bipush (q := 34) h dX2_cutBuckets_32 (by decide) rfl ?_
        refine jk_mmin (q := 37) h dX2_cutBuckets_34 ml_X2_63 km_min_s km_i km_min_c (Nat.le_of_ble_eq_true rfl) (Nat.le_of_ble_eq_true rfl) (Nat.le_of_ble_eq_true rfl) (Nat.le_of_ble_eq_true rfl) ⟨by omega, by omega⟩ ⟨by omega, by omega⟩ rfl ?_
        refine jk_iload_n (q := 38) h dX2_cutBuckets_37 rfl rfl ?_
        refine jk_mmin (q := 41) h dX2_cutBuckets_38 ml_X2_63 km_min_s km_i km_min_c (Nat.le_of_ble_eq_true rfl) (Nat.le_of_ble_eq_true rfl) (Nat.le_of_ble_eq_true rfl) (Nat.le_of_ble_eq_true rfl) ⟨by omega, by omega⟩ ⟨by omega, by omega⟩ rfl ?_
        refine jk_name (fun bn9 hbn8 => ?_)
        have hbn9 : bn9 = if all < mb then all else mb := by { rw [hbn8]; split <;> (try split) <;> (try split) <;> (try omega) }
        have hbn7 : 0 ≤ bn9 ∧ bn9 ≤ 10 := by { rw [hbn9]; split <;> omega }
        refine jk_put (q := 44) h (fp_X2_68 _) dX2_cutBuckets_41 (hC.at 0 rfl) (Nat.le_of_ble_eq_true rfl) rfl (fun M_1 s_1 => ?_)
        have hC := hC.put (i := 0) s_1 rfl
        have ho := ho.st (i := 0) s_1 (by omega)
        refine jk_iconst (q := 45) h dX2_cutBuckets_44 rfl ?_
        refine jk_istore (q := 47) h dX2_cutBuckets_45 rfl (Nat.le_of_ble_eq_true rfl) rfl rfl ?_
        refine jk_iconst (q := 48) h dX2_cutBuckets_47 rfl ?_
        refine jk_istore (q := 50) h dX2_cutBuckets_48 rfl (Nat.le_of_ble_eq_true rfl) rfl rfl ?_
        refine jk_iconst (q := 51) h dX2_cutBuckets_50 rfl ?_
        refine jk_istore (q := 53) h dX2_cutBuckets_51 rfl (Nat.le_of_ble_eq_true rfl) rfl rfl ?_
        have lp53 : ∀ (k9 : Nat) (bk : Int) (room : Int) (v : Int) (lo9 : Nat → Int) (hi9 : Nat → Int) (br9 : Nat → Int) (un9 : Nat → Int) (M9 : jM) (hv1 : 0 ≤ v) (hv2 : v ≤ 100) (hC : jPic M9 c (cfL c had cv cr cn lo9 hi9 br9 un9 bn9)) (hI : pbI lf all bn9 (sm lf v.toNat) bk room lo9 hi9 br9 un9) (hF1 : jrF lo9 0 99) (hF2 : jrF hi9 0 99) (hF3 : jrF br9 0 60) (hbk : -1 ≤ bk ∧ bk ≤ 10) (hrm : -1 ≤ room ∧ room ≤ 61) (ho : jout M M9 c 8) (hk9 : (100 - v).toNat = k9), jJ X 53 [some (.ref (c)), some (jI (rows)), some (jI (mb)), some (jI (all)), some (jI (bk)), some (jI (room)), some (jI (v)), none, none] [] n M9 0 0 := by
          intro k9
          induction k9 using Nat.strongRecOn with
          | _ k9 ih53 =>
            intro bk room v lo9 hi9 br9 un9 M9 hv1 hv2 hC hI hF1 hF2 hF3 hbk hrm ho hk9
            refine jk_iload (q := 55) h dX2_cutBuckets_53 rfl rfl ?_
            refine jk_bipush (q := 57) h dX2_cutBuckets_55 (by decide) rfl ?_
            refine jk_icmp_ge (q := 60) (tgt := 140) h dX2_cutBuckets_57 (by decide) rfl ⟨by omega, by omega⟩ ⟨by omega, by omega⟩ (fun c57 => ?_) (fun c57 => ?_)
            · have hv3 : v = 100 := by omega
              subst hv3
              have hI : pbI lf all bn9 all bk room lo9 hi9 br9 un9 := by { rw [show (100 : Int).toNat = 100 from rfl, hcum] at hI; exact hI }
              exact jk_vret h hR dX2_cutBuckets_140 (Nat.le_of_ble_eq_true rfl) (Nat.le_of_ble_eq_true rfl) ⟨rfl, rfl, lo9, hi9, br9, un9, by rw [← hbn9]; exact hC, by
                  rw [← hbn9]
                  by_cases hb9 : 0 < bn9
                  · exact pbI_e hb9 (by rw [hbn9]; split <;> omega) hI
                  · exact fun b hb => absurd hb (by omega), hF1, hF2, hF3, ho⟩
            · have hhv := hhad v.toNat
              have hlfv : lf v.toNat = if isC cv cn v = true then 0 else had v.toNat := by
                rw [hlf]
                unfold lfS
                rw [show ((v.toNat : Nat) : Int) = v by omega]
              have jn80 : ∀ (z : Int) (hz : z = lf v.toNat) (hz2 : 0 ≤ z ∧ z ≤ 60), jJ X 80 [some (.ref (c)), some (jI (rows)), some (jI (mb)), some (jI (all)), some (jI (bk)), some (jI (room)), some (jI (v)), none, none] [jI (z)] n M9 0 0 := by
                intro z hz hz2
                refine jk_istore (q := 82) h dX2_cutBuckets_80 rfl (Nat.le_of_ble_eq_true rfl) rfl rfl ?_
                refine jk_iconst (q := 83) h dX2_cutBuckets_82 rfl ?_
                refine jk_istore (q := 85) h dX2_cutBuckets_83 rfl (Nat.le_of_ble_eq_true rfl) rfl rfl ?_
                have lp85 : ∀ (k9 : Nat) (bk : Int) (room : Int) (j : Int) (lo9 : Nat → Int) (hi9 : Nat → Int) (br9 : Nat → Int) (un9 : Nat → Int) (M8 : jM) (hj1 : 0 ≤ j) (hj2 : j ≤ z) (hC : jPic M8 c (cfL c had cv cr cn lo9 hi9 br9 un9 bn9)) (hI : pbI lf all bn9 (sm lf v.toNat + j) bk room lo9 hi9 br9 un9) (hF1 : jrF lo9 0 99) (hF2 : jrF hi9 0 99) (hF3 : jrF br9 0 60) (hbk : -1 ≤ bk ∧ bk ≤ 10) (hrm : -1 ≤ room ∧ room ≤ 61) (ho : jout M M8 c 8) (hk9 : (z - j).toNat = k9), jJ X 85 [some (.ref (c)), some (jI (rows)), some (jI (mb)), some (jI (all)), some (jI (bk)), some (jI (room)), some (jI (v)), some (jI (z)), some (jI (j))] [] n M8 0 0 := by
                  intro k9
                  induction k9 using Nat.strongRecOn with
                  | _ k9 ih85 =>
                    intro bk room j lo9 hi9 br9 un9 M8 hj1 hj2 hC hI hF1 hF2 hF3 hbk hrm ho hk9
                    refine jk_iload (q := 87) h dX2_cutBuckets_85 rfl rfl ?_
                    refine jk_iload (q := 89) h dX2_cutBuckets_87 rfl rfl ?_
                    refine jk_icmp_ge (q := 92) (tgt := 134) h dX2_cutBuckets_89 (by decide) rfl ⟨by omega, by omega⟩ ⟨by omega, by omega⟩ (fun c89 => ?_) (fun c89 => ?_)
                    · have hj3 : j = z := by omega
                      refine jk_iinc (q := 137) h dX2_cutBuckets_134 rfl rfl rfl rfl ?_
                      refine jk_goto (q := 140) (tgt := 53) h dX2_cutBuckets_137 (by decide) ?_
                      exact jk_weak (jwk_s rfl (jwk_s rfl (jwk_s rfl (jwk_s rfl (jwk_s rfl (jwk_s rfl (jwk_s rfl (jwk_n (jwk_n jwk_0))))))))) (ih53 _ (by omega) _ _ _ _ _ _ _ _ (by omega) (by omega) hC (by rw [show (v + 1).toNat = v.toNat + 1 by omega, sm_step, ← hz, ← hj3]; exact hI) (by omega) (by omega) (by omega) (by omega) (by omega) ho rfl)
                    · have hcm := sm_mono hlf0 (m := v.toNat + 1) (n := 100) (by omega)
                      rw [sm_step, ← hz, hcum] at hcm
                      have hcm0 := sm_mono hlf0 (m := 0) (n := v.toNat) (by omega)
                      have hcm1 : 0 ≤ sm lf v.toNat := hcm0
                      have hbn1 : 0 < bn9 := by { rw [hbn9]; split <;> omega }
                      have hbn2 : bn9 ≤ all := by { rw [hbn9]; split <;> omega }
                      have jn117 : ∀ (bk : Int) (room : Int) (lo9 : Nat → Int) (hi9 : Nat → Int) (br9 : Nat → Int) (un9 : Nat → Int) (M7 : jM) (hC : jPic M7 c (cfL c had cv cr cn lo9 hi9 br9 un9 bn9)) (hI : pbM lf all bn9 (sm lf v.toNat + j) bk room lo9 hi9 br9 un9 v) (hF1 : jrF lo9 0 99) (hF2 : jrF hi9 0 99) (hF3 : jrF br9 0 60) (hbk : -1 ≤ bk ∧ bk ≤ 10) (hrm : 0 ≤ room ∧ room ≤ 61) (ho : jout M M7 c 8), jJ X 117 [some (.ref (c)), some (jI (rows)), some (jI (mb)), some (jI (all)), some (jI (bk)), some (jI (room)), some (jI (v)), some (jI (z)), some (jI (j))] [] n M7 0 0 := by
                        intro bk room lo9 hi9 br9 un9 M7 hC hI hF1 hF2 hF3 hbk hrm ho
                        have hI1 := hI.1
                        have hI2 := hI.2.1
                        have hst := pbM_s hlf0 hbn1 hbn2 (v := v.toNat) (p := sm lf v.toNat + j) (by omega) (by omega) (by rw [sm_step, ← hz]; omega) (by rw [show ((v.toNat : Nat) : Int) = v by omega]; exact hI) rfl
                        rw [show ((v.toNat : Nat) : Int) = v by omega] at hst
                        refine jk_aload_n (q := 118) h dX2_cutBuckets_117 rfl rfl ?_
                        refine jk_iload (q := 120) h dX2_cutBuckets_118 rfl rfl ?_
                        refine jk_iload (q := 122) h dX2_cutBuckets_120 rfl rfl ?_
                        refine jk_callV (q := 125) h hX (c_X2_addToBucket hC hbn7.2 ⟨by omega, by omega⟩ ⟨by omega, by omega⟩ hF2) mv_X2_addToBucket (hC.at 0 rfl) dX2_cutBuckets_122 ml_X2_81 ⟨rfl, Nat.le_refl _⟩ rfl rfl (Nat.le_of_ble_eq_true rfl) (Nat.le_of_ble_eq_true rfl) rfl rfl (Nat.le_of_ble_eq_true rfl) rfl (fun v9 n9 M_2 hp9 => ?_)
                        obtain ⟨rfl, rfl, hC, o_2⟩ := hp9
                        have ho := ho.tr o_2 (by omega) (by omega)
                        refine jk_iinc (q := 128) h dX2_cutBuckets_125 rfl rfl rfl rfl ?_
                        refine jk_iinc (q := 131) h dX2_cutBuckets_128 rfl rfl rfl rfl ?_
                        refine jk_goto (q := 134) (tgt := 85) h dX2_cutBuckets_131 (by decide) ?_
                        exact jk_weak (jwk_s rfl (jwk_s rfl (jwk_s rfl (jwk_s rfl (jwk_s rfl (jwk_s rfl (jwk_s rfl (jwk_s rfl (jwk_s rfl jwk_0))))))))) (ih85 _ (by omega) _ _ _ _ _ _ _ _ (by omega) (by omega) hC (by rw [← Int.add_assoc]; exact hst.1) (by omega) (jrF_up hF2 (by omega) (by omega)) (jrF_up hF3 (by omega) (by omega)) (by omega) (by omega) ho rfl)
                      refine jk_iload (q := 94) h dX2_cutBuckets_92 rfl rfl ?_
                      refine jk_if_ne (q := 97) (tgt := 117) h dX2_cutBuckets_94 (by decide) rfl ⟨by omega, by omega⟩ (fun c94 => ?_) (fun c94 => ?_)
                      · have hmm := pbI_m (v := v) hbn1 hbn2 c94 hI
                        have hmm5 := hmm.2.2.2.2.1
                        exact jk_weak (jwk_s rfl (jwk_s rfl (jwk_s rfl (jwk_s rfl (jwk_s rfl (jwk_s rfl (jwk_s rfl (jwk_s rfl (jwk_s rfl jwk_0))))))))) (jn117 _ _ _ _ _ _ _ hC (by first | exact hmm | exact hnx.2.2) (by first | exact hF1 | exact jrF_up hF1 (by omega) (by omega)) (by first | exact hF2 | exact jrF_up hF2 (by omega) (by omega)) (by first | exact hF3 | exact jrF_up hF3 (by omega) (by omega)) (by omega) (by omega) ho)
                      · have c94b : room = 0 := by omega
                        subst c94b
                        have hnx := pbI_n (v := v) hbn1 hbn2 (by omega) hI
                        have hfh := fhS_le (b := bk + 1) (bn := bn9) hal (by omega) hbn1
                        refine jk_iinc (q := 100) h dX2_cutBuckets_97 rfl rfl rfl rfl ?_
                        refine jk_aload_n (q := 101) h dX2_cutBuckets_100 rfl rfl ?_
                        refine jk_iload (q := 103) h dX2_cutBuckets_101 rfl rfl ?_
                        refine jk_iload_n (q := 104) h dX2_cutBuckets_103 rfl rfl ?_
                        refine jk_callV (q := 107) h hX (c_X2_fullHeight hC ⟨hbn1, hbn7.2⟩ ⟨by omega, by omega⟩ ⟨by omega, by omega⟩) mv_X2_fullHeight (hC.at 0 rfl) dX2_cutBuckets_104 ml_X2_75 ⟨rfl, Nat.le_refl _⟩ rfl rfl (Nat.le_of_ble_eq_true rfl) (Nat.le_of_ble_eq_true rfl) rfl rfl (Nat.le_of_ble_eq_true rfl) rfl (fun v9 n9 M9 hp9 => ?_)
                        obtain ⟨rfl, rfl, rfl⟩ := hp9
                        refine jk_istore (q := 109) h dX2_cutBuckets_107 rfl (Nat.le_of_ble_eq_true rfl) rfl rfl ?_
                        refine jk_aload_n (q := 110) h dX2_cutBuckets_109 rfl rfl ?_
                        refine jk_iload (q := 112) h dX2_cutBuckets_110 rfl rfl ?_
                        refine jk_iload (q := 114) h dX2_cutBuckets_112 rfl rfl ?_
                        refine jk_callV (q := 117) h hX (c_X2_startBucket hC hbn7.2 ⟨by omega, by omega⟩ ⟨by omega, by omega⟩) mv_X2_startBucket (hC.at 0 rfl) dX2_cutBuckets_114 ml_X2_78 ⟨rfl, Nat.le_refl _⟩ rfl rfl (Nat.le_of_ble_eq_true rfl) (Nat.le_of_ble_eq_true rfl) rfl rfl (Nat.le_of_ble_eq_true rfl) rfl (fun v9 n9 M_3 hp9 => ?_)
                        obtain ⟨rfl, rfl, hC, o_3⟩ := hp9
                        have ho := ho.tr o_3 (by omega) (by omega)
                        exact jk_weak (jwk_s rfl (jwk_s rfl (jwk_s rfl (jwk_s rfl (jwk_s rfl (jwk_s rfl (jwk_s rfl (jwk_s rfl (jwk_s rfl jwk_0))))))))) (jn117 _ _ _ _ _ _ _ hC (by first | exact hmm | exact hnx.2.2) (by first | exact hF1 | exact jrF_up hF1 (by omega) (by omega)) (by first | exact hF2 | exact jrF_up hF2 (by omega) (by omega)) (by first | exact hF3 | exact jrF_up hF3 (by omega) (by omega)) (by omega) (by omega) ho)
                exact jk_weak (jwk_s rfl (jwk_s rfl (jwk_s rfl (jwk_s rfl (jwk_s rfl (jwk_s rfl (jwk_s rfl (jwk_s rfl (jwk_s rfl jwk_0))))))))) (lp85 _ _ _ _ _ _ _ _ _ (by omega) (by rw [hz]; exact hlf0 _) hC (by rw [Int.add_zero]; exact hI) (by omega) (by omega) (by omega) (by omega) (by omega) ho rfl)
              refine jk_aload_n (q := 61) h dX2_cutBuckets_60 rfl rfl ?_
              refine jk_iload (q := 63) h dX2_cutBuckets_61 rfl rfl ?_
              refine jk_callV (q := 66) h hX (c_X2_isCommon2 hC hcv hcn ⟨by omega, by omega⟩) mv_X2_isCommon (hC.at 0 rfl) dX2_cutBuckets_63 ml_X2_71 ⟨rfl, Nat.le_refl _⟩ rfl rfl (Nat.le_of_ble_eq_true rfl) (Nat.le_of_ble_eq_true rfl) rfl rfl (Nat.le_of_ble_eq_true rfl) rfl (fun v9 n9 M9 hp9 => ?_)
              obtain ⟨rfl, rfl, rfl⟩ := hp9
              refine jk_if_eqB (q := 69) (tgt := 73) h dX2_cutBuckets_66 (by decide) rfl (fun c66 => ?_) (fun c66 => ?_)
              · refine jk_aload_n (q := 74) h dX2_cutBuckets_73 rfl rfl ?_
                refine jk_get (q := 77) h fg_X2_9 dX2_cutBuckets_74 (hC.at 0 rfl) rfl rfl ?_
                refine jk_iload (q := 79) h dX2_cutBuckets_77 rfl rfl ?_
                refine jk_ialdI (q := 80) h dX2_cutBuckets_79 (hC.at 1 rfl) (by omega) (by omega) rfl rfl ?_
                exact jk_weak (jwk_s rfl (jwk_s rfl (jwk_s rfl (jwk_s rfl (jwk_s rfl (jwk_s rfl (jwk_s rfl (jwk_n (jwk_n jwk_0))))))))) (jn80 _ (by rw [hlfv]; first | rw [if_pos c66] | rw [if_neg c66]) (by omega))
              · refine jk_iconst (q := 70) h dX2_cutBuckets_69 rfl ?_
                refine jk_goto (q := 73) (tgt := 80) h dX2_cutBuckets_70 (by decide) ?_
                exact jk_weak (jwk_s rfl (jwk_s rfl (jwk_s rfl (jwk_s rfl (jwk_s rfl (jwk_s rfl (jwk_s rfl (jwk_n (jwk_n jwk_0))))))))) (jn80 _ (by rw [hlfv]; first | rw [if_pos c66] | rw [if_neg c66]) (by omega))
        exact jk_weak (jwk_s rfl (jwk_s rfl (jwk_s rfl (jwk_s rfl (jwk_s rfl (jwk_s rfl (jwk_s rfl (jwk_n (jwk_n jwk_0))))))))) (lp53 _ _ _ _ _ _ _ _ _ (by omega) (by omega) hC pbI_0 hlo hhi hbr (by omega) (by omega) ho rfl)
      · refine jk_iload_n (q := 15) h dX2_cutBuckets_14 rfl rfl ?_
        refine jk_aload_n (q := 16) h dX2_cutBuckets_15 rfl rfl ?_
        refine jk_get (q := 19) h fg_X2_18 dX2_cutBuckets_16 (hC.at 0 rfl) rfl rfl ?_
        refine jk_iload (q := 21) h dX2_cutBuckets_19 rfl rfl ?_
        refine jk_ialdI (q := 22) h dX2_cutBuckets_21 (hC.at 3 rfl) (by omega) (by omega) rfl rfl ?_
        refine jk_isub (q := 23) h dX2_cutBuckets_22 rfl ?_
        refine jk_istore_n (q := 24) h dX2_cutBuckets_23 rfl (Nat.le_of_ble_eq_true rfl) rfl rfl ?_
        refine jk_iinc (q := 27) h dX2_cutBuckets_24 rfl rfl rfl rfl ?_
        refine jk_goto (q := 30) (tgt := 5) h dX2_cutBuckets_27 (by decide) ?_
        exact jk_weak (jwk_s rfl (jwk_s rfl (jwk_s rfl (jwk_s rfl (jwk_s rfl (jwk_n (jwk_n (jwk_n (jwk_n jwk_0))))))))) (ih5 _ (by omega) _ _ (by omega) (by omega) (by rw [smI_s hi9]; omega) rfl)
  exact jk_weak (jwk_s rfl (jwk_s rfl (jwk_s rfl (jwk_s rfl (jwk_s rfl (jwk_n (jwk_n (jwk_n (jwk_n jwk_0))))))))) (lp5 _ _ _ (by omega) (by omega) (by rw [smI_0]; omega) rfl)
