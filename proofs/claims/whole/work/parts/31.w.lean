/-! the reference: what only answers -/
theorem mcT.bk {σ : Nat → Int} {c : Int} {y : TC} (h : mcT σ c y) {k w : Int} (h0 : 0 ≤ k) (h1 : k < y.2.2.2.2.2.2.2.2) (hw : 0 ≤ w ∧ w ≤ 3) : σ (130 + 40 * c + 4 * k + w).toNat = if w = 0 then y.2.2.2.2.1 k.toNat else if w = 1 then y.2.2.2.2.2.1 k.toNat else if w = 2 then y.2.2.2.2.2.2.1 k.toNat else y.2.2.2.2.2.2.2.1 k.toNat := by
  obtain ⟨a, b, d, e⟩ := h.2.2.2.2 k h0 h1
  have hc : w = 0 ∨ w = 1 ∨ w = 2 ∨ w = 3 := by omega
  rcases hc with z | z | z | z <;> rw [z]
  · rw [Int.add_zero]; exact a
  · exact b
  · exact d
  · exact e
theorem mcT.cm {σ : Nat → Int} {c : Int} {y : TC} (h : mcT σ c y) {k w : Int} (h0 : 0 ≤ k) (h1 : k < y.2.2.2.1) (hw : 0 ≤ w ∧ w ≤ 1) : σ (212 + 12 * c + 2 * k + w).toNat = if w = 0 then y.2.1 k.toNat else y.2.2.1 k.toNat := by
  obtain ⟨a, b⟩ := h.2.2.1 k h0 h1
  have hc : w = 0 ∨ w = 1 := by omega
  rcases hc with z | z <;> rw [z]
  · rw [Int.add_zero]; exact a
  · exact b
theorem mpT.pr {σ : Nat → Int} {p : TP} (h : mpT σ p) {k w : Int} (h0 : 0 ≤ k) (h1 : k < p.2.2.2) (hw : 0 ≤ w ∧ w ≤ 2) : σ (237 + 3 * k + w).toNat = if w = 0 then p.1 k.toNat else if w = 1 then p.2.1 k.toNat else p.2.2.1 k.toNat := by
  obtain ⟨a, b, d⟩ := h.2 k h0 h1
  have hc : w = 0 ∨ w = 1 ∨ w = 2 := by omega
  rcases hc with z | z | z <;> rw [z]
  · rw [Int.add_zero]; exact a
  · exact b
  · exact d
abbrev trF (y : TT) (c lo hi : Int) : Nat → Int := fun k => if lo ≤ colT y c k ∧ colT y c k ≤ hi then 1 else 0
theorem tru_eq {x : TS} (h : tbQ x.2.1) {c lo hi : Int} : smI (trF x.2.1 c lo hi) x.2.1.2.2 = truR x c lo hi := by
  show _ = if c = 0 then _ else _
  by_cases hc : c = 0
  · rw [if_pos hc]
    refine sm_cong (fun k _ => ?_)
    have h1 := h.2.1 k
    show (if _ ∧ _ then _ else _) = if _ then _ else _
    rw [show colT x.2.1 c k = x.2.1.1 k by unfold colT; rw [if_pos hc]]
    by_cases hp : lo ≤ x.2.1.1 k ∧ x.2.1.1 k ≤ hi
    · rw [if_pos hp, if_pos ⟨hp, h1⟩]
    · rw [if_neg hp, if_neg (fun z => hp z.1)]
  · rw [if_neg hc]
    refine sm_cong (fun k _ => ?_)
    have h1 := h.1 k
    show (if _ ∧ _ then _ else _) = if _ then _ else _
    rw [show colT x.2.1 c k = x.2.1.2.1 k by unfold colT; rw [if_neg hc]]
    by_cases hp : lo ≤ x.2.1.2.1 k ∧ x.2.1.2.1 k ≤ hi
    · rw [if_pos hp, if_pos ⟨h1, hp⟩]
    · rw [if_neg hp, if_neg (fun z => hp z.2)]
theorem pr_all {p : TP} : prS p 0 99 0 99 ≤ smI p.2.2.1 p.2.2.2 ∨ True := Or.inr trivial
theorem pr_le {p : TP} (h : pfQ p) (la ha lb hb : Int) : prS p la ha lb hb ≤ smI p.2.2.1 p.2.2.2 := sm_le (fun k _ => by
  have := h.2.2.1 k
  show (if _ then _ else _) ≤ _
  split <;> omega)

set_option maxHeartbeats 4000000 in
set_option maxRecDepth 100000 in
theorem c_X10_off {l : Launch} {D : va_G} {b0 : Nat} {n : Nat} {M : jM} {q : Nat} {σ : Nat → Int} (hσ : jPic M q [aI 455 σ]) {y : TC} {c : Int} (hc : c = 0 ∨ c = 1) (hm : mcT σ c y) (hO : cfQ y) {v : Int} (hv : 0 ≤ v ∧ v ≤ 99) : jCtr l D b0 yX10_off cX10_off 4 (some .int) 2 0 0 [.ref q, jI c, jI v] n M (jrd n M (miT y v)) := by
  refine jctr (lv := [some (.ref q), some (jI c), some (jI v), none]) RX10 "off" rfl rfl (by decide) (Nat.le_of_ble_eq_true rfl) rfl ?_
  intro X h hR hX
  have hgb := gsT_bd (low := v) (high := v) hO
  have hhb := hO.1 v.toNat
  refine jk_aload_n (q := 1) h dX10_off_0 rfl rfl ?_
  refine jk_iload_n (q := 2) h dX10_off_1 rfl rfl ?_
  refine jk_iload_n (q := 3) h dX10_off_2 rfl rfl ?_
  refine jk_iload_n (q := 4) h dX10_off_3 rfl rfl ?_
  refine jk_iconst (q := 5) h dX10_off_4 rfl ?_
  refine jk_callS (q := 8) h hX (c_X10_estimated hσ hc hm hO ⟨hv.1, Int.le_refl _⟩ hv.2 ⟨by omega, by omega⟩) ms_X10_estimated dX10_off_5 ml_X10_90 ⟨rfl, Nat.le_refl _⟩ rfl rfl (Nat.le_of_ble_eq_true rfl) (Nat.le_of_ble_eq_true rfl) rfl rfl (Nat.le_of_ble_eq_true rfl) rfl (fun v9 n9 M9 hp9 => ?_)
  obtain ⟨rfl, rfl, rfl⟩ := hp9
  refine jk_name (fun g9 hg9 => ?_)
  have hg9 : g9 = gsT y v v := hg9
  rw [← hg9] at hgb
  refine jk_aload_n (q := 9) h dX10_off_8 rfl rfl ?_
  refine jk_iload_n (q := 10) h dX10_off_9 rfl rfl ?_
  refine jk_iload_n (q := 11) h dX10_off_10 rfl rfl ?_
  refine jk_callS (q := 14) h hX (c_X10_had hσ (by omega) (by omega)) ms_X10_had dX10_off_11 ml_X10_50 ⟨rfl, Nat.le_refl _⟩ rfl rfl (Nat.le_of_ble_eq_true rfl) (Nat.le_of_ble_eq_true rfl) rfl rfl (Nat.le_of_ble_eq_true rfl) rfl (fun v9 n9 M9 hp9 => ?_)
  obtain ⟨rfl, rfl, rfl⟩ := hp9
  refine jk_name (fun h9 hh9 => ?_)
  have hh9 : h9 = y.1 v.toNat := hh9.trans (hm.1 v hv.1 (by omega))
  rw [← hh9] at hhb
  refine jk_isub (q := 15) h dX10_off_14 rfl ?_
  refine jk_istore_n (q := 16) h dX10_off_15 rfl (Nat.le_of_ble_eq_true rfl) rfl rfl ?_
  refine jk_iload_n (q := 17) h dX10_off_16 rfl rfl ?_
  refine jk_if_ge (q := 20) (tgt := 25) h dX10_off_17 (by decide) rfl ⟨by omega, by omega⟩ (fun c17 => ?_) (fun c17 => ?_)
  · refine jk_iload_n (q := 26) h dX10_off_25 rfl rfl ?_
    exact jk_iret h hR dX10_off_26 (Nat.le_of_ble_eq_true rfl) (Nat.le_of_ble_eq_true rfl) (jrd_of (by show (if 0 ≤ gsT y v v - y.1 v.toNat then gsT y v v - y.1 v.toNat else -(gsT y v v - y.1 v.toNat)) = _; rw [← hg9, ← hh9]; first | exact if_pos (by omega) | exact if_neg (by omega)))
  · refine jk_iload_n (q := 21) h dX10_off_20 rfl rfl ?_
    refine jk_ineg (q := 22) h dX10_off_21 rfl ?_
    refine jk_goto (q := 25) (tgt := 26) h dX10_off_22 (by decide) ?_
    exact jk_iret h hR dX10_off_26 (Nat.le_of_ble_eq_true rfl) (Nat.le_of_ble_eq_true rfl) (jrd_of (by show (if 0 ≤ gsT y v v - y.1 v.toNat then gsT y v v - y.1 v.toNat else -(gsT y v v - y.1 v.toNat)) = _; rw [← hg9, ← hh9]; first | exact if_pos (by omega) | exact if_neg (by omega)))

set_option maxHeartbeats 4000000 in
set_option maxRecDepth 100000 in
theorem c_X10_worstOf {l : Launch} {D : va_G} {b0 : Nat} {n : Nat} {M : jM} {q : Nat} {σ : Nat → Int} (hσ : jPic M q [aI 455 σ]) {y : TC} {c : Int} (hc : c = 0 ∨ c = 1) (hm : mcT σ c y) (hO : cfQ y) : jCtr l D b0 yX10_worstOf cX10_worstOf 4 (some .int) 3 0 0 [.ref q, jI c] n M (jrd n M (wvI (miT y) 100)) := by
  refine jctr (lv := [some (.ref q), some (jI c), none, none]) RX10 "worstOf" rfl rfl (by decide) (Nat.le_of_ble_eq_true rfl) rfl ?_
  intro X h hR hX
  refine jk_iconst (q := 1) h dX10_worstOf_0 rfl ?_
  refine jk_istore_n (q := 2) h dX10_worstOf_1 rfl (Nat.le_of_ble_eq_true rfl) rfl rfl ?_
  refine jk_iconst (q := 3) h dX10_worstOf_2 rfl ?_
  refine jk_istore_n (q := 4) h dX10_worstOf_3 rfl (Nat.le_of_ble_eq_true rfl) rfl rfl ?_
  have lp4 : ∀ (k9 : Nat) (w : Int) (i : Int) (hi1 : 1 ≤ i) (hi2 : i ≤ 100) (hw : w = wvI (miT y) i) (hw2 : 0 ≤ w ∧ w < i) (hk9 : (100 - i).toNat = k9), jJ X 4 [some (.ref (q)), some (jI (c)), some (jI (w)), some (jI (i))] [] n M 0 0 := by
    intro k9
    induction k9 using Nat.strongRecOn with
    | _ k9 ih4 =>
      intro w i hi1 hi2 hw hw2 hk9
      have hb1 := miT_bd (v := i) hO
      have hb2 := miT_bd (v := w) hO
      refine jk_iload_n (q := 5) h dX10_worstOf_4 rfl rfl ?_
      refine jk_bipush (q := 7) h dX10_worstOf_5 (by decide) rfl ?_
      refine jk_icmp_ge (q := 10) (tgt := 37) h dX10_worstOf_7 (by decide) rfl ⟨by omega, by omega⟩ ⟨by omega, by omega⟩ (fun c7 => ?_) (fun c7 => ?_)
      · have hi3 : i = 100 := by omega
        subst hi3
        refine jk_iload_n (q := 38) h dX10_worstOf_37 rfl rfl ?_
        exact jk_iret h hR dX10_worstOf_38 (Nat.le_of_ble_eq_true rfl) (Nat.le_of_ble_eq_true rfl) (jrd_of hw.symm)
      · refine jk_aload_n (q := 11) h dX10_worstOf_10 rfl rfl ?_
        refine jk_iload_n (q := 12) h dX10_worstOf_11 rfl rfl ?_
        refine jk_iload_n (q := 13) h dX10_worstOf_12 rfl rfl ?_
        refine jk_callS (q := 16) h hX (c_X10_off hσ hc hm hO ⟨by omega, by omega⟩) ms_X10_off dX10_worstOf_13 ml_X10_119 ⟨rfl, Nat.le_refl _⟩ rfl rfl (Nat.le_of_ble_eq_true rfl) (Nat.le_of_ble_eq_true rfl) rfl rfl (Nat.le_of_ble_eq_true rfl) rfl (fun v9 n9 M9 hp9 => ?_)
        obtain ⟨rfl, rfl, rfl⟩ := hp9
        refine jk_aload_n (q := 17) h dX10_worstOf_16 rfl rfl ?_
        refine jk_iload_n (q := 18) h dX10_worstOf_17 rfl rfl ?_
        refine jk_iload_n (q := 19) h dX10_worstOf_18 rfl rfl ?_
        refine jk_callS (q := 22) h hX (c_X10_off hσ hc hm hO ⟨by omega, by omega⟩) ms_X10_off dX10_worstOf_19 ml_X10_119 ⟨rfl, Nat.le_refl _⟩ rfl rfl (Nat.le_of_ble_eq_true rfl) (Nat.le_of_ble_eq_true rfl) rfl rfl (Nat.le_of_ble_eq_true rfl) rfl (fun v9 n9 M9 hp9 => ?_)
        obtain ⟨rfl, rfl, rfl⟩ := hp9
        refine jk_icmp_le (q := 25) (tgt := 29) h dX10_worstOf_22 (by decide) rfl ⟨by omega, by omega⟩ ⟨by omega, by omega⟩ (fun c22 => ?_) (fun c22 => ?_)
        · refine jk_iload_n (q := 30) h dX10_worstOf_29 rfl rfl ?_
          refine jk_istore_n (q := 31) h dX10_worstOf_30 rfl (Nat.le_of_ble_eq_true rfl) rfl rfl ?_
          refine jk_iinc (q := 34) h dX10_worstOf_31 rfl rfl rfl rfl ?_
          refine jk_goto (q := 37) (tgt := 4) h dX10_worstOf_34 (by decide) ?_
          exact jk_weak (jwk_s rfl (jwk_s rfl (jwk_s rfl (jwk_s rfl jwk_0)))) (ih4 _ (by omega) _ _ (by omega) (by omega) (by rw [wvI_s (by omega), ← hw]; first | exact (if_pos (by omega)).symm | exact (if_neg (by omega)).symm) (by omega) rfl)
        · refine jk_iload_n (q := 26) h dX10_worstOf_25 rfl rfl ?_
          refine jk_goto (q := 29) (tgt := 30) h dX10_worstOf_26 (by decide) ?_
          refine jk_istore_n (q := 31) h dX10_worstOf_30 rfl (Nat.le_of_ble_eq_true rfl) rfl rfl ?_
          refine jk_iinc (q := 34) h dX10_worstOf_31 rfl rfl rfl rfl ?_
          refine jk_goto (q := 37) (tgt := 4) h dX10_worstOf_34 (by decide) ?_
          exact jk_weak (jwk_s rfl (jwk_s rfl (jwk_s rfl (jwk_s rfl jwk_0)))) (ih4 _ (by omega) _ _ (by omega) (by omega) (by rw [wvI_s (by omega), ← hw]; first | exact (if_pos (by omega)).symm | exact (if_neg (by omega)).symm) (by omega) rfl)
  exact jk_weak (jwk_s rfl (jwk_s rfl (jwk_s rfl (jwk_s rfl jwk_0)))) (lp4 _ _ _ (by omega) (by omega) (wvI_1 _).symm (by omega) rfl)

set_option maxHeartbeats 4000000 in
set_option maxRecDepth 100000 in
theorem c_X10_truly {l : Launch} {D : va_G} {b0 : Nat} {n : Nat} {M : jM} {m : Nat} {σ τ ps : Nat → Int} {kp : Int} {sv hd pd : Nat → Int} {pn a9 : Int} {od : Nat → Int} {on : Int} {lf : Nat → Int} (hM : jPic M m (mdL m σ τ ps kp sv hd pd pn a9 od on lf)) {x : TS} (hm : mdT σ x) (hQ : stQ x) {c lo hi : Int} (hc : c = 0 ∨ c = 1) (h1 : jRng lo) (h2 : jRng hi) : jCtr l D b0 yX10_truly cX10_truly 6 (some .int) 1 0 0 [.ref m, jI c, jI lo, jI hi] n M (jrd n M (truR x c lo hi)) := by
  refine jctr (lv := [some (.ref m), some (jI c), some (jI lo), some (jI hi), none, none]) RX10 "truly" rfl rfl (by decide) (Nat.le_of_ble_eq_true rfl) rfl ?_
  intro X h hR hX
  obtain ⟨hmr, ⟨hm1, hm2, hm3⟩, hms, hmA, hmB, hmP⟩ := id hm
  obtain ⟨hse, htb, hr, hch, hOA, hOB, hOP⟩ := id hQ
  obtain ⟨hya, hyb, hys⟩ := id htb
  have hm0 := hmr.1
  have hk1 : σ (1 : Int).toNat = 1 ∨ σ (1 : Int).toNat = 0 := by { rw [hm1]; unfold mkn; split <;> simp }
  have hk2 : σ (1 : Int).toNat = 0 ↔ x.2.2.1.1 = 0 := by { rw [hm1]; unfold mkn; split <;> omega }
  refine jk_iconst (q := 1) h dX10_truly_0 rfl ?_
  refine jk_istore (q := 3) h dX10_truly_1 rfl (Nat.le_of_ble_eq_true rfl) rfl rfl ?_
  refine jk_iconst (q := 4) h dX10_truly_3 rfl ?_
  refine jk_istore (q := 6) h dX10_truly_4 rfl (Nat.le_of_ble_eq_true rfl) rfl rfl ?_
  have lp6 : ∀ (k9 : Nat) (r : Int) (i : Int) (hi1 : 0 ≤ i) (hi2 : i ≤ x.2.1.2.2) (hr2 : r = smI (trF x.2.1 c lo hi) i) (hrb : 0 ≤ r ∧ r ≤ i) (hk9 : (x.2.1.2.2 - i).toNat = k9), jJ X 6 [some (.ref (m)), some (jI (c)), some (jI (lo)), some (jI (hi)), some (jI (r)), some (jI (i))] [] n M 0 0 := by
    intro k9
    induction k9 using Nat.strongRecOn with
    | _ k9 ih6 =>
      intro r i hi1 hi2 hr2 hrb hk9
      have hcb := colT_F (q := c) htb i.toNat
      refine jk_iload (q := 8) h dX10_truly_6 rfl rfl ?_
      refine jk_aload_n (q := 9) h dX10_truly_8 rfl rfl ?_
      refine jk_get (q := 12) h fg_X10_7 dX10_truly_9 (hM.at 0 rfl) rfl rfl ?_
      refine jk_iconst (q := 13) h dX10_truly_12 rfl ?_
      refine jk_ialdI (q := 14) h dX10_truly_13 (hM.at 1 rfl) (by omega) (by omega) rfl rfl ?_
      refine jk_icmp_ge (q := 17) (tgt := 51) h dX10_truly_14 (by decide) rfl ⟨by omega, by omega⟩ ⟨by omega, by omega⟩ (fun c14 => ?_) (fun c14 => ?_)
      · have hi3 : i = x.2.1.2.2 := by omega
        subst hi3
        refine jk_iload (q := 53) h dX10_truly_51 rfl rfl ?_
        exact jk_iret h hR dX10_truly_53 (Nat.le_of_ble_eq_true rfl) (Nat.le_of_ble_eq_true rfl) (jrd_of (by rw [hr2, tru_eq htb]))
      · refine jk_iload (q := 19) h dX10_truly_17 rfl rfl ?_
        refine jk_aload_n (q := 20) h dX10_truly_19 rfl rfl ?_
        refine jk_get (q := 23) h fg_X10_7 dX10_truly_20 (hM.at 0 rfl) rfl rfl ?_
        refine jk_iload (q := 25) h dX10_truly_23 rfl rfl ?_
        refine jk_iload_n (q := 26) h dX10_truly_25 rfl rfl ?_
        refine jk_callS (q := 29) h hX (c_X10_of (jPic_c (hM.at 1 rfl)) (by omega) (by omega) (hmr.c hi1 (by omega) hc)) ms_X10_of dX10_truly_26 ml_X10_54 ⟨rfl, Nat.le_refl _⟩ rfl rfl (Nat.le_of_ble_eq_true rfl) (Nat.le_of_ble_eq_true rfl) rfl rfl (Nat.le_of_ble_eq_true rfl) rfl (fun v9 n9 M9 hp9 => ?_)
        obtain ⟨rfl, rfl, rfl⟩ := hp9
        refine jk_iload_n (q := 30) h dX10_truly_29 rfl rfl ?_
        refine jk_iload_n (q := 31) h dX10_truly_30 rfl rfl ?_
        refine jk_callS (q := 34) h hX (c_X10_in ⟨by omega, by omega⟩ ⟨by omega, by omega⟩ ⟨by omega, by omega⟩) ms_X10_in dX10_truly_31 ml_X10_35 ⟨rfl, Nat.le_refl _⟩ rfl rfl (Nat.le_of_ble_eq_true rfl) (Nat.le_of_ble_eq_true rfl) rfl rfl (Nat.le_of_ble_eq_true rfl) rfl (fun v9 n9 M9 hp9 => ?_)
        obtain ⟨rfl, rfl, rfl⟩ := hp9
        refine jk_if_eqB (q := 37) (tgt := 41) h dX10_truly_34 (by decide) rfl (fun c34 => ?_) (fun c34 => ?_)
        · refine jk_iconst (q := 42) h dX10_truly_41 rfl ?_
          refine jk_iadd (q := 43) h dX10_truly_42 rfl ?_
          refine jk_istore (q := 45) h dX10_truly_43 rfl (Nat.le_of_ble_eq_true rfl) rfl rfl ?_
          refine jk_iinc (q := 48) h dX10_truly_45 rfl rfl rfl rfl ?_
          refine jk_goto (q := 51) (tgt := 6) h dX10_truly_48 (by decide) ?_
          exact jk_weak (jwk_s rfl (jwk_s rfl (jwk_s rfl (jwk_s rfl (jwk_s rfl (jwk_s rfl jwk_0)))))) (ih6 _ (by omega) _ _ (by omega) (by omega) (by first | exact smI_t hi1 hr2 (if_pos (by omega)) | exact smI_t hi1 hr2 (if_neg (by omega))) (by omega) rfl)
        · refine jk_iconst (q := 38) h dX10_truly_37 rfl ?_
          refine jk_goto (q := 41) (tgt := 42) h dX10_truly_38 (by decide) ?_
          refine jk_iadd (q := 43) h dX10_truly_42 rfl ?_
          refine jk_istore (q := 45) h dX10_truly_43 rfl (Nat.le_of_ble_eq_true rfl) rfl rfl ?_
          refine jk_iinc (q := 48) h dX10_truly_45 rfl rfl rfl rfl ?_
          refine jk_goto (q := 51) (tgt := 6) h dX10_truly_48 (by decide) ?_
          exact jk_weak (jwk_s rfl (jwk_s rfl (jwk_s rfl (jwk_s rfl (jwk_s rfl (jwk_s rfl jwk_0)))))) (ih6 _ (by omega) _ _ (by omega) (by omega) (by first | exact smI_t hi1 hr2 (if_pos (by omega)) | exact smI_t hi1 hr2 (if_neg (by omega))) (by omega) rfl)
  exact jk_weak (jwk_s rfl (jwk_s rfl (jwk_s rfl (jwk_s rfl (jwk_s rfl (jwk_s rfl jwk_0)))))) (lp6 _ _ _ (by omega) (by omega) rfl (by omega) rfl)

set_option maxHeartbeats 4000000 in
set_option maxRecDepth 100000 in
theorem c_X10_scaled {l : Launch} {D : va_G} {b0 : Nat} {n : Nat} {M : jM} {m : Nat} {σ τ ps : Nat → Int} {kp : Int} {sv hd pd : Nat → Int} {pn a9 : Int} {od : Nat → Int} {on : Int} {lf : Nat → Int} (hM : jPic M m (mdL m σ τ ps kp sv hd pd pn a9 od on lf)) {x : TS} (hm : mdT σ x) (hQ : stQ x) {g : Int} (hg : 0 ≤ g ∧ g ≤ 1000000) (hr0 : 0 < x.2.2.1.1) : jCtr l D b0 yX10_scaled cX10_scaled 2 (some .int) 0 0 0 [.ref m, jI g] n M (jrd n M (sclR x g)) := by
  refine jctr (lv := [some (.ref m), some (jI g)]) RX10 "scaled" rfl rfl (by decide) (Nat.le_of_ble_eq_true rfl) rfl ?_
  intro X h hR hX
  obtain ⟨hmr, ⟨hm1, hm2, hm3⟩, hms, hmA, hmB, hmP⟩ := id hm
  obtain ⟨hse, htb, hr, hch, hOA, hOB, hOP⟩ := id hQ
  obtain ⟨hya, hyb, hys⟩ := id htb
  have hm0 := hmr.1
  have hk1 : σ (1 : Int).toNat = 1 ∨ σ (1 : Int).toNat = 0 := by { rw [hm1]; unfold mkn; split <;> simp }
  have hk2 : σ (1 : Int).toNat = 0 ↔ x.2.2.1.1 = 0 := by { rw [hm1]; unfold mkn; split <;> omega }
  have hpm := jmulb hg.1 hg.2 hys.1 hys.2
  have hpe : g * σ (0 : Int).toNat = g * x.2.1.2.2 := by rw [hm0]
  refine jk_iload_n (q := 1) h dX10_scaled_0 rfl rfl ?_
  refine jk_aload_n (q := 2) h dX10_scaled_1 rfl rfl ?_
  refine jk_get (q := 5) h fg_X10_7 dX10_scaled_2 (hM.at 0 rfl) rfl rfl ?_
  refine jk_iconst (q := 6) h dX10_scaled_5 rfl ?_
  refine jk_ialdI (q := 7) h dX10_scaled_6 (hM.at 1 rfl) (by omega) (by omega) rfl rfl ?_
  refine jk_imul (q := 8) h dX10_scaled_7 rfl ?_
  refine jk_aload_n (q := 9) h dX10_scaled_8 rfl rfl ?_
  refine jk_get (q := 12) h fg_X10_7 dX10_scaled_9 (hM.at 0 rfl) rfl rfl ?_
  refine jk_iconst (q := 13) h dX10_scaled_12 rfl ?_
  refine jk_ialdI (q := 14) h dX10_scaled_13 (hM.at 1 rfl) (by omega) (by omega) rfl rfl ?_
  refine jk_idiv (q := 15) h dX10_scaled_14 (by omega) (by omega) (by omega) (by omega) rfl ?_
  exact jk_iret h hR dX10_scaled_15 (Nat.le_of_ble_eq_true rfl) (Nat.le_of_ble_eq_true rfl) (jrd_of (by show (if _ then _ else _) = _; rw [if_pos hr0, hm0, hm2]))

set_option maxHeartbeats 4000000 in
set_option maxRecDepth 100000 in
theorem c_X10_estimate {l : Launch} {D : va_G} {b0 : Nat} {n : Nat} {M : jM} {m : Nat} {σ τ ps : Nat → Int} {kp : Int} {sv hd pd : Nat → Int} {pn a9 : Int} {od : Nat → Int} {on : Int} {lf : Nat → Int} (hM : jPic M m (mdL m σ τ ps kp sv hd pd pn a9 od on lf)) {x : TS} (hm : mdT σ x) (hQ : stQ x) {c lo hi w : Int} (h_c : jRng c) (h_lo : jRng lo) (h_hi : jRng hi) (h_w : jRng w) : jCtr l D b0 yX10_estimate cX10_estimate 5 (some .int) 3 0 0 [.ref m, jI c, jI lo, jI hi, jI w] n M (jrd n M (estR x c lo hi w)) := by
  refine jctr (lv := [some (.ref m), some (jI c), some (jI lo), some (jI hi), some (jI w)]) RX10 "estimate" rfl rfl (by decide) (Nat.le_of_ble_eq_true rfl) rfl ?_
  intro X h hR hX
  obtain ⟨hmr, ⟨hm1, hm2, hm3⟩, hms, hmA, hmB, hmP⟩ := id hm
  obtain ⟨hse, htb, hr, hch, hOA, hOB, hOP⟩ := id hQ
  obtain ⟨hya, hyb, hys⟩ := id htb
  have hm0 := hmr.1
  have hk1 : σ (1 : Int).toNat = 1 ∨ σ (1 : Int).toNat = 0 := by { rw [hm1]; unfold mkn; split <;> simp }
  have hk2 : σ (1 : Int).toNat = 0 ↔ x.2.2.1.1 = 0 := by { rw [hm1]; unfold mkn; split <;> omega }
  refine jk_iload_n (q := 1) h dX10_estimate_0 rfl rfl ?_
  refine jk_callS (q := 4) h hX (c_X10_isColumn ⟨by omega, by omega⟩) ms_X10_isColumn dX10_estimate_1 ml_X10_79 ⟨rfl, Nat.le_refl _⟩ rfl rfl (Nat.le_of_ble_eq_true rfl) (Nat.le_of_ble_eq_true rfl) rfl rfl (Nat.le_of_ble_eq_true rfl) rfl (fun v9 n9 M9 hp9 => ?_)
  obtain ⟨rfl, rfl, rfl⟩ := hp9
  refine jk_if_eqB (q := 7) (tgt := 25) h dX10_estimate_4 (by decide) rfl (fun c4 => ?_) (fun c4 => ?_)
  · refine jk_bipush (q := 27) h dX10_estimate_25 (by decide) rfl ?_
    exact jk_iret h hR dX10_estimate_27 (Nat.le_of_ble_eq_true rfl) (Nat.le_of_ble_eq_true rfl) (jrd_of (by unfold estR; rw [if_neg (by omega)]))
  · have hcc : c = 0 ∨ c = 1 := by omega
    have hmc := hm.col hcc
    have hOc := cfQ_col hQ c
    have hgb := gsT_bd (low := lo) (high := hi) hOc
    refine jk_iload_n (q := 8) h dX10_estimate_7 rfl rfl ?_
    refine jk_iload_n (q := 9) h dX10_estimate_8 rfl rfl ?_
    refine jk_callS (q := 12) h hX (c_X10_areBounds ⟨by omega, by omega⟩ ⟨by omega, by omega⟩) ms_X10_areBounds dX10_estimate_9 ml_X10_82 ⟨rfl, Nat.le_refl _⟩ rfl rfl (Nat.le_of_ble_eq_true rfl) (Nat.le_of_ble_eq_true rfl) rfl rfl (Nat.le_of_ble_eq_true rfl) rfl (fun v9 n9 M9 hp9 => ?_)
    obtain ⟨rfl, rfl, rfl⟩ := hp9
    refine jk_if_eqB (q := 15) (tgt := 25) h dX10_estimate_12 (by decide) rfl (fun c12 => ?_) (fun c12 => ?_)
    · refine jk_bipush (q := 27) h dX10_estimate_25 (by decide) rfl ?_
      exact jk_iret h hR dX10_estimate_27 (Nat.le_of_ble_eq_true rfl) (Nat.le_of_ble_eq_true rfl) (jrd_of (by unfold estR; rw [if_neg (by omega)]))
    · refine jk_iload (q := 17) h dX10_estimate_15 rfl rfl ?_
      refine jk_iconst (q := 18) h dX10_estimate_17 rfl ?_
      refine jk_iconst (q := 19) h dX10_estimate_18 rfl ?_
      refine jk_callS (q := 22) h hX (c_X10_in ⟨by omega, by omega⟩ ⟨by omega, by omega⟩ ⟨by omega, by omega⟩) ms_X10_in dX10_estimate_19 ml_X10_35 ⟨rfl, Nat.le_refl _⟩ rfl rfl (Nat.le_of_ble_eq_true rfl) (Nat.le_of_ble_eq_true rfl) rfl rfl (Nat.le_of_ble_eq_true rfl) rfl (fun v9 n9 M9 hp9 => ?_)
      obtain ⟨rfl, rfl, rfl⟩ := hp9
      refine jk_if_neB (q := 25) (tgt := 28) h dX10_estimate_22 (by decide) rfl (fun c22 => ?_) (fun c22 => ?_)
      · refine jk_iload (q := 30) h dX10_estimate_28 rfl rfl ?_
        refine jk_iconst (q := 31) h dX10_estimate_30 rfl ?_
        refine jk_icmp_ne (q := 34) (tgt := 42) h dX10_estimate_31 (by decide) rfl ⟨by omega, by omega⟩ ⟨by omega, by omega⟩ (fun c31 => ?_) (fun c31 => ?_)
        · refine jk_aload_n (q := 43) h dX10_estimate_42 rfl rfl ?_
          refine jk_get (q := 46) h fg_X10_7 dX10_estimate_43 (hM.at 0 rfl) rfl rfl ?_
          refine jk_iconst (q := 47) h dX10_estimate_46 rfl ?_
          refine jk_ialdI (q := 48) h dX10_estimate_47 (hM.at 1 rfl) (by omega) (by omega) rfl rfl ?_
          refine jk_if_ne (q := 51) (tgt := 54) h dX10_estimate_48 (by decide) rfl ⟨by omega, by omega⟩ (fun c48 => ?_) (fun c48 => ?_)
          · refine jk_iload (q := 56) h dX10_estimate_54 rfl rfl ?_
            refine jk_iconst (q := 57) h dX10_estimate_56 rfl ?_
            refine jk_icmp_ge (q := 60) (tgt := 75) h dX10_estimate_57 (by decide) rfl ⟨by omega, by omega⟩ ⟨by omega, by omega⟩ (fun c57 => ?_) (fun c57 => ?_)
            · refine jk_aload_n (q := 76) h dX10_estimate_75 rfl rfl ?_
              refine jk_aload_n (q := 77) h dX10_estimate_76 rfl rfl ?_
              refine jk_get (q := 80) h fg_X10_7 dX10_estimate_77 (hM.at 0 rfl) rfl rfl ?_
              refine jk_iload_n (q := 81) h dX10_estimate_80 rfl rfl ?_
              refine jk_iload_n (q := 82) h dX10_estimate_81 rfl rfl ?_
              refine jk_iload_n (q := 83) h dX10_estimate_82 rfl rfl ?_
              refine jk_iconst (q := 84) h dX10_estimate_83 rfl ?_
              refine jk_callS (q := 87) h hX (c_X10_estimated (jPic_c (hM.at 1 rfl)) hcc hmc hOc ⟨by omega, by omega⟩ (by omega) ⟨by omega, by omega⟩) ms_X10_estimated dX10_estimate_84 ml_X10_90 ⟨rfl, Nat.le_refl _⟩ rfl rfl (Nat.le_of_ble_eq_true rfl) (Nat.le_of_ble_eq_true rfl) rfl rfl (Nat.le_of_ble_eq_true rfl) rfl (fun v9 n9 M9 hp9 => ?_)
              obtain ⟨rfl, rfl, rfl⟩ := hp9
              refine jk_name (fun g9 hg9 => ?_)
              have hg9 : g9 = gsT (colA x c) lo hi := hg9
              rw [← hg9] at hgb
              refine jk_callV (q := 90) h hX (c_X10_scaled hM hm hQ (by exact ⟨hgb.1, by have := hgb.2; omega⟩) (by omega)) mv_X10_scaled (hM.at 0 rfl) dX10_estimate_87 ml_X10_94 ⟨rfl, Nat.le_refl _⟩ rfl rfl (Nat.le_of_ble_eq_true rfl) (Nat.le_of_ble_eq_true rfl) rfl rfl (Nat.le_of_ble_eq_true rfl) rfl (fun v9 n9 M9 hp9 => ?_)
              obtain ⟨rfl, rfl, rfl⟩ := hp9
              exact jk_iret h hR dX10_estimate_90 (Nat.le_of_ble_eq_true rfl) (Nat.le_of_ble_eq_true rfl) (jrd_of (by unfold estR; rw [if_pos ⟨by omega, by omega, by omega⟩, if_neg (by omega), if_pos (by omega)]; first | (rw [if_neg (by omega), if_neg (by omega), if_neg (by omega), ← hg9]; done) | (rcases (show w = 0 ∨ w = 1 ∨ w = 2 by omega) with z | z | z <;> rw [z] <;> rfl)))
            · refine jk_aload_n (q := 61) h dX10_estimate_60 rfl rfl ?_
              refine jk_get (q := 64) h fg_X10_7 dX10_estimate_61 (hM.at 0 rfl) rfl rfl ?_
              refine jk_iload_n (q := 65) h dX10_estimate_64 rfl rfl ?_
              refine jk_iload_n (q := 66) h dX10_estimate_65 rfl rfl ?_
              refine jk_iload_n (q := 67) h dX10_estimate_66 rfl rfl ?_
              refine jk_iload (q := 69) h dX10_estimate_67 rfl rfl ?_
              refine jk_callS (q := 72) h hX (c_X10_estimated (jPic_c (hM.at 1 rfl)) hcc hmc hOc ⟨by omega, by omega⟩ (by omega) ⟨by omega, by omega⟩) ms_X10_estimated dX10_estimate_69 ml_X10_90 ⟨rfl, Nat.le_refl _⟩ rfl rfl (Nat.le_of_ble_eq_true rfl) (Nat.le_of_ble_eq_true rfl) rfl rfl (Nat.le_of_ble_eq_true rfl) rfl (fun v9 n9 M9 hp9 => ?_)
              obtain ⟨rfl, rfl, rfl⟩ := hp9
              refine jk_goto (q := 75) (tgt := 90) h dX10_estimate_72 (by decide) ?_
              exact jk_iret h hR dX10_estimate_90 (Nat.le_of_ble_eq_true rfl) (Nat.le_of_ble_eq_true rfl) (jrd_of (by unfold estR; rw [if_pos ⟨by omega, by omega, by omega⟩, if_neg (by omega), if_pos (by omega)]; first | (rw [if_neg (by omega), if_neg (by omega), if_neg (by omega), ← hg9]; done) | (rcases (show w = 0 ∨ w = 1 ∨ w = 2 by omega) with z | z | z <;> rw [z] <;> rfl)))
          · refine jk_bipush (q := 53) h dX10_estimate_51 (by decide) rfl ?_
            exact jk_iret h hR dX10_estimate_53 (Nat.le_of_ble_eq_true rfl) (Nat.le_of_ble_eq_true rfl) (jrd_of (by unfold estR; rw [if_pos ⟨by omega, by omega, by omega⟩, if_neg (by omega), if_neg (by omega)]))
        · refine jk_aload_n (q := 35) h dX10_estimate_34 rfl rfl ?_
          refine jk_iload_n (q := 36) h dX10_estimate_35 rfl rfl ?_
          refine jk_iload_n (q := 37) h dX10_estimate_36 rfl rfl ?_
          refine jk_iload_n (q := 38) h dX10_estimate_37 rfl rfl ?_
          refine jk_callV (q := 41) h hX (c_X10_truly hM hm hQ hcc ⟨by omega, by omega⟩ ⟨by omega, by omega⟩) mv_X10_truly (hM.at 0 rfl) dX10_estimate_38 ml_X10_86 ⟨rfl, Nat.le_refl _⟩ rfl rfl (Nat.le_of_ble_eq_true rfl) (Nat.le_of_ble_eq_true rfl) rfl rfl (Nat.le_of_ble_eq_true rfl) rfl (fun v9 n9 M9 hp9 => ?_)
          obtain ⟨rfl, rfl, rfl⟩ := hp9
          exact jk_iret h hR dX10_estimate_41 (Nat.le_of_ble_eq_true rfl) (Nat.le_of_ble_eq_true rfl) (jrd_of (by unfold estR; rw [if_pos ⟨by omega, by omega, by omega⟩, if_pos (by omega)]))
      · refine jk_bipush (q := 27) h dX10_estimate_25 (by decide) rfl ?_
        exact jk_iret h hR dX10_estimate_27 (Nat.le_of_ble_eq_true rfl) (Nat.le_of_ble_eq_true rfl) (jrd_of (by unfold estR; rw [if_neg (by omega)]))

set_option maxHeartbeats 4000000 in
set_option maxRecDepth 100000 in
theorem c_X10_paired {l : Launch} {D : va_G} {b0 : Nat} {n : Nat} {M : jM} {m : Nat} {σ τ ps : Nat → Int} {kp : Int} {sv hd pd : Nat → Int} {pn a9 : Int} {od : Nat → Int} {on : Int} {lf : Nat → Int} (hM : jPic M m (mdL m σ τ ps kp sv hd pd pn a9 od on lf)) {x : TS} (hm : mdT σ x) (hQ : stQ x) {la ha9 lb hb9 : Int} (h1 : jRng la) (h2 : jRng ha9) (h3 : jRng lb) (h4 : jRng hb9) : jCtr l D b0 yX10_paired cX10_paired 8 (some .int) 1 0 0 [.ref m, jI la, jI ha9, jI lb, jI hb9] n M (jrd n M (prS x.2.2.2.2.2 la ha9 lb hb9)) := by
  refine jctr (lv := [some (.ref m), some (jI la), some (jI ha9), some (jI lb), some (jI hb9), none, none, none]) RX10 "paired" rfl rfl (by decide) (Nat.le_of_ble_eq_true rfl) rfl ?_
  intro X h hR hX
  obtain ⟨hmr, ⟨hm1, hm2, hm3⟩, hms, hmA, hmB, hmP⟩ := id hm
  obtain ⟨hse, htb, hr, hch, hOA, hOB, hOP⟩ := id hQ
  obtain ⟨hya, hyb, hys⟩ := id htb
  have hm0 := hmr.1
  have hk1 : σ (1 : Int).toNat = 1 ∨ σ (1 : Int).toNat = 0 := by { rw [hm1]; unfold mkn; split <;> simp }
  have hk2 : σ (1 : Int).toNat = 0 ↔ x.2.2.1.1 = 0 := by { rw [hm1]; unfold mkn; split <;> omega }
  obtain ⟨hpa, hpb, hpr, hpn⟩ := id hOP
  have hmP0 := hmP.1
  refine jk_iconst (q := 1) h dX10_paired_0 rfl ?_
  refine jk_istore (q := 3) h dX10_paired_1 rfl (Nat.le_of_ble_eq_true rfl) rfl rfl ?_
  refine jk_iconst (q := 4) h dX10_paired_3 rfl ?_
  refine jk_istore (q := 6) h dX10_paired_4 rfl (Nat.le_of_ble_eq_true rfl) rfl rfl ?_
  have lp6 : ∀ (k9 : Nat) (r : Int) (i : Int) (hi1 : 0 ≤ i) (hi2 : i ≤ x.2.2.2.2.2.2.2.2) (hr2 : r = smI (fun k => if (la ≤ x.2.2.2.2.2.1 k ∧ x.2.2.2.2.2.1 k ≤ ha9) ∧ (lb ≤ x.2.2.2.2.2.2.1 k ∧ x.2.2.2.2.2.2.1 k ≤ hb9) then x.2.2.2.2.2.2.2.1 k else 0) i) (hk9 : (x.2.2.2.2.2.2.2.2 - i).toNat = k9), jJ X 6 [some (.ref (m)), some (jI (la)), some (jI (ha9)), some (jI (lb)), some (jI (hb9)), some (jI (r)), some (jI (i)), none] [] n M 0 0 := by
    intro k9
    induction k9 using Nat.strongRecOn with
    | _ k9 ih6 =>
      intro r i hi1 hi2 hr2 hk9
      have hai := hpa i.toNat
      have hbi := hpb i.toNat
      have hri := hpr i.toNat
      refine jk_iload (q := 8) h dX10_paired_6 rfl rfl ?_
      refine jk_aload_n (q := 9) h dX10_paired_8 rfl rfl ?_
      refine jk_get (q := 12) h fg_X10_7 dX10_paired_9 (hM.at 0 rfl) rfl rfl ?_
      refine jk_sipush (q := 15) h dX10_paired_12 (by decide) rfl ?_
      refine jk_ialdI (q := 16) h dX10_paired_15 (hM.at 1 rfl) (by omega) (by omega) rfl rfl ?_
      refine jk_icmp_ge (q := 19) (tgt := 86) h dX10_paired_16 (by decide) rfl ⟨by omega, by omega⟩ ⟨by omega, by omega⟩ (fun c16 => ?_) (fun c16 => ?_)
      · have hi3 : i = x.2.2.2.2.2.2.2.2 := by omega
        subst hi3
        refine jk_iload (q := 88) h dX10_paired_86 rfl rfl ?_
        exact jk_iret h hR dX10_paired_88 (Nat.le_of_ble_eq_true rfl) (Nat.le_of_ble_eq_true rfl) (jrd_of (by rw [hr2]; rfl))
      · refine jk_sipush (q := 22) h dX10_paired_19 (by decide) rfl ?_
        refine jk_iconst (q := 23) h dX10_paired_22 rfl ?_
        refine jk_iload (q := 25) h dX10_paired_23 rfl rfl ?_
        refine jk_imul (q := 26) h dX10_paired_25 rfl ?_
        refine jk_iadd (q := 27) h dX10_paired_26 rfl ?_
        refine jk_istore (q := 29) h dX10_paired_27 rfl (Nat.le_of_ble_eq_true rfl) rfl rfl ?_
        refine jk_iload (q := 31) h dX10_paired_29 rfl rfl ?_
        obtain ⟨hx1, hx2, hx3⟩ := hmP.2 i hi1 (by omega)
        refine jk_aload_n (q := 32) h dX10_paired_31 rfl rfl ?_
        refine jk_get (q := 35) h fg_X10_7 dX10_paired_32 (hM.at 0 rfl) rfl rfl ?_
        refine jk_iload (q := 37) h dX10_paired_35 rfl rfl ?_
        refine jk_ialdI (q := 38) h dX10_paired_37 (hM.at 1 rfl) (by omega) (by omega) rfl rfl ?_
        refine jk_iload_n (q := 39) h dX10_paired_38 rfl rfl ?_
        refine jk_iload_n (q := 40) h dX10_paired_39 rfl rfl ?_
        refine jk_callS (q := 43) h hX (c_X10_in ⟨by omega, by omega⟩ ⟨by omega, by omega⟩ ⟨by omega, by omega⟩) ms_X10_in dX10_paired_40 ml_X10_35 ⟨rfl, Nat.le_refl _⟩ rfl rfl (Nat.le_of_ble_eq_true rfl) (Nat.le_of_ble_eq_true rfl) rfl rfl (Nat.le_of_ble_eq_true rfl) rfl (fun v9 n9 M9 hp9 => ?_)
        obtain ⟨rfl, rfl, rfl⟩ := hp9
        refine jk_if_eqB (q := 46) (tgt := 76) h dX10_paired_43 (by decide) rfl (fun c43 => ?_) (fun c43 => ?_)
        · refine jk_iconst (q := 77) h dX10_paired_76 rfl ?_
          refine jk_iadd (q := 78) h dX10_paired_77 rfl ?_
          refine jk_istore (q := 80) h dX10_paired_78 rfl (Nat.le_of_ble_eq_true rfl) rfl rfl ?_
          refine jk_iinc (q := 83) h dX10_paired_80 rfl rfl rfl rfl ?_
          refine jk_goto (q := 86) (tgt := 6) h dX10_paired_83 (by decide) ?_
          exact jk_weak (jwk_s rfl (jwk_s rfl (jwk_s rfl (jwk_s rfl (jwk_s rfl (jwk_s rfl (jwk_s rfl (jwk_n jwk_0)))))))) (ih6 _ (by omega) _ _ (by omega) (by omega) (by first | exact smI_t hi1 hr2 (by show (if _ then _ else _) = _; rw [if_pos (by omega)]; omega) | exact smI_t hi1 hr2 (if_neg (by omega))) rfl)
        · refine jk_aload_n (q := 47) h dX10_paired_46 rfl rfl ?_
          refine jk_get (q := 50) h fg_X10_7 dX10_paired_47 (hM.at 0 rfl) rfl rfl ?_
          refine jk_iload (q := 52) h dX10_paired_50 rfl rfl ?_
          refine jk_iconst (q := 53) h dX10_paired_52 rfl ?_
          refine jk_iadd (q := 54) h dX10_paired_53 rfl ?_
          refine jk_ialdI (q := 55) h dX10_paired_54 (hM.at 1 rfl) (by omega) (by omega) rfl rfl ?_
          refine jk_iload_n (q := 56) h dX10_paired_55 rfl rfl ?_
          refine jk_iload (q := 58) h dX10_paired_56 rfl rfl ?_
          refine jk_callS (q := 61) h hX (c_X10_in ⟨by omega, by omega⟩ ⟨by omega, by omega⟩ ⟨by omega, by omega⟩) ms_X10_in dX10_paired_58 ml_X10_35 ⟨rfl, Nat.le_refl _⟩ rfl rfl (Nat.le_of_ble_eq_true rfl) (Nat.le_of_ble_eq_true rfl) rfl rfl (Nat.le_of_ble_eq_true rfl) rfl (fun v9 n9 M9 hp9 => ?_)
          obtain ⟨rfl, rfl, rfl⟩ := hp9
          refine jk_if_eqB (q := 64) (tgt := 76) h dX10_paired_61 (by decide) rfl (fun c61 => ?_) (fun c61 => ?_)
          · refine jk_iconst (q := 77) h dX10_paired_76 rfl ?_
            refine jk_iadd (q := 78) h dX10_paired_77 rfl ?_
            refine jk_istore (q := 80) h dX10_paired_78 rfl (Nat.le_of_ble_eq_true rfl) rfl rfl ?_
            refine jk_iinc (q := 83) h dX10_paired_80 rfl rfl rfl rfl ?_
            refine jk_goto (q := 86) (tgt := 6) h dX10_paired_83 (by decide) ?_
            exact jk_weak (jwk_s rfl (jwk_s rfl (jwk_s rfl (jwk_s rfl (jwk_s rfl (jwk_s rfl (jwk_s rfl (jwk_n jwk_0)))))))) (ih6 _ (by omega) _ _ (by omega) (by omega) (by first | exact smI_t hi1 hr2 (by show (if _ then _ else _) = _; rw [if_pos (by omega)]; omega) | exact smI_t hi1 hr2 (if_neg (by omega))) rfl)
          · refine jk_aload_n (q := 65) h dX10_paired_64 rfl rfl ?_
            refine jk_get (q := 68) h fg_X10_7 dX10_paired_65 (hM.at 0 rfl) rfl rfl ?_
            refine jk_iload (q := 70) h dX10_paired_68 rfl rfl ?_
            refine jk_iconst (q := 71) h dX10_paired_70 rfl ?_
            refine jk_iadd (q := 72) h dX10_paired_71 rfl ?_
            refine jk_ialdI (q := 73) h dX10_paired_72 (hM.at 1 rfl) (by omega) (by omega) rfl rfl ?_
            refine jk_goto (q := 76) (tgt := 77) h dX10_paired_73 (by decide) ?_
            refine jk_iadd (q := 78) h dX10_paired_77 rfl ?_
            refine jk_istore (q := 80) h dX10_paired_78 rfl (Nat.le_of_ble_eq_true rfl) rfl rfl ?_
            refine jk_iinc (q := 83) h dX10_paired_80 rfl rfl rfl rfl ?_
            refine jk_goto (q := 86) (tgt := 6) h dX10_paired_83 (by decide) ?_
            exact jk_weak (jwk_s rfl (jwk_s rfl (jwk_s rfl (jwk_s rfl (jwk_s rfl (jwk_s rfl (jwk_s rfl (jwk_n jwk_0)))))))) (ih6 _ (by omega) _ _ (by omega) (by omega) (by first | exact smI_t hi1 hr2 (by show (if _ then _ else _) = _; rw [if_pos (by omega)]; omega) | exact smI_t hi1 hr2 (if_neg (by omega))) rfl)
  exact jk_weak (jwk_s rfl (jwk_s rfl (jwk_s rfl (jwk_s rfl (jwk_s rfl (jwk_s rfl (jwk_s rfl (jwk_n jwk_0)))))))) (lp6 _ _ _ (by omega) (by omega) rfl rfl)

set_option maxHeartbeats 4000000 in
set_option maxRecDepth 100000 in
theorem c_X10_bothOf {l : Launch} {D : va_G} {b0 : Nat} {n : Nat} {M : jM} {m : Nat} {σ τ ps : Nat → Int} {kp : Int} {sv hd pd : Nat → Int} {pn a9 : Int} {od : Nat → Int} {on : Int} {lf : Nat → Int} (hM : jPic M m (mdL m σ τ ps kp sv hd pd pn a9 od on lf)) {x : TS} (hm : mdT σ x) (hQ : stQ x) (hin : inQ x) (hr0 : 0 < x.2.2.1.1) {la ha lb hb : Int} (h1 : bdO la ha) (h2 : bdO lb hb) : jCtr l D b0 yX10_bothOf cX10_bothOf 9 (some .int) 2 0 0 [.ref m, jI la, jI ha, jI lb, jI hb] n M (jrd n M (gbT x.2.2.1.1 x.2.2.2.1 x.2.2.2.2.1 x.2.2.2.2.2 la ha lb hb)) := by
  refine jctr (lv := [some (.ref m), some (jI la), some (jI ha), some (jI lb), some (jI hb), none, none, none, none]) RX10 "bothOf" rfl rfl (by decide) (Nat.le_of_ble_eq_true rfl) rfl ?_
  intro X h hR hX
  obtain ⟨hmr, ⟨hm1, hm2, hm3⟩, hms, hmA, hmB, hmP⟩ := id hm
  obtain ⟨hse, htb, hr, hch, hOA, hOB, hOP⟩ := id hQ
  obtain ⟨hya, hyb, hys⟩ := id htb
  have hm0 := hmr.1
  have hk1 : σ (1 : Int).toNat = 1 ∨ σ (1 : Int).toNat = 0 := by { rw [hm1]; unfold mkn; split <;> simp }
  have hk2 : σ (1 : Int).toNat = 0 ↔ x.2.2.1.1 = 0 := by { rw [hm1]; unfold mkn; split <;> omega }
  have q1 := gsT_bd (low := la) (high := ha) hOA
  have q2 := gsT_bd (low := lb) (high := hb) hOB
  have q3 := prS_bd (la := la) (ha := ha) (lb := lb) (hb := hb) hOP
  have q4 := prS_bd (la := la) (ha := ha) (lb := 0) (hb := 99) hOP
  have q5 := prS_bd (la := 0) (ha := 99) (lb := lb) (hb := hb) hOP
  have q6 := prS_bd (la := 0) (ha := 99) (lb := 0) (hb := 99) hOP
  have q7 := Int.le_trans (pr_le hOP 0 99 0 99) hin.2.2
  obtain ⟨h1a, h1b, h1c⟩ := id h1
  obtain ⟨h2a, h2b, h2c⟩ := id h2
  refine jk_aload_n (q := 1) h dX10_bothOf_0 rfl rfl ?_
  refine jk_get (q := 4) h fg_X10_7 dX10_bothOf_1 (hM.at 0 rfl) rfl rfl ?_
  refine jk_iconst (q := 5) h dX10_bothOf_4 rfl ?_
  refine jk_iload_n (q := 6) h dX10_bothOf_5 rfl rfl ?_
  refine jk_iload_n (q := 7) h dX10_bothOf_6 rfl rfl ?_
  refine jk_iconst (q := 8) h dX10_bothOf_7 rfl ?_
  refine jk_callS (q := 11) h hX (c_X10_estimated (jPic_c (hM.at 1 rfl)) (Or.inl rfl) hmA hOA ⟨by omega, by omega⟩ (by omega) ⟨by omega, by omega⟩) ms_X10_estimated dX10_bothOf_8 ml_X10_90 ⟨rfl, Nat.le_refl _⟩ rfl rfl (Nat.le_of_ble_eq_true rfl) (Nat.le_of_ble_eq_true rfl) rfl rfl (Nat.le_of_ble_eq_true rfl) rfl (fun v9 n9 M9 hp9 => ?_)
  obtain ⟨rfl, rfl, rfl⟩ := hp9
  refine jk_name (fun g1 hg1 => ?_)
  have hg1 : g1 = gsT x.2.2.2.1 la ha := hg1
  rw [← hg1] at q1
  refine jk_aload_n (q := 12) h dX10_bothOf_11 rfl rfl ?_
  refine jk_iload_n (q := 13) h dX10_bothOf_12 rfl rfl ?_
  refine jk_iload_n (q := 14) h dX10_bothOf_13 rfl rfl ?_
  refine jk_iconst (q := 15) h dX10_bothOf_14 rfl ?_
  refine jk_bipush (q := 17) h dX10_bothOf_15 (by decide) rfl ?_
  refine jk_callV (q := 20) h hX (c_X10_paired hM hm hQ ⟨by omega, by omega⟩ ⟨by omega, by omega⟩ ⟨by omega, by omega⟩ ⟨by omega, by omega⟩) mv_X10_paired (hM.at 0 rfl) dX10_bothOf_17 ml_X10_98 ⟨rfl, Nat.le_refl _⟩ rfl rfl (Nat.le_of_ble_eq_true rfl) (Nat.le_of_ble_eq_true rfl) rfl rfl (Nat.le_of_ble_eq_true rfl) rfl (fun v9 n9 M9 hp9 => ?_)
  obtain ⟨rfl, rfl, rfl⟩ := hp9
  refine jk_name (fun p1 hp1 => ?_)
  have hp1 : p1 = prS x.2.2.2.2.2 la ha 0 99 := hp1
  rw [← hp1] at q4
  refine jk_isub (q := 21) h dX10_bothOf_20 rfl ?_
  refine jk_istore (q := 23) h dX10_bothOf_21 rfl (Nat.le_of_ble_eq_true rfl) rfl rfl ?_
  refine jk_aload_n (q := 24) h dX10_bothOf_23 rfl rfl ?_
  refine jk_get (q := 27) h fg_X10_7 dX10_bothOf_24 (hM.at 0 rfl) rfl rfl ?_
  refine jk_iconst (q := 28) h dX10_bothOf_27 rfl ?_
  refine jk_iload_n (q := 29) h dX10_bothOf_28 rfl rfl ?_
  refine jk_iload (q := 31) h dX10_bothOf_29 rfl rfl ?_
  refine jk_iconst (q := 32) h dX10_bothOf_31 rfl ?_
  refine jk_callS (q := 35) h hX (c_X10_estimated (jPic_c (hM.at 1 rfl)) (Or.inr rfl) hmB hOB ⟨by omega, by omega⟩ (by omega) ⟨by omega, by omega⟩) ms_X10_estimated dX10_bothOf_32 ml_X10_90 ⟨rfl, Nat.le_refl _⟩ rfl rfl (Nat.le_of_ble_eq_true rfl) (Nat.le_of_ble_eq_true rfl) rfl rfl (Nat.le_of_ble_eq_true rfl) rfl (fun v9 n9 M9 hp9 => ?_)
  obtain ⟨rfl, rfl, rfl⟩ := hp9
  refine jk_name (fun g2 hg2 => ?_)
  have hg2 : g2 = gsT x.2.2.2.2.1 lb hb := hg2
  rw [← hg2] at q2
  refine jk_aload_n (q := 36) h dX10_bothOf_35 rfl rfl ?_
  refine jk_iconst (q := 37) h dX10_bothOf_36 rfl ?_
  refine jk_bipush (q := 39) h dX10_bothOf_37 (by decide) rfl ?_
  refine jk_iload_n (q := 40) h dX10_bothOf_39 rfl rfl ?_
  refine jk_iload (q := 42) h dX10_bothOf_40 rfl rfl ?_
  refine jk_callV (q := 45) h hX (c_X10_paired hM hm hQ ⟨by omega, by omega⟩ ⟨by omega, by omega⟩ ⟨by omega, by omega⟩ ⟨by omega, by omega⟩) mv_X10_paired (hM.at 0 rfl) dX10_bothOf_42 ml_X10_98 ⟨rfl, Nat.le_refl _⟩ rfl rfl (Nat.le_of_ble_eq_true rfl) (Nat.le_of_ble_eq_true rfl) rfl rfl (Nat.le_of_ble_eq_true rfl) rfl (fun v9 n9 M9 hp9 => ?_)
  obtain ⟨rfl, rfl, rfl⟩ := hp9
  refine jk_name (fun p2 hp2 => ?_)
  have hp2 : p2 = prS x.2.2.2.2.2 0 99 lb hb := hp2
  rw [← hp2] at q5
  refine jk_isub (q := 46) h dX10_bothOf_45 rfl ?_
  refine jk_istore (q := 48) h dX10_bothOf_46 rfl (Nat.le_of_ble_eq_true rfl) rfl rfl ?_
  refine jk_aload_n (q := 49) h dX10_bothOf_48 rfl rfl ?_
  refine jk_get (q := 52) h fg_X10_7 dX10_bothOf_49 (hM.at 0 rfl) rfl rfl ?_
  refine jk_iconst (q := 53) h dX10_bothOf_52 rfl ?_
  refine jk_ialdI (q := 54) h dX10_bothOf_53 (hM.at 1 rfl) (by omega) (by omega) rfl rfl ?_
  refine jk_aload_n (q := 55) h dX10_bothOf_54 rfl rfl ?_
  refine jk_iconst (q := 56) h dX10_bothOf_55 rfl ?_
  refine jk_bipush (q := 58) h dX10_bothOf_56 (by decide) rfl ?_
  refine jk_iconst (q := 59) h dX10_bothOf_58 rfl ?_
  refine jk_bipush (q := 61) h dX10_bothOf_59 (by decide) rfl ?_
  refine jk_callV (q := 64) h hX (c_X10_paired hM hm hQ ⟨by omega, by omega⟩ ⟨by omega, by omega⟩ ⟨by omega, by omega⟩ ⟨by omega, by omega⟩) mv_X10_paired (hM.at 0 rfl) dX10_bothOf_61 ml_X10_98 ⟨rfl, Nat.le_refl _⟩ rfl rfl (Nat.le_of_ble_eq_true rfl) (Nat.le_of_ble_eq_true rfl) rfl rfl (Nat.le_of_ble_eq_true rfl) rfl (fun v9 n9 M9 hp9 => ?_)
  obtain ⟨rfl, rfl, rfl⟩ := hp9
  refine jk_name (fun p3 hp3 => ?_)
  have hp3 : p3 = prS x.2.2.2.2.2 0 99 0 99 := hp3
  rw [← hp3] at q6
  rw [← hp3] at q7
  refine jk_isub (q := 65) h dX10_bothOf_64 rfl ?_
  refine jk_istore (q := 67) h dX10_bothOf_65 rfl (Nat.le_of_ble_eq_true rfl) rfl rfl ?_
  refine jk_iload (q := 69) h dX10_bothOf_67 rfl rfl ?_
  refine jk_if_eq (q := 72) (tgt := 82) h dX10_bothOf_69 (by decide) rfl ⟨by omega, by omega⟩ (fun c69 => ?_) (fun c69 => ?_)
  · refine jk_iconst (q := 83) h dX10_bothOf_82 rfl ?_
    refine jk_goto (q := 86) (tgt := 94) h dX10_bothOf_83 (by decide) ?_
    refine jk_istore (q := 96) h dX10_bothOf_94 rfl (Nat.le_of_ble_eq_true rfl) rfl rfl ?_
    refine jk_aload_n (q := 97) h dX10_bothOf_96 rfl rfl ?_
    refine jk_iload_n (q := 98) h dX10_bothOf_97 rfl rfl ?_
    refine jk_iload_n (q := 99) h dX10_bothOf_98 rfl rfl ?_
    refine jk_iload_n (q := 100) h dX10_bothOf_99 rfl rfl ?_
    refine jk_iload (q := 102) h dX10_bothOf_100 rfl rfl ?_
    refine jk_callV (q := 105) h hX (c_X10_paired hM hm hQ ⟨by omega, by omega⟩ ⟨by omega, by omega⟩ ⟨by omega, by omega⟩ ⟨by omega, by omega⟩) mv_X10_paired (hM.at 0 rfl) dX10_bothOf_102 ml_X10_98 ⟨rfl, Nat.le_refl _⟩ rfl rfl (Nat.le_of_ble_eq_true rfl) (Nat.le_of_ble_eq_true rfl) rfl rfl (Nat.le_of_ble_eq_true rfl) rfl (fun v9 n9 M9 hp9 => ?_)
    obtain ⟨rfl, rfl, rfl⟩ := hp9
    refine jk_name (fun p4 hp4 => ?_)
    have hp4 : p4 = prS x.2.2.2.2.2 la ha lb hb := hp4
    rw [← hp4] at q3
    refine jk_iload (q := 107) h dX10_bothOf_105 rfl rfl ?_
    refine jk_iadd (q := 108) h dX10_bothOf_107 rfl ?_
    exact jk_iret h hR dX10_bothOf_108 (Nat.le_of_ble_eq_true rfl) (Nat.le_of_ble_eq_true rfl) (jrd_of (by unfold gbT; rw [← hg1, ← hp1, ← hg2, ← hp2, ← hp3, ← hp4, ← hm2]; first | (rw [if_neg (by omega)]; omega) | (rw [if_pos (by omega), show jmx (g1 - p1) 0 = g1 - p1 by unfold jmx; rw [if_neg (by omega)], show jmx (g2 - p2) 0 = g2 - p2 by unfold jmx; rw [if_neg (by omega)]]; done) | (rw [if_pos (by omega), show jmx (g1 - p1) 0 = 0 by unfold jmx; rw [if_pos (by omega)]]; simp) | (rw [if_pos (by omega), show jmx (g2 - p2) 0 = 0 by unfold jmx; rw [if_pos (by omega)]]; simp)))
  · refine jk_iload (q := 74) h dX10_bothOf_72 rfl rfl ?_
    refine jk_if_lt (q := 77) (tgt := 82) h dX10_bothOf_74 (by decide) rfl ⟨by omega, by omega⟩ (fun c74 => ?_) (fun c74 => ?_)
    · refine jk_iconst (q := 83) h dX10_bothOf_82 rfl ?_
      refine jk_goto (q := 86) (tgt := 94) h dX10_bothOf_83 (by decide) ?_
      refine jk_istore (q := 96) h dX10_bothOf_94 rfl (Nat.le_of_ble_eq_true rfl) rfl rfl ?_
      refine jk_aload_n (q := 97) h dX10_bothOf_96 rfl rfl ?_
      refine jk_iload_n (q := 98) h dX10_bothOf_97 rfl rfl ?_
      refine jk_iload_n (q := 99) h dX10_bothOf_98 rfl rfl ?_
      refine jk_iload_n (q := 100) h dX10_bothOf_99 rfl rfl ?_
      refine jk_iload (q := 102) h dX10_bothOf_100 rfl rfl ?_
      refine jk_callV (q := 105) h hX (c_X10_paired hM hm hQ ⟨by omega, by omega⟩ ⟨by omega, by omega⟩ ⟨by omega, by omega⟩ ⟨by omega, by omega⟩) mv_X10_paired (hM.at 0 rfl) dX10_bothOf_102 ml_X10_98 ⟨rfl, Nat.le_refl _⟩ rfl rfl (Nat.le_of_ble_eq_true rfl) (Nat.le_of_ble_eq_true rfl) rfl rfl (Nat.le_of_ble_eq_true rfl) rfl (fun v9 n9 M9 hp9 => ?_)
      obtain ⟨rfl, rfl, rfl⟩ := hp9
      refine jk_name (fun p4 hp4 => ?_)
      have hp4 : p4 = prS x.2.2.2.2.2 la ha lb hb := hp4
      rw [← hp4] at q3
      refine jk_iload (q := 107) h dX10_bothOf_105 rfl rfl ?_
      refine jk_iadd (q := 108) h dX10_bothOf_107 rfl ?_
      exact jk_iret h hR dX10_bothOf_108 (Nat.le_of_ble_eq_true rfl) (Nat.le_of_ble_eq_true rfl) (jrd_of (by unfold gbT; rw [← hg1, ← hp1, ← hg2, ← hp2, ← hp3, ← hp4, ← hm2]; first | (rw [if_neg (by omega)]; omega) | (rw [if_pos (by omega), show jmx (g1 - p1) 0 = g1 - p1 by unfold jmx; rw [if_neg (by omega)], show jmx (g2 - p2) 0 = g2 - p2 by unfold jmx; rw [if_neg (by omega)]]; done) | (rw [if_pos (by omega), show jmx (g1 - p1) 0 = 0 by unfold jmx; rw [if_pos (by omega)]]; simp) | (rw [if_pos (by omega), show jmx (g2 - p2) 0 = 0 by unfold jmx; rw [if_pos (by omega)]]; simp)))
    · refine jk_iload (q := 79) h dX10_bothOf_77 rfl rfl ?_
      refine jk_if_ge (q := 82) (tgt := 86) h dX10_bothOf_79 (by decide) rfl ⟨by omega, by omega⟩ (fun c79 => ?_) (fun c79 => ?_)
      · have hpm := jmulb (x := g1 - p1) (y := g2 - p2) (A := 960) (B := 960) (by omega) (by omega) (by omega) (by omega)
        refine jk_iload (q := 88) h dX10_bothOf_86 rfl rfl ?_
        refine jk_iload (q := 90) h dX10_bothOf_88 rfl rfl ?_
        refine jk_imul (q := 91) h dX10_bothOf_90 rfl ?_
        refine jk_iload (q := 93) h dX10_bothOf_91 rfl rfl ?_
        refine jk_idiv (q := 94) h dX10_bothOf_93 hpm.1 (by have := hpm.2; omega) (by omega) (by omega) rfl ?_
        refine jk_istore (q := 96) h dX10_bothOf_94 rfl (Nat.le_of_ble_eq_true rfl) rfl rfl ?_
        refine jk_aload_n (q := 97) h dX10_bothOf_96 rfl rfl ?_
        refine jk_iload_n (q := 98) h dX10_bothOf_97 rfl rfl ?_
        refine jk_iload_n (q := 99) h dX10_bothOf_98 rfl rfl ?_
        refine jk_iload_n (q := 100) h dX10_bothOf_99 rfl rfl ?_
        refine jk_iload (q := 102) h dX10_bothOf_100 rfl rfl ?_
        refine jk_callV (q := 105) h hX (c_X10_paired hM hm hQ ⟨by omega, by omega⟩ ⟨by omega, by omega⟩ ⟨by omega, by omega⟩ ⟨by omega, by omega⟩) mv_X10_paired (hM.at 0 rfl) dX10_bothOf_102 ml_X10_98 ⟨rfl, Nat.le_refl _⟩ rfl rfl (Nat.le_of_ble_eq_true rfl) (Nat.le_of_ble_eq_true rfl) rfl rfl (Nat.le_of_ble_eq_true rfl) rfl (fun v9 n9 M9 hp9 => ?_)
        obtain ⟨rfl, rfl, rfl⟩ := hp9
        refine jk_name (fun p4 hp4 => ?_)
        have hp4 : p4 = prS x.2.2.2.2.2 la ha lb hb := hp4
        rw [← hp4] at q3
        refine jk_iload (q := 107) h dX10_bothOf_105 rfl rfl ?_
        refine jk_iadd (q := 108) h dX10_bothOf_107 rfl ?_
        exact jk_iret h hR dX10_bothOf_108 (Nat.le_of_ble_eq_true rfl) (Nat.le_of_ble_eq_true rfl) (jrd_of (by unfold gbT; rw [← hg1, ← hp1, ← hg2, ← hp2, ← hp3, ← hp4, ← hm2]; first | (rw [if_neg (by omega)]; omega) | (rw [if_pos (by omega), show jmx (g1 - p1) 0 = g1 - p1 by unfold jmx; rw [if_neg (by omega)], show jmx (g2 - p2) 0 = g2 - p2 by unfold jmx; rw [if_neg (by omega)]]; done) | (rw [if_pos (by omega), show jmx (g1 - p1) 0 = 0 by unfold jmx; rw [if_pos (by omega)]]; simp) | (rw [if_pos (by omega), show jmx (g2 - p2) 0 = 0 by unfold jmx; rw [if_pos (by omega)]]; simp)))
      · refine jk_iconst (q := 83) h dX10_bothOf_82 rfl ?_
        refine jk_goto (q := 86) (tgt := 94) h dX10_bothOf_83 (by decide) ?_
        refine jk_istore (q := 96) h dX10_bothOf_94 rfl (Nat.le_of_ble_eq_true rfl) rfl rfl ?_
        refine jk_aload_n (q := 97) h dX10_bothOf_96 rfl rfl ?_
        refine jk_iload_n (q := 98) h dX10_bothOf_97 rfl rfl ?_
        refine jk_iload_n (q := 99) h dX10_bothOf_98 rfl rfl ?_
        refine jk_iload_n (q := 100) h dX10_bothOf_99 rfl rfl ?_
        refine jk_iload (q := 102) h dX10_bothOf_100 rfl rfl ?_
        refine jk_callV (q := 105) h hX (c_X10_paired hM hm hQ ⟨by omega, by omega⟩ ⟨by omega, by omega⟩ ⟨by omega, by omega⟩ ⟨by omega, by omega⟩) mv_X10_paired (hM.at 0 rfl) dX10_bothOf_102 ml_X10_98 ⟨rfl, Nat.le_refl _⟩ rfl rfl (Nat.le_of_ble_eq_true rfl) (Nat.le_of_ble_eq_true rfl) rfl rfl (Nat.le_of_ble_eq_true rfl) rfl (fun v9 n9 M9 hp9 => ?_)
        obtain ⟨rfl, rfl, rfl⟩ := hp9
        refine jk_name (fun p4 hp4 => ?_)
        have hp4 : p4 = prS x.2.2.2.2.2 la ha lb hb := hp4
        rw [← hp4] at q3
        refine jk_iload (q := 107) h dX10_bothOf_105 rfl rfl ?_
        refine jk_iadd (q := 108) h dX10_bothOf_107 rfl ?_
        exact jk_iret h hR dX10_bothOf_108 (Nat.le_of_ble_eq_true rfl) (Nat.le_of_ble_eq_true rfl) (jrd_of (by unfold gbT; rw [← hg1, ← hp1, ← hg2, ← hp2, ← hp3, ← hp4, ← hm2]; first | (rw [if_neg (by omega)]; omega) | (rw [if_pos (by omega), show jmx (g1 - p1) 0 = g1 - p1 by unfold jmx; rw [if_neg (by omega)], show jmx (g2 - p2) 0 = g2 - p2 by unfold jmx; rw [if_neg (by omega)]]; done) | (rw [if_pos (by omega), show jmx (g1 - p1) 0 = 0 by unfold jmx; rw [if_pos (by omega)]]; simp) | (rw [if_pos (by omega), show jmx (g2 - p2) 0 = 0 by unfold jmx; rw [if_pos (by omega)]]; simp)))
