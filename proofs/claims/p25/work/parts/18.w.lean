def irS (q v : Int) : Int := if q = 0 then (if 1 ≤ v ∧ v ≤ 10 then 1 else 0) else if q = 1 then (if 0 ≤ v ∧ v ≤ 6 then 1 else 0) else if q = 2 then (if 0 ≤ v ∧ v ≤ 6 then 1 else 0) else if q = 3 then (if 0 ≤ v ∧ v ≤ 100 then 1 else 0) else 0
theorem irS_01 (q v : Int) : irS q v = 0 ∨ irS q v = 1 := by
  unfold irS
  split
  · split <;> omega
  · split
    · split <;> omega
    · split
      · split <;> omega
      · split
        · split <;> omega
        · omega
/-- a setting is changed -/
def chQ (x : TS) (q v r : Int) (x2 : TS) : Prop := (irS q v = 0 ∧ r = -2 ∧ x2 = x) ∨ (irS q v = 1 ∧ r = x.1 q.toNat ∧ x2 = (jfup x.1 q.toNat v, x.2))
theorem seQ_up {f : Nat → Int} {q v : Int} (h : seQ f) (hi : irS q v = 1) : seQ (jfup f q.toNat v) ∧ 0 ≤ q ∧ q ≤ 3 := by
  unfold irS at hi
  obtain ⟨h0, h1, h2, h3⟩ := h
  split at hi
  · rename_i hq; subst hq
    split at hi
    · refine ⟨⟨?_, ?_, ?_, ?_⟩, by omega, by omega⟩ <;> simp [jfup] <;> omega
    · omega
  · split at hi
    · rename_i hq; subst hq
      split at hi
      · refine ⟨⟨?_, ?_, ?_, ?_⟩, by omega, by omega⟩ <;> simp [jfup] <;> omega
      · omega
    · split at hi
      · rename_i hq; subst hq
        split at hi
        · refine ⟨⟨?_, ?_, ?_, ?_⟩, by omega, by omega⟩ <;> simp [jfup] <;> omega
        · omega
      · split at hi
        · rename_i hq; subst hq
          split at hi
          · refine ⟨⟨?_, ?_, ?_, ?_⟩, by omega, by omega⟩ <;> simp [jfup] <;> omega
          · omega
        · omega

set_option maxHeartbeats 4000000 in
set_option maxRecDepth 100000 in
theorem c_X7_isInRange {l : Launch} {D : va_G} {b0 : Nat} {n : Nat} {M : jM} {q v : Int} (hq : jRng q) (hv : jRng v) : jCtr l D b0 yX7_isInRange cX7_isInRange 2 (some .boolean) 1 0 0 [jI q, jI v] n M (jrd n M (irS q v)) := by
  refine jctr (lv := [some (jI q), some (jI v)]) RX7 "isInRange" rfl rfl (by decide) (Nat.le_of_ble_eq_true rfl) rfl ?_
  intro X h hR hX
  refine jk_iload_n (q := 1) h dX7_isInRange_0 rfl rfl ?_
  refine jk_case (0) (fun c1_0 => ?_) (fun c1_0 => ?_)
  · refine jk_tabIn (q := 0) (tgt := 32) h dX7_isInRange_1 ⟨by omega, by omega⟩ (by omega) (by omega) (by rw [c1_0]; try rfl) (by decide) ?_
    refine jk_iload_n (q := 33) h dX7_isInRange_32 rfl rfl ?_
    refine jk_iconst (q := 34) h dX7_isInRange_33 rfl ?_
    refine jk_bipush (q := 36) h dX7_isInRange_34 (by decide) rfl ?_
    refine jk_callSN (q := 39) h hX (c_X9_isBetween ⟨by omega, by omega⟩ ⟨by omega, by omega⟩ ⟨by omega, by omega⟩) ms_X9_isBetween dX7_isInRange_36 ml_X7_29 ⟨rfl, Nat.le_refl _⟩ rfl rfl (Nat.le_of_ble_eq_true rfl) (Nat.le_of_ble_eq_true rfl) rfl rfl (Nat.le_of_ble_eq_true rfl) rfl (fun v9 n9 M9 hp9 => ?_)
    obtain ⟨rfl, rfl, rfl⟩ := hp9
    exact jk_zret h hR dX7_isInRange_39 (Nat.le_of_ble_eq_true rfl) (Nat.le_of_ble_eq_true rfl) (by first | exact Or.inl rfl | (split <;> simp)) (jrd_of (by unfold irS; first | (rw [if_pos c1_0]; done) | (rw [if_neg (by omega), if_pos c1_1]; done) | (rw [if_neg (by omega), if_neg (by omega), if_pos c1_2]; done) | (rw [if_neg (by omega), if_neg (by omega), if_neg (by omega), if_pos c1_3]; done) | (rw [if_neg (by omega), if_neg (by omega), if_neg (by omega), if_neg (by omega)]; done)))
  refine jk_case (1) (fun c1_1 => ?_) (fun c1_1 => ?_)
  · refine jk_tabIn (q := 0) (tgt := 40) h dX7_isInRange_1 ⟨by omega, by omega⟩ (by omega) (by omega) (by rw [c1_1]; try rfl) (by decide) ?_
    refine jk_iload_n (q := 41) h dX7_isInRange_40 rfl rfl ?_
    refine jk_iconst (q := 42) h dX7_isInRange_41 rfl ?_
    refine jk_bipush (q := 44) h dX7_isInRange_42 (by decide) rfl ?_
    refine jk_callSN (q := 47) h hX (c_X9_isBetween ⟨by omega, by omega⟩ ⟨by omega, by omega⟩ ⟨by omega, by omega⟩) ms_X9_isBetween dX7_isInRange_44 ml_X7_29 ⟨rfl, Nat.le_refl _⟩ rfl rfl (Nat.le_of_ble_eq_true rfl) (Nat.le_of_ble_eq_true rfl) rfl rfl (Nat.le_of_ble_eq_true rfl) rfl (fun v9 n9 M9 hp9 => ?_)
    obtain ⟨rfl, rfl, rfl⟩ := hp9
    exact jk_zret h hR dX7_isInRange_47 (Nat.le_of_ble_eq_true rfl) (Nat.le_of_ble_eq_true rfl) (by first | exact Or.inl rfl | (split <;> simp)) (jrd_of (by unfold irS; first | (rw [if_pos c1_0]; done) | (rw [if_neg (by omega), if_pos c1_1]; done) | (rw [if_neg (by omega), if_neg (by omega), if_pos c1_2]; done) | (rw [if_neg (by omega), if_neg (by omega), if_neg (by omega), if_pos c1_3]; done) | (rw [if_neg (by omega), if_neg (by omega), if_neg (by omega), if_neg (by omega)]; done)))
  refine jk_case (2) (fun c1_2 => ?_) (fun c1_2 => ?_)
  · refine jk_tabIn (q := 0) (tgt := 48) h dX7_isInRange_1 ⟨by omega, by omega⟩ (by omega) (by omega) (by rw [c1_2]; try rfl) (by decide) ?_
    refine jk_iload_n (q := 49) h dX7_isInRange_48 rfl rfl ?_
    refine jk_iconst (q := 50) h dX7_isInRange_49 rfl ?_
    refine jk_bipush (q := 52) h dX7_isInRange_50 (by decide) rfl ?_
    refine jk_callSN (q := 55) h hX (c_X9_isBetween ⟨by omega, by omega⟩ ⟨by omega, by omega⟩ ⟨by omega, by omega⟩) ms_X9_isBetween dX7_isInRange_52 ml_X7_29 ⟨rfl, Nat.le_refl _⟩ rfl rfl (Nat.le_of_ble_eq_true rfl) (Nat.le_of_ble_eq_true rfl) rfl rfl (Nat.le_of_ble_eq_true rfl) rfl (fun v9 n9 M9 hp9 => ?_)
    obtain ⟨rfl, rfl, rfl⟩ := hp9
    exact jk_zret h hR dX7_isInRange_55 (Nat.le_of_ble_eq_true rfl) (Nat.le_of_ble_eq_true rfl) (by first | exact Or.inl rfl | (split <;> simp)) (jrd_of (by unfold irS; first | (rw [if_pos c1_0]; done) | (rw [if_neg (by omega), if_pos c1_1]; done) | (rw [if_neg (by omega), if_neg (by omega), if_pos c1_2]; done) | (rw [if_neg (by omega), if_neg (by omega), if_neg (by omega), if_pos c1_3]; done) | (rw [if_neg (by omega), if_neg (by omega), if_neg (by omega), if_neg (by omega)]; done)))
  refine jk_case (3) (fun c1_3 => ?_) (fun c1_3 => ?_)
  · refine jk_tabIn (q := 0) (tgt := 56) h dX7_isInRange_1 ⟨by omega, by omega⟩ (by omega) (by omega) (by rw [c1_3]; try rfl) (by decide) ?_
    refine jk_iload_n (q := 57) h dX7_isInRange_56 rfl rfl ?_
    refine jk_iconst (q := 58) h dX7_isInRange_57 rfl ?_
    refine jk_bipush (q := 60) h dX7_isInRange_58 (by decide) rfl ?_
    refine jk_callSN (q := 63) h hX (c_X9_isBetween ⟨by omega, by omega⟩ ⟨by omega, by omega⟩ ⟨by omega, by omega⟩) ms_X9_isBetween dX7_isInRange_60 ml_X7_29 ⟨rfl, Nat.le_refl _⟩ rfl rfl (Nat.le_of_ble_eq_true rfl) (Nat.le_of_ble_eq_true rfl) rfl rfl (Nat.le_of_ble_eq_true rfl) rfl (fun v9 n9 M9 hp9 => ?_)
    obtain ⟨rfl, rfl, rfl⟩ := hp9
    exact jk_zret h hR dX7_isInRange_63 (Nat.le_of_ble_eq_true rfl) (Nat.le_of_ble_eq_true rfl) (by first | exact Or.inl rfl | (split <;> simp)) (jrd_of (by unfold irS; first | (rw [if_pos c1_0]; done) | (rw [if_neg (by omega), if_pos c1_1]; done) | (rw [if_neg (by omega), if_neg (by omega), if_pos c1_2]; done) | (rw [if_neg (by omega), if_neg (by omega), if_neg (by omega), if_pos c1_3]; done) | (rw [if_neg (by omega), if_neg (by omega), if_neg (by omega), if_neg (by omega)]; done)))
  refine jk_tabOut (q := 0) (tgt := 64) h dX7_isInRange_1 ⟨by omega, by omega⟩ (by omega) (by decide) ?_
  refine jk_iconst (q := 65) h dX7_isInRange_64 rfl ?_
  exact jk_zret h hR dX7_isInRange_65 (Nat.le_of_ble_eq_true rfl) (Nat.le_of_ble_eq_true rfl) (by first | exact Or.inl rfl | (split <;> simp)) (jrd_of (by unfold irS; first | (rw [if_pos c1_0]; done) | (rw [if_neg (by omega), if_pos c1_1]; done) | (rw [if_neg (by omega), if_neg (by omega), if_pos c1_2]; done) | (rw [if_neg (by omega), if_neg (by omega), if_neg (by omega), if_pos c1_3]; done) | (rw [if_neg (by omega), if_neg (by omega), if_neg (by omega), if_neg (by omega)]; done)))

set_option maxHeartbeats 4000000 in
set_option maxRecDepth 100000 in
theorem c_X7_change {l : Launch} {D : va_G} {b0 : Nat} {n : Nat} {M : jM} {b : Nat} {x : TS} (h9 : stP M b x) (hQ : stQ x) {q v : Int} (hq : jRng q) (hv : jRng v) : jCtr l D b0 yX7_change cX7_change 4 (some .int) 2 0 0 [.ref b, jI q, jI v] n M ((fun v9 n2 M2 => ∃ (r : Int) (x2 : TS), some (jI r) = v9 ∧ n = n2 ∧ stP M2 b x2 ∧ stQ x2 ∧ chQ x q v r x2 ∧ jout M M2 b 26)) := by
  refine jctr (lv := [some (.ref b), some (jI q), some (jI v), none]) RX7 "change" rfl rfl (by decide) (Nat.le_of_ble_eq_true rfl) rfl ?_
  intro X h hR hX
  obtain ⟨hS, hT, hN, hA, hB, hP⟩ := h9
  obtain ⟨hse, htb, hr, hch, hOA, hOB, hOP⟩ := id hQ
  have ho := jout.rf M b 26
  have hir := irS_01 q v
  refine jk_iload_n (q := 1) h dX7_change_0 rfl rfl ?_
  refine jk_iconst (q := 2) h dX7_change_1 rfl ?_
  refine jk_iconst (q := 3) h dX7_change_2 rfl ?_
  refine jk_callSN (q := 6) h hX (c_X9_isBetween ⟨by omega, by omega⟩ ⟨by omega, by omega⟩ ⟨by omega, by omega⟩) ms_X9_isBetween dX7_change_3 ml_X7_29 ⟨rfl, Nat.le_refl _⟩ rfl rfl (Nat.le_of_ble_eq_true rfl) (Nat.le_of_ble_eq_true rfl) rfl rfl (Nat.le_of_ble_eq_true rfl) rfl (fun v9 n9 M9 hp9 => ?_)
  obtain ⟨rfl, rfl, rfl⟩ := hp9
  refine jk_if_eqB (q := 9) (tgt := 17) h dX7_change_6 (by decide) rfl (fun c6 => ?_) (fun c6 => ?_)
  · refine jk_bipush (q := 19) h dX7_change_17 (by decide) rfl ?_
    exact jk_iret h hR dX7_change_19 (Nat.le_of_ble_eq_true rfl) (Nat.le_of_ble_eq_true rfl) ⟨-2, x, rfl, rfl, ⟨hS, hT, hN, hA, hB, hP⟩, hQ, Or.inl ⟨by first | omega | (unfold irS; rw [if_neg (by omega), if_neg (by omega), if_neg (by omega), if_neg (by omega)]), rfl, rfl⟩, ho⟩
  · refine jk_iload_n (q := 10) h dX7_change_9 rfl rfl ?_
    refine jk_iload_n (q := 11) h dX7_change_10 rfl rfl ?_
    refine jk_callS (q := 14) h hX (c_X7_isInRange ⟨by omega, by omega⟩ ⟨by omega, by omega⟩) ms_X7_isInRange dX7_change_11 ml_X7_33 ⟨rfl, Nat.le_refl _⟩ rfl rfl (Nat.le_of_ble_eq_true rfl) (Nat.le_of_ble_eq_true rfl) rfl rfl (Nat.le_of_ble_eq_true rfl) rfl (fun v9 n9 M9 hp9 => ?_)
    obtain ⟨rfl, rfl, rfl⟩ := hp9
    refine jk_if_ne (q := 17) (tgt := 20) h dX7_change_14 (by decide) rfl ⟨by omega, by omega⟩ (fun c14 => ?_) (fun c14 => ?_)
    · have hir1 : irS q v = 1 := by omega
      have hsu := (seQ_up hse hir1).1
      refine jk_aload_n (q := 21) h dX7_change_20 rfl rfl ?_
      refine jk_get (q := 24) h fg_X7_9 dX7_change_21 (hS.at 0 rfl) rfl rfl ?_
      refine jk_iload_n (q := 25) h dX7_change_24 rfl rfl ?_
      refine jk_ialdI (q := 26) h dX7_change_25 (hS.at 1 rfl) (by omega) (by omega) rfl rfl ?_
      refine jk_istore_n (q := 27) h dX7_change_26 rfl (Nat.le_of_ble_eq_true rfl) rfl rfl ?_
      refine jk_aload_n (q := 28) h dX7_change_27 rfl rfl ?_
      refine jk_get (q := 31) h fg_X7_9 dX7_change_28 (hS.at 0 rfl) rfl rfl ?_
      refine jk_iload_n (q := 32) h dX7_change_31 rfl rfl ?_
      refine jk_iload_n (q := 33) h dX7_change_32 rfl rfl ?_
      refine jk_iast (q := 34) h dX7_change_33 (hS.at 1 rfl) (by omega) (by omega) rfl rfl (fun M_1 s_1 => ?_)
      have hS := hS.put (i := 1) s_1 rfl
      have hT := hT.other s_1 3 rfl (by omega)
      have hN := hN.other s_1 1 rfl (by omega)
      have hA := hA.other s_1 8 rfl (by omega)
      have hB := hB.other s_1 8 rfl (by omega)
      have hP := hP.other s_1 4 rfl (by omega)
      have ho := ho.st (i := 1) s_1 (by omega)
      refine jk_iload_n (q := 35) h dX7_change_34 rfl rfl ?_
      exact jk_iret h hR dX7_change_35 (Nat.le_of_ble_eq_true rfl) (Nat.le_of_ble_eq_true rfl) ⟨x.1 q.toNat, (jfup x.1 q.toNat v, x.2), rfl, rfl, ⟨hS, hT, hN, hA, hB, hP⟩, ⟨hsu, htb, hr, hch, hOA, hOB, hOP⟩, Or.inr ⟨hir1, rfl, rfl⟩, ho⟩
    · refine jk_bipush (q := 19) h dX7_change_17 (by decide) rfl ?_
      exact jk_iret h hR dX7_change_19 (Nat.le_of_ble_eq_true rfl) (Nat.le_of_ble_eq_true rfl) ⟨-2, x, rfl, rfl, ⟨hS, hT, hN, hA, hB, hP⟩, hQ, Or.inl ⟨by first | omega | (unfold irS; rw [if_neg (by omega), if_neg (by omega), if_neg (by omega), if_neg (by omega)]), rfl, rfl⟩, ho⟩

abbrev nch (rows ch : Int) : Int := if 0 < rows then ch + 1 else ch
/-- a row comes -/
def adQ (x : TS) (p q r : Int) (x2 : TS) : Prop := (¬ ((0 ≤ p ∧ p ≤ 99) ∧ 0 ≤ q ∧ q ≤ 99) ∧ r = -2 ∧ x2 = x) ∨ (((0 ≤ p ∧ p ≤ 99) ∧ 0 ≤ q ∧ q ≤ 99) ∧ 60 ≤ x.2.1.2.2 ∧ r = -4 ∧ x2 = x) ∨ (((0 ≤ p ∧ p ≤ 99) ∧ 0 ≤ q ∧ q ≤ 99) ∧ x.2.1.2.2 < 60 ∧ r = x.2.1.2.2 ∧ x2 = (x.1, (jfup x.2.1.1 x.2.1.2.2.toNat p, jfup x.2.1.2.1 x.2.1.2.2.toNat q, x.2.1.2.2 + 1), (x.2.2.1.1, nch x.2.2.1.1 x.2.2.1.2), x.2.2.2))
/-- a row goes -/
def drQ (x : TS) (p r : Int) (x2 : TS) : Prop := (¬ (0 ≤ p ∧ p < x.2.1.2.2) ∧ r = -1 ∧ x2 = x) ∨ ((0 ≤ p ∧ p < x.2.1.2.2) ∧ r = x.2.1.2.2 - 1 ∧ x2 = (x.1, (jdr x.2.1.1 p (x.2.1.2.2 - 1), jdr x.2.1.2.1 p (x.2.1.2.2 - 1), x.2.1.2.2 - 1), (x.2.2.1.1, nch x.2.2.1.1 x.2.2.1.2), x.2.2.2))
theorem jdr_F {a : Nat → Int} {lo hi p q : Int} (h : jrF a lo hi) : jrF (jdr a p q) lo hi := fun k => by
  unfold jdr
  split
  · exact h (k + 1)
  · exact h k
/-- an analysis is made -/
def anQ (x : TS) (r : Int) (x2 : TS) : Prop := (x.2.1.2.2 = 0 ∧ r = -5 ∧ x2 = x) ∨ (0 < x.2.1.2.2 ∧ r = x.2.1.2.2 ∧ ∃ (A B : TC) (p : TP), x2 = (x.1, x.2.1, (x.2.1.2.2, 0), A, B, p) ∧ lrQ x.2.1.1 x.2.1.2.2 (x.1 1) (x.1 0) A ∧ lrQ x.2.1.2.1 x.2.1.2.2 (x.1 1) (x.1 0) B ∧ pmQ x.2.1 (x.1 2) p.2.2.2 p.1 p.2.1 p.2.2.1)

set_option maxHeartbeats 4000000 in
set_option maxRecDepth 100000 in
theorem c_X7_addRow {l : Launch} {D : va_G} {b0 : Nat} {n : Nat} {M : jM} {b : Nat} {x : TS} (h9 : stP M b x) (hQ : stQ x) (hc1 : x.2.2.1.2 ≤ 9999999) {p q : Int} (hp : jRng p) (hq : jRng q) : jCtr l D b0 yX7_addRow cX7_addRow 3 (some .int) 2 0 0 [.ref b, jI p, jI q] n M ((fun v9 n2 M2 => ∃ (r : Int) (x2 : TS), some (jI r) = v9 ∧ n = n2 ∧ stP M2 b x2 ∧ stQ x2 ∧ adQ x p q r x2 ∧ jout M M2 b 26)) := by
  refine jctr (lv := [some (.ref b), some (jI p), some (jI q)]) RX7 "addRow" rfl rfl (by decide) (Nat.le_of_ble_eq_true rfl) rfl ?_
  intro X h hR hX
  obtain ⟨hS, hT, hN, hA, hB, hP⟩ := h9
  obtain ⟨hse, htb, hr, hch, hOA, hOB, hOP⟩ := id hQ
  have ho := jout.rf M b 26
  obtain ⟨hya, hyb, hys⟩ := id htb
  refine jk_iload_n (q := 1) h dX7_addRow_0 rfl rfl ?_
  refine jk_callSN (q := 4) h hX (c_X9_isValue ⟨by omega, by omega⟩) ms_X9_isValue dX7_addRow_1 ml_X7_37 ⟨rfl, Nat.le_refl _⟩ rfl rfl (Nat.le_of_ble_eq_true rfl) (Nat.le_of_ble_eq_true rfl) rfl rfl (Nat.le_of_ble_eq_true rfl) rfl (fun v9 n9 M9 hp9 => ?_)
  obtain ⟨rfl, rfl, rfl⟩ := hp9
  refine jk_if_eqB (q := 7) (tgt := 14) h dX7_addRow_4 (by decide) rfl (fun c4 => ?_) (fun c4 => ?_)
  · refine jk_bipush (q := 16) h dX7_addRow_14 (by decide) rfl ?_
    exact jk_iret h hR dX7_addRow_16 (Nat.le_of_ble_eq_true rfl) (Nat.le_of_ble_eq_true rfl) ⟨-2, x, rfl, rfl, ⟨hS, hT, hN, hA, hB, hP⟩, hQ, Or.inl ⟨by omega, rfl, rfl⟩, ho⟩
  · refine jk_iload_n (q := 8) h dX7_addRow_7 rfl rfl ?_
    refine jk_callSN (q := 11) h hX (c_X9_isValue ⟨by omega, by omega⟩) ms_X9_isValue dX7_addRow_8 ml_X7_37 ⟨rfl, Nat.le_refl _⟩ rfl rfl (Nat.le_of_ble_eq_true rfl) (Nat.le_of_ble_eq_true rfl) rfl rfl (Nat.le_of_ble_eq_true rfl) rfl (fun v9 n9 M9 hp9 => ?_)
    obtain ⟨rfl, rfl, rfl⟩ := hp9
    refine jk_if_neB (q := 14) (tgt := 17) h dX7_addRow_11 (by decide) rfl (fun c11 => ?_) (fun c11 => ?_)
    · refine jk_aload_n (q := 18) h dX7_addRow_17 rfl rfl ?_
      refine jk_get (q := 21) h fg_X7_18 dX7_addRow_18 (hS.at 0 rfl) rfl rfl ?_
      refine jk_callV (q := 24) h hX (c_X8_isFull hT ⟨by omega, by omega⟩) mv_X8_isFull (hT.at 0 rfl) dX7_addRow_21 ml_X7_41 ⟨rfl, Nat.le_refl _⟩ rfl rfl (Nat.le_of_ble_eq_true rfl) (Nat.le_of_ble_eq_true rfl) rfl rfl (Nat.le_of_ble_eq_true rfl) rfl (fun v9 n9 M9 hp9 => ?_)
      obtain ⟨rfl, rfl, rfl⟩ := hp9
      refine jk_if_eqB (q := 27) (tgt := 30) h dX7_addRow_24 (by decide) rfl (fun c24 => ?_) (fun c24 => ?_)
      · refine jk_aload_n (q := 31) h dX7_addRow_30 rfl rfl ?_
        refine jk_get (q := 34) h fg_X7_18 dX7_addRow_31 (hS.at 0 rfl) rfl rfl ?_
        refine jk_iload_n (q := 35) h dX7_addRow_34 rfl rfl ?_
        refine jk_iload_n (q := 36) h dX7_addRow_35 rfl rfl ?_
        refine jk_callV (q := 39) h hX (c_X8_add hT ⟨by omega, by omega⟩ (by omega)) mv_X8_add (hT.at 0 rfl) dX7_addRow_36 ml_X7_45 ⟨rfl, Nat.le_refl _⟩ rfl rfl (Nat.le_of_ble_eq_true rfl) (Nat.le_of_ble_eq_true rfl) rfl rfl (Nat.le_of_ble_eq_true rfl) rfl (fun v9 n9 M_1 hp9 => ?_)
        obtain ⟨rfl, rfl, hT, o_1⟩ := hp9
        have hS := hS.keep o_1 2 rfl (by omega)
        have hN := hN.keep o_1 1 rfl (by omega)
        have hA := hA.keep o_1 8 rfl (by omega)
        have hB := hB.keep o_1 8 rfl (by omega)
        have hP := hP.keep o_1 4 rfl (by omega)
        have ho := ho.tr o_1 (by omega) (by omega)
        refine jk_aload_n (q := 40) h dX7_addRow_39 rfl rfl ?_
        refine jk_get (q := 43) h fg_X7_25 dX7_addRow_40 (hS.at 0 rfl) rfl rfl ?_
        refine jk_callV (q := 46) h hX (c_X0_noteChange hN hr hch) mv_X0_noteChange (hN.at 0 rfl) dX7_addRow_43 ml_X7_49 ⟨rfl, Nat.le_refl _⟩ rfl rfl (Nat.le_of_ble_eq_true rfl) (Nat.le_of_ble_eq_true rfl) rfl rfl (Nat.le_of_ble_eq_true rfl) rfl (fun v9 n9 M_2 hp9 => ?_)
        obtain ⟨rfl, rfl, hN, o_2⟩ := hp9
        have hS := hS.keep o_2 2 rfl (by omega)
        have hT := hT.keep o_2 3 rfl (by omega)
        have hA := hA.keep o_2 8 rfl (by omega)
        have hB := hB.keep o_2 8 rfl (by omega)
        have hP := hP.keep o_2 4 rfl (by omega)
        have ho := ho.tr o_2 (by omega) (by omega)
        refine jk_aload_n (q := 47) h dX7_addRow_46 rfl rfl ?_
        refine jk_get (q := 50) h fg_X7_18 dX7_addRow_47 (hS.at 0 rfl) rfl rfl ?_
        refine jk_getN (q := 53) h fg_X7_52 dX7_addRow_50 (hT.at 0 rfl) rfl rfl ?_
        refine jk_iconst (q := 54) h dX7_addRow_53 rfl ?_
        refine jk_isub (q := 55) h dX7_addRow_54 rfl ?_
        exact jk_iret h hR dX7_addRow_55 (Nat.le_of_ble_eq_true rfl) (Nat.le_of_ble_eq_true rfl) ⟨_, (x.1, (jfup x.2.1.1 x.2.1.2.2.toNat p, jfup x.2.1.2.1 x.2.1.2.2.toNat q, x.2.1.2.2 + 1), (x.2.2.1.1, nch x.2.2.1.1 x.2.2.1.2), x.2.2.2), rfl, rfl, ⟨hS, hT, hN, hA, hB, hP⟩, ⟨hse, ⟨jrF_up hya (by omega) (by omega), jrF_up hyb (by omega) (by omega), by show 0 ≤ x.2.1.2.2 + 1; omega, by show x.2.1.2.2 + 1 ≤ 60; omega⟩, hr, by show 0 ≤ nch _ _ ∧ nch _ _ ≤ 10000000; unfold nch; split <;> omega, hOA, hOB, hOP⟩, Or.inr (Or.inr ⟨⟨by omega, by omega⟩, by omega, by omega, rfl⟩), ho⟩
      · refine jk_bipush (q := 29) h dX7_addRow_27 (by decide) rfl ?_
        exact jk_iret h hR dX7_addRow_29 (Nat.le_of_ble_eq_true rfl) (Nat.le_of_ble_eq_true rfl) ⟨-4, x, rfl, rfl, ⟨hS, hT, hN, hA, hB, hP⟩, hQ, Or.inr (Or.inl ⟨⟨by omega, by omega⟩, by omega, rfl, rfl⟩), ho⟩
    · refine jk_bipush (q := 16) h dX7_addRow_14 (by decide) rfl ?_
      exact jk_iret h hR dX7_addRow_16 (Nat.le_of_ble_eq_true rfl) (Nat.le_of_ble_eq_true rfl) ⟨-2, x, rfl, rfl, ⟨hS, hT, hN, hA, hB, hP⟩, hQ, Or.inl ⟨by omega, rfl, rfl⟩, ho⟩

set_option maxHeartbeats 4000000 in
set_option maxRecDepth 100000 in
theorem c_X7_dropRow {l : Launch} {D : va_G} {b0 : Nat} {n : Nat} {M : jM} {b : Nat} {x : TS} (h9 : stP M b x) (hQ : stQ x) (hc1 : x.2.2.1.2 ≤ 9999999) {p : Int} (hp : jRng p) : jCtr l D b0 yX7_dropRow cX7_dropRow 2 (some .int) 2 0 0 [.ref b, jI p] n M ((fun v9 n2 M2 => ∃ (r : Int) (x2 : TS), some (jI r) = v9 ∧ n = n2 ∧ stP M2 b x2 ∧ stQ x2 ∧ drQ x p r x2 ∧ jout M M2 b 26)) := by
  refine jctr (lv := [some (.ref b), some (jI p)]) RX7 "dropRow" rfl rfl (by decide) (Nat.le_of_ble_eq_true rfl) rfl ?_
  intro X h hR hX
  obtain ⟨hS, hT, hN, hA, hB, hP⟩ := h9
  obtain ⟨hse, htb, hr, hch, hOA, hOB, hOP⟩ := id hQ
  have ho := jout.rf M b 26
  obtain ⟨hya, hyb, hys⟩ := id htb
  refine jk_aload_n (q := 1) h dX7_dropRow_0 rfl rfl ?_
  refine jk_get (q := 4) h fg_X7_18 dX7_dropRow_1 (hS.at 0 rfl) rfl rfl ?_
  refine jk_iload_n (q := 5) h dX7_dropRow_4 rfl rfl ?_
  refine jk_callV (q := 8) h hX (c_X8_hasRow hT ⟨by omega, by omega⟩ ⟨by omega, by omega⟩) mv_X8_hasRow (hT.at 0 rfl) dX7_dropRow_5 ml_X7_60 ⟨rfl, Nat.le_refl _⟩ rfl rfl (Nat.le_of_ble_eq_true rfl) (Nat.le_of_ble_eq_true rfl) rfl rfl (Nat.le_of_ble_eq_true rfl) rfl (fun v9 n9 M9 hp9 => ?_)
  obtain ⟨rfl, rfl, rfl⟩ := hp9
  refine jk_if_neB (q := 11) (tgt := 13) h dX7_dropRow_8 (by decide) rfl (fun c8 => ?_) (fun c8 => ?_)
  · refine jk_aload_n (q := 14) h dX7_dropRow_13 rfl rfl ?_
    refine jk_get (q := 17) h fg_X7_18 dX7_dropRow_14 (hS.at 0 rfl) rfl rfl ?_
    refine jk_iload_n (q := 18) h dX7_dropRow_17 rfl rfl ?_
    refine jk_callV (q := 21) h hX (c_X8_drop hT ⟨by omega, by omega⟩ (by omega)) mv_X8_drop (hT.at 0 rfl) dX7_dropRow_18 ml_X7_63 ⟨rfl, Nat.le_refl _⟩ rfl rfl (Nat.le_of_ble_eq_true rfl) (Nat.le_of_ble_eq_true rfl) rfl rfl (Nat.le_of_ble_eq_true rfl) rfl (fun v9 n9 M_1 hp9 => ?_)
    obtain ⟨rfl, rfl, hT, o_1⟩ := hp9
    have hS := hS.keep o_1 2 rfl (by omega)
    have hN := hN.keep o_1 1 rfl (by omega)
    have hA := hA.keep o_1 8 rfl (by omega)
    have hB := hB.keep o_1 8 rfl (by omega)
    have hP := hP.keep o_1 4 rfl (by omega)
    have ho := ho.tr o_1 (by omega) (by omega)
    refine jk_aload_n (q := 22) h dX7_dropRow_21 rfl rfl ?_
    refine jk_get (q := 25) h fg_X7_25 dX7_dropRow_22 (hS.at 0 rfl) rfl rfl ?_
    refine jk_callV (q := 28) h hX (c_X0_noteChange hN hr hch) mv_X0_noteChange (hN.at 0 rfl) dX7_dropRow_25 ml_X7_49 ⟨rfl, Nat.le_refl _⟩ rfl rfl (Nat.le_of_ble_eq_true rfl) (Nat.le_of_ble_eq_true rfl) rfl rfl (Nat.le_of_ble_eq_true rfl) rfl (fun v9 n9 M_2 hp9 => ?_)
    obtain ⟨rfl, rfl, hN, o_2⟩ := hp9
    have hS := hS.keep o_2 2 rfl (by omega)
    have hT := hT.keep o_2 3 rfl (by omega)
    have hA := hA.keep o_2 8 rfl (by omega)
    have hB := hB.keep o_2 8 rfl (by omega)
    have hP := hP.keep o_2 4 rfl (by omega)
    have ho := ho.tr o_2 (by omega) (by omega)
    refine jk_aload_n (q := 29) h dX7_dropRow_28 rfl rfl ?_
    refine jk_get (q := 32) h fg_X7_18 dX7_dropRow_29 (hS.at 0 rfl) rfl rfl ?_
    refine jk_getN (q := 35) h fg_X7_52 dX7_dropRow_32 (hT.at 0 rfl) rfl rfl ?_
    exact jk_iret h hR dX7_dropRow_35 (Nat.le_of_ble_eq_true rfl) (Nat.le_of_ble_eq_true rfl) ⟨_, (x.1, (jdr x.2.1.1 p (x.2.1.2.2 - 1), jdr x.2.1.2.1 p (x.2.1.2.2 - 1), x.2.1.2.2 - 1), (x.2.2.1.1, nch x.2.2.1.1 x.2.2.1.2), x.2.2.2), rfl, rfl, ⟨hS, hT, hN, hA, hB, hP⟩, ⟨hse, ⟨jdr_F hya, jdr_F hyb, by show 0 ≤ x.2.1.2.2 - 1; omega, by show x.2.1.2.2 - 1 ≤ 60; omega⟩, hr, by show 0 ≤ nch _ _ ∧ nch _ _ ≤ 10000000; unfold nch; split <;> omega, hOA, hOB, hOP⟩, Or.inr ⟨by omega, rfl, rfl⟩, ho⟩
  · refine jk_iconst (q := 12) h dX7_dropRow_11 rfl ?_
    exact jk_iret h hR dX7_dropRow_12 (Nat.le_of_ble_eq_true rfl) (Nat.le_of_ble_eq_true rfl) ⟨-1, x, rfl, rfl, ⟨hS, hT, hN, hA, hB, hP⟩, hQ, Or.inl ⟨by omega, rfl, rfl⟩, ho⟩

set_option maxHeartbeats 4000000 in
set_option maxRecDepth 100000 in
theorem c_X7_makeAnalysis {l : Launch} {D : va_G} {b0 : Nat} {n : Nat} {M : jM} {b : Nat} {x : TS} (h9 : stP M b x) (hQ : stQ x) : jCtr l D b0 yX7_makeAnalysis cX7_makeAnalysis 1 (some .int) 4 0 0 [.ref b] n M ((fun v9 n2 M2 => ∃ (r : Int) (x2 : TS), some (jI r) = v9 ∧ n = n2 ∧ stP M2 b x2 ∧ stQ x2 ∧ anQ x r x2 ∧ jout M M2 b 26)) := by
  refine jctr (lv := [some (.ref b)]) RX7 "makeAnalysis" rfl rfl (by decide) (Nat.le_of_ble_eq_true rfl) rfl ?_
  intro X h hR hX
  obtain ⟨hS, hT, hN, hA, hB, hP⟩ := h9
  obtain ⟨hse, htb, hr, hch, hOA, hOB, hOP⟩ := id hQ
  have ho := jout.rf M b 26
  refine jk_aload_n (q := 1) h dX7_makeAnalysis_0 rfl rfl ?_
  refine jk_get (q := 4) h fg_X7_18 dX7_makeAnalysis_1 (hS.at 0 rfl) rfl rfl ?_
  refine jk_getN (q := 7) h fg_X7_52 dX7_makeAnalysis_4 (hT.at 0 rfl) rfl rfl ?_
  refine jk_if_ne (q := 10) (tgt := 13) h dX7_makeAnalysis_7 (by decide) rfl ⟨by omega, by omega⟩ (fun c7 => ?_) (fun c7 => ?_)
  · refine jk_aload_n (q := 14) h dX7_makeAnalysis_13 rfl rfl ?_
    refine jk_get (q := 17) h fg_X7_25 dX7_makeAnalysis_14 (hS.at 0 rfl) rfl rfl ?_
    refine jk_aload_n (q := 18) h dX7_makeAnalysis_17 rfl rfl ?_
    refine jk_get (q := 21) h fg_X7_18 dX7_makeAnalysis_18 (hS.at 0 rfl) rfl rfl ?_
    refine jk_aload_n (q := 22) h dX7_makeAnalysis_21 rfl rfl ?_
    refine jk_iconst (q := 23) h dX7_makeAnalysis_22 rfl ?_
    refine jk_callV (q := 26) h hX (c_X7_setting ⟨hS, hT, hN, hA, hB, hP⟩ hQ ⟨by omega, by omega⟩) mv_X7_setting (hS.at 0 rfl) dX7_makeAnalysis_23 ml_X7_67 ⟨rfl, Nat.le_refl _⟩ rfl rfl (Nat.le_of_ble_eq_true rfl) (Nat.le_of_ble_eq_true rfl) rfl rfl (Nat.le_of_ble_eq_true rfl) rfl (fun v9 n9 M9 hp9 => ?_)
    obtain ⟨rfl, rfl, rfl⟩ := hp9
    refine jk_aload_n (q := 27) h dX7_makeAnalysis_26 rfl rfl ?_
    refine jk_iconst (q := 28) h dX7_makeAnalysis_27 rfl ?_
    refine jk_callV (q := 31) h hX (c_X7_setting ⟨hS, hT, hN, hA, hB, hP⟩ hQ ⟨by omega, by omega⟩) mv_X7_setting (hS.at 0 rfl) dX7_makeAnalysis_28 ml_X7_67 ⟨rfl, Nat.le_refl _⟩ rfl rfl (Nat.le_of_ble_eq_true rfl) (Nat.le_of_ble_eq_true rfl) rfl rfl (Nat.le_of_ble_eq_true rfl) rfl (fun v9 n9 M9 hp9 => ?_)
    obtain ⟨rfl, rfl, rfl⟩ := hp9
    refine jk_aload_n (q := 32) h dX7_makeAnalysis_31 rfl rfl ?_
    refine jk_iconst (q := 33) h dX7_makeAnalysis_32 rfl ?_
    refine jk_callV (q := 36) h hX (c_X7_setting ⟨hS, hT, hN, hA, hB, hP⟩ hQ ⟨by omega, by omega⟩) mv_X7_setting (hS.at 0 rfl) dX7_makeAnalysis_33 ml_X7_67 ⟨rfl, Nat.le_refl _⟩ rfl rfl (Nat.le_of_ble_eq_true rfl) (Nat.le_of_ble_eq_true rfl) rfl rfl (Nat.le_of_ble_eq_true rfl) rfl (fun v9 n9 M9 hp9 => ?_)
    obtain ⟨rfl, rfl, rfl⟩ := hp9
    refine jk_callV (q := 39) h hX (c_X0_learn hN hA hB hP hOA hOB hOP hT htb (by omega) hse.1 hse.2.1 hse.2.2.1) mv_X0_learn (hN.at 0 rfl) dX7_makeAnalysis_36 ml_X7_71 ⟨rfl, Nat.le_refl _⟩ rfl rfl (Nat.le_of_ble_eq_true rfl) (Nat.le_of_ble_eq_true rfl) rfl rfl (Nat.le_of_ble_eq_true rfl) rfl (fun v9 n9 M_1 hp9 => ?_)
    obtain ⟨rfl, rfl, A2, B2, p2, hN, hA, hB, hP, hQA, hQB, hQP, hLA, hLB, hLP, o_1⟩ := hp9
    have hS := hS.keep o_1 2 rfl (by omega)
    have hT := hT.keep o_1 3 rfl (by omega)
    have ho := ho.tr o_1 (by omega) (by omega)
    refine jk_aload_n (q := 40) h dX7_makeAnalysis_39 rfl rfl ?_
    refine jk_get (q := 43) h fg_X7_25 dX7_makeAnalysis_40 (hS.at 0 rfl) rfl rfl ?_
    refine jk_getN (q := 46) h fg_X7_75 dX7_makeAnalysis_43 (hN.at 0 rfl) rfl rfl ?_
    exact jk_iret h hR dX7_makeAnalysis_46 (Nat.le_of_ble_eq_true rfl) (Nat.le_of_ble_eq_true rfl) ⟨_, (x.1, x.2.1, (x.2.1.2.2, 0), A2, B2, p2), rfl, rfl, ⟨hS, hT, hN, hA, hB, hP⟩, ⟨hse, htb, htb.2.2, ⟨Int.le_refl 0, by show (0 : Int) ≤ 10000000; decide⟩, hQA, hQB, hQP⟩, Or.inr ⟨by have := htb.2.2; omega, rfl, A2, B2, p2, rfl, hLA, hLB, hLP⟩, ho⟩
  · refine jk_bipush (q := 12) h dX7_makeAnalysis_10 (by decide) rfl ?_
    exact jk_iret h hR dX7_makeAnalysis_12 (Nat.le_of_ble_eq_true rfl) (Nat.le_of_ble_eq_true rfl) ⟨-5, x, rfl, rfl, ⟨hS, hT, hN, hA, hB, hP⟩, hQ, Or.inl ⟨by omega, rfl, rfl⟩, ho⟩

set_option maxHeartbeats 4000000 in
set_option maxRecDepth 100000 in
theorem c_X7_scale {l : Launch} {D : va_G} {b0 : Nat} {n : Nat} {M : jM} {b : Nat} {x : TS} (h9 : stP M b x) (hQ : stQ x) {g : Int} (hg : 0 ≤ g ∧ g ≤ 1000000) : jCtr l D b0 yX7_scale cX7_scale 2 (some .int) 0 0 0 [.ref b, jI g] n M (jrd n M (if 0 < x.2.2.1.1 then g * x.2.1.2.2 / x.2.2.1.1 else 0)) := by
  refine jctr (lv := [some (.ref b), some (jI g)]) RX7 "scale" rfl rfl (by decide) (Nat.le_of_ble_eq_true rfl) rfl ?_
  intro X h hR hX
  obtain ⟨hS, hT, hN, hA, hB, hP⟩ := h9
  obtain ⟨hse, htb, hr, hch, hOA, hOB, hOP⟩ := id hQ
  have hm := jmulb hg.1 hg.2 htb.2.2.1 htb.2.2.2
  refine jk_aload_n (q := 1) h dX7_scale_0 rfl rfl ?_
  refine jk_get (q := 4) h fg_X7_25 dX7_scale_1 (hS.at 0 rfl) rfl rfl ?_
  refine jk_getN (q := 7) h fg_X7_75 dX7_scale_4 (hN.at 0 rfl) rfl rfl ?_
  refine jk_if_le (q := 10) (tgt := 30) h dX7_scale_7 (by decide) rfl ⟨by omega, by omega⟩ (fun c7 => ?_) (fun c7 => ?_)
  · refine jk_iconst (q := 31) h dX7_scale_30 rfl ?_
    exact jk_iret h hR dX7_scale_31 (Nat.le_of_ble_eq_true rfl) (Nat.le_of_ble_eq_true rfl) (jrd_of (by first | exact if_pos (by omega) | exact if_neg (by omega)))
  · refine jk_iload_n (q := 11) h dX7_scale_10 rfl rfl ?_
    refine jk_aload_n (q := 12) h dX7_scale_11 rfl rfl ?_
    refine jk_get (q := 15) h fg_X7_18 dX7_scale_12 (hS.at 0 rfl) rfl rfl ?_
    refine jk_getN (q := 18) h fg_X7_52 dX7_scale_15 (hT.at 0 rfl) rfl rfl ?_
    refine jk_imul (q := 19) h dX7_scale_18 rfl ?_
    refine jk_aload_n (q := 20) h dX7_scale_19 rfl rfl ?_
    refine jk_get (q := 23) h fg_X7_25 dX7_scale_20 (hS.at 0 rfl) rfl rfl ?_
    refine jk_getN (q := 26) h fg_X7_75 dX7_scale_23 (hN.at 0 rfl) rfl rfl ?_
    refine jk_idiv (q := 27) h dX7_scale_26 (by omega) (by omega) (by omega) (by omega) rfl ?_
    refine jk_goto (q := 30) (tgt := 31) h dX7_scale_27 (by decide) ?_
    exact jk_iret h hR dX7_scale_31 (Nat.le_of_ble_eq_true rfl) (Nat.le_of_ble_eq_true rfl) (jrd_of (by first | exact if_pos (by omega) | exact if_neg (by omega)))

set_option maxHeartbeats 4000000 in
set_option maxRecDepth 100000 in
theorem c_X7_copyFrom {l : Launch} {D : va_G} {b0 : Nat} {n : Nat} {M : jM} {b b2 : Nat} {x x2 : TS} (h9 : stP M b x) (h8 : stP M b2 x2) (hd : b + 26 ≤ b2 ∨ b2 + 26 ≤ b) : jCtr l D b0 yX7_copyFrom cX7_copyFrom 2 none 3 0 0 [.ref b, .ref b2] n M (fun v9 n2 M2 => none = v9 ∧ n = n2 ∧ stP M2 b x2 ∧ jout M M2 b 26) := by
  refine jctr (lv := [some (.ref b), some (.ref b2)]) RX7 "copyFrom" rfl rfl (by decide) (Nat.le_of_ble_eq_true rfl) rfl ?_
  intro X h hR hX
  obtain ⟨hS, hT, hN, hA, hB, hP⟩ := h9
  obtain ⟨hS2, hT2, hN2, hA2, hB2, hP2⟩ := h8
  have ho := jout.rf M b 26
  refine jk_aload_n (q := 1) h dX7_copyFrom_0 rfl rfl ?_
  refine jk_get (q := 4) h fg_X7_9 dX7_copyFrom_1 (hS2.at 0 rfl) rfl rfl ?_
  refine jk_aload_n (q := 5) h dX7_copyFrom_4 rfl rfl ?_
  refine jk_get (q := 8) h fg_X7_9 dX7_copyFrom_5 (hS.at 0 rfl) rfl rfl ?_
  refine jk_callSN (q := 11) h hX (c_X9_copyNumbers rfl (jPic_c (hS2.at 1 rfl)) (jPic_c (hS.at 1 rfl)) (by omega)) ms_X9_copyNumbers dX7_copyFrom_8 ml_X7_78 ⟨rfl, Nat.le_refl _⟩ rfl rfl (Nat.le_of_ble_eq_true rfl) (Nat.le_of_ble_eq_true rfl) rfl rfl (Nat.le_of_ble_eq_true rfl) rfl (fun v9 n9 M_1 hp9 => ?_)
  obtain ⟨rfl, rfl, s_1⟩ := hp9
  have hS := hS.put (i := 1) s_1 rfl
  have hT := hT.other s_1 3 rfl (by omega)
  have hN := hN.other s_1 1 rfl (by omega)
  have hA := hA.other s_1 8 rfl (by omega)
  have hB := hB.other s_1 8 rfl (by omega)
  have hP := hP.other s_1 4 rfl (by omega)
  have hS2 := hS2.other s_1 2 rfl (by omega)
  have hT2 := hT2.other s_1 3 rfl (by omega)
  have hN2 := hN2.other s_1 1 rfl (by omega)
  have hA2 := hA2.other s_1 8 rfl (by omega)
  have hB2 := hB2.other s_1 8 rfl (by omega)
  have hP2 := hP2.other s_1 4 rfl (by omega)
  have ho := ho.st (i := 1) s_1 (by omega)
  refine jk_aload_n (q := 12) h dX7_copyFrom_11 rfl rfl ?_
  refine jk_get (q := 15) h fg_X7_18 dX7_copyFrom_12 (hS.at 0 rfl) rfl rfl ?_
  refine jk_aload_n (q := 16) h dX7_copyFrom_15 rfl rfl ?_
  refine jk_get (q := 19) h fg_X7_18 dX7_copyFrom_16 (hS2.at 0 rfl) rfl rfl ?_
  refine jk_callV (q := 22) h hX (c_X8_copyFrom hT hT2 (by omega)) mv_X8_copyFrom (hT.at 0 rfl) dX7_copyFrom_19 ml_X7_82 ⟨rfl, Nat.le_refl _⟩ rfl rfl (Nat.le_of_ble_eq_true rfl) (Nat.le_of_ble_eq_true rfl) rfl rfl (Nat.le_of_ble_eq_true rfl) rfl (fun v9 n9 M_2 hp9 => ?_)
  obtain ⟨rfl, rfl, hT, o_2⟩ := hp9
  have hS := hS.keep o_2 2 rfl (by omega)
  have hN := hN.keep o_2 1 rfl (by omega)
  have hA := hA.keep o_2 8 rfl (by omega)
  have hB := hB.keep o_2 8 rfl (by omega)
  have hP := hP.keep o_2 4 rfl (by omega)
  have hS2 := hS2.keep o_2 2 rfl (by omega)
  have hT2 := hT2.keep o_2 3 rfl (by omega)
  have hN2 := hN2.keep o_2 1 rfl (by omega)
  have hA2 := hA2.keep o_2 8 rfl (by omega)
  have hB2 := hB2.keep o_2 8 rfl (by omega)
  have hP2 := hP2.keep o_2 4 rfl (by omega)
  have ho := ho.tr o_2 (by omega) (by omega)
  refine jk_aload_n (q := 23) h dX7_copyFrom_22 rfl rfl ?_
  refine jk_get (q := 26) h fg_X7_25 dX7_copyFrom_23 (hS.at 0 rfl) rfl rfl ?_
  refine jk_aload_n (q := 27) h dX7_copyFrom_26 rfl rfl ?_
  refine jk_get (q := 30) h fg_X7_25 dX7_copyFrom_27 (hS2.at 0 rfl) rfl rfl ?_
  refine jk_callV (q := 33) h hX (c_X0_copyFrom hN hA hB hP hN2 hA2 hB2 hP2 (by omega)) mv_X0_copyFrom (hN.at 0 rfl) dX7_copyFrom_30 ml_X7_86 ⟨rfl, Nat.le_refl _⟩ rfl rfl (Nat.le_of_ble_eq_true rfl) (Nat.le_of_ble_eq_true rfl) rfl rfl (Nat.le_of_ble_eq_true rfl) rfl (fun v9 n9 M_3 hp9 => ?_)
  obtain ⟨rfl, rfl, hN, hA, hB, hP, o_3⟩ := hp9
  have hS := hS.keep o_3 2 rfl (by omega)
  have hT := hT.keep o_3 3 rfl (by omega)
  have hS2 := hS2.keep o_3 2 rfl (by omega)
  have hT2 := hT2.keep o_3 3 rfl (by omega)
  have hN2 := hN2.keep o_3 1 rfl (by omega)
  have hA2 := hA2.keep o_3 8 rfl (by omega)
  have hB2 := hB2.keep o_3 8 rfl (by omega)
  have hP2 := hP2.keep o_3 4 rfl (by omega)
  have ho := ho.tr o_3 (by omega) (by omega)
  exact jk_vret h hR dX7_copyFrom_33 (Nat.le_of_ble_eq_true rfl) (Nat.le_of_ble_eq_true rfl) ⟨rfl, rfl, ⟨hS, hT, hN, hA, hB, hP⟩, ho⟩
