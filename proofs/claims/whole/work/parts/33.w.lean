/-! the reference: changes of its array -/
theorem mrT.ag {σ σ2 : Nat → Int} {y : TT} (h : mrT σ y) (hs : y.2.2 ≤ 60) (e : ∀ k : Nat, k = 0 ∨ (8 ≤ k ∧ k < 128) → σ2 k = σ k) : mrT σ2 y := ⟨(e _ (by omega)).trans h.1, fun r h0 h1 => ⟨(e _ (by omega)).trans (h.2 r h0 h1).1, (e _ (by omega)).trans (h.2 r h0 h1).2⟩⟩
theorem mcT.ag {σ σ2 : Nat → Int} {c : Int} {y : TC} (h : mcT σ c y) (hc : c = 0 ∨ c = 1) (hn : y.2.2.2.1 ≤ 6) (hb : y.2.2.2.2.2.2.2.2 ≤ 10) (e : ∀ k : Nat, (k : Int) = 128 + c ∨ (130 + 40 * c ≤ (k : Int) ∧ (k : Int) < 170 + 40 * c) ∨ (k : Int) = 210 + c ∨ (212 + 12 * c ≤ (k : Int) ∧ (k : Int) < 224 + 12 * c) ∨ (255 + 100 * c ≤ (k : Int) ∧ (k : Int) < 355 + 100 * c) → σ2 k = σ k) : mcT σ2 c y := by
  obtain ⟨h1, h2, h3, h4, h5⟩ := h
  refine ⟨fun v h0 hv => (e _ (by omega)).trans (h1 v h0 hv), (e _ (by omega)).trans h2, fun k h0 hk => ⟨(e _ (by omega)).trans (h3 k h0 hk).1, (e _ (by omega)).trans (h3 k h0 hk).2⟩, (e _ (by omega)).trans h4, fun k h0 hk => ?_⟩
  obtain ⟨a1, a2, a3, a4⟩ := h5 k h0 hk
  exact ⟨(e _ (by omega)).trans a1, (e _ (by omega)).trans a2, (e _ (by omega)).trans a3, (e _ (by omega)).trans a4⟩
theorem mpT.ag {σ σ2 : Nat → Int} {p : TP} (h : mpT σ p) (hn : p.2.2.2 ≤ 6) (e : ∀ k : Nat, 236 ≤ k ∧ k < 255 → σ2 k = σ k) : mpT σ2 p := ⟨(e _ (by omega)).trans h.1, fun k h0 h1 => by
  obtain ⟨a1, a2, a3⟩ := h.2 k h0 h1
  exact ⟨(e _ (by omega)).trans a1, (e _ (by omega)).trans a2, (e _ (by omega)).trans a3⟩⟩
theorem mdT.fc {σ σ2 : Nat → Int} {x : TS} (h : mdT σ x) (hQ : stQ x) (e : ∀ k : Nat, 128 ≤ k → k < 455 → σ2 k = σ k) : mcT σ2 0 x.2.2.2.1 ∧ mcT σ2 1 x.2.2.2.2.1 ∧ mpT σ2 x.2.2.2.2.2 :=
  ⟨h.2.2.2.1.ag (Or.inl rfl) hQ.2.2.2.2.1.2.2.2.1.2 hQ.2.2.2.2.1.2.2.2.2.2.2.2.2.1.2 (fun k hk => e k (by omega) (by omega)), h.2.2.2.2.1.ag (Or.inr rfl) hQ.2.2.2.2.2.1.2.2.2.1.2 hQ.2.2.2.2.2.1.2.2.2.2.2.2.2.2.1.2 (fun k hk => e k (by omega) (by omega)), h.2.2.2.2.2.ag hQ.2.2.2.2.2.2.2.2.2.2 (fun k hk => e k (by omega) (by omega))⟩
theorem mdT.cong {σ σ2 : Nat → Int} {x : TS} (h : mdT σ x) (hQ : stQ x) (e : ∀ k : Nat, k < 455 → σ2 k = σ k) : mdT σ2 x := by
  obtain ⟨f1, f2, f3⟩ := h.fc hQ (σ2 := σ2) (fun k _ hk => e k hk)
  obtain ⟨h1, ⟨h2, h3, h4⟩, h5, -⟩ := h
  exact ⟨h1.ag hQ.2.1.2.2.2 (fun k hk => e k (by omega)), ⟨(e _ (by omega)).trans h2, (e _ (by omega)).trans h3, (e _ (by omega)).trans h4⟩, fun k h0 hk => (e _ (by omega)).trans (h5 k h0 hk), f1, f2, f3⟩
theorem mdT.set {σ : Nat → Int} {x : TS} (h : mdT σ x) (hQ : stQ x) {q v : Int} (hq : 0 ≤ q ∧ q ≤ 3) : mdT (jfup σ (4 + q).toNat v) (jfup x.1 q.toNat v, x.2) := by
  have e : ∀ k : Nat, k ≠ (4 + q).toNat → jfup σ (4 + q).toNat v k = σ k := fun k hk => jfup_n _ _ hk
  obtain ⟨f1, f2, f3⟩ := h.fc hQ (σ2 := jfup σ (4 + q).toNat v) (fun k h1 _ => e k (by omega))
  obtain ⟨h1, ⟨h2, h3, h4⟩, h5, -⟩ := h
  refine ⟨h1.ag hQ.2.1.2.2.2 (fun k hk => e k (by omega)), ⟨(e _ (by omega)).trans h2, (e _ (by omega)).trans h3, (e _ (by omega)).trans h4⟩, fun k h0 hk => ?_, f1, f2, f3⟩
  show _ = jfup x.1 q.toNat v k.toNat
  by_cases hkq : k = q
  · rw [hkq, jfup_s, jfup_s]
  · rw [jfup_n _ _ (by omega), jfup_n _ _ (by omega)]
    exact h5 k h0 hk
theorem mdT.come {σ σ2 : Nat → Int} {x : TS} (h : mdT σ x) (hQ : stQ x) (hs : x.2.1.2.2 < 60) {p q : Int} (e0 : σ2 (0 : Int).toNat = x.2.1.2.2 + 1) (e3 : σ2 (3 : Int).toNat = nch x.2.2.1.1 x.2.2.1.2) (ep : σ2 (8 + 2 * x.2.1.2.2).toNat = p) (eq : σ2 (8 + 2 * x.2.1.2.2 + 1).toNat = q) (e : ∀ k : Nat, k ≠ 0 → k ≠ 3 → k ≠ (8 + 2 * x.2.1.2.2).toNat → k ≠ (8 + 2 * x.2.1.2.2 + 1).toNat → σ2 k = σ k) :
    mdT σ2 (x.1, (jfup x.2.1.1 x.2.1.2.2.toNat p, jfup x.2.1.2.1 x.2.1.2.2.toNat q, x.2.1.2.2 + 1), (x.2.2.1.1, nch x.2.2.1.1 x.2.2.1.2), x.2.2.2) := by
  have hz := hQ.2.1.2.2
  obtain ⟨f1, f2, f3⟩ := h.fc hQ (σ2 := σ2) (fun k h1 _ => e k (by omega) (by omega) (by omega) (by omega))
  obtain ⟨h1, ⟨h2, h3, h4⟩, h5, -⟩ := h
  refine ⟨⟨e0, fun r h0 hr => ?_⟩, ⟨(e _ (by omega) (by omega) (by omega) (by omega)).trans h2, (e _ (by omega) (by omega) (by omega) (by omega)).trans h3, e3⟩, fun k h0 hk => (e _ (by omega) (by omega) (by omega) (by omega)).trans (h5 k h0 hk), f1, f2, f3⟩
  show _ = jfup x.2.1.1 x.2.1.2.2.toNat p r.toNat ∧ _ = jfup x.2.1.2.1 x.2.1.2.2.toNat q r.toNat
  have hr2 : r < x.2.1.2.2 + 1 := hr
  by_cases hrs : r = x.2.1.2.2
  · rw [hrs, jfup_s, jfup_s]
    exact ⟨ep, eq⟩
  · rw [jfup_n _ _ (by omega), jfup_n _ _ (by omega), e _ (by omega) (by omega) (by omega) (by omega), e _ (by omega) (by omega) (by omega) (by omega)]
    exact h1.2 r h0 (by omega)
/-- what lies two further on moves down, as far as i -/
def gsM (σ : Nat → Int) (lo i : Int) : Nat → Int := fun k => if lo ≤ (k : Int) ∧ (k : Int) < i then σ (k + 2) else σ k
theorem gsM_0 (σ : Nat → Int) (lo : Int) : gsM σ lo lo = σ := by
  funext k
  unfold gsM
  rw [if_neg (by omega)]
theorem gsM_s {σ : Nat → Int} {lo i : Int} (h0 : 0 ≤ lo) (h : lo ≤ i) : jfup (gsM σ lo i) i.toNat (gsM σ lo i (i + 2).toNat) = gsM σ lo (i + 1) := by
  funext k
  unfold jfup gsM
  by_cases hk : k = i.toNat
  · subst hk
    rw [if_pos rfl, if_neg (by omega), if_pos (by omega), show (i + 2).toNat = i.toNat + 2 by omega]
  · rw [if_neg hk]
    by_cases h2 : lo ≤ (k : Int) ∧ (k : Int) < i
    · rw [if_pos h2, if_pos (by omega)]
    · rw [if_neg h2, if_neg (by omega)]
theorem mdT.gone {σ σ2 : Nat → Int} {x : TS} (h : mdT σ x) (hQ : stQ x) {p : Int} (hp : 0 ≤ p ∧ p < x.2.1.2.2) (e0 : σ2 (0 : Int).toNat = x.2.1.2.2 - 1) (e3 : σ2 (3 : Int).toNat = nch x.2.2.1.1 x.2.2.1.2) (e : ∀ k : Nat, k ≠ 0 → k ≠ 3 → σ2 k = gsM σ (8 + 2 * p) (8 + 2 * (x.2.1.2.2 - 1)) k) :
    mdT σ2 (x.1, (jdr x.2.1.1 p (x.2.1.2.2 - 1), jdr x.2.1.2.1 p (x.2.1.2.2 - 1), x.2.1.2.2 - 1), (x.2.2.1.1, nch x.2.2.1.1 x.2.2.1.2), x.2.2.2) := by
  have hz := hQ.2.1.2.2
  have eN : ∀ k : Nat, k ≠ 0 → k ≠ 3 → k < 8 ∨ 128 ≤ k → σ2 k = σ k := fun k a b c => by
    rw [e k a b]
    unfold gsM
    rw [if_neg (by omega)]
  obtain ⟨f1, f2, f3⟩ := h.fc hQ (σ2 := σ2) (fun k h1 _ => eN k (by omega) (by omega) (by omega))
  obtain ⟨h1, ⟨h2, h3, h4⟩, h5, -⟩ := h
  refine ⟨⟨e0, fun r h0 hr => ?_⟩, ⟨(eN _ (by omega) (by omega) (by omega)).trans h2, (eN _ (by omega) (by omega) (by omega)).trans h3, e3⟩, fun k h0 hk => (eN _ (by omega) (by omega) (by omega)).trans (h5 k h0 hk), f1, f2, f3⟩
  have hr2 : r < x.2.1.2.2 - 1 := hr
  show _ = jdr x.2.1.1 p (x.2.1.2.2 - 1) r.toNat ∧ _ = jdr x.2.1.2.1 p (x.2.1.2.2 - 1) r.toNat
  rw [e _ (by omega) (by omega), e _ (by omega) (by omega)]
  unfold gsM jdr
  by_cases hrp : p ≤ r
  · obtain ⟨a, b⟩ := h1.2 (r + 1) (by omega) (by omega)
    rw [if_pos (by omega), if_pos (by omega), if_pos (by omega), if_pos (by omega), show (8 + 2 * r).toNat + 2 = (8 + 2 * (r + 1)).toNat by omega, show (8 + 2 * r + 1).toNat + 2 = (8 + 2 * (r + 1) + 1).toNat by omega, a, b, show (r + 1).toNat = r.toNat + 1 by omega]
    exact ⟨rfl, rfl⟩
  · rw [if_neg (by omega), if_neg (by omega), if_neg (by omega), if_neg (by omega)]
    exact h1.2 r h0 (by omega)
theorem nch_m {rows ch : Int} (h : 0 ≤ rows) : ch + mkn rows = nch rows ch := by
  unfold mkn nch
  split <;> omega

set_option maxHeartbeats 4000000 in
set_option maxRecDepth 100000 in
theorem c_X10_isFor {l : Launch} {D : va_G} {b0 : Nat} {n : Nat} {M : jM} {q v : Int} (hq : 0 ≤ q ∧ q ≤ 3) (hv : jRng v) : jCtr l D b0 yX10_isFor cX10_isFor 2 (some .boolean) 1 0 0 [jI q, jI v] n M (jrd n M (irS q v)) := by
  refine jctr (lv := [some (jI q), some (jI v)]) RX10 "isFor" rfl rfl (by decide) (Nat.le_of_ble_eq_true rfl) rfl ?_
  intro X h hR hX
  refine jk_iload_n (q := 1) h dX10_isFor_0 rfl rfl ?_
  refine jk_if_ne (q := 4) (tgt := 14) h dX10_isFor_1 (by decide) rfl ⟨by omega, by omega⟩ (fun c1 => ?_) (fun c1 => ?_)
  · refine jk_iload_n (q := 15) h dX10_isFor_14 rfl rfl ?_
    refine jk_iconst (q := 16) h dX10_isFor_15 rfl ?_
    refine jk_icmp_ne (q := 19) (tgt := 29) h dX10_isFor_16 (by decide) rfl ⟨by omega, by omega⟩ ⟨by omega, by omega⟩ (fun c16 => ?_) (fun c16 => ?_)
    · refine jk_iload_n (q := 30) h dX10_isFor_29 rfl rfl ?_
      refine jk_iconst (q := 31) h dX10_isFor_30 rfl ?_
      refine jk_bipush (q := 33) h dX10_isFor_31 (by decide) rfl ?_
      refine jk_callS (q := 36) h hX (c_X10_in ⟨by omega, by omega⟩ ⟨by omega, by omega⟩ ⟨by omega, by omega⟩) ms_X10_in dX10_isFor_33 ml_X10_35 ⟨rfl, Nat.le_refl _⟩ rfl rfl (Nat.le_of_ble_eq_true rfl) (Nat.le_of_ble_eq_true rfl) rfl rfl (Nat.le_of_ble_eq_true rfl) rfl (fun v9 n9 M9 hp9 => ?_)
      obtain ⟨rfl, rfl, rfl⟩ := hp9
      exact jk_zret h hR dX10_isFor_36 (Nat.le_of_ble_eq_true rfl) (Nat.le_of_ble_eq_true rfl) (by first | exact Or.inl rfl | (split <;> simp)) (jrd_of (by unfold irS; first | (rw [if_pos (by omega)]; done) | (rw [if_neg (by omega), if_neg (by omega), if_neg (by omega), if_pos (by omega)]; done) | (by_cases h1 : q = 1; rw [if_neg (by omega), if_pos h1]; rw [if_neg (by omega), if_neg h1, if_pos (by omega)])))
    · refine jk_iload_n (q := 20) h dX10_isFor_19 rfl rfl ?_
      refine jk_iconst (q := 21) h dX10_isFor_20 rfl ?_
      refine jk_bipush (q := 23) h dX10_isFor_21 (by decide) rfl ?_
      refine jk_callS (q := 26) h hX (c_X10_in ⟨by omega, by omega⟩ ⟨by omega, by omega⟩ ⟨by omega, by omega⟩) ms_X10_in dX10_isFor_23 ml_X10_35 ⟨rfl, Nat.le_refl _⟩ rfl rfl (Nat.le_of_ble_eq_true rfl) (Nat.le_of_ble_eq_true rfl) rfl rfl (Nat.le_of_ble_eq_true rfl) rfl (fun v9 n9 M9 hp9 => ?_)
      obtain ⟨rfl, rfl, rfl⟩ := hp9
      refine jk_goto (q := 29) (tgt := 36) h dX10_isFor_26 (by decide) ?_
      exact jk_zret h hR dX10_isFor_36 (Nat.le_of_ble_eq_true rfl) (Nat.le_of_ble_eq_true rfl) (by first | exact Or.inl rfl | (split <;> simp)) (jrd_of (by unfold irS; first | (rw [if_pos (by omega)]; done) | (rw [if_neg (by omega), if_neg (by omega), if_neg (by omega), if_pos (by omega)]; done) | (by_cases h1 : q = 1; rw [if_neg (by omega), if_pos h1]; rw [if_neg (by omega), if_neg h1, if_pos (by omega)])))
  · refine jk_iload_n (q := 5) h dX10_isFor_4 rfl rfl ?_
    refine jk_iconst (q := 6) h dX10_isFor_5 rfl ?_
    refine jk_bipush (q := 8) h dX10_isFor_6 (by decide) rfl ?_
    refine jk_callS (q := 11) h hX (c_X10_in ⟨by omega, by omega⟩ ⟨by omega, by omega⟩ ⟨by omega, by omega⟩) ms_X10_in dX10_isFor_8 ml_X10_35 ⟨rfl, Nat.le_refl _⟩ rfl rfl (Nat.le_of_ble_eq_true rfl) (Nat.le_of_ble_eq_true rfl) rfl rfl (Nat.le_of_ble_eq_true rfl) rfl (fun v9 n9 M9 hp9 => ?_)
    obtain ⟨rfl, rfl, rfl⟩ := hp9
    refine jk_goto (q := 14) (tgt := 36) h dX10_isFor_11 (by decide) ?_
    exact jk_zret h hR dX10_isFor_36 (Nat.le_of_ble_eq_true rfl) (Nat.le_of_ble_eq_true rfl) (by first | exact Or.inl rfl | (split <;> simp)) (jrd_of (by unfold irS; first | (rw [if_pos (by omega)]; done) | (rw [if_neg (by omega), if_neg (by omega), if_neg (by omega), if_pos (by omega)]; done) | (by_cases h1 : q = 1; rw [if_neg (by omega), if_pos h1]; rw [if_neg (by omega), if_neg h1, if_pos (by omega)])))

set_option maxHeartbeats 4000000 in
set_option maxRecDepth 100000 in
theorem c_X10_sets {l : Launch} {D : va_G} {b0 : Nat} {n : Nat} {M : jM} {m : Nat} {σ τ ps : Nat → Int} {kp : Int} {sv hd pd : Nat → Int} {pn a9 : Int} {od : Nat → Int} {on : Int} {lf : Nat → Int} (hM : jPic M m (mdL m σ τ ps kp sv hd pd pn a9 od on lf)) {q v : Int} (hq : 0 ≤ q ∧ q ≤ 3) : jCtr l D b0 yX10_sets cX10_sets 4 (some .int) 0 0 0 [.ref m, jI q, jI v] n M (fun v9 n2 M2 => some (jI (σ (4 + q).toNat)) = v9 ∧ n = n2 ∧ jPic M2 m (mdL m (jfup σ (4 + q).toNat v) τ ps kp sv hd pd pn a9 od on lf) ∧ jout M M2 m 9) := by
  refine jctr (lv := [some (.ref m), some (jI q), some (jI v), none]) RX10 "sets" rfl rfl (by decide) (Nat.le_of_ble_eq_true rfl) rfl ?_
  intro X h hR hX
  have ho := jout.rf M m 9
  refine jk_aload_n (q := 1) h dX10_sets_0 rfl rfl ?_
  refine jk_get (q := 4) h fg_X10_7 dX10_sets_1 (hM.at 0 rfl) rfl rfl ?_
  refine jk_iconst (q := 5) h dX10_sets_4 rfl ?_
  refine jk_iload_n (q := 6) h dX10_sets_5 rfl rfl ?_
  refine jk_iadd (q := 7) h dX10_sets_6 rfl ?_
  refine jk_ialdI (q := 8) h dX10_sets_7 (hM.at 1 rfl) (by omega) (by omega) rfl rfl ?_
  refine jk_istore_n (q := 9) h dX10_sets_8 rfl (Nat.le_of_ble_eq_true rfl) rfl rfl ?_
  refine jk_aload_n (q := 10) h dX10_sets_9 rfl rfl ?_
  refine jk_get (q := 13) h fg_X10_7 dX10_sets_10 (hM.at 0 rfl) rfl rfl ?_
  refine jk_iconst (q := 14) h dX10_sets_13 rfl ?_
  refine jk_iload_n (q := 15) h dX10_sets_14 rfl rfl ?_
  refine jk_iadd (q := 16) h dX10_sets_15 rfl ?_
  refine jk_iload_n (q := 17) h dX10_sets_16 rfl rfl ?_
  refine jk_iast (q := 18) h dX10_sets_17 (hM.at 1 rfl) (by omega) (by omega) rfl rfl (fun M_1 s_1 => ?_)
  have hM := hM.put (i := 1) s_1 rfl
  have ho := ho.st (i := 1) s_1 (by omega)
  refine jk_iload_n (q := 19) h dX10_sets_18 rfl rfl ?_
  exact jk_iret h hR dX10_sets_19 (Nat.le_of_ble_eq_true rfl) (Nat.le_of_ble_eq_true rfl) ⟨rfl, rfl, hM, ho⟩

set_option maxHeartbeats 4000000 in
set_option maxRecDepth 100000 in
theorem c_X10_mayCome {l : Launch} {D : va_G} {b0 : Nat} {n : Nat} {M : jM} {m : Nat} {σ τ ps : Nat → Int} {kp : Int} {sv hd pd : Nat → Int} {pn a9 : Int} {od : Nat → Int} {on : Int} {lf : Nat → Int} (hM : jPic M m (mdL m σ τ ps kp sv hd pd pn a9 od on lf)) {x : TS} (hm : mdT σ x) (hQ : stQ x) {p : Int} {q : Int} (h_p : jRng p) (h_q : jRng q) : jCtr l D b0 yX10_mayCome cX10_mayCome 3 (some .int) 2 0 0 [.ref m, jI p, jI q] n M (jrd n M (if (0 ≤ p ∧ p ≤ 99) ∧ 0 ≤ q ∧ q ≤ 99 then (if x.2.1.2.2 < 60 then 0 else -4) else -2)) := by
  refine jctr (lv := [some (.ref m), some (jI p), some (jI q)]) RX10 "mayCome" rfl rfl (by decide) (Nat.le_of_ble_eq_true rfl) rfl ?_
  intro X h hR hX
  obtain ⟨hmr, ⟨hm1, hm2, hm3⟩, hms, hmA, hmB, hmP⟩ := id hm
  obtain ⟨hse, htb, hr, hch, hOA, hOB, hOP⟩ := id hQ
  obtain ⟨hya, hyb, hys⟩ := id htb
  have hm0 := hmr.1
  have hk1 : σ (1 : Int).toNat = 1 ∨ σ (1 : Int).toNat = 0 := by { rw [hm1]; unfold mkn; split <;> simp }
  have hk2 : σ (1 : Int).toNat = 0 ↔ x.2.2.1.1 = 0 := by { rw [hm1]; unfold mkn; split <;> omega }
  refine jk_iload_n (q := 1) h dX10_mayCome_0 rfl rfl ?_
  refine jk_callS (q := 4) h hX (c_X10_isValue ⟨by omega, by omega⟩) ms_X10_isValue dX10_mayCome_1 ml_X10_75 ⟨rfl, Nat.le_refl _⟩ rfl rfl (Nat.le_of_ble_eq_true rfl) (Nat.le_of_ble_eq_true rfl) rfl rfl (Nat.le_of_ble_eq_true rfl) rfl (fun v9 n9 M9 hp9 => ?_)
  obtain ⟨rfl, rfl, rfl⟩ := hp9
  refine jk_if_eqB (q := 7) (tgt := 14) h dX10_mayCome_4 (by decide) rfl (fun c4 => ?_) (fun c4 => ?_)
  · refine jk_bipush (q := 16) h dX10_mayCome_14 (by decide) rfl ?_
    refine jk_goto (q := 19) (tgt := 36) h dX10_mayCome_16 (by decide) ?_
    exact jk_iret h hR dX10_mayCome_36 (Nat.le_of_ble_eq_true rfl) (Nat.le_of_ble_eq_true rfl) (jrd_of (by first | (rw [if_neg (by omega)]; done) | (rw [if_pos ⟨by omega, by omega⟩, if_neg (by omega)]; done) | (rw [if_pos ⟨by omega, by omega⟩, if_pos (by omega)]; done)))
  · refine jk_iload_n (q := 8) h dX10_mayCome_7 rfl rfl ?_
    refine jk_callS (q := 11) h hX (c_X10_isValue ⟨by omega, by omega⟩) ms_X10_isValue dX10_mayCome_8 ml_X10_75 ⟨rfl, Nat.le_refl _⟩ rfl rfl (Nat.le_of_ble_eq_true rfl) (Nat.le_of_ble_eq_true rfl) rfl rfl (Nat.le_of_ble_eq_true rfl) rfl (fun v9 n9 M9 hp9 => ?_)
    obtain ⟨rfl, rfl, rfl⟩ := hp9
    refine jk_if_neB (q := 14) (tgt := 19) h dX10_mayCome_11 (by decide) rfl (fun c11 => ?_) (fun c11 => ?_)
    · refine jk_aload_n (q := 20) h dX10_mayCome_19 rfl rfl ?_
      refine jk_get (q := 23) h fg_X10_7 dX10_mayCome_20 (hM.at 0 rfl) rfl rfl ?_
      refine jk_iconst (q := 24) h dX10_mayCome_23 rfl ?_
      refine jk_ialdI (q := 25) h dX10_mayCome_24 (hM.at 1 rfl) (by omega) (by omega) rfl rfl ?_
      refine jk_bipush (q := 27) h dX10_mayCome_25 (by decide) rfl ?_
      refine jk_icmp_ne (q := 30) (tgt := 35) h dX10_mayCome_27 (by decide) rfl ⟨by omega, by omega⟩ ⟨by omega, by omega⟩ (fun c27 => ?_) (fun c27 => ?_)
      · refine jk_iconst (q := 36) h dX10_mayCome_35 rfl ?_
        exact jk_iret h hR dX10_mayCome_36 (Nat.le_of_ble_eq_true rfl) (Nat.le_of_ble_eq_true rfl) (jrd_of (by first | (rw [if_neg (by omega)]; done) | (rw [if_pos ⟨by omega, by omega⟩, if_neg (by omega)]; done) | (rw [if_pos ⟨by omega, by omega⟩, if_pos (by omega)]; done)))
      · refine jk_bipush (q := 32) h dX10_mayCome_30 (by decide) rfl ?_
        refine jk_goto (q := 35) (tgt := 36) h dX10_mayCome_32 (by decide) ?_
        exact jk_iret h hR dX10_mayCome_36 (Nat.le_of_ble_eq_true rfl) (Nat.le_of_ble_eq_true rfl) (jrd_of (by first | (rw [if_neg (by omega)]; done) | (rw [if_pos ⟨by omega, by omega⟩, if_neg (by omega)]; done) | (rw [if_pos ⟨by omega, by omega⟩, if_pos (by omega)]; done)))
    · refine jk_bipush (q := 16) h dX10_mayCome_14 (by decide) rfl ?_
      refine jk_goto (q := 19) (tgt := 36) h dX10_mayCome_16 (by decide) ?_
      exact jk_iret h hR dX10_mayCome_36 (Nat.le_of_ble_eq_true rfl) (Nat.le_of_ble_eq_true rfl) (jrd_of (by first | (rw [if_neg (by omega)]; done) | (rw [if_pos ⟨by omega, by omega⟩, if_neg (by omega)]; done) | (rw [if_pos ⟨by omega, by omega⟩, if_pos (by omega)]; done)))

set_option maxHeartbeats 4000000 in
set_option maxRecDepth 100000 in
theorem c_X10_comes {l : Launch} {D : va_G} {b0 : Nat} {n : Nat} {M : jM} {m : Nat} {σ τ ps : Nat → Int} {kp : Int} {sv hd pd : Nat → Int} {pn a9 : Int} {od : Nat → Int} {on : Int} {lf : Nat → Int} (hM : jPic M m (mdL m σ τ ps kp sv hd pd pn a9 od on lf)) {x : TS} (hm : mdT σ x) (hQ : stQ x) (hs60 : x.2.1.2.2 < 60) {p : Int} {q : Int} (h_p : jRng p) (h_q : jRng q) : jCtr l D b0 yX10_comes cX10_comes 3 (some .int) 0 0 0 [.ref m, jI p, jI q] n M (fun v n2 M2 => some (jI x.2.1.2.2) = v ∧ n = n2 ∧ (∃ σ2, jPic M2 m (mdL m σ2 τ ps kp sv hd pd pn a9 od on lf) ∧ mdT σ2 (x.1, (jfup x.2.1.1 x.2.1.2.2.toNat p, jfup x.2.1.2.1 x.2.1.2.2.toNat q, x.2.1.2.2 + 1), (x.2.2.1.1, nch x.2.2.1.1 x.2.2.1.2), x.2.2.2)) ∧ jout M M2 m 9) := by
  refine jctr (lv := [some (.ref m), some (jI p), some (jI q)]) RX10 "comes" rfl rfl (by decide) (Nat.le_of_ble_eq_true rfl) rfl ?_
  intro X h hR hX
  obtain ⟨hmr, ⟨hm1, hm2, hm3⟩, hms, hmA, hmB, hmP⟩ := id hm
  obtain ⟨hse, htb, hr, hch, hOA, hOB, hOP⟩ := id hQ
  obtain ⟨hya, hyb, hys⟩ := id htb
  have hm0 := hmr.1
  have hk1 : σ (1 : Int).toNat = 1 ∨ σ (1 : Int).toNat = 0 := by { rw [hm1]; unfold mkn; split <;> simp }
  have hk2 : σ (1 : Int).toNat = 0 ↔ x.2.2.1.1 = 0 := by { rw [hm1]; unfold mkn; split <;> omega }
  have ho := jout.rf M m 9
  refine jk_aload_n (q := 1) h dX10_comes_0 rfl rfl ?_
  refine jk_get (q := 4) h fg_X10_7 dX10_comes_1 (hM.at 0 rfl) rfl rfl ?_
  refine jk_bipush (q := 6) h dX10_comes_4 (by decide) rfl ?_
  refine jk_iconst (q := 7) h dX10_comes_6 rfl ?_
  refine jk_aload_n (q := 8) h dX10_comes_7 rfl rfl ?_
  refine jk_get (q := 11) h fg_X10_7 dX10_comes_8 (hM.at 0 rfl) rfl rfl ?_
  refine jk_iconst (q := 12) h dX10_comes_11 rfl ?_
  refine jk_ialdI (q := 13) h dX10_comes_12 (hM.at 1 rfl) (by omega) (by omega) rfl rfl ?_
  refine jk_imul (q := 14) h dX10_comes_13 rfl ?_
  refine jk_iadd (q := 15) h dX10_comes_14 rfl ?_
  refine jk_iload_n (q := 16) h dX10_comes_15 rfl rfl ?_
  refine jk_iast (q := 17) h dX10_comes_16 (hM.at 1 rfl) (by omega) (by omega) rfl rfl (fun M_1 s_1 => ?_)
  have hM := hM.put (i := 1) s_1 rfl
  have ho := ho.st (i := 1) s_1 (by omega)
  obtain ⟨σ1, hσ1⟩ : ∃ σ9, jfup σ (8 + 2 * σ (0 : Int).toNat).toNat p = σ9 := ⟨_, rfl⟩
  rw [hσ1] at hM
  have e1 : ∀ k : Nat, k ≠ (8 + 2 * σ (0 : Int).toNat).toNat → σ1 k = σ k := fun k hk => by { rw [← hσ1]; exact jfup_n _ _ hk }
  have e1p : σ1 (8 + 2 * x.2.1.2.2).toNat = p := by { rw [← hσ1, hm0]; exact jfup_s _ _ _ }
  have e10 : σ1 (0 : Int).toNat = x.2.1.2.2 := (e1 _ (by omega)).trans hm0
  refine jk_aload_n (q := 18) h dX10_comes_17 rfl rfl ?_
  refine jk_get (q := 21) h fg_X10_7 dX10_comes_18 (hM.at 0 rfl) rfl rfl ?_
  refine jk_bipush (q := 23) h dX10_comes_21 (by decide) rfl ?_
  refine jk_iconst (q := 24) h dX10_comes_23 rfl ?_
  refine jk_aload_n (q := 25) h dX10_comes_24 rfl rfl ?_
  refine jk_get (q := 28) h fg_X10_7 dX10_comes_25 (hM.at 0 rfl) rfl rfl ?_
  refine jk_iconst (q := 29) h dX10_comes_28 rfl ?_
  refine jk_ialdI (q := 30) h dX10_comes_29 (hM.at 1 rfl) (by omega) (by omega) rfl rfl ?_
  refine jk_imul (q := 31) h dX10_comes_30 rfl ?_
  refine jk_iadd (q := 32) h dX10_comes_31 rfl ?_
  refine jk_iconst (q := 33) h dX10_comes_32 rfl ?_
  refine jk_iadd (q := 34) h dX10_comes_33 rfl ?_
  refine jk_iload_n (q := 35) h dX10_comes_34 rfl rfl ?_
  refine jk_iast (q := 36) h dX10_comes_35 (hM.at 1 rfl) (by omega) (by omega) rfl rfl (fun M_2 s_2 => ?_)
  have hM := hM.put (i := 1) s_2 rfl
  have ho := ho.st (i := 1) s_2 (by omega)
  obtain ⟨σ2, hσ2⟩ : ∃ σ9, jfup σ1 (8 + 2 * σ1 (0 : Int).toNat + 1).toNat q = σ9 := ⟨_, rfl⟩
  rw [hσ2] at hM
  have e2 : ∀ k : Nat, k ≠ (8 + 2 * σ1 (0 : Int).toNat + 1).toNat → σ2 k = σ1 k := fun k hk => by { rw [← hσ2]; exact jfup_n _ _ hk }
  have e2q : σ2 (8 + 2 * x.2.1.2.2 + 1).toNat = q := by { rw [← hσ2, e10]; exact jfup_s _ _ _ }
  have e20 : σ2 (0 : Int).toNat = x.2.1.2.2 := (e2 _ (by omega)).trans e10
  refine jk_aload_n (q := 37) h dX10_comes_36 rfl rfl ?_
  refine jk_get (q := 40) h fg_X10_7 dX10_comes_37 (hM.at 0 rfl) rfl rfl ?_
  refine jk_iconst (q := 41) h dX10_comes_40 rfl ?_
  refine jk_dup2 (q := 42) h dX10_comes_41 rfl rfl rfl ?_
  refine jk_ialdI (q := 43) h dX10_comes_42 (hM.at 1 rfl) (by omega) (by omega) rfl rfl ?_
  refine jk_iconst (q := 44) h dX10_comes_43 rfl ?_
  refine jk_iadd (q := 45) h dX10_comes_44 rfl ?_
  refine jk_iast (q := 46) h dX10_comes_45 (hM.at 1 rfl) (by omega) (by omega) rfl rfl (fun M_3 s_3 => ?_)
  have hM := hM.put (i := 1) s_3 rfl
  have ho := ho.st (i := 1) s_3 (by omega)
  obtain ⟨σ3, hσ3⟩ : ∃ σ9, jfup σ2 (0 : Int).toNat (σ2 (0 : Int).toNat + 1) = σ9 := ⟨_, rfl⟩
  rw [hσ3] at hM
  have e3 : ∀ k : Nat, k ≠ 0 → σ3 k = σ2 k := fun k hk => by { rw [← hσ3]; exact jfup_n _ _ hk }
  have e30 : σ3 (0 : Int).toNat = x.2.1.2.2 + 1 := by { rw [← hσ3, jfup_s, e20] }
  refine jk_aload_n (q := 47) h dX10_comes_46 rfl rfl ?_
  refine jk_get (q := 50) h fg_X10_7 dX10_comes_47 (hM.at 0 rfl) rfl rfl ?_
  refine jk_iconst (q := 51) h dX10_comes_50 rfl ?_
  refine jk_dup2 (q := 52) h dX10_comes_51 rfl rfl rfl ?_
  refine jk_ialdI (q := 53) h dX10_comes_52 (hM.at 1 rfl) (by omega) (by omega) rfl rfl ?_
  refine jk_aload_n (q := 54) h dX10_comes_53 rfl rfl ?_
  refine jk_get (q := 57) h fg_X10_7 dX10_comes_54 (hM.at 0 rfl) rfl rfl ?_
  refine jk_iconst (q := 58) h dX10_comes_57 rfl ?_
  refine jk_ialdI (q := 59) h dX10_comes_58 (hM.at 1 rfl) (by omega) (by omega) rfl rfl ?_
  refine jk_iadd (q := 60) h dX10_comes_59 rfl ?_
  refine jk_iast (q := 61) h dX10_comes_60 (hM.at 1 rfl) (by omega) (by omega) rfl rfl (fun M_4 s_4 => ?_)
  have hM := hM.put (i := 1) s_4 rfl
  have ho := ho.st (i := 1) s_4 (by omega)
  obtain ⟨σ4, hσ4⟩ : ∃ σ9, jfup σ3 (3 : Int).toNat (σ3 (3 : Int).toNat + σ3 (1 : Int).toNat) = σ9 := ⟨_, rfl⟩
  rw [hσ4] at hM
  have e4 : ∀ k : Nat, k ≠ 3 → σ4 k = σ3 k := fun k hk => by { rw [← hσ4]; exact jfup_n _ _ hk }
  have e33 : σ3 (3 : Int).toNat = x.2.2.1.2 := ((e3 _ (by decide)).trans (e2 _ (by omega))).trans ((e1 _ (by omega)).trans hm3)
  have e31 : σ3 (1 : Int).toNat = mkn x.2.2.1.1 := ((e3 _ (by decide)).trans (e2 _ (by omega))).trans ((e1 _ (by omega)).trans hm1)
  have e43 : σ4 (3 : Int).toNat = nch x.2.2.1.1 x.2.2.1.2 := by { rw [← hσ4, jfup_s, e33, e31]; exact nch_m hr.1 }
  have e40 : σ4 (0 : Int).toNat = x.2.1.2.2 + 1 := (e4 _ (by decide)).trans e30
  refine jk_aload_n (q := 62) h dX10_comes_61 rfl rfl ?_
  refine jk_get (q := 65) h fg_X10_7 dX10_comes_62 (hM.at 0 rfl) rfl rfl ?_
  refine jk_iconst (q := 66) h dX10_comes_65 rfl ?_
  refine jk_ialdI (q := 67) h dX10_comes_66 (hM.at 1 rfl) (by omega) (by omega) rfl rfl ?_
  refine jk_iconst (q := 68) h dX10_comes_67 rfl ?_
  refine jk_isub (q := 69) h dX10_comes_68 rfl ?_
  exact jk_iret h hR dX10_comes_69 (Nat.le_of_ble_eq_true rfl) (Nat.le_of_ble_eq_true rfl) ⟨by rw [e40, show x.2.1.2.2 + 1 - 1 = x.2.1.2.2 by omega], rfl, ⟨σ4, hM, hm.come hQ hs60 e40 e43 (((e4 _ (by omega)).trans (e3 _ (by omega))).trans ((e2 _ (by omega)).trans e1p)) (((e4 _ (by omega)).trans (e3 _ (by omega))).trans e2q) (fun k a b c d => ((e4 k b).trans (e3 k a)).trans ((e2 k (by omega)).trans (e1 k (by omega))))⟩, ho⟩

set_option maxHeartbeats 4000000 in
set_option maxRecDepth 100000 in
theorem c_X10_goes {l : Launch} {D : va_G} {b0 : Nat} {n : Nat} {M : jM} {m : Nat} {σ τ ps : Nat → Int} {kp : Int} {sv hd pd : Nat → Int} {pn a9 : Int} {od : Nat → Int} {on : Int} {lf : Nat → Int} (hM : jPic M m (mdL m σ τ ps kp sv hd pd pn a9 od on lf)) {x : TS} (hm : mdT σ x) (hQ : stQ x) {p : Int} (hp : 0 ≤ p ∧ p < x.2.1.2.2) : jCtr l D b0 yX10_goes cX10_goes 3 (some .int) 0 0 0 [.ref m, jI p] n M (fun v n2 M2 => some (jI (x.2.1.2.2 - 1)) = v ∧ n = n2 ∧ (∃ σ2, jPic M2 m (mdL m σ2 τ ps kp sv hd pd pn a9 od on lf) ∧ mdT σ2 (x.1, (jdr x.2.1.1 p (x.2.1.2.2 - 1), jdr x.2.1.2.1 p (x.2.1.2.2 - 1), x.2.1.2.2 - 1), (x.2.2.1.1, nch x.2.2.1.1 x.2.2.1.2), x.2.2.2)) ∧ jout M M2 m 9) := by
  refine jctr (lv := [some (.ref m), some (jI p), none]) RX10 "goes" rfl rfl (by decide) (Nat.le_of_ble_eq_true rfl) rfl ?_
  intro X h hR hX
  obtain ⟨hmr, ⟨hm1, hm2, hm3⟩, hms, hmA, hmB, hmP⟩ := id hm
  obtain ⟨hse, htb, hr, hch, hOA, hOB, hOP⟩ := id hQ
  obtain ⟨hya, hyb, hys⟩ := id htb
  have hm0 := hmr.1
  have hk1 : σ (1 : Int).toNat = 1 ∨ σ (1 : Int).toNat = 0 := by { rw [hm1]; unfold mkn; split <;> simp }
  have hk2 : σ (1 : Int).toNat = 0 ↔ x.2.2.1.1 = 0 := by { rw [hm1]; unfold mkn; split <;> omega }
  have ho := jout.rf M m 9
  refine jk_aload_n (q := 1) h dX10_goes_0 rfl rfl ?_
  refine jk_get (q := 4) h fg_X10_7 dX10_goes_1 (hM.at 0 rfl) rfl rfl ?_
  refine jk_iconst (q := 5) h dX10_goes_4 rfl ?_
  refine jk_dup2 (q := 6) h dX10_goes_5 rfl rfl rfl ?_
  refine jk_ialdI (q := 7) h dX10_goes_6 (hM.at 1 rfl) (by omega) (by omega) rfl rfl ?_
  refine jk_iconst (q := 8) h dX10_goes_7 rfl ?_
  refine jk_isub (q := 9) h dX10_goes_8 rfl ?_
  refine jk_iast (q := 10) h dX10_goes_9 (hM.at 1 rfl) (by omega) (by omega) rfl rfl (fun M_1 s_1 => ?_)
  have hM := hM.put (i := 1) s_1 rfl
  have ho := ho.st (i := 1) s_1 (by omega)
  obtain ⟨σ1, hσ1⟩ : ∃ σ9, jfup σ (0 : Int).toNat (σ (0 : Int).toNat - 1) = σ9 := ⟨_, rfl⟩
  rw [hσ1] at hM
  have e1 : ∀ k : Nat, k ≠ 0 → σ1 k = σ k := fun k hk => by { rw [← hσ1]; exact jfup_n _ _ hk }
  have e10 : σ1 (0 : Int).toNat = x.2.1.2.2 - 1 := by { rw [← hσ1, jfup_s, hm0] }
  refine jk_bipush (q := 12) h dX10_goes_10 (by decide) rfl ?_
  refine jk_iconst (q := 13) h dX10_goes_12 rfl ?_
  refine jk_iload_n (q := 14) h dX10_goes_13 rfl rfl ?_
  refine jk_imul (q := 15) h dX10_goes_14 rfl ?_
  refine jk_iadd (q := 16) h dX10_goes_15 rfl ?_
  refine jk_istore_n (q := 17) h dX10_goes_16 rfl (Nat.le_of_ble_eq_true rfl) rfl rfl ?_
  have lp17 : ∀ (k9 : Nat) (k : Int) (M9 : jM) (hk1 : 8 + 2 * p ≤ k) (hk9 : k ≤ 8 + 2 * (x.2.1.2.2 - 1)) (hM : jPic M9 m (mdL m (gsM σ1 (8 + 2 * p) k) τ ps kp sv hd pd pn a9 od on lf)) (ho : jout M M9 m 9) (hk9 : (8 + 2 * (x.2.1.2.2 - 1) - k).toNat = k9), jJ X 17 [some (.ref (m)), some (jI (p)), some (jI (k))] [] n M9 0 0 := by
    intro k9
    induction k9 using Nat.strongRecOn with
    | _ k9 ih17 =>
      intro k M9 hk1 hk9 hM ho hk9
      have eg : ∀ j : Nat, (j : Int) < 8 + 2 * p → gsM σ1 (8 + 2 * p) k j = σ1 j := fun j hj => by { unfold gsM; rw [if_neg (by omega)] }
      have eg0 : gsM σ1 (8 + 2 * p) k (0 : Int).toNat = x.2.1.2.2 - 1 := (eg _ (by omega)).trans e10
      refine jk_iload_n (q := 18) h dX10_goes_17 rfl rfl ?_
      refine jk_bipush (q := 20) h dX10_goes_18 (by decide) rfl ?_
      refine jk_iconst (q := 21) h dX10_goes_20 rfl ?_
      refine jk_aload_n (q := 22) h dX10_goes_21 rfl rfl ?_
      refine jk_get (q := 25) h fg_X10_7 dX10_goes_22 (hM.at 0 rfl) rfl rfl ?_
      refine jk_iconst (q := 26) h dX10_goes_25 rfl ?_
      refine jk_ialdI (q := 27) h dX10_goes_26 (hM.at 1 rfl) (by omega) (by omega) rfl rfl ?_
      refine jk_imul (q := 28) h dX10_goes_27 rfl ?_
      refine jk_iadd (q := 29) h dX10_goes_28 rfl ?_
      refine jk_icmp_ge (q := 32) (tgt := 52) h dX10_goes_29 (by decide) rfl ⟨by omega, by omega⟩ ⟨by omega, by omega⟩ (fun c29 => ?_) (fun c29 => ?_)
      · have hk3 : k = 8 + 2 * (x.2.1.2.2 - 1) := by omega
        refine jk_aload_n (q := 53) h dX10_goes_52 rfl rfl ?_
        refine jk_get (q := 56) h fg_X10_7 dX10_goes_53 (hM.at 0 rfl) rfl rfl ?_
        refine jk_iconst (q := 57) h dX10_goes_56 rfl ?_
        refine jk_dup2 (q := 58) h dX10_goes_57 rfl rfl rfl ?_
        refine jk_ialdI (q := 59) h dX10_goes_58 (hM.at 1 rfl) (by omega) (by omega) rfl rfl ?_
        refine jk_aload_n (q := 60) h dX10_goes_59 rfl rfl ?_
        refine jk_get (q := 63) h fg_X10_7 dX10_goes_60 (hM.at 0 rfl) rfl rfl ?_
        refine jk_iconst (q := 64) h dX10_goes_63 rfl ?_
        refine jk_ialdI (q := 65) h dX10_goes_64 (hM.at 1 rfl) (by omega) (by omega) rfl rfl ?_
        refine jk_iadd (q := 66) h dX10_goes_65 rfl ?_
        refine jk_iast (q := 67) h dX10_goes_66 (hM.at 1 rfl) (by omega) (by omega) rfl rfl (fun M_2 s_2 => ?_)
        have hM := hM.put (i := 1) s_2 rfl
        have ho := ho.st (i := 1) s_2 (by omega)
        obtain ⟨σ4, hσ4⟩ : ∃ σ9, jfup (gsM σ1 (8 + 2 * p) k) (3 : Int).toNat (gsM σ1 (8 + 2 * p) k (3 : Int).toNat + gsM σ1 (8 + 2 * p) k (1 : Int).toNat) = σ9 := ⟨_, rfl⟩
        rw [hσ4] at hM
        have e4 : ∀ j : Nat, j ≠ 3 → σ4 j = gsM σ1 (8 + 2 * p) k j := fun j hj => by { rw [← hσ4]; exact jfup_n _ _ hj }
        have e40 : σ4 (0 : Int).toNat = x.2.1.2.2 - 1 := (e4 _ (by decide)).trans eg0
        have e43 : σ4 (3 : Int).toNat = nch x.2.2.1.1 x.2.2.1.2 := by { rw [← hσ4, jfup_s, eg _ (by omega), eg _ (by omega), e1 _ (by decide), e1 _ (by decide), hm3, hm1]; exact nch_m hr.1 }
        refine jk_aload_n (q := 68) h dX10_goes_67 rfl rfl ?_
        refine jk_get (q := 71) h fg_X10_7 dX10_goes_68 (hM.at 0 rfl) rfl rfl ?_
        refine jk_iconst (q := 72) h dX10_goes_71 rfl ?_
        refine jk_ialdI (q := 73) h dX10_goes_72 (hM.at 1 rfl) (by omega) (by omega) rfl rfl ?_
        exact jk_iret h hR dX10_goes_73 (Nat.le_of_ble_eq_true rfl) (Nat.le_of_ble_eq_true rfl) ⟨by rw [e40], rfl, ⟨σ4, hM, hm.gone hQ hp e40 e43 (fun j a b => by rw [e4 j b, hk3]; unfold gsM; split; exact e1 _ (by omega); exact e1 _ a)⟩, ho⟩
      · refine jk_aload_n (q := 33) h dX10_goes_32 rfl rfl ?_
        refine jk_get (q := 36) h fg_X10_7 dX10_goes_33 (hM.at 0 rfl) rfl rfl ?_
        refine jk_iload_n (q := 37) h dX10_goes_36 rfl rfl ?_
        refine jk_aload_n (q := 38) h dX10_goes_37 rfl rfl ?_
        refine jk_get (q := 41) h fg_X10_7 dX10_goes_38 (hM.at 0 rfl) rfl rfl ?_
        refine jk_iload_n (q := 42) h dX10_goes_41 rfl rfl ?_
        refine jk_iconst (q := 43) h dX10_goes_42 rfl ?_
        refine jk_iadd (q := 44) h dX10_goes_43 rfl ?_
        refine jk_ialdI (q := 45) h dX10_goes_44 (hM.at 1 rfl) (by omega) (by omega) rfl rfl ?_
        refine jk_iast (q := 46) h dX10_goes_45 (hM.at 1 rfl) (by omega) (by omega) rfl rfl (fun M_3 s_3 => ?_)
        have hM := hM.put (i := 1) s_3 rfl
        have ho := ho.st (i := 1) s_3 (by omega)
        refine jk_iinc (q := 49) h dX10_goes_46 rfl rfl rfl rfl ?_
        refine jk_goto (q := 52) (tgt := 17) h dX10_goes_49 (by decide) ?_
        exact jk_weak (jwk_s rfl (jwk_s rfl (jwk_s rfl jwk_0))) (ih17 _ (by omega) _ _ (by omega) (by omega) (by rw [← gsM_s (by omega) hk1]; exact hM) ho rfl)
  exact jk_weak (jwk_s rfl (jwk_s rfl (jwk_s rfl jwk_0))) (lp17 _ _ _ (by omega) (by omega) (by rw [gsM_0]; exact hM) ho rfl)
