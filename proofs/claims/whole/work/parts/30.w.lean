/-! the reference: its object, and what its array says of a state -/
def mdL (m : Nat) (σ τ ps : Nat → Int) (kp : Int) (sv hd pd : Nat → Int) (pn a9 : Int) (od : Nat → Int) (on : Int) (lf : Nat → Int) : List jC :=
  [oB 9 [.ref (m + 1), .ref (m + 2), .ref (m + 3), jI kp, .ref (m + 4), .ref (m + 5), .ref (m + 6), jI pn, jI a9, .ref (m + 7), jI on, .ref (m + 8)], aI 455 σ, aI 455 τ, aI 2730 ps, aI 910 sv, aZ 2 hd, aI 80 pd, aI 164 od, aI 100 lf]
def mcT (σ : Nat → Int) (c : Int) (y : TC) : Prop := (∀ v : Int, 0 ≤ v → v < 100 → σ (255 + 100 * c + v).toNat = y.1 v.toNat) ∧ σ (210 + c).toNat = y.2.2.2.1 ∧ (∀ k : Int, 0 ≤ k → k < y.2.2.2.1 → σ (212 + 12 * c + 2 * k).toNat = y.2.1 k.toNat ∧ σ (212 + 12 * c + 2 * k + 1).toNat = y.2.2.1 k.toNat) ∧ σ (128 + c).toNat = y.2.2.2.2.2.2.2.2 ∧ ∀ k : Int, 0 ≤ k → k < y.2.2.2.2.2.2.2.2 → σ (130 + 40 * c + 4 * k).toNat = y.2.2.2.2.1 k.toNat ∧ σ (130 + 40 * c + 4 * k + 1).toNat = y.2.2.2.2.2.1 k.toNat ∧ σ (130 + 40 * c + 4 * k + 2).toNat = y.2.2.2.2.2.2.1 k.toNat ∧ σ (130 + 40 * c + 4 * k + 3).toNat = y.2.2.2.2.2.2.2.1 k.toNat
def mpT (σ : Nat → Int) (p : TP) : Prop := σ (236 : Int).toNat = p.2.2.2 ∧ ∀ k : Int, 0 ≤ k → k < p.2.2.2 → σ (237 + 3 * k).toNat = p.1 k.toNat ∧ σ (237 + 3 * k + 1).toNat = p.2.1 k.toNat ∧ σ (237 + 3 * k + 2).toNat = p.2.2.1 k.toNat
def mrT (σ : Nat → Int) (y : TT) : Prop := σ (0 : Int).toNat = y.2.2 ∧ ∀ r : Int, 0 ≤ r → r < y.2.2 → σ (8 + 2 * r).toNat = y.1 r.toNat ∧ σ (8 + 2 * r + 1).toNat = y.2.1 r.toNat
abbrev mkn (rows : Int) : Int := if 0 < rows then 1 else 0
def mdT (σ : Nat → Int) (x : TS) : Prop := mrT σ x.2.1 ∧ (σ (1 : Int).toNat = mkn x.2.2.1.1 ∧ σ (2 : Int).toNat = x.2.2.1.1 ∧ σ (3 : Int).toNat = x.2.2.1.2) ∧ (∀ k : Int, 0 ≤ k → k < 4 → σ (4 + k).toNat = x.1 k.toNat) ∧ mcT σ 0 x.2.2.2.1 ∧ mcT σ 1 x.2.2.2.2.1 ∧ mpT σ x.2.2.2.2.2
theorem mdT.col {σ : Nat → Int} {x : TS} (h : mdT σ x) {c : Int} (hc : c = 0 ∨ c = 1) : mcT σ c (colA x c) := by
  rcases hc with rfl | rfl
  · exact h.2.2.2.1
  · exact h.2.2.2.2.1
theorem cfQ_col {x : TS} (h : stQ x) (c : Int) : cfQ (colA x c) := by
  show cfQ (if c = 0 then _ else _)
  split
  · exact h.2.2.2.2.1
  · exact h.2.2.2.2.2.1

set_option maxHeartbeats 4000000 in
set_option maxRecDepth 100000 in
theorem c_X10_in {l : Launch} {D : va_G} {b0 : Nat} {n : Nat} {M : jM} {a b c : Int} (ha : jRng a) (hb : jRng b) (hc : jRng c) : jCtr l D b0 yX10_in cX10_in 3 (some .boolean) 0 0 0 [jI a, jI b, jI c] n M (jrd n M (if b ≤ a ∧ a ≤ c then 1 else 0)) := by
  refine jctr (lv := [some (jI a), some (jI b), some (jI c)]) RX10 "in" rfl rfl (by decide) (Nat.le_of_ble_eq_true rfl) rfl ?_
  intro X h hR hX
  refine jk_iload_n (q := 1) h dX10_in_0 rfl rfl ?_
  refine jk_iload_n (q := 2) h dX10_in_1 rfl rfl ?_
  refine jk_icmp_lt (q := 5) (tgt := 14) h dX10_in_2 (by decide) rfl ⟨by omega, by omega⟩ ⟨by omega, by omega⟩ (fun c2 => ?_) (fun c2 => ?_)
  · refine jk_iconst (q := 15) h dX10_in_14 rfl ?_
    exact jk_zret h hR dX10_in_15 (Nat.le_of_ble_eq_true rfl) (Nat.le_of_ble_eq_true rfl) (by first | exact Or.inl rfl | exact Or.inr rfl | omega) (jrd_of (by first | rfl | exact (if_pos (by omega)).symm | exact if_pos (by omega) | exact if_neg (by omega)))
  · refine jk_iload_n (q := 6) h dX10_in_5 rfl rfl ?_
    refine jk_iload_n (q := 7) h dX10_in_6 rfl rfl ?_
    refine jk_icmp_gt (q := 10) (tgt := 14) h dX10_in_7 (by decide) rfl ⟨by omega, by omega⟩ ⟨by omega, by omega⟩ (fun c7 => ?_) (fun c7 => ?_)
    · refine jk_iconst (q := 15) h dX10_in_14 rfl ?_
      exact jk_zret h hR dX10_in_15 (Nat.le_of_ble_eq_true rfl) (Nat.le_of_ble_eq_true rfl) (by first | exact Or.inl rfl | exact Or.inr rfl | omega) (jrd_of (by first | rfl | exact (if_pos (by omega)).symm | exact if_pos (by omega) | exact if_neg (by omega)))
    · refine jk_iconst (q := 11) h dX10_in_10 rfl ?_
      refine jk_goto (q := 14) (tgt := 15) h dX10_in_11 (by decide) ?_
      exact jk_zret h hR dX10_in_15 (Nat.le_of_ble_eq_true rfl) (Nat.le_of_ble_eq_true rfl) (by first | exact Or.inl rfl | exact Or.inr rfl | omega) (jrd_of (by first | rfl | exact (if_pos (by omega)).symm | exact if_pos (by omega) | exact if_neg (by omega)))

set_option maxHeartbeats 4000000 in
set_option maxRecDepth 100000 in
theorem c_X10_isValue {l : Launch} {D : va_G} {b0 : Nat} {n : Nat} {M : jM} {a : Int} (ha : jRng a) : jCtr l D b0 yX10_isValue cX10_isValue 1 (some .boolean) 1 0 0 [jI a] n M (jrd n M (if 0 ≤ a ∧ a ≤ 99 then 1 else 0)) := by
  refine jctr (lv := [some (jI a)]) RX10 "isValue" rfl rfl (by decide) (Nat.le_of_ble_eq_true rfl) rfl ?_
  intro X h hR hX
  refine jk_iload_n (q := 1) h dX10_isValue_0 rfl rfl ?_
  refine jk_iconst (q := 2) h dX10_isValue_1 rfl ?_
  refine jk_bipush (q := 4) h dX10_isValue_2 (by decide) rfl ?_
  refine jk_callS (q := 7) h hX (c_X10_in ⟨by omega, by omega⟩ ⟨by omega, by omega⟩ ⟨by omega, by omega⟩) ms_X10_in dX10_isValue_4 ml_X10_35 ⟨rfl, Nat.le_refl _⟩ rfl rfl (Nat.le_of_ble_eq_true rfl) (Nat.le_of_ble_eq_true rfl) rfl rfl (Nat.le_of_ble_eq_true rfl) rfl (fun v9 n9 M9 hp9 => ?_)
  obtain ⟨rfl, rfl, rfl⟩ := hp9
  exact jk_zret h hR dX10_isValue_7 (Nat.le_of_ble_eq_true rfl) (Nat.le_of_ble_eq_true rfl) (by split <;> simp) (jrd_of rfl)

set_option maxHeartbeats 4000000 in
set_option maxRecDepth 100000 in
theorem c_X10_isColumn {l : Launch} {D : va_G} {b0 : Nat} {n : Nat} {M : jM} {a : Int} (ha : jRng a) : jCtr l D b0 yX10_isColumn cX10_isColumn 1 (some .boolean) 1 0 0 [jI a] n M (jrd n M (if 0 ≤ a ∧ a ≤ 1 then 1 else 0)) := by
  refine jctr (lv := [some (jI a)]) RX10 "isColumn" rfl rfl (by decide) (Nat.le_of_ble_eq_true rfl) rfl ?_
  intro X h hR hX
  refine jk_iload_n (q := 1) h dX10_isColumn_0 rfl rfl ?_
  refine jk_iconst (q := 2) h dX10_isColumn_1 rfl ?_
  refine jk_iconst (q := 3) h dX10_isColumn_2 rfl ?_
  refine jk_callS (q := 6) h hX (c_X10_in ⟨by omega, by omega⟩ ⟨by omega, by omega⟩ ⟨by omega, by omega⟩) ms_X10_in dX10_isColumn_3 ml_X10_35 ⟨rfl, Nat.le_refl _⟩ rfl rfl (Nat.le_of_ble_eq_true rfl) (Nat.le_of_ble_eq_true rfl) rfl rfl (Nat.le_of_ble_eq_true rfl) rfl (fun v9 n9 M9 hp9 => ?_)
  obtain ⟨rfl, rfl, rfl⟩ := hp9
  exact jk_zret h hR dX10_isColumn_6 (Nat.le_of_ble_eq_true rfl) (Nat.le_of_ble_eq_true rfl) (by split <;> simp) (jrd_of rfl)

set_option maxHeartbeats 4000000 in
set_option maxRecDepth 100000 in
theorem c_X10_areBounds {l : Launch} {D : va_G} {b0 : Nat} {n : Nat} {M : jM} {a b : Int} (ha : jRng a) (hb : jRng b) : jCtr l D b0 yX10_areBounds cX10_areBounds 2 (some .boolean) 2 0 0 [jI a, jI b] n M (jrd n M (if 0 ≤ a ∧ a ≤ b ∧ b ≤ 99 then 1 else 0)) := by
  refine jctr (lv := [some (jI a), some (jI b)]) RX10 "areBounds" rfl rfl (by decide) (Nat.le_of_ble_eq_true rfl) rfl ?_
  intro X h hR hX
  refine jk_iload_n (q := 1) h dX10_areBounds_0 rfl rfl ?_
  refine jk_callS (q := 4) h hX (c_X10_isValue ⟨by omega, by omega⟩) ms_X10_isValue dX10_areBounds_1 ml_X10_75 ⟨rfl, Nat.le_refl _⟩ rfl rfl (Nat.le_of_ble_eq_true rfl) (Nat.le_of_ble_eq_true rfl) rfl rfl (Nat.le_of_ble_eq_true rfl) rfl (fun v9 n9 M9 hp9 => ?_)
  obtain ⟨rfl, rfl, rfl⟩ := hp9
  refine jk_if_eqB (q := 7) (tgt := 21) h dX10_areBounds_4 (by decide) rfl (fun c4 => ?_) (fun c4 => ?_)
  · refine jk_iconst (q := 22) h dX10_areBounds_21 rfl ?_
    exact jk_zret h hR dX10_areBounds_22 (Nat.le_of_ble_eq_true rfl) (Nat.le_of_ble_eq_true rfl) (by first | exact Or.inl rfl | exact Or.inr rfl | omega) (jrd_of (by first | rfl | exact (if_pos (by omega)).symm | exact if_pos (by omega) | exact if_neg (by omega)))
  · refine jk_iload_n (q := 8) h dX10_areBounds_7 rfl rfl ?_
    refine jk_iload_n (q := 9) h dX10_areBounds_8 rfl rfl ?_
    refine jk_bipush (q := 11) h dX10_areBounds_9 (by decide) rfl ?_
    refine jk_callS (q := 14) h hX (c_X10_in ⟨by omega, by omega⟩ ⟨by omega, by omega⟩ ⟨by omega, by omega⟩) ms_X10_in dX10_areBounds_11 ml_X10_35 ⟨rfl, Nat.le_refl _⟩ rfl rfl (Nat.le_of_ble_eq_true rfl) (Nat.le_of_ble_eq_true rfl) rfl rfl (Nat.le_of_ble_eq_true rfl) rfl (fun v9 n9 M9 hp9 => ?_)
    obtain ⟨rfl, rfl, rfl⟩ := hp9
    refine jk_if_eqB (q := 17) (tgt := 21) h dX10_areBounds_14 (by decide) rfl (fun c14 => ?_) (fun c14 => ?_)
    · refine jk_iconst (q := 22) h dX10_areBounds_21 rfl ?_
      exact jk_zret h hR dX10_areBounds_22 (Nat.le_of_ble_eq_true rfl) (Nat.le_of_ble_eq_true rfl) (by first | exact Or.inl rfl | exact Or.inr rfl | omega) (jrd_of (by first | rfl | exact (if_pos (by omega)).symm | exact if_pos (by omega) | exact if_neg (by omega)))
    · refine jk_iconst (q := 18) h dX10_areBounds_17 rfl ?_
      refine jk_goto (q := 21) (tgt := 22) h dX10_areBounds_18 (by decide) ?_
      exact jk_zret h hR dX10_areBounds_22 (Nat.le_of_ble_eq_true rfl) (Nat.le_of_ble_eq_true rfl) (by first | exact Or.inl rfl | exact Or.inr rfl | omega) (jrd_of (by first | rfl | exact (if_pos (by omega)).symm | exact if_pos (by omega) | exact if_neg (by omega)))

set_option maxHeartbeats 4000000 in
set_option maxRecDepth 100000 in
theorem c_X10_of {l : Launch} {D : va_G} {b0 : Nat} {n : Nat} {M : jM} {q : Nat} {σ : Nat → Int} (hσ : jPic M q [aI 455 σ]) {r c z : Int} (hr : 0 ≤ r ∧ r < 60) (hc : 0 ≤ c ∧ c ≤ 1) (hz : σ (8 + 2 * r + c).toNat = z) : jCtr l D b0 yX10_of cX10_of 3 (some .int) 0 0 0 [.ref q, jI r, jI c] n M (jrd n M z) := by
  refine jctr (lv := [some (.ref q), some (jI r), some (jI c)]) RX10 "of" rfl rfl (by decide) (Nat.le_of_ble_eq_true rfl) rfl ?_
  intro X h hR hX
  refine jk_aload_n (q := 1) h dX10_of_0 rfl rfl ?_
  refine jk_bipush (q := 3) h dX10_of_1 (by decide) rfl ?_
  refine jk_iconst (q := 4) h dX10_of_3 rfl ?_
  refine jk_iload_n (q := 5) h dX10_of_4 rfl rfl ?_
  refine jk_imul (q := 6) h dX10_of_5 rfl ?_
  refine jk_iadd (q := 7) h dX10_of_6 rfl ?_
  refine jk_iload_n (q := 8) h dX10_of_7 rfl rfl ?_
  refine jk_iadd (q := 9) h dX10_of_8 rfl ?_
  refine jk_ialdI (q := 10) h dX10_of_9 (hσ.at 0 rfl) (by omega) (by omega) rfl rfl ?_
  exact jk_iret h hR dX10_of_10 (Nat.le_of_ble_eq_true rfl) (Nat.le_of_ble_eq_true rfl) (jrd_of hz.symm)

set_option maxHeartbeats 4000000 in
set_option maxRecDepth 100000 in
theorem c_X10_had {l : Launch} {D : va_G} {b0 : Nat} {n : Nat} {M : jM} {q : Nat} {σ : Nat → Int} (hσ : jPic M q [aI 455 σ]) {c v : Int} (hc : 0 ≤ c ∧ c ≤ 1) (hv : 0 ≤ v ∧ v < 100) : jCtr l D b0 yX10_had cX10_had 3 (some .int) 0 0 0 [.ref q, jI c, jI v] n M (jrd n M (σ (255 + 100 * c + v).toNat)) := by
  refine jctr (lv := [some (.ref q), some (jI c), some (jI v)]) RX10 "had" rfl rfl (by decide) (Nat.le_of_ble_eq_true rfl) rfl ?_
  intro X h hR hX
  refine jk_aload_n (q := 1) h dX10_had_0 rfl rfl ?_
  refine jk_sipush (q := 4) h dX10_had_1 (by decide) rfl ?_
  refine jk_bipush (q := 6) h dX10_had_4 (by decide) rfl ?_
  refine jk_iload_n (q := 7) h dX10_had_6 rfl rfl ?_
  refine jk_imul (q := 8) h dX10_had_7 rfl ?_
  refine jk_iadd (q := 9) h dX10_had_8 rfl ?_
  refine jk_iload_n (q := 10) h dX10_had_9 rfl rfl ?_
  refine jk_iadd (q := 11) h dX10_had_10 rfl ?_
  refine jk_ialdI (q := 12) h dX10_had_11 (hσ.at 0 rfl) (by omega) (by omega) rfl rfl ?_
  exact jk_iret h hR dX10_had_12 (Nat.le_of_ble_eq_true rfl) (Nat.le_of_ble_eq_true rfl) (jrd_of rfl)

theorem mrT.a {σ : Nat → Int} {y : TT} (h : mrT σ y) {r : Int} (h0 : 0 ≤ r) (h1 : r < y.2.2) : σ (8 + 2 * r + 0).toNat = y.1 r.toNat := by
  rw [Int.add_zero]
  exact (h.2 r h0 h1).1
theorem mrT.b {σ : Nat → Int} {y : TT} (h : mrT σ y) {r : Int} (h0 : 0 ≤ r) (h1 : r < y.2.2) : σ (8 + 2 * r + 1).toNat = y.2.1 r.toNat := (h.2 r h0 h1).2
theorem mrT.c {σ : Nat → Int} {y : TT} (h : mrT σ y) {r c : Int} (h0 : 0 ≤ r) (h1 : r < y.2.2) (hc : c = 0 ∨ c = 1) : σ (8 + 2 * r + c).toNat = colT y c r.toNat := by
  rcases hc with rfl | rfl
  · exact h.a h0 h1
  · exact h.b h0 h1
/-- numbers of one array laid into another -/
def lyS (F G : Nat → Int) (fa ta i : Int) : Nat → Int := fun k => if ta ≤ (k : Int) ∧ (k : Int) < ta + i then F (fa + ((k : Int) - ta)).toNat else G k
theorem lyS_0 (F G : Nat → Int) (fa ta : Int) : lyS F G fa ta 0 = G := by
  funext k
  unfold lyS
  rw [if_neg (by omega)]
theorem lyS_s {F G : Nat → Int} {fa ta i : Int} (h0 : 0 ≤ ta) (h : 0 ≤ i) : jfup (lyS F G fa ta i) (ta + i).toNat (F (fa + i).toNat) = lyS F G fa ta (i + 1) := by
  funext k
  unfold jfup lyS
  by_cases hk : k = (ta + i).toNat
  · rw [if_pos hk, if_pos (by omega), show fa + ((k : Int) - ta) = fa + i by omega]
  · rw [if_neg hk]
    by_cases h2 : ta ≤ (k : Int) ∧ (k : Int) < ta + i
    · rw [if_pos h2, if_pos (by omega)]
    · rw [if_neg h2, if_neg (by omega)]

set_option maxHeartbeats 4000000 in
set_option maxRecDepth 100000 in
theorem c_X10_lays {l : Launch} {D : va_G} {b0 : Nat} {n : Nat} {M : jM} {f t lf lt : Nat} {F G : Nat → Int} (hF : jPic M f [aI lf F]) (hG : jPic M t [aI lt G]) (hft : f ≠ t) {fa ta : Int} (hfa : 0 ≤ fa ∧ fa + 455 ≤ lf) (hta : 0 ≤ ta ∧ ta + 455 ≤ lt) (hlf : Nat.ble lf 2147483647 = true) (hlt : Nat.ble lt 2147483647 = true) : jCtr l D b0 yX10_lays cX10_lays 5 none 0 0 0 [.ref f, jI fa, .ref t, jI ta] n M (fun v n2 M2 => none = v ∧ n = n2 ∧ jst M M2 t (aI lt (lyS F G fa ta 455))) := by
  refine jctr (lv := [some (.ref f), some (jI fa), some (.ref t), some (jI ta), none]) RX10 "lays" rfl rfl (by decide) (Nat.le_of_ble_eq_true rfl) rfl ?_
  intro X h hR hX
  have hl9 := Nat.le_of_ble_eq_true hlf
  have hl8 := Nat.le_of_ble_eq_true hlt
  refine jk_iconst (q := 1) h dX10_lays_0 rfl ?_
  refine jk_istore (q := 3) h dX10_lays_1 rfl (Nat.le_of_ble_eq_true rfl) rfl rfl ?_
  have lp3 : ∀ (k9 : Nat) (i : Int) (M9 : jM) (hi : 0 ≤ i) (hi2 : i ≤ 455) (hF : jPic M9 f [aI lf F]) (hG : jPic M9 t [aI lt (lyS F G fa ta i)]) (hs : jst M M9 t (aI lt (lyS F G fa ta i))) (hk9 : (455 - i).toNat = k9), jJ X 3 [some (.ref (f)), some (jI (fa)), some (.ref (t)), some (jI (ta)), some (jI (i))] [] n M9 0 0 := by
    intro k9
    induction k9 using Nat.strongRecOn with
    | _ k9 ih3 =>
      intro i M9 hi hi2 hF hG hs hk9
      refine jk_iload (q := 5) h dX10_lays_3 rfl rfl ?_
      refine jk_sipush (q := 8) h dX10_lays_5 (by decide) rfl ?_
      refine jk_icmp_ge (q := 11) (tgt := 29) h dX10_lays_8 (by decide) rfl ⟨by omega, by omega⟩ ⟨by omega, by omega⟩ (fun c8 => ?_) (fun c8 => ?_)
      · have hi3 : i = 455 := by omega
        subst hi3
        exact jk_vret h hR dX10_lays_29 (Nat.le_of_ble_eq_true rfl) (Nat.le_of_ble_eq_true rfl) ⟨rfl, rfl, hs⟩
      · refine jk_aload_n (q := 12) h dX10_lays_11 rfl rfl ?_
        refine jk_iload_n (q := 13) h dX10_lays_12 rfl rfl ?_
        refine jk_iload (q := 15) h dX10_lays_13 rfl rfl ?_
        refine jk_iadd (q := 16) h dX10_lays_15 rfl ?_
        refine jk_aload_n (q := 17) h dX10_lays_16 rfl rfl ?_
        refine jk_iload_n (q := 18) h dX10_lays_17 rfl rfl ?_
        refine jk_iload (q := 20) h dX10_lays_18 rfl rfl ?_
        refine jk_iadd (q := 21) h dX10_lays_20 rfl ?_
        refine jk_ialdI (q := 22) h dX10_lays_21 (hF.at 0 rfl) (by omega) (by omega) hlf rfl ?_
        refine jk_iast (q := 23) h dX10_lays_22 (hG.at 0 rfl) (by omega) (by omega) hlt rfl (fun M_1 s_1 => ?_)
        have hF := hF.other s_1 1 rfl (by omega)
        have hG := hG.put (i := 0) s_1 rfl
        refine jk_iinc (q := 26) h dX10_lays_23 rfl rfl rfl rfl ?_
        refine jk_goto (q := 29) (tgt := 3) h dX10_lays_26 (by decide) ?_
        exact jk_weak (jwk_s rfl (jwk_s rfl (jwk_s rfl (jwk_s rfl (jwk_s rfl jwk_0))))) (ih3 _ (by omega) _ _ (by omega) (by omega) hF (by rw [← lyS_s hta.1 hi]; exact hG) (by rw [← lyS_s hta.1 hi]; exact hs.tr s_1) rfl)
  exact jk_weak (jwk_s rfl (jwk_s rfl (jwk_s rfl (jwk_s rfl (jwk_s rfl jwk_0))))) (lp3 _ _ _ (by omega) (by omega) hF (by rw [lyS_0]; exact hG) (by rw [lyS_0]; exact ⟨hG.at 0 rfl, fun _ _ => rfl⟩) rfl)

abbrev eF9 (y : TC) (low high w : Int) : Nat → Int := (if w = 0 then gbS y.2.2.2.2.1 y.2.2.2.2.2.1 y.2.2.2.2.2.2.1 low high else if w = 1 then (fun k => if low ≤ y.2.2.2.2.1 k ∧ y.2.2.2.2.2.1 k ≤ high then y.2.2.2.2.2.2.1 k else 0) else (fun k => if low ≤ y.2.2.2.2.2.1 k ∧ y.2.2.2.2.1 k ≤ high then y.2.2.2.2.2.2.1 k else 0))
def esM (y : TC) (low high w : Int) : Int := cmS y.2.1 y.2.2.1 y.2.2.2.1 low high + smI (eF9 y low high w) y.2.2.2.2.2.2.2.2
theorem esM_0 (y : TC) (low high : Int) : esM y low high 0 = gsT y low high := rfl
theorem esM_1 (y : TC) (low high : Int) : esM y low high 1 = lsT y low high := rfl
theorem esM_2 (y : TC) (low high : Int) : esM y low high 2 = msT y low high := rfl
theorem so_bd {a b low high so : Int} (ha : 0 ≤ a ∧ a ≤ 99) (hb : 0 ≤ b ∧ b ≤ 99) (hab : a ≤ b) (h1 : low ≤ high) (hso : so = if jmx a low ≤ jmn b high then jmn b high - jmx a low + 1 else 0) : 0 ≤ so ∧ so ≤ 100 ∧ (so = b - a + 1 ↔ low ≤ a ∧ b ≤ high) ∧ (0 < so ↔ low ≤ b ∧ a ≤ high) := by
  unfold jmx jmn at hso
  split at hso <;> split at hso <;> (try split at hso) <;> omega
theorem eF_v {y : TC} {low high w so is9 : Int} {k : Nat} (hlo : 0 ≤ y.2.2.2.2.1 k ∧ y.2.2.2.2.1 k ≤ 99) (hhi : 0 ≤ y.2.2.2.2.2.1 k ∧ y.2.2.2.2.2.1 k ≤ 99) (hl : y.2.2.2.2.1 k ≤ y.2.2.2.2.2.1 k) (h1 : low ≤ high) (hw : 0 ≤ w ∧ w ≤ 2)
    (hso : so = if jmx (y.2.2.2.2.1 k) low ≤ jmn (y.2.2.2.2.2.1 k) high then jmn (y.2.2.2.2.2.1 k) high - jmx (y.2.2.2.2.1 k) low + 1 else 0) (his : (w = 1 → (is9 ≠ 0 ↔ so = y.2.2.2.2.2.1 k - y.2.2.2.2.1 k + 1)) ∧ (w ≠ 1 → (is9 ≠ 0 ↔ 0 < so)) ∧ 0 ≤ is9 ∧ is9 ≤ 1) :
    (w = 0 → y.2.2.2.2.2.2.1 k * so / (y.2.2.2.2.2.1 k - y.2.2.2.2.1 k + 1) = eF9 y low high w k) ∧ (¬ w = 0 → ¬ is9 = 0 → y.2.2.2.2.2.2.1 k = eF9 y low high w k) ∧ (¬ w = 0 → is9 = 0 → 0 = eF9 y low high w k) := by
  obtain ⟨b1, b2, b3, b4⟩ := so_bd hlo hhi hl h1 hso
  refine ⟨fun hz => ?_, fun hz hi => ?_, fun hz hi => ?_⟩
  · show _ = (if w = 0 then _ else _ : Nat → Int) k
    rw [if_pos hz]
    unfold gbS
    by_cases hc : jmx (y.2.2.2.2.1 k) low ≤ jmn (y.2.2.2.2.2.1 k) high
    · rw [if_pos hc] at hso
      rw [if_pos (by omega), hso]
    · rw [if_neg hc] at hso
      rw [if_neg (by omega), hso]
      simp
  · show _ = (if w = 0 then _ else _ : Nat → Int) k
    rw [if_neg hz]
    by_cases h9 : w = 1
    · rw [if_pos h9]
      exact (if_pos (b3.mp ((his.1 h9).mp hi))).symm
    · rw [if_neg h9]
      exact (if_pos (b4.mp ((his.2.1 h9).mp hi))).symm
  · show _ = (if w = 0 then _ else _ : Nat → Int) k
    rw [if_neg hz]
    by_cases h9 : w = 1
    · rw [if_pos h9]
      exact (if_neg (fun z => (his.1 h9).mpr (b3.mpr z) hi)).symm
    · rw [if_neg h9]
      exact (if_neg (fun z => (his.2.1 h9).mpr (b4.mpr z) hi)).symm

set_option maxHeartbeats 4000000 in
set_option maxRecDepth 100000 in
theorem c_X10_estimated {l : Launch} {D : va_G} {b0 : Nat} {n : Nat} {M : jM} {q : Nat} {σ : Nat → Int} (hσ : jPic M q [aI 455 σ]) {y : TC} {c low high w : Int} (hc : c = 0 ∨ c = 1) (hm : mcT σ c y) (hO : cfQ y) (h1 : 0 ≤ low ∧ low ≤ high) (h2 : high ≤ 99) (hw : 0 ≤ w ∧ w ≤ 2) : jCtr l D b0 yX10_estimated cX10_estimated 13 (some .int) 1 0 0 [.ref q, jI c, jI low, jI high, jI w] n M (jrd n M (esM y low high w)) := by
  refine jctr (lv := [some (.ref q), some (jI c), some (jI low), some (jI high), some (jI w), none, none, none, none, none, none, none, none]) RX10 "estimated" rfl rfl (by decide) (Nat.le_of_ble_eq_true rfl) rfl ?_
  intro X h hR hX
  obtain ⟨hm1, hm2, hm3, hm4, hm5⟩ := hm
  obtain ⟨hhad, hcv, hcr, hcn, hlo, hhi, hbr, hun, hbn, hlh⟩ := id hO
  refine jk_iconst (q := 1) h dX10_estimated_0 rfl ?_
  refine jk_istore (q := 3) h dX10_estimated_1 rfl (Nat.le_of_ble_eq_true rfl) rfl rfl ?_
  refine jk_iconst (q := 4) h dX10_estimated_3 rfl ?_
  refine jk_istore (q := 6) h dX10_estimated_4 rfl (Nat.le_of_ble_eq_true rfl) rfl rfl ?_
  have lp6 : ∀ (k9 : Nat) (r : Int) (i : Int) (hi1 : 0 ≤ i) (hi2 : i ≤ y.2.2.2.1) (hr : r = cmS y.2.1 y.2.2.1 i low high) (hk9 : (y.2.2.2.1 - i).toNat = k9), jJ X 6 [some (.ref (q)), some (jI (c)), some (jI (low)), some (jI (high)), some (jI (w)), some (jI (r)), some (jI (i)), none, none, none, none, none, none] [] n M 0 0 := by
    intro k9
    induction k9 using Nat.strongRecOn with
    | _ k9 ih6 =>
      intro r i hi1 hi2 hr hk9
      have hcvi := hcv i.toNat
      have hcri := hcr i.toNat
      have hrb := cmS_bd (cv := y.2.1) (low := low) (high := high) hcr ⟨hi1, Int.le_trans hi2 hcn.2⟩
      refine jk_iload (q := 8) h dX10_estimated_6 rfl rfl ?_
      refine jk_aload_n (q := 9) h dX10_estimated_8 rfl rfl ?_
      refine jk_sipush (q := 12) h dX10_estimated_9 (by decide) rfl ?_
      refine jk_iload_n (q := 13) h dX10_estimated_12 rfl rfl ?_
      refine jk_iadd (q := 14) h dX10_estimated_13 rfl ?_
      refine jk_ialdI (q := 15) h dX10_estimated_14 (hσ.at 0 rfl) (by omega) (by omega) rfl rfl ?_
      refine jk_icmp_ge (q := 18) (tgt := 66) h dX10_estimated_15 (by decide) rfl ⟨by omega, by omega⟩ ⟨by omega, by omega⟩ (fun c15 => ?_) (fun c15 => ?_)
      · have hi3 : i = y.2.2.2.1 := by omega
        subst hi3
        refine jk_iconst (q := 67) h dX10_estimated_66 rfl ?_
        refine jk_istore (q := 69) h dX10_estimated_67 rfl (Nat.le_of_ble_eq_true rfl) rfl rfl ?_
        have lp69 : ∀ (k9 : Nat) (r : Int) (i : Int) (hi1 : 0 ≤ i) (hi2 : i ≤ y.2.2.2.2.2.2.2.2) (hr : r = cmS y.2.1 y.2.2.1 y.2.2.2.1 low high + smI (eF9 y low high w) i) (hk9 : (y.2.2.2.2.2.2.2.2 - i).toNat = k9), jJ X 69 [some (.ref (q)), some (jI (c)), some (jI (low)), some (jI (high)), some (jI (w)), some (jI (r)), some (jI (i)), none, none, none, none, none, none] [] n M 0 0 := by
          intro k9
          induction k9 using Nat.strongRecOn with
          | _ k9 ih69 =>
            intro r i hi1 hi2 hr hk9
            have hloi := hlo i.toNat
            have hhii := hhi i.toNat
            have hbri := hbr i.toNat
            refine jk_iload (q := 71) h dX10_estimated_69 rfl rfl ?_
            refine jk_aload_n (q := 72) h dX10_estimated_71 rfl rfl ?_
            refine jk_sipush (q := 75) h dX10_estimated_72 (by decide) rfl ?_
            refine jk_iload_n (q := 76) h dX10_estimated_75 rfl rfl ?_
            refine jk_iadd (q := 77) h dX10_estimated_76 rfl ?_
            refine jk_ialdI (q := 78) h dX10_estimated_77 (hσ.at 0 rfl) (by omega) (by omega) rfl rfl ?_
            refine jk_icmp_ge (q := 81) (tgt := 250) h dX10_estimated_78 (by decide) rfl ⟨by omega, by omega⟩ ⟨by omega, by omega⟩ (fun c78 => ?_) (fun c78 => ?_)
            · have hi3 : i = y.2.2.2.2.2.2.2.2 := by omega
              subst hi3
              refine jk_iload (q := 252) h dX10_estimated_250 rfl rfl ?_
              exact jk_iret h hR dX10_estimated_252 (Nat.le_of_ble_eq_true rfl) (Nat.le_of_ble_eq_true rfl) (jrd_of (by unfold esM; exact hr.symm))
            · refine jk_sipush (q := 84) h dX10_estimated_81 (by decide) rfl ?_
              refine jk_bipush (q := 86) h dX10_estimated_84 (by decide) rfl ?_
              refine jk_iload_n (q := 87) h dX10_estimated_86 rfl rfl ?_
              refine jk_imul (q := 88) h dX10_estimated_87 rfl ?_
              refine jk_iadd (q := 89) h dX10_estimated_88 rfl ?_
              refine jk_iconst (q := 90) h dX10_estimated_89 rfl ?_
              refine jk_iload (q := 92) h dX10_estimated_90 rfl rfl ?_
              refine jk_imul (q := 93) h dX10_estimated_92 rfl ?_
              refine jk_iadd (q := 94) h dX10_estimated_93 rfl ?_
              obtain ⟨hx1, hx2, hx3, hx4⟩ := hm5 i hi1 (by omega)
              refine jk_istore (q := 96) h dX10_estimated_94 rfl (Nat.le_of_ble_eq_true rfl) rfl rfl ?_
              have jn241 : ∀ (v9 : Int) (hv9 : v9 = eF9 y low high w i.toNat), jJ X 241 [some (.ref (q)), some (jI (c)), some (jI (low)), some (jI (high)), some (jI (w)), some (jI (r)), some (jI (i)), none, none, none, none, none, none] [jI v9, jI r] n M 0 0 := by
                intro v9 hv9
                refine jk_iadd (q := 242) h dX10_estimated_241 rfl ?_
                refine jk_istore (q := 244) h dX10_estimated_242 rfl (Nat.le_of_ble_eq_true rfl) rfl rfl ?_
                refine jk_iinc (q := 247) h dX10_estimated_244 rfl rfl rfl rfl ?_
                refine jk_goto (q := 250) (tgt := 69) h dX10_estimated_247 (by decide) ?_
                exact jk_weak (jwk_s rfl (jwk_s rfl (jwk_s rfl (jwk_s rfl (jwk_s rfl (jwk_s rfl (jwk_s rfl (jwk_n (jwk_n (jwk_n (jwk_n (jwk_n (jwk_n jwk_0))))))))))))) (ih69 _ (by omega) _ _ (by omega) (by omega) (smI_b hi1 hr hv9.symm) rfl)
              have jn202 : ∀ (so : Int) (all9 : Int) (is9 : Int) (hso : so = if jmx (y.2.2.2.2.1 i.toNat) low ≤ jmn (y.2.2.2.2.2.1 i.toNat) high then jmn (y.2.2.2.2.2.1 i.toNat) high - jmx (y.2.2.2.2.1 i.toNat) low + 1 else 0) (hal : all9 = y.2.2.2.2.2.1 i.toNat - y.2.2.2.2.1 i.toNat + 1) (his : (w = 1 → (is9 ≠ 0 ↔ so = y.2.2.2.2.2.1 i.toNat - y.2.2.2.2.1 i.toNat + 1)) ∧ (w ≠ 1 → (is9 ≠ 0 ↔ 0 < so)) ∧ 0 ≤ is9 ∧ is9 ≤ 1), jJ X 202 [some (.ref (q)), some (jI (c)), some (jI (low)), some (jI (high)), some (jI (w)), some (jI (r)), some (jI (i)), some (jI (130 + 40 * c + 4 * i)), none, none, some (jI (so)), some (jI (all9)), none] [jI is9] n M 0 0 := by
                intro so all9 is9 hso hal his
                have hlhi := hlh i.toNat (by omega)
                have hev := eF_v hloi hhii hlhi h1.2 hw hso his
                have hsb := so_bd hloi hhii hlhi h1.2 hso
                have hpm := jmulb hbri.1 hbri.2 hsb.1 hsb.2.1
                have hpe : σ (130 + 40 * c + 4 * i + 2).toNat * so = y.2.2.2.2.2.2.1 i.toNat * so := by rw [hx3]
                have his2 := his.2.2
                clear hso his
                refine jk_istore (q := 204) h dX10_estimated_202 rfl (Nat.le_of_ble_eq_true rfl) rfl rfl ?_
                refine jk_iload (q := 206) h dX10_estimated_204 rfl rfl ?_
                refine jk_iload (q := 208) h dX10_estimated_206 rfl rfl ?_
                refine jk_if_ne (q := 211) (tgt := 226) h dX10_estimated_208 (by decide) rfl ⟨by omega, by omega⟩ (fun c208 => ?_) (fun c208 => ?_)
                · refine jk_iload (q := 228) h dX10_estimated_226 rfl rfl ?_
                  refine jk_if_eq (q := 231) (tgt := 240) h dX10_estimated_228 (by decide) rfl ⟨by omega, by omega⟩ (fun c228 => ?_) (fun c228 => ?_)
                  · refine jk_iconst (q := 241) h dX10_estimated_240 rfl ?_
                    exact jk_weak (jwk_s rfl (jwk_s rfl (jwk_s rfl (jwk_s rfl (jwk_s rfl (jwk_s rfl (jwk_s rfl (jwk_n (jwk_n (jwk_n (jwk_n (jwk_n (jwk_n jwk_0))))))))))))) (jn241 _ (by first | (rw [hx3, hal]; exact hev.1 (by omega)) | (rw [hx3]; exact hev.2.1 (by omega) (by omega)) | exact hev.2.2 (by omega) (by omega)))
                  · refine jk_aload_n (q := 232) h dX10_estimated_231 rfl rfl ?_
                    refine jk_iload (q := 234) h dX10_estimated_232 rfl rfl ?_
                    refine jk_iconst (q := 235) h dX10_estimated_234 rfl ?_
                    refine jk_iadd (q := 236) h dX10_estimated_235 rfl ?_
                    refine jk_ialdI (q := 237) h dX10_estimated_236 (hσ.at 0 rfl) (by omega) (by omega) rfl rfl ?_
                    refine jk_goto (q := 240) (tgt := 241) h dX10_estimated_237 (by decide) ?_
                    exact jk_weak (jwk_s rfl (jwk_s rfl (jwk_s rfl (jwk_s rfl (jwk_s rfl (jwk_s rfl (jwk_s rfl (jwk_n (jwk_n (jwk_n (jwk_n (jwk_n (jwk_n jwk_0))))))))))))) (jn241 _ (by first | (rw [hx3, hal]; exact hev.1 (by omega)) | (rw [hx3]; exact hev.2.1 (by omega) (by omega)) | exact hev.2.2 (by omega) (by omega)))
                · refine jk_aload_n (q := 212) h dX10_estimated_211 rfl rfl ?_
                  refine jk_iload (q := 214) h dX10_estimated_212 rfl rfl ?_
                  refine jk_iconst (q := 215) h dX10_estimated_214 rfl ?_
                  refine jk_iadd (q := 216) h dX10_estimated_215 rfl ?_
                  refine jk_ialdI (q := 217) h dX10_estimated_216 (hσ.at 0 rfl) (by omega) (by omega) rfl rfl ?_
                  refine jk_iload (q := 219) h dX10_estimated_217 rfl rfl ?_
                  refine jk_imul (q := 220) h dX10_estimated_219 rfl ?_
                  refine jk_iload (q := 222) h dX10_estimated_220 rfl rfl ?_
                  refine jk_idiv (q := 223) h dX10_estimated_222 (by omega) (by omega) (by omega) (by omega) rfl ?_
                  refine jk_goto (q := 226) (tgt := 241) h dX10_estimated_223 (by decide) ?_
                  exact jk_weak (jwk_s rfl (jwk_s rfl (jwk_s rfl (jwk_s rfl (jwk_s rfl (jwk_s rfl (jwk_s rfl (jwk_n (jwk_n (jwk_n (jwk_n (jwk_n (jwk_n jwk_0))))))))))))) (jn241 _ (by first | (rw [hx3, hal]; exact hev.1 (by omega)) | (rw [hx3]; exact hev.2.1 (by omega) (by omega)) | exact hev.2.2 (by omega) (by omega)))
              have jn154 : ∀ (so : Int) (hso : so = if jmx (y.2.2.2.2.1 i.toNat) low ≤ jmn (y.2.2.2.2.2.1 i.toNat) high then jmn (y.2.2.2.2.2.1 i.toNat) high - jmx (y.2.2.2.2.1 i.toNat) low + 1 else 0), jJ X 154 [some (.ref (q)), some (jI (c)), some (jI (low)), some (jI (high)), some (jI (w)), some (jI (r)), some (jI (i)), some (jI (130 + 40 * c + 4 * i)), none, none, none, none, none] [jI so] n M 0 0 := by
                intro so hso
                have hlhi := hlh i.toNat (by omega)
                have hsb := so_bd hloi hhii hlhi h1.2 hso
                refine jk_istore (q := 156) h dX10_estimated_154 rfl (Nat.le_of_ble_eq_true rfl) rfl rfl ?_
                refine jk_aload_n (q := 157) h dX10_estimated_156 rfl rfl ?_
                refine jk_iload (q := 159) h dX10_estimated_157 rfl rfl ?_
                refine jk_iconst (q := 160) h dX10_estimated_159 rfl ?_
                refine jk_iadd (q := 161) h dX10_estimated_160 rfl ?_
                refine jk_ialdI (q := 162) h dX10_estimated_161 (hσ.at 0 rfl) (by omega) (by omega) rfl rfl ?_
                refine jk_aload_n (q := 163) h dX10_estimated_162 rfl rfl ?_
                refine jk_iload (q := 165) h dX10_estimated_163 rfl rfl ?_
                refine jk_ialdI (q := 166) h dX10_estimated_165 (hσ.at 0 rfl) (by omega) (by omega) rfl rfl ?_
                refine jk_isub (q := 167) h dX10_estimated_166 rfl ?_
                refine jk_iconst (q := 168) h dX10_estimated_167 rfl ?_
                refine jk_iadd (q := 169) h dX10_estimated_168 rfl ?_
                refine jk_istore (q := 171) h dX10_estimated_169 rfl (Nat.le_of_ble_eq_true rfl) rfl rfl ?_
                refine jk_iload (q := 173) h dX10_estimated_171 rfl rfl ?_
                refine jk_iconst (q := 174) h dX10_estimated_173 rfl ?_
                refine jk_icmp_ne (q := 177) (tgt := 192) h dX10_estimated_174 (by decide) rfl ⟨by omega, by omega⟩ ⟨by omega, by omega⟩ (fun c174 => ?_) (fun c174 => ?_)
                · refine jk_iload (q := 194) h dX10_estimated_192 rfl rfl ?_
                  refine jk_if_le (q := 197) (tgt := 201) h dX10_estimated_194 (by decide) rfl ⟨by omega, by omega⟩ (fun c194 => ?_) (fun c194 => ?_)
                  · refine jk_iconst (q := 202) h dX10_estimated_201 rfl ?_
                    exact jk_weak (jwk_s rfl (jwk_s rfl (jwk_s rfl (jwk_s rfl (jwk_s rfl (jwk_s rfl (jwk_s rfl (jwk_s rfl (jwk_n (jwk_n (jwk_s rfl (jwk_s rfl (jwk_n jwk_0))))))))))))) (jn202 _ _ _ hso (by omega) (by refine ⟨fun z => ?_, fun z => ?_, by omega, by omega⟩ <;> omega))
                  · refine jk_iconst (q := 198) h dX10_estimated_197 rfl ?_
                    refine jk_goto (q := 201) (tgt := 202) h dX10_estimated_198 (by decide) ?_
                    exact jk_weak (jwk_s rfl (jwk_s rfl (jwk_s rfl (jwk_s rfl (jwk_s rfl (jwk_s rfl (jwk_s rfl (jwk_s rfl (jwk_n (jwk_n (jwk_s rfl (jwk_s rfl (jwk_n jwk_0))))))))))))) (jn202 _ _ _ hso (by omega) (by refine ⟨fun z => ?_, fun z => ?_, by omega, by omega⟩ <;> omega))
                · refine jk_iload (q := 179) h dX10_estimated_177 rfl rfl ?_
                  refine jk_iload (q := 181) h dX10_estimated_179 rfl rfl ?_
                  refine jk_icmp_ne (q := 184) (tgt := 188) h dX10_estimated_181 (by decide) rfl ⟨by omega, by omega⟩ ⟨by omega, by omega⟩ (fun c181 => ?_) (fun c181 => ?_)
                  · refine jk_iconst (q := 189) h dX10_estimated_188 rfl ?_
                    refine jk_goto (q := 192) (tgt := 202) h dX10_estimated_189 (by decide) ?_
                    exact jk_weak (jwk_s rfl (jwk_s rfl (jwk_s rfl (jwk_s rfl (jwk_s rfl (jwk_s rfl (jwk_s rfl (jwk_s rfl (jwk_n (jwk_n (jwk_s rfl (jwk_s rfl (jwk_n jwk_0))))))))))))) (jn202 _ _ _ hso (by omega) (by refine ⟨fun z => ?_, fun z => ?_, by omega, by omega⟩ <;> omega))
                  · refine jk_iconst (q := 185) h dX10_estimated_184 rfl ?_
                    refine jk_goto (q := 188) (tgt := 202) h dX10_estimated_185 (by decide) ?_
                    exact jk_weak (jwk_s rfl (jwk_s rfl (jwk_s rfl (jwk_s rfl (jwk_s rfl (jwk_s rfl (jwk_s rfl (jwk_s rfl (jwk_n (jwk_n (jwk_s rfl (jwk_s rfl (jwk_n jwk_0))))))))))))) (jn202 _ _ _ hso (by omega) (by refine ⟨fun z => ?_, fun z => ?_, by omega, by omega⟩ <;> omega))
              have jn134 : ∀ (fr : Int) (to9 : Int) (hfr : fr = jmx (y.2.2.2.2.1 i.toNat) low) (hto : to9 = jmn (y.2.2.2.2.2.1 i.toNat) high), jJ X 134 [some (.ref (q)), some (jI (c)), some (jI (low)), some (jI (high)), some (jI (w)), some (jI (r)), some (jI (i)), some (jI (130 + 40 * c + 4 * i)), some (jI (fr)), none, none, none, none] [jI to9] n M 0 0 := by
                intro fr to9 hfr hto
                have hfr2 : 0 ≤ fr ∧ fr ≤ 99 := by { rw [hfr]; unfold jmx; split <;> omega }
                have hto2 : 0 ≤ to9 ∧ to9 ≤ 99 := by { rw [hto]; unfold jmn; split <;> omega }
                refine jk_istore (q := 136) h dX10_estimated_134 rfl (Nat.le_of_ble_eq_true rfl) rfl rfl ?_
                refine jk_iload (q := 138) h dX10_estimated_136 rfl rfl ?_
                refine jk_iload (q := 140) h dX10_estimated_138 rfl rfl ?_
                refine jk_icmp_lt (q := 143) (tgt := 153) h dX10_estimated_140 (by decide) rfl ⟨by omega, by omega⟩ ⟨by omega, by omega⟩ (fun c140 => ?_) (fun c140 => ?_)
                · refine jk_iconst (q := 154) h dX10_estimated_153 rfl ?_
                  exact jk_weak (jwk_s rfl (jwk_s rfl (jwk_s rfl (jwk_s rfl (jwk_s rfl (jwk_s rfl (jwk_s rfl (jwk_s rfl (jwk_n (jwk_n (jwk_n (jwk_n (jwk_n jwk_0))))))))))))) (jn154 _ (by rw [← hfr, ← hto]; first | (rw [if_pos (by omega)]; done) | (rw [if_neg (by omega)]; done)))
                · refine jk_iload (q := 145) h dX10_estimated_143 rfl rfl ?_
                  refine jk_iload (q := 147) h dX10_estimated_145 rfl rfl ?_
                  refine jk_isub (q := 148) h dX10_estimated_147 rfl ?_
                  refine jk_iconst (q := 149) h dX10_estimated_148 rfl ?_
                  refine jk_iadd (q := 150) h dX10_estimated_149 rfl ?_
                  refine jk_goto (q := 153) (tgt := 154) h dX10_estimated_150 (by decide) ?_
                  exact jk_weak (jwk_s rfl (jwk_s rfl (jwk_s rfl (jwk_s rfl (jwk_s rfl (jwk_s rfl (jwk_s rfl (jwk_s rfl (jwk_n (jwk_n (jwk_n (jwk_n (jwk_n jwk_0))))))))))))) (jn154 _ (by rw [← hfr, ← hto]; first | (rw [if_pos (by omega)]; done) | (rw [if_neg (by omega)]; done)))
              have jn112 : ∀ (fr : Int) (hfr : fr = jmx (y.2.2.2.2.1 i.toNat) low), jJ X 112 [some (.ref (q)), some (jI (c)), some (jI (low)), some (jI (high)), some (jI (w)), some (jI (r)), some (jI (i)), some (jI (130 + 40 * c + 4 * i)), none, none, none, none, none] [jI fr] n M 0 0 := by
                intro fr hfr
                refine jk_istore (q := 114) h dX10_estimated_112 rfl (Nat.le_of_ble_eq_true rfl) rfl rfl ?_
                refine jk_aload_n (q := 115) h dX10_estimated_114 rfl rfl ?_
                refine jk_iload (q := 117) h dX10_estimated_115 rfl rfl ?_
                refine jk_iconst (q := 118) h dX10_estimated_117 rfl ?_
                refine jk_iadd (q := 119) h dX10_estimated_118 rfl ?_
                refine jk_ialdI (q := 120) h dX10_estimated_119 (hσ.at 0 rfl) (by omega) (by omega) rfl rfl ?_
                refine jk_iload_n (q := 121) h dX10_estimated_120 rfl rfl ?_
                refine jk_icmp_ge (q := 124) (tgt := 133) h dX10_estimated_121 (by decide) rfl ⟨by omega, by omega⟩ ⟨by omega, by omega⟩ (fun c121 => ?_) (fun c121 => ?_)
                · refine jk_iload_n (q := 134) h dX10_estimated_133 rfl rfl ?_
                  exact jk_weak (jwk_s rfl (jwk_s rfl (jwk_s rfl (jwk_s rfl (jwk_s rfl (jwk_s rfl (jwk_s rfl (jwk_s rfl (jwk_s rfl (jwk_n (jwk_n (jwk_n (jwk_n jwk_0))))))))))))) (jn134 _ _ hfr (by unfold jmn; split <;> omega))
                · refine jk_aload_n (q := 125) h dX10_estimated_124 rfl rfl ?_
                  refine jk_iload (q := 127) h dX10_estimated_125 rfl rfl ?_
                  refine jk_iconst (q := 128) h dX10_estimated_127 rfl ?_
                  refine jk_iadd (q := 129) h dX10_estimated_128 rfl ?_
                  refine jk_ialdI (q := 130) h dX10_estimated_129 (hσ.at 0 rfl) (by omega) (by omega) rfl rfl ?_
                  refine jk_goto (q := 133) (tgt := 134) h dX10_estimated_130 (by decide) ?_
                  exact jk_weak (jwk_s rfl (jwk_s rfl (jwk_s rfl (jwk_s rfl (jwk_s rfl (jwk_s rfl (jwk_s rfl (jwk_s rfl (jwk_s rfl (jwk_n (jwk_n (jwk_n (jwk_n jwk_0))))))))))))) (jn134 _ _ hfr (by unfold jmn; split <;> omega))
              refine jk_aload_n (q := 97) h dX10_estimated_96 rfl rfl ?_
              refine jk_iload (q := 99) h dX10_estimated_97 rfl rfl ?_
              refine jk_ialdI (q := 100) h dX10_estimated_99 (hσ.at 0 rfl) (by omega) (by omega) rfl rfl ?_
              refine jk_iload_n (q := 101) h dX10_estimated_100 rfl rfl ?_
              refine jk_icmp_le (q := 104) (tgt := 111) h dX10_estimated_101 (by decide) rfl ⟨by omega, by omega⟩ ⟨by omega, by omega⟩ (fun c101 => ?_) (fun c101 => ?_)
              · refine jk_iload_n (q := 112) h dX10_estimated_111 rfl rfl ?_
                exact jk_weak (jwk_s rfl (jwk_s rfl (jwk_s rfl (jwk_s rfl (jwk_s rfl (jwk_s rfl (jwk_s rfl (jwk_s rfl (jwk_n (jwk_n (jwk_n (jwk_n (jwk_n jwk_0))))))))))))) (jn112 _ (by unfold jmx; split <;> omega))
              · refine jk_aload_n (q := 105) h dX10_estimated_104 rfl rfl ?_
                refine jk_iload (q := 107) h dX10_estimated_105 rfl rfl ?_
                refine jk_ialdI (q := 108) h dX10_estimated_107 (hσ.at 0 rfl) (by omega) (by omega) rfl rfl ?_
                refine jk_goto (q := 111) (tgt := 112) h dX10_estimated_108 (by decide) ?_
                exact jk_weak (jwk_s rfl (jwk_s rfl (jwk_s rfl (jwk_s rfl (jwk_s rfl (jwk_s rfl (jwk_s rfl (jwk_s rfl (jwk_n (jwk_n (jwk_n (jwk_n (jwk_n jwk_0))))))))))))) (jn112 _ (by unfold jmx; split <;> omega))
        exact jk_weak (jwk_s rfl (jwk_s rfl (jwk_s rfl (jwk_s rfl (jwk_s rfl (jwk_s rfl (jwk_s rfl (jwk_n (jwk_n (jwk_n (jwk_n (jwk_n (jwk_n jwk_0))))))))))))) (lp69 _ _ _ (by omega) (by omega) (by rw [smI_0]; omega) rfl)
      · refine jk_sipush (q := 21) h dX10_estimated_18 (by decide) rfl ?_
        refine jk_bipush (q := 23) h dX10_estimated_21 (by decide) rfl ?_
        refine jk_iload_n (q := 24) h dX10_estimated_23 rfl rfl ?_
        refine jk_imul (q := 25) h dX10_estimated_24 rfl ?_
        refine jk_iadd (q := 26) h dX10_estimated_25 rfl ?_
        refine jk_iconst (q := 27) h dX10_estimated_26 rfl ?_
        refine jk_iload (q := 29) h dX10_estimated_27 rfl rfl ?_
        refine jk_imul (q := 30) h dX10_estimated_29 rfl ?_
        refine jk_iadd (q := 31) h dX10_estimated_30 rfl ?_
        obtain ⟨hx1, hx2⟩ := hm3 i hi1 (by omega)
        refine jk_istore (q := 33) h dX10_estimated_31 rfl (Nat.le_of_ble_eq_true rfl) rfl rfl ?_
        refine jk_iload (q := 35) h dX10_estimated_33 rfl rfl ?_
        refine jk_aload_n (q := 36) h dX10_estimated_35 rfl rfl ?_
        refine jk_iload (q := 38) h dX10_estimated_36 rfl rfl ?_
        refine jk_ialdI (q := 39) h dX10_estimated_38 (hσ.at 0 rfl) (by omega) (by omega) rfl rfl ?_
        refine jk_iload_n (q := 40) h dX10_estimated_39 rfl rfl ?_
        refine jk_iload_n (q := 41) h dX10_estimated_40 rfl rfl ?_
        refine jk_callS (q := 44) h hX (c_X10_in ⟨by omega, by omega⟩ ⟨by omega, by omega⟩ ⟨by omega, by omega⟩) ms_X10_in dX10_estimated_41 ml_X10_35 ⟨rfl, Nat.le_refl _⟩ rfl rfl (Nat.le_of_ble_eq_true rfl) (Nat.le_of_ble_eq_true rfl) rfl rfl (Nat.le_of_ble_eq_true rfl) rfl (fun v9 n9 M9 hp9 => ?_)
        obtain ⟨rfl, rfl, rfl⟩ := hp9
        refine jk_if_eqB (q := 47) (tgt := 56) h dX10_estimated_44 (by decide) rfl (fun c44 => ?_) (fun c44 => ?_)
        · refine jk_iconst (q := 57) h dX10_estimated_56 rfl ?_
          refine jk_iadd (q := 58) h dX10_estimated_57 rfl ?_
          refine jk_istore (q := 60) h dX10_estimated_58 rfl (Nat.le_of_ble_eq_true rfl) rfl rfl ?_
          refine jk_iinc (q := 63) h dX10_estimated_60 rfl rfl rfl rfl ?_
          refine jk_goto (q := 66) (tgt := 6) h dX10_estimated_63 (by decide) ?_
          exact jk_weak (jwk_s rfl (jwk_s rfl (jwk_s rfl (jwk_s rfl (jwk_s rfl (jwk_s rfl (jwk_s rfl (jwk_n (jwk_n (jwk_n (jwk_n (jwk_n (jwk_n jwk_0))))))))))))) (ih6 _ (by omega) _ _ (by omega) (by omega) (by first | exact smI_t hi1 hr (by show (if _ then _ else _) = _; rw [if_pos (by omega)]; omega) | exact smI_t hi1 hr (if_neg (by omega))) rfl)
        · refine jk_aload_n (q := 48) h dX10_estimated_47 rfl rfl ?_
          refine jk_iload (q := 50) h dX10_estimated_48 rfl rfl ?_
          refine jk_iconst (q := 51) h dX10_estimated_50 rfl ?_
          refine jk_iadd (q := 52) h dX10_estimated_51 rfl ?_
          refine jk_ialdI (q := 53) h dX10_estimated_52 (hσ.at 0 rfl) (by omega) (by omega) rfl rfl ?_
          refine jk_goto (q := 56) (tgt := 57) h dX10_estimated_53 (by decide) ?_
          refine jk_iadd (q := 58) h dX10_estimated_57 rfl ?_
          refine jk_istore (q := 60) h dX10_estimated_58 rfl (Nat.le_of_ble_eq_true rfl) rfl rfl ?_
          refine jk_iinc (q := 63) h dX10_estimated_60 rfl rfl rfl rfl ?_
          refine jk_goto (q := 66) (tgt := 6) h dX10_estimated_63 (by decide) ?_
          exact jk_weak (jwk_s rfl (jwk_s rfl (jwk_s rfl (jwk_s rfl (jwk_s rfl (jwk_s rfl (jwk_s rfl (jwk_n (jwk_n (jwk_n (jwk_n (jwk_n (jwk_n jwk_0))))))))))))) (ih6 _ (by omega) _ _ (by omega) (by omega) (by first | exact smI_t hi1 hr (by show (if _ then _ else _) = _; rw [if_pos (by omega)]; omega) | exact smI_t hi1 hr (if_neg (by omega))) rfl)
  exact jk_weak (jwk_s rfl (jwk_s rfl (jwk_s rfl (jwk_s rfl (jwk_s rfl (jwk_s rfl (jwk_s rfl (jwk_n (jwk_n (jwk_n (jwk_n (jwk_n (jwk_n jwk_0))))))))))))) (lp6 _ _ _ (by omega) (by omega) rfl rfl)
