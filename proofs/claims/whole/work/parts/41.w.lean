/-! the reference: pairs -/
abbrev pcd (y : TT) (r : Nat) : Int := 100 * y.1 r + y.2.1 r
def isPd (pa pb : Nat → Int) (k a b : Int) : Prop := ∃ j : Nat, (j : Int) < k ∧ pa j = a ∧ pb j = b
def ppJ (y : TT) (k : Int) (pa pb pr : Nat → Int) : Prop := (∀ j : Nat, (j : Int) < k → ∃ r : Nat, (r : Int) < y.2.2 ∧ 2 ≤ cnt y r ∧ pa j = y.1 r ∧ pb j = y.2.1 r ∧ pr j = cnt y r) ∧ (∀ i j : Nat, i < j → (j : Int) < k → rk3 (pr j) (pa j) (pb j) < rk3 (pr i) (pa i) (pb i)) ∧ ∀ r : Nat, (r : Int) < y.2.2 → 2 ≤ cnt y r → isPd pa pb k (y.1 r) (y.2.1 r) ∨ ∀ j : Nat, (j : Int) < k → prk y r < rk3 (pr j) (pa j) (pb j)
theorem ppJ_0 (y : TT) (pa pb pr : Nat → Int) : ppJ y 0 pa pb pr := ⟨fun j hj => absurd hj (by omega), fun i j _ hj => absurd hj (by omega), fun r _ _ => Or.inr (fun j hj => absurd hj (by omega))⟩
theorem ppJ_e {y : TT} {k m : Int} {pa pb pr : Nat → Int} (h : ppJ y k pa pb pr) (hk : 0 ≤ k) (hm : k ≤ m) (he : k = m ∨ ∀ r : Nat, (r : Int) < y.2.2 → 2 ≤ cnt y r → isPd pa pb k (y.1 r) (y.2.1 r)) : pmQ y m k pa pb pr := by
  obtain ⟨a1, a2, a3⟩ := h
  have hpd : ∀ r : Nat, isPd pa pb k (y.1 r) (y.2.1 r) → ∃ j : Nat, (j : Int) < k ∧ rk3 (pr j) (pa j) (pb j) = prk y r := fun r ⟨j, hj, e1, e2⟩ => by
    obtain ⟨r2, b1, b2, b3, b4, b5⟩ := a1 j hj
    refine ⟨j, hj, ?_⟩
    unfold prk
    rw [b5, e1, e2]
    show rk3 (rlk y.1 y.2.1 y.2.2 (y.1 r2) (y.2.1 r2)) _ _ = _
    rw [← b3, ← b4, e1, e2]
  refine ⟨fun j hj => ?_, hk, hm, fun j hj => ?_, a2, fun s hs => ?_⟩
  · obtain ⟨r, h1, h2, h3, h4, h5⟩ := a1 j hj
    exact ⟨r, h1, h3, h4, h5⟩
  · obtain ⟨r, h1, h2, h3, h4, h5⟩ := a1 j hj
    exact ⟨r, h1, h2, by show rk3 _ _ _ = _; rw [h3, h4, h5]; rfl⟩
  · obtain ⟨r, h1, h2, rfl⟩ := hs
    rcases he with he | he
    · rcases a3 r h1 h2 with z | z
      · exact Or.inl (hpd r z)
      · exact Or.inr ⟨he, z⟩
    · exact Or.inl (hpd r (he r h1 h2))
def bpI (y : TT) (pa pb : Nat → Int) (k n d i : Int) : Prop := (1 ≤ n ∧ n ≤ 60) ∧ (0 ≤ d ∧ d ≤ 9999) ∧ (n = 1 ∨ ∃ r : Nat, (r : Int) < y.2.2 ∧ ¬ isPd pa pb k (y.1 r) (y.2.1 r) ∧ cnt y r = n ∧ d = pcd y r) ∧ ∀ r : Nat, (r : Int) < i → ¬ isPd pa pb k (y.1 r) (y.2.1 r) → 2 ≤ cnt y r → cnt y r * 10000 - pcd y r ≤ n * 10000 - d
theorem bpI_0 (y : TT) (pa pb : Nat → Int) (k : Int) : bpI y pa pb k 1 0 0 := ⟨by decide, by decide, Or.inl rfl, fun r hr => absurd hr (by omega)⟩
theorem bpI_t {y : TT} (hy : tbQ y) {pa pb : Nat → Int} {k n d i c e : Int} (h : bpI y pa pb k n d i) (hi : 0 ≤ i ∧ i < y.2.2) (hc : c = cnt y i.toNat) (he : e = pcd y i.toNat) (hn : ¬ isPd pa pb k (y.1 i.toNat) (y.2.1 i.toNat)) (hb : n < c ∨ (c = n ∧ 1 < c ∧ e < d)) : bpI y pa pb k c e (i + 1) := by
  obtain ⟨a1, a2, a3, a4⟩ := h
  have q1 := cnt_bd hy i.toNat
  have q2 := hy.1 i.toNat
  have q3 := hy.2.1 i.toNat
  have q4 : e = 100 * y.1 i.toNat + y.2.1 i.toNat := he
  refine ⟨by omega, by omega, Or.inr ⟨i.toNat, by omega, hn, hc.symm, he⟩, fun r hr h1 h2 => ?_⟩
  by_cases hri : (r : Int) < i
  · have := a4 r hri h1 h2
    clear a3
    generalize cnt y r * 10000 - pcd y r = u at *
    omega
  · rw [show r = i.toNat by omega, ← hc, ← he]
    exact Int.le_refl _
theorem bpI_n {y : TT} (hy : tbQ y) {pa pb : Nat → Int} {k n d i c e : Int} (h : bpI y pa pb k n d i) (hi : 0 ≤ i ∧ i < y.2.2) (hc : c = cnt y i.toNat) (he : e = pcd y i.toNat) (hb : isPd pa pb k (y.1 i.toNat) (y.2.1 i.toNat) ∨ ¬ (n < c ∨ (c = n ∧ 1 < c ∧ e < d))) : bpI y pa pb k n d (i + 1) := by
  obtain ⟨a1, a2, a3, a4⟩ := h
  have q1 := cnt_bd hy i.toNat
  have q2 := hy.1 i.toNat
  have q3 := hy.2.1 i.toNat
  have q4 : e = 100 * y.1 i.toNat + y.2.1 i.toNat := he
  refine ⟨a1, a2, a3, fun r hr h1 h2 => ?_⟩
  by_cases hri : (r : Int) < i
  · exact a4 r hri h1 h2
  · have hre : r = i.toNat := by omega
    subst hre
    rcases hb with hb | hb
    · exact absurd hb h1
    · rw [← hc, ← he]
      clear a3
      omega
theorem bpI_e {y : TT} (hy : tbQ y) {pa pb : Nat → Int} {k n d : Int} (h : bpI y pa pb k n d y.2.2) (hn : n ≤ 1) : ∀ r : Nat, (r : Int) < y.2.2 → 2 ≤ cnt y r → isPd pa pb k (y.1 r) (y.2.1 r) := fun r h1 h2 => by
  obtain ⟨a1, a2, a3, a4⟩ := h
  by_cases g : isPd pa pb k (y.1 r) (y.2.1 r)
  · exact g
  · exfalso
    have q1 := a4 r h1 g h2
    have q2 := hy.1 r
    have q3 := hy.2.1 r
    have q4 : pcd y r = 100 * y.1 r + y.2.1 r := rfl
    clear a3
    generalize pcd y r = u at *
    generalize cnt y r = w at *
    omega
theorem bpI_s {y : TT} (hy : tbQ y) {pa pb pr : Nat → Int} {k n d : Int} (hk : 0 ≤ k) (hJ : ppJ y k pa pb pr) (h : bpI y pa pb k n d y.2.2) (hn : 1 < n) : ppJ y (k + 1) (jfup pa k.toNat (d / 100)) (jfup pb k.toNat (d % 100)) (jfup pr k.toNat n) := by
  obtain ⟨a1, a2, a3, a4⟩ := h
  obtain ⟨j1, j2, j3⟩ := hJ
  rcases a3 with a3 | ⟨r0, b1, b2, b3, b4⟩
  · omega
  have q2 := hy.1 r0
  have q3 := hy.2.1 r0
  have q4 : d = 100 * y.1 r0 + y.2.1 r0 := b4
  have ea : d / 100 = y.1 r0 := by omega
  have eb : d % 100 = y.2.1 r0 := by omega
  rw [ea, eb]
  have hold : ∀ j : Nat, (j : Int) < k → jfup pa k.toNat (y.1 r0) j = pa j ∧ jfup pb k.toNat (y.2.1 r0) j = pb j ∧ jfup pr k.toNat n j = pr j := fun j hj => ⟨jfup_n _ _ (by omega), jfup_n _ _ (by omega), jfup_n _ _ (by omega)⟩
  have hlt : ∀ j : Nat, (j : Int) < k → prk y r0 < rk3 (pr j) (pa j) (pb j) := by
    rcases j3 r0 b1 (by omega) with z | z
    · exact absurd z b2
    · exact z
  have hrk : rk3 n (y.1 r0) (y.2.1 r0) = prk y r0 := by unfold prk; rw [b3]
  refine ⟨fun j hj => ?_, fun i j hij hj => ?_, fun r hr h2 => ?_⟩
  · by_cases hjk : (j : Int) < k
    · obtain ⟨o1, o2, o3⟩ := hold j hjk
      rw [o1, o2, o3]
      exact j1 j hjk
    · have hj2 : j = k.toNat := by omega
      subst hj2
      rw [jfup_s, jfup_s, jfup_s]
      exact ⟨r0, b1, by omega, rfl, rfl, b3.symm⟩
  · obtain ⟨o1, o2, o3⟩ := hold i (by omega)
    rw [o1, o2, o3]
    by_cases hjk : (j : Int) < k
    · obtain ⟨p1, p2, p3⟩ := hold j hjk
      rw [p1, p2, p3]
      exact j2 i j hij hjk
    · have hj2 : j = k.toNat := by omega
      subst hj2
      rw [jfup_s, jfup_s, jfup_s, hrk]
      exact hlt i (by omega)
  · by_cases g : isPd pa pb k (y.1 r) (y.2.1 r)
    · obtain ⟨j, e1, e2, e3⟩ := g
      obtain ⟨o1, o2, o3⟩ := hold j e1
      exact Or.inl ⟨j, by omega, by rw [o1]; exact e2, by rw [o2]; exact e3⟩
    · by_cases g2 : y.1 r = y.1 r0 ∧ y.2.1 r = y.2.1 r0
      · exact Or.inl ⟨k.toNat, by omega, by rw [jfup_s]; exact g2.1.symm, by rw [jfup_s]; exact g2.2.symm⟩
      · right
        intro j hj
        by_cases hjk : (j : Int) < k
        · obtain ⟨o1, o2, o3⟩ := hold j hjk
          rw [o1, o2, o3]
          rcases j3 r hr h2 with z | z
          · exact absurd z g
          · exact z j hjk
        · have hj2 : j = k.toNat := by omega
          subst hj2
          rw [jfup_s, jfup_s, jfup_s]
          have z := a4 r hr g h2
          have w2 := hy.1 r
          have w3 := hy.2.1 r
          have w4 : pcd y r = 100 * y.1 r + y.2.1 r := rfl
          rw [w4] at z
          unfold prk rk3
          generalize cnt y r = w at *
          clear hlt hrk hold j1 j2 j3 a4 b2
          omega

set_option maxHeartbeats 4000000 in
set_option maxRecDepth 100000 in
theorem c_X10_rowsWith {l : Launch} {D : va_G} {b0 : Nat} {n : Nat} {M : jM} {q : Nat} {σ : Nat → Int} (hσ : jPic M q [aI 455 σ]) {y : TT} (hm : mrT σ y) (hy : tbQ y) {a b : Int} (ha : jRng a) (hb : jRng b) : jCtr l D b0 yX10_rowsWith cX10_rowsWith 5 (some .int) 1 0 0 [.ref q, jI a, jI b] n M (jrd n M (rlk y.1 y.2.1 y.2.2 a b)) := by
  refine jctr (lv := [some (.ref q), some (jI a), some (jI b), none, none]) RX10 "rowsWith" rfl rfl (by decide) (Nat.le_of_ble_eq_true rfl) rfl ?_
  intro X h hR hX
  have hm0 := hm.1
  have hyz := hy.2.2
  refine jk_iconst (q := 1) h dX10_rowsWith_0 rfl ?_
  refine jk_istore_n (q := 2) h dX10_rowsWith_1 rfl (Nat.le_of_ble_eq_true rfl) rfl rfl ?_
  refine jk_iconst (q := 3) h dX10_rowsWith_2 rfl ?_
  refine jk_istore (q := 5) h dX10_rowsWith_3 rfl (Nat.le_of_ble_eq_true rfl) rfl rfl ?_
  have lp5 : ∀ (k9 : Nat) (r : Int) (i : Int) (hi1 : 0 ≤ i) (hi2 : i ≤ y.2.2) (hr : r = smI (fun k => if y.1 k = a ∧ y.2.1 k = b then 1 else 0) i) (hk9 : (y.2.2 - i).toNat = k9), jJ X 5 [some (.ref (q)), some (jI (a)), some (jI (b)), some (jI (r)), some (jI (i))] [] n M 0 0 := by
    intro k9
    induction k9 using Nat.strongRecOn with
    | _ k9 ih5 =>
      intro r i hi1 hi2 hr hk9
      have hA := hy.1 i.toNat
      have hB := hy.2.1 i.toNat
      refine jk_iload (q := 7) h dX10_rowsWith_5 rfl rfl ?_
      refine jk_aload_n (q := 8) h dX10_rowsWith_7 rfl rfl ?_
      refine jk_iconst (q := 9) h dX10_rowsWith_8 rfl ?_
      refine jk_ialdI (q := 10) h dX10_rowsWith_9 (hσ.at 0 rfl) (by omega) (by omega) rfl rfl ?_
      refine jk_icmp_ge (q := 13) (tgt := 49) h dX10_rowsWith_10 (by decide) rfl ⟨by omega, by omega⟩ ⟨by omega, by omega⟩ (fun c10 => ?_) (fun c10 => ?_)
      · have hi3 : i = y.2.2 := by omega
        subst hi3
        refine jk_iload_n (q := 50) h dX10_rowsWith_49 rfl rfl ?_
        exact jk_iret h hR dX10_rowsWith_50 (Nat.le_of_ble_eq_true rfl) (Nat.le_of_ble_eq_true rfl) (jrd_of hr.symm)
      · have jn41 : ∀ (w : Int) (hw : (if y.1 i.toNat = a ∧ y.2.1 i.toNat = b then (1 : Int) else 0) = w), jJ X 41 [some (.ref (q)), some (jI (a)), some (jI (b)), none, some (jI (i))] [jI w, jI r] n M 0 0 := by
          intro w hw
          refine jk_iadd (q := 42) h dX10_rowsWith_41 rfl ?_
          refine jk_istore_n (q := 43) h dX10_rowsWith_42 rfl (Nat.le_of_ble_eq_true rfl) rfl rfl ?_
          refine jk_iinc (q := 46) h dX10_rowsWith_43 rfl rfl rfl rfl ?_
          refine jk_goto (q := 49) (tgt := 5) h dX10_rowsWith_46 (by decide) ?_
          exact jk_weak (jwk_s rfl (jwk_s rfl (jwk_s rfl (jwk_s rfl (jwk_s rfl jwk_0))))) (ih5 _ (by omega) _ _ (by omega) (by omega) (smI_t hi1 hr hw) rfl)
        refine jk_iload_n (q := 14) h dX10_rowsWith_13 rfl rfl ?_
        refine jk_aload_n (q := 15) h dX10_rowsWith_14 rfl rfl ?_
        refine jk_iload (q := 17) h dX10_rowsWith_15 rfl rfl ?_
        refine jk_iconst (q := 18) h dX10_rowsWith_17 rfl ?_
        refine jk_callS (q := 21) h hX (c_X10_of hσ ⟨hi1, by omega⟩ ⟨by decide, by decide⟩ (hm.a hi1 (by omega))) ms_X10_of dX10_rowsWith_18 ml_X10_54 ⟨rfl, Nat.le_refl _⟩ rfl rfl (Nat.le_of_ble_eq_true rfl) (Nat.le_of_ble_eq_true rfl) rfl rfl (Nat.le_of_ble_eq_true rfl) rfl (fun v9 n9 M9 hp9 => ?_)
        obtain ⟨rfl, rfl, rfl⟩ := hp9
        refine jk_iload_n (q := 22) h dX10_rowsWith_21 rfl rfl ?_
        refine jk_icmp_ne (q := 25) (tgt := 40) h dX10_rowsWith_22 (by decide) rfl ⟨by omega, by omega⟩ ⟨by omega, by omega⟩ (fun c22 => ?_) (fun c22 => ?_)
        · refine jk_iconst (q := 41) h dX10_rowsWith_40 rfl ?_
          exact jk_weak (jwk_s rfl (jwk_s rfl (jwk_s rfl (jwk_n (jwk_s rfl jwk_0))))) (jn41 _ (by first | (rw [if_pos ⟨by omega, by omega⟩]; done) | (rw [if_neg (by omega)]; done)))
        · refine jk_aload_n (q := 26) h dX10_rowsWith_25 rfl rfl ?_
          refine jk_iload (q := 28) h dX10_rowsWith_26 rfl rfl ?_
          refine jk_iconst (q := 29) h dX10_rowsWith_28 rfl ?_
          refine jk_callS (q := 32) h hX (c_X10_of hσ ⟨hi1, by omega⟩ ⟨by decide, by decide⟩ (hm.b hi1 (by omega))) ms_X10_of dX10_rowsWith_29 ml_X10_54 ⟨rfl, Nat.le_refl _⟩ rfl rfl (Nat.le_of_ble_eq_true rfl) (Nat.le_of_ble_eq_true rfl) rfl rfl (Nat.le_of_ble_eq_true rfl) rfl (fun v9 n9 M9 hp9 => ?_)
          obtain ⟨rfl, rfl, rfl⟩ := hp9
          refine jk_iload_n (q := 33) h dX10_rowsWith_32 rfl rfl ?_
          refine jk_icmp_ne (q := 36) (tgt := 40) h dX10_rowsWith_33 (by decide) rfl ⟨by omega, by omega⟩ ⟨by omega, by omega⟩ (fun c33 => ?_) (fun c33 => ?_)
          · refine jk_iconst (q := 41) h dX10_rowsWith_40 rfl ?_
            exact jk_weak (jwk_s rfl (jwk_s rfl (jwk_s rfl (jwk_n (jwk_s rfl jwk_0))))) (jn41 _ (by first | (rw [if_pos ⟨by omega, by omega⟩]; done) | (rw [if_neg (by omega)]; done)))
          · refine jk_iconst (q := 37) h dX10_rowsWith_36 rfl ?_
            refine jk_goto (q := 40) (tgt := 41) h dX10_rowsWith_37 (by decide) ?_
            exact jk_weak (jwk_s rfl (jwk_s rfl (jwk_s rfl (jwk_n (jwk_s rfl jwk_0))))) (jn41 _ (by first | (rw [if_pos ⟨by omega, by omega⟩]; done) | (rw [if_neg (by omega)]; done)))
  exact jk_weak (jwk_s rfl (jwk_s rfl (jwk_s rfl (jwk_s rfl (jwk_s rfl jwk_0))))) (lp5 _ _ _ (by omega) (by omega) rfl rfl)

set_option maxHeartbeats 4000000 in
set_option maxRecDepth 100000 in
theorem c_X10_isPaired {l : Launch} {D : va_G} {b0 : Nat} {n : Nat} {M : jM} {q : Nat} {σ : Nat → Int} (hσ : jPic M q [aI 455 σ]) {pa pb : Nat → Int} {k a b : Int} (hk : 0 ≤ k ∧ k ≤ 6) (hsn : σ (236 : Int).toNat = k) (hpp : ∀ i8 : Int, 0 ≤ i8 → i8 < k → (σ (237 + 3 * i8).toNat = pa i8.toNat ∧ σ (237 + 3 * i8 + 1).toNat = pb i8.toNat) ∧ (0 ≤ pa i8.toNat ∧ pa i8.toNat ≤ 99) ∧ (0 ≤ pb i8.toNat ∧ pb i8.toNat ≤ 99)) (ha : jRng a) (hb : jRng b) : jCtr l D b0 yX10_isPaired cX10_isPaired 4 (some .boolean) 0 0 0 [.ref q, jI a, jI b] n M (fun v n2 M2 => ∃ w : Int, some (jI w) = v ∧ n = n2 ∧ M = M2 ∧ ((w = 1 ∧ isPd pa pb k a b) ∨ (w = 0 ∧ ¬ isPd pa pb k a b))) := by
  refine jctr (lv := [some (.ref q), some (jI a), some (jI b), none]) RX10 "isPaired" rfl rfl (by decide) (Nat.le_of_ble_eq_true rfl) rfl ?_
  intro X h hR hX
  refine jk_iconst (q := 1) h dX10_isPaired_0 rfl ?_
  refine jk_istore_n (q := 2) h dX10_isPaired_1 rfl (Nat.le_of_ble_eq_true rfl) rfl rfl ?_
  have lp2 : ∀ (k9 : Nat) (i : Int) (hi1 : 0 ≤ i) (hi2 : i ≤ k) (hno : ∀ j : Nat, (j : Int) < i → ¬ (pa j = a ∧ pb j = b)) (hk9 : (k - i).toNat = k9), jJ X 2 [some (.ref (q)), some (jI (a)), some (jI (b)), some (jI (i))] [] n M 0 0 := by
    intro k9
    induction k9 using Nat.strongRecOn with
    | _ k9 ih2 =>
      intro i hi1 hi2 hno hk9
      refine jk_iload_n (q := 3) h dX10_isPaired_2 rfl rfl ?_
      refine jk_aload_n (q := 4) h dX10_isPaired_3 rfl rfl ?_
      refine jk_sipush (q := 7) h dX10_isPaired_4 (by decide) rfl ?_
      refine jk_ialdI (q := 8) h dX10_isPaired_7 (hσ.at 0 rfl) (by omega) (by omega) rfl rfl ?_
      refine jk_icmp_ge (q := 11) (tgt := 47) h dX10_isPaired_8 (by decide) rfl ⟨by omega, by omega⟩ ⟨by omega, by omega⟩ (fun c8 => ?_) (fun c8 => ?_)
      · refine jk_iconst (q := 48) h dX10_isPaired_47 rfl ?_
        exact jk_zret h hR dX10_isPaired_48 (Nat.le_of_ble_eq_true rfl) (Nat.le_of_ble_eq_true rfl) (by first | exact Or.inl rfl | exact Or.inr rfl | omega) ⟨0, rfl, rfl, rfl, Or.inr ⟨rfl, fun ⟨j, h1, h2⟩ => hno j (by omega) h2⟩⟩
      · obtain ⟨⟨hp1, hp2⟩, hp3, hp4⟩ := hpp i hi1 (by omega)
        refine jk_aload_n (q := 12) h dX10_isPaired_11 rfl rfl ?_
        refine jk_sipush (q := 15) h dX10_isPaired_12 (by decide) rfl ?_
        refine jk_iconst (q := 16) h dX10_isPaired_15 rfl ?_
        refine jk_iload_n (q := 17) h dX10_isPaired_16 rfl rfl ?_
        refine jk_imul (q := 18) h dX10_isPaired_17 rfl ?_
        refine jk_iadd (q := 19) h dX10_isPaired_18 rfl ?_
        refine jk_ialdI (q := 20) h dX10_isPaired_19 (hσ.at 0 rfl) (by omega) (by omega) rfl rfl ?_
        refine jk_iload_n (q := 21) h dX10_isPaired_20 rfl rfl ?_
        refine jk_icmp_ne (q := 24) (tgt := 41) h dX10_isPaired_21 (by decide) rfl ⟨by omega, by omega⟩ ⟨by omega, by omega⟩ (fun c21 => ?_) (fun c21 => ?_)
        · refine jk_iinc (q := 44) h dX10_isPaired_41 rfl rfl rfl rfl ?_
          refine jk_goto (q := 47) (tgt := 2) h dX10_isPaired_44 (by decide) ?_
          exact jk_weak (jwk_s rfl (jwk_s rfl (jwk_s rfl (jwk_s rfl jwk_0)))) (ih2 _ (by omega) _ (by omega) (by omega) (fun j hj => by rcases Int.lt_or_le j i with g | g; exact hno j g; rw [show j = i.toNat by omega]; first | exact (fun z => c21 (by rw [hp1]; exact z.1)) | exact (fun z => c36 (by rw [hp2]; exact z.2)) | omega) rfl)
        · refine jk_aload_n (q := 25) h dX10_isPaired_24 rfl rfl ?_
          refine jk_sipush (q := 28) h dX10_isPaired_25 (by decide) rfl ?_
          refine jk_iconst (q := 29) h dX10_isPaired_28 rfl ?_
          refine jk_iload_n (q := 30) h dX10_isPaired_29 rfl rfl ?_
          refine jk_imul (q := 31) h dX10_isPaired_30 rfl ?_
          refine jk_iadd (q := 32) h dX10_isPaired_31 rfl ?_
          refine jk_iconst (q := 33) h dX10_isPaired_32 rfl ?_
          refine jk_iadd (q := 34) h dX10_isPaired_33 rfl ?_
          refine jk_ialdI (q := 35) h dX10_isPaired_34 (hσ.at 0 rfl) (by omega) (by omega) rfl rfl ?_
          refine jk_iload_n (q := 36) h dX10_isPaired_35 rfl rfl ?_
          refine jk_icmp_ne (q := 39) (tgt := 41) h dX10_isPaired_36 (by decide) rfl ⟨by omega, by omega⟩ ⟨by omega, by omega⟩ (fun c36 => ?_) (fun c36 => ?_)
          · refine jk_iinc (q := 44) h dX10_isPaired_41 rfl rfl rfl rfl ?_
            refine jk_goto (q := 47) (tgt := 2) h dX10_isPaired_44 (by decide) ?_
            exact jk_weak (jwk_s rfl (jwk_s rfl (jwk_s rfl (jwk_s rfl jwk_0)))) (ih2 _ (by omega) _ (by omega) (by omega) (fun j hj => by rcases Int.lt_or_le j i with g | g; exact hno j g; rw [show j = i.toNat by omega]; first | exact (fun z => c21 (by rw [hp1]; exact z.1)) | exact (fun z => c36 (by rw [hp2]; exact z.2)) | omega) rfl)
          · refine jk_iconst (q := 40) h dX10_isPaired_39 rfl ?_
            exact jk_zret h hR dX10_isPaired_40 (Nat.le_of_ble_eq_true rfl) (Nat.le_of_ble_eq_true rfl) (by first | exact Or.inl rfl | exact Or.inr rfl | omega) ⟨1, rfl, rfl, rfl, Or.inl ⟨rfl, i.toNat, by omega, by omega, by omega⟩⟩
  exact jk_weak (jwk_s rfl (jwk_s rfl (jwk_s rfl (jwk_s rfl jwk_0)))) (lp2 _ _ (by omega) (by omega) (fun j hj => absurd hj (by omega)) rfl)

set_option maxHeartbeats 4000000 in
set_option maxRecDepth 100000 in
theorem c_X10_pairs {l : Launch} {D : va_G} {b0 : Nat} {n : Nat} {M : jM} {q : Nat} {σ : Nat → Int} (hσ : jPic M q [aI 455 σ]) {y : TT} (hm : mrT σ y) (hy : tbQ y) {mp : Int} (hmp : 0 ≤ mp ∧ mp ≤ 6) (hs6 : σ (6 : Int).toNat = mp) : jCtr l D b0 yX10_pairs cX10_pairs 8 none 2 0 0 [.ref q] n M (fun v n2 M2 => none = v ∧ n = n2 ∧ (∃ (σ2 : Nat → Int) (p : TP), jPic M2 q [aI 455 σ2] ∧ mpT σ2 p ∧ pmQ y mp p.2.2.2 p.1 p.2.1 p.2.2.1 ∧ (∀ k : Nat, ¬ (236 ≤ k ∧ k < 255) → σ2 k = σ k)) ∧ jtw M M2 q q) := by
  refine jctr (lv := [some (.ref q), none, none, none, none, none, none, none]) RX10 "pairs" rfl rfl (by decide) (Nat.le_of_ble_eq_true rfl) rfl ?_
  intro X h hR hX
  have hj := jtw.rf M q q
  have hyz := hy.2.2
  refine jk_aload_n (q := 1) h dX10_pairs_0 rfl rfl ?_
  refine jk_sipush (q := 4) h dX10_pairs_1 (by decide) rfl ?_
  refine jk_iconst (q := 5) h dX10_pairs_4 rfl ?_
  refine jk_iast (q := 6) h dX10_pairs_5 (hσ.at 0 rfl) (by omega) (by omega) rfl rfl (fun M_1 s_1 => ?_)
  have hσ := hσ.put (i := 0) s_1 rfl
  have hj := hj.stq s_1 (by omega)
  obtain ⟨σ1, hσ1⟩ : ∃ s, jfup σ (236 : Int).toNat 0 = s := ⟨_, rfl⟩
  rw [hσ1] at hσ
  have e1 : ∀ k : Nat, k ≠ (236 : Int).toNat → σ1 k = σ k := fun k hk => by { rw [← hσ1]; exact jfup_n _ _ hk }
  have e10 : σ1 (236 : Int).toNat = 0 := by { rw [← hσ1]; exact jfup_s _ _ _ }
  refine jk_iconst (q := 7) h dX10_pairs_6 rfl ?_
  refine jk_istore_n (q := 8) h dX10_pairs_7 rfl (Nat.le_of_ble_eq_true rfl) rfl rfl ?_
  have lp8 : ∀ (k9 : Nat) (t : Int) (k : Int) (σ3 : Nat → Int) (pa : Nat → Int) (pb : Nat → Int) (pr : Nat → Int) (M9 : jM) (ht : t = 0 ∨ t = 1) (hk1 : 0 ≤ k) (hk2 : k ≤ mp) (hσ : jPic M9 q [aI 455 σ3]) (hJ : ppJ y k pa pb pr) (hsn : σ3 (236 : Int).toNat = k) (hsc : (∀ i8 : Int, 0 ≤ i8 → i8 < k → σ3 (237 + 3 * i8).toNat = pa i8.toNat ∧ σ3 (237 + 3 * i8 + 1).toNat = pb i8.toNat ∧ σ3 (237 + 3 * i8 + 2).toNat = pr i8.toNat)) (hrg : (∀ k : Nat, ¬ (236 ≤ k ∧ k < 255) → σ3 k = σ k)) (hte : t = 0 → ∀ r : Nat, (r : Int) < y.2.2 → 2 ≤ cnt y r → isPd pa pb k (y.1 r) (y.2.1 r)) (hj : jtw M M9 q q) (hk9 : (2 * (mp - k) + t).toNat = k9), jJ X 8 [some (.ref (q)), some (jI (t)), none, none, none, none, none, none] [] n M9 0 0 := by
    intro k9
    induction k9 using Nat.strongRecOn with
    | _ k9 ih8 =>
      intro t k σ3 pa pb pr M9 ht hk1 hk2 hσ hJ hsn hsc hrg hte hj hk9
      have h6 : σ3 (6 : Int).toNat = mp := (hrg _ (by omega)).trans hs6
      have hm3 : mrT σ3 y := hm.ag hyz.2 (fun j hj9 => hrg j (by omega))
      have hm30 := hm3.1
      have hpp : ∀ i8 : Int, 0 ≤ i8 → i8 < k → (σ3 (237 + 3 * i8).toNat = pa i8.toNat ∧ σ3 (237 + 3 * i8 + 1).toNat = pb i8.toNat) ∧ (0 ≤ pa i8.toNat ∧ pa i8.toNat ≤ 99) ∧ (0 ≤ pb i8.toNat ∧ pb i8.toNat ≤ 99) := fun i8 h0 h1 => by
        obtain ⟨g1, g2, g3⟩ := hsc i8 h0 h1
        obtain ⟨r, g4, g5, g6, g7, g8⟩ := hJ.1 i8.toNat (by omega)
        exact ⟨⟨g1, g2⟩, by rw [g6]; exact hy.1 r, by rw [g7]; exact hy.2.1 r⟩
      refine jk_iload_n (q := 9) h dX10_pairs_8 rfl rfl ?_
      refine jk_if_eq (q := 12) (tgt := 226) h dX10_pairs_9 (by decide) rfl ⟨by omega, by omega⟩ (fun c9 => ?_) (fun c9 => ?_)
      · exact jk_vret h hR dX10_pairs_226 (Nat.le_of_ble_eq_true rfl) (Nat.le_of_ble_eq_true rfl) (by first | exact ⟨rfl, rfl, ⟨σ3, (pa, pb, pr, k), hσ, ⟨hsn, hsc⟩, ppJ_e hJ hk1 hk2 (Or.inr (hte (by omega))), hrg⟩, hj⟩ | exact ⟨rfl, rfl, ⟨σ3, (pa, pb, pr, k), hσ, ⟨hsn, hsc⟩, ppJ_e hJ hk1 hk2 (Or.inl (by show k = mp; omega)), hrg⟩, hj⟩)
      · refine jk_aload_n (q := 13) h dX10_pairs_12 rfl rfl ?_
        refine jk_sipush (q := 16) h dX10_pairs_13 (by decide) rfl ?_
        refine jk_ialdI (q := 17) h dX10_pairs_16 (hσ.at 0 rfl) (by omega) (by omega) rfl rfl ?_
        refine jk_aload_n (q := 18) h dX10_pairs_17 rfl rfl ?_
        refine jk_bipush (q := 20) h dX10_pairs_18 (by decide) rfl ?_
        refine jk_ialdI (q := 21) h dX10_pairs_20 (hσ.at 0 rfl) (by omega) (by omega) rfl rfl ?_
        refine jk_icmp_ge (q := 24) (tgt := 226) h dX10_pairs_21 (by decide) rfl ⟨by omega, by omega⟩ ⟨by omega, by omega⟩ (fun c21 => ?_) (fun c21 => ?_)
        · exact jk_vret h hR dX10_pairs_226 (Nat.le_of_ble_eq_true rfl) (Nat.le_of_ble_eq_true rfl) (by first | exact ⟨rfl, rfl, ⟨σ3, (pa, pb, pr, k), hσ, ⟨hsn, hsc⟩, ppJ_e hJ hk1 hk2 (Or.inr (hte (by omega))), hrg⟩, hj⟩ | exact ⟨rfl, rfl, ⟨σ3, (pa, pb, pr, k), hσ, ⟨hsn, hsc⟩, ppJ_e hJ hk1 hk2 (Or.inl (by show k = mp; omega)), hrg⟩, hj⟩)
        · refine jk_iconst (q := 25) h dX10_pairs_24 rfl ?_
          refine jk_istore_n (q := 26) h dX10_pairs_25 rfl (Nat.le_of_ble_eq_true rfl) rfl rfl ?_
          refine jk_iconst (q := 27) h dX10_pairs_26 rfl ?_
          refine jk_istore_n (q := 28) h dX10_pairs_27 rfl (Nat.le_of_ble_eq_true rfl) rfl rfl ?_
          refine jk_iconst (q := 29) h dX10_pairs_28 rfl ?_
          refine jk_istore (q := 31) h dX10_pairs_29 rfl (Nat.le_of_ble_eq_true rfl) rfl rfl ?_
          have lp31 : ∀ (k9 : Nat) (n9 : Int) (d : Int) (i : Int) (hi1 : 0 ≤ i) (hi2 : i ≤ y.2.2) (hbi : bpI y pa pb k n9 d i) (hk9 : (y.2.2 - i).toNat = k9), jJ X 31 [some (.ref (q)), none, some (jI (n9)), some (jI (d)), some (jI (i)), none, none, none] [] n M9 0 0 := by
            intro k9
            induction k9 using Nat.strongRecOn with
            | _ k9 ih31 =>
              intro n9 d i hi1 hi2 hbi hk9
              have hA := hy.1 i.toNat
              have hB := hy.2.1 i.toNat
              have hnb := hbi.1
              have hdb := hbi.2.1
              have hcb := cnt_bd hy i.toNat
              refine jk_iload (q := 33) h dX10_pairs_31 rfl rfl ?_
              refine jk_aload_n (q := 34) h dX10_pairs_33 rfl rfl ?_
              refine jk_iconst (q := 35) h dX10_pairs_34 rfl ?_
              refine jk_ialdI (q := 36) h dX10_pairs_35 (hσ.at 0 rfl) (by omega) (by omega) rfl rfl ?_
              refine jk_icmp_ge (q := 39) (tgt := 161) h dX10_pairs_36 (by decide) rfl ⟨by omega, by omega⟩ ⟨by omega, by omega⟩ (fun c36 => ?_) (fun c36 => ?_)
              · have hi3 : i = y.2.2 := by omega
                rw [hi3] at hbi
                have jn171 : ∀ (t9 : Int) (hT : (t9 = 1 ∧ 1 < n9) ∨ (t9 = 0 ∧ n9 ≤ 1)), jJ X 171 [some (.ref (q)), none, some (jI (n9)), some (jI (d)), none, none, none, none] [jI t9] n M9 0 0 := by
                  intro t9 hT
                  refine jk_istore_n (q := 172) h dX10_pairs_171 rfl (Nat.le_of_ble_eq_true rfl) rfl rfl ?_
                  refine jk_iload_n (q := 173) h dX10_pairs_172 rfl rfl ?_
                  refine jk_if_eq (q := 176) (tgt := 223) h dX10_pairs_173 (by decide) rfl ⟨by omega, by omega⟩ (fun c173 => ?_) (fun c173 => ?_)
                  · obtain ⟨kN, hkE⟩ : ∃ z, z = k := ⟨k, rfl⟩
                    obtain ⟨σN, hσE⟩ : ∃ z, z = σ3 := ⟨_, rfl⟩
                    obtain ⟨paN, hpaE⟩ : ∃ z, z = pa := ⟨_, rfl⟩
                    obtain ⟨pbN, hpbE⟩ : ∃ z, z = pb := ⟨_, rfl⟩
                    obtain ⟨prN, hprE⟩ : ∃ z, z = pr := ⟨_, rfl⟩
                    have hbe := bpI_e hy hbi (by omega)
                    rw [← hkE, ← hpaE, ← hpbE] at hbe
                    rw [← hkE, ← hpaE, ← hpbE, ← hprE] at hJ
                    rw [← hσE] at hσ
                    have hkN : 0 ≤ kN ∧ kN ≤ mp := by omega
                    have hJN := hJ
                    have hsnN : σN (236 : Int).toNat = kN := by { rw [hσE, hkE]; exact hsn }
                    have hscN : (∀ i8 : Int, 0 ≤ i8 → i8 < kN → σN (237 + 3 * i8).toNat = paN i8.toNat ∧ σN (237 + 3 * i8 + 1).toNat = pbN i8.toNat ∧ σN (237 + 3 * i8 + 2).toNat = prN i8.toNat) := by { rw [hσE, hkE, hpaE, hpbE, hprE]; exact hsc }
                    have hrgN : (∀ k : Nat, ¬ (236 ≤ k ∧ k < 255) → σN k = σ k) := by { rw [hσE]; exact hrg }
                    have hteN : t9 = 0 → ∀ r : Nat, (r : Int) < y.2.2 → 2 ≤ cnt y r → isPd paN pbN kN (y.1 r) (y.2.1 r) := fun _ => hbe
                    have htN : t9 = 0 ∨ t9 = 1 := by omega
                    refine jk_goto (q := 226) (tgt := 8) h dX10_pairs_223 (by decide) ?_
                    exact jk_weak (jwk_s rfl (jwk_s rfl (jwk_n (jwk_n (jwk_n (jwk_n (jwk_n (jwk_n jwk_0)))))))) (ih8 _ (by omega) t9 kN σN paN pbN prN _ htN hkN.1 hkN.2 hσ hJN hsnN hscN hrgN hteN hj rfl)
                  · refine jk_sipush (q := 179) h dX10_pairs_176 (by decide) rfl ?_
                    refine jk_iconst (q := 180) h dX10_pairs_179 rfl ?_
                    refine jk_aload_n (q := 181) h dX10_pairs_180 rfl rfl ?_
                    refine jk_sipush (q := 184) h dX10_pairs_181 (by decide) rfl ?_
                    refine jk_ialdI (q := 185) h dX10_pairs_184 (hσ.at 0 rfl) (by omega) (by omega) rfl rfl ?_
                    refine jk_imul (q := 186) h dX10_pairs_185 rfl ?_
                    refine jk_iadd (q := 187) h dX10_pairs_186 rfl ?_
                    refine jk_istore (q := 189) h dX10_pairs_187 rfl (Nat.le_of_ble_eq_true rfl) rfl rfl ?_
                    refine jk_aload_n (q := 190) h dX10_pairs_189 rfl rfl ?_
                    refine jk_iload (q := 192) h dX10_pairs_190 rfl rfl ?_
                    refine jk_iload_n (q := 193) h dX10_pairs_192 rfl rfl ?_
                    refine jk_bipush (q := 195) h dX10_pairs_193 (by decide) rfl ?_
                    refine jk_idiv (q := 196) h dX10_pairs_195 (by omega) (by omega) (by omega) (by omega) rfl ?_
                    refine jk_iast (q := 197) h dX10_pairs_196 (hσ.at 0 rfl) (by omega) (by omega) rfl rfl (fun M_2 s_2 => ?_)
                    have hσ := hσ.put (i := 0) s_2 rfl
                    have hj := hj.stq s_2 (by omega)
                    rw [hsn] at hσ
                    obtain ⟨σ4, hσ4⟩ : ∃ s9, jfup σ3 (237 + 3 * k).toNat (d / 100) = s9 := ⟨_, rfl⟩
                    rw [hσ4] at hσ
                    have ea : ∀ j : Nat, j ≠ (237 + 3 * k).toNat → σ4 j = σ3 j := fun j hj => by { rw [← hσ4]; exact jfup_n _ _ hj }
                    have eav : σ4 (237 + 3 * k).toNat = d / 100 := by { rw [← hσ4]; exact jfup_s _ _ _ }
                    refine jk_aload_n (q := 198) h dX10_pairs_197 rfl rfl ?_
                    refine jk_iload (q := 200) h dX10_pairs_198 rfl rfl ?_
                    refine jk_iconst (q := 201) h dX10_pairs_200 rfl ?_
                    refine jk_iadd (q := 202) h dX10_pairs_201 rfl ?_
                    refine jk_iload_n (q := 203) h dX10_pairs_202 rfl rfl ?_
                    refine jk_bipush (q := 205) h dX10_pairs_203 (by decide) rfl ?_
                    refine jk_irem (q := 206) h dX10_pairs_205 (by omega) (by omega) (by omega) (by omega) rfl ?_
                    refine jk_iast (q := 207) h dX10_pairs_206 (hσ.at 0 rfl) (by omega) (by omega) rfl rfl (fun M_3 s_3 => ?_)
                    have hσ := hσ.put (i := 0) s_3 rfl
                    have hj := hj.stq s_3 (by omega)
                    rw [hsn] at hσ
                    obtain ⟨σ5, hσ5⟩ : ∃ s9, jfup σ4 (237 + 3 * k + 1).toNat (d % 100) = s9 := ⟨_, rfl⟩
                    rw [hσ5] at hσ
                    have eb : ∀ j : Nat, j ≠ (237 + 3 * k + 1).toNat → σ5 j = σ4 j := fun j hj => by { rw [← hσ5]; exact jfup_n _ _ hj }
                    have ebv : σ5 (237 + 3 * k + 1).toNat = d % 100 := by { rw [← hσ5]; exact jfup_s _ _ _ }
                    refine jk_aload_n (q := 208) h dX10_pairs_207 rfl rfl ?_
                    refine jk_iload (q := 210) h dX10_pairs_208 rfl rfl ?_
                    refine jk_iconst (q := 211) h dX10_pairs_210 rfl ?_
                    refine jk_iadd (q := 212) h dX10_pairs_211 rfl ?_
                    refine jk_iload_n (q := 213) h dX10_pairs_212 rfl rfl ?_
                    refine jk_iast (q := 214) h dX10_pairs_213 (hσ.at 0 rfl) (by omega) (by omega) rfl rfl (fun M_4 s_4 => ?_)
                    have hσ := hσ.put (i := 0) s_4 rfl
                    have hj := hj.stq s_4 (by omega)
                    rw [hsn] at hσ
                    obtain ⟨σ6, hσ6⟩ : ∃ s9, jfup σ5 (237 + 3 * k + 2).toNat (n9) = s9 := ⟨_, rfl⟩
                    rw [hσ6] at hσ
                    have ed : ∀ j : Nat, j ≠ (237 + 3 * k + 2).toNat → σ6 j = σ5 j := fun j hj => by { rw [← hσ6]; exact jfup_n _ _ hj }
                    have edv : σ6 (237 + 3 * k + 2).toNat = n9 := by { rw [← hσ6]; exact jfup_s _ _ _ }
                    refine jk_aload_n (q := 215) h dX10_pairs_214 rfl rfl ?_
                    refine jk_sipush (q := 218) h dX10_pairs_215 (by decide) rfl ?_
                    refine jk_dup2 (q := 219) h dX10_pairs_218 rfl rfl rfl ?_
                    refine jk_ialdI (q := 220) h dX10_pairs_219 (hσ.at 0 rfl) (by omega) (by omega) rfl rfl ?_
                    refine jk_iconst (q := 221) h dX10_pairs_220 rfl ?_
                    refine jk_iadd (q := 222) h dX10_pairs_221 rfl ?_
                    refine jk_iast (q := 223) h dX10_pairs_222 (hσ.at 0 rfl) (by omega) (by omega) rfl rfl (fun M_5 s_5 => ?_)
                    have hσ := hσ.put (i := 0) s_5 rfl
                    have hj := hj.stq s_5 (by omega)
                    obtain ⟨σN, hσN⟩ : ∃ s9, jfup σ6 ((236 : Int)).toNat (σ6 (236 : Int).toNat + 1) = s9 := ⟨_, rfl⟩
                    rw [hσN] at hσ
                    have ef : ∀ j : Nat, j ≠ ((236 : Int)).toNat → σN j = σ6 j := fun j hj => by { rw [← hσN]; exact jfup_n _ _ hj }
                    have efv : σN ((236 : Int)).toNat = σ6 (236 : Int).toNat + 1 := by { rw [← hσN]; exact jfup_s _ _ _ }
                    obtain ⟨kN, hkE⟩ : ∃ z, z = k + 1 := ⟨_, rfl⟩
                    obtain ⟨paN, hpaE⟩ : ∃ z, z = jfup pa k.toNat (d / 100) := ⟨_, rfl⟩
                    obtain ⟨pbN, hpbE⟩ : ∃ z, z = jfup pb k.toNat (d % 100) := ⟨_, rfl⟩
                    obtain ⟨prN, hprE⟩ : ∃ z, z = jfup pr k.toNat n9 := ⟨_, rfl⟩
                    have hkN : 0 ≤ kN ∧ kN ≤ mp := by omega
                    have hJN : ppJ y kN paN pbN prN := by { rw [hkE, hpaE, hpbE, hprE]; exact bpI_s hy hk1 hJ hbi (by omega) }
                    have hsnN : σN (236 : Int).toNat = kN := by { rw [efv, ed _ (by omega), eb _ (by omega), ea _ (by omega), hsn, hkE] }
                    have hfr : ∀ j : Nat, ¬ (j = 236 ∨ (237 + 3 * k ≤ (j : Int) ∧ (j : Int) < 240 + 3 * k)) → σN j = σ3 j := fun j hj9 => ((ef j (by omega)).trans (ed j (by omega))).trans ((eb j (by omega)).trans (ea j (by omega)))
                    have hscN : (∀ i8 : Int, 0 ≤ i8 → i8 < kN → σN (237 + 3 * i8).toNat = paN i8.toNat ∧ σN (237 + 3 * i8 + 1).toNat = pbN i8.toNat ∧ σN (237 + 3 * i8 + 2).toNat = prN i8.toNat) := fun i8 h0 h1 => by
                      rw [hpaE, hpbE, hprE]
                      by_cases g : i8 < k
                      · rw [hfr _ (by omega), hfr _ (by omega), hfr _ (by omega), jfup_n _ _ (by omega), jfup_n _ _ (by omega), jfup_n _ _ (by omega)]; exact hsc i8 h0 g
                      · rw [show i8 = k by omega, jfup_s, jfup_s, jfup_s]; exact ⟨((ef _ (by omega)).trans (ed _ (by omega))).trans ((eb _ (by omega)).trans eav), ((ef _ (by omega)).trans (ed _ (by omega))).trans ebv, (ef _ (by omega)).trans edv⟩
                    have hrgN : (∀ k : Nat, ¬ (236 ≤ k ∧ k < 255) → σN k = σ k) := fun j hj9 => (hfr j (by omega)).trans (hrg j hj9)
                    have hteN : t9 = 0 → ∀ r : Nat, (r : Int) < y.2.2 → 2 ≤ cnt y r → isPd paN pbN kN (y.1 r) (y.2.1 r) := fun z => by omega
                    have htN : t9 = 0 ∨ t9 = 1 := by omega
                    refine jk_goto (q := 226) (tgt := 8) h dX10_pairs_223 (by decide) ?_
                    exact jk_weak (jwk_s rfl (jwk_s rfl (jwk_n (jwk_n (jwk_n (jwk_n (jwk_n (jwk_n jwk_0)))))))) (ih8 _ (by omega) t9 kN σN paN pbN prN _ htN hkN.1 hkN.2 hσ hJN hsnN hscN hrgN hteN hj rfl)
                refine jk_iload_n (q := 162) h dX10_pairs_161 rfl rfl ?_
                refine jk_iconst (q := 163) h dX10_pairs_162 rfl ?_
                refine jk_icmp_le (q := 166) (tgt := 170) h dX10_pairs_163 (by decide) rfl ⟨by omega, by omega⟩ ⟨by omega, by omega⟩ (fun c163 => ?_) (fun c163 => ?_)
                · refine jk_iconst (q := 171) h dX10_pairs_170 rfl ?_
                  exact jk_weak (jwk_s rfl (jwk_n (jwk_s rfl (jwk_s rfl (jwk_n (jwk_n (jwk_n (jwk_n jwk_0)))))))) (jn171 _ (by omega))
                · refine jk_iconst (q := 167) h dX10_pairs_166 rfl ?_
                  refine jk_goto (q := 170) (tgt := 171) h dX10_pairs_167 (by decide) ?_
                  exact jk_weak (jwk_s rfl (jwk_n (jwk_s rfl (jwk_s rfl (jwk_n (jwk_n (jwk_n (jwk_n jwk_0)))))))) (jn171 _ (by omega))
              · refine jk_aload_n (q := 40) h dX10_pairs_39 rfl rfl ?_
                refine jk_aload_n (q := 41) h dX10_pairs_40 rfl rfl ?_
                refine jk_iload (q := 43) h dX10_pairs_41 rfl rfl ?_
                refine jk_iconst (q := 44) h dX10_pairs_43 rfl ?_
                refine jk_callS (q := 47) h hX (c_X10_of hσ ⟨hi1, by omega⟩ ⟨by decide, by decide⟩ (hm3.a hi1 (by omega))) ms_X10_of dX10_pairs_44 ml_X10_54 ⟨rfl, Nat.le_refl _⟩ rfl rfl (Nat.le_of_ble_eq_true rfl) (Nat.le_of_ble_eq_true rfl) rfl rfl (Nat.le_of_ble_eq_true rfl) rfl (fun v9 n9 M9 hp9 => ?_)
                obtain ⟨rfl, rfl, rfl⟩ := hp9
                refine jk_aload_n (q := 48) h dX10_pairs_47 rfl rfl ?_
                refine jk_iload (q := 50) h dX10_pairs_48 rfl rfl ?_
                refine jk_iconst (q := 51) h dX10_pairs_50 rfl ?_
                refine jk_callS (q := 54) h hX (c_X10_of hσ ⟨hi1, by omega⟩ ⟨by decide, by decide⟩ (hm3.b hi1 (by omega))) ms_X10_of dX10_pairs_51 ml_X10_54 ⟨rfl, Nat.le_refl _⟩ rfl rfl (Nat.le_of_ble_eq_true rfl) (Nat.le_of_ble_eq_true rfl) rfl rfl (Nat.le_of_ble_eq_true rfl) rfl (fun v9 n9 M9 hp9 => ?_)
                obtain ⟨rfl, rfl, rfl⟩ := hp9
                refine jk_callS (q := 57) h hX (c_X10_rowsWith hσ hm3 hy ⟨by omega, by omega⟩ ⟨by omega, by omega⟩) ms_X10_rowsWith dX10_pairs_54 ml_X10_57 ⟨rfl, Nat.le_refl _⟩ rfl rfl (Nat.le_of_ble_eq_true rfl) (Nat.le_of_ble_eq_true rfl) rfl rfl (Nat.le_of_ble_eq_true rfl) rfl (fun v9 n9 M9 hp9 => ?_)
                obtain ⟨rfl, rfl, rfl⟩ := hp9
                refine jk_name (fun c5 hc5 => ?_)
                refine jk_istore (q := 59) h dX10_pairs_57 rfl (Nat.le_of_ble_eq_true rfl) rfl rfl ?_
                refine jk_bipush (q := 61) h dX10_pairs_59 (by decide) rfl ?_
                refine jk_aload_n (q := 62) h dX10_pairs_61 rfl rfl ?_
                refine jk_iload (q := 64) h dX10_pairs_62 rfl rfl ?_
                refine jk_iconst (q := 65) h dX10_pairs_64 rfl ?_
                refine jk_callS (q := 68) h hX (c_X10_of hσ ⟨hi1, by omega⟩ ⟨by decide, by decide⟩ (hm3.a hi1 (by omega))) ms_X10_of dX10_pairs_65 ml_X10_54 ⟨rfl, Nat.le_refl _⟩ rfl rfl (Nat.le_of_ble_eq_true rfl) (Nat.le_of_ble_eq_true rfl) rfl rfl (Nat.le_of_ble_eq_true rfl) rfl (fun v9 n9 M9 hp9 => ?_)
                obtain ⟨rfl, rfl, rfl⟩ := hp9
                refine jk_imul (q := 69) h dX10_pairs_68 rfl ?_
                refine jk_aload_n (q := 70) h dX10_pairs_69 rfl rfl ?_
                refine jk_iload (q := 72) h dX10_pairs_70 rfl rfl ?_
                refine jk_iconst (q := 73) h dX10_pairs_72 rfl ?_
                refine jk_callS (q := 76) h hX (c_X10_of hσ ⟨hi1, by omega⟩ ⟨by decide, by decide⟩ (hm3.b hi1 (by omega))) ms_X10_of dX10_pairs_73 ml_X10_54 ⟨rfl, Nat.le_refl _⟩ rfl rfl (Nat.le_of_ble_eq_true rfl) (Nat.le_of_ble_eq_true rfl) rfl rfl (Nat.le_of_ble_eq_true rfl) rfl (fun v9 n9 M9 hp9 => ?_)
                obtain ⟨rfl, rfl, rfl⟩ := hp9
                refine jk_iadd (q := 77) h dX10_pairs_76 rfl ?_
                refine jk_name (fun e6 he6 => ?_)
                have he6b : 0 ≤ e6 ∧ e6 ≤ 9999 := by omega
                have hc5b : 0 ≤ c5 ∧ c5 ≤ 60 := by { rw [hc5]; exact hcb }
                refine jk_istore (q := 79) h dX10_pairs_77 rfl (Nat.le_of_ble_eq_true rfl) rfl rfl ?_
                refine jk_aload_n (q := 80) h dX10_pairs_79 rfl rfl ?_
                refine jk_aload_n (q := 81) h dX10_pairs_80 rfl rfl ?_
                refine jk_iload (q := 83) h dX10_pairs_81 rfl rfl ?_
                refine jk_iconst (q := 84) h dX10_pairs_83 rfl ?_
                refine jk_callS (q := 87) h hX (c_X10_of hσ ⟨hi1, by omega⟩ ⟨by decide, by decide⟩ (hm3.a hi1 (by omega))) ms_X10_of dX10_pairs_84 ml_X10_54 ⟨rfl, Nat.le_refl _⟩ rfl rfl (Nat.le_of_ble_eq_true rfl) (Nat.le_of_ble_eq_true rfl) rfl rfl (Nat.le_of_ble_eq_true rfl) rfl (fun v9 n9 M9 hp9 => ?_)
                obtain ⟨rfl, rfl, rfl⟩ := hp9
                refine jk_aload_n (q := 88) h dX10_pairs_87 rfl rfl ?_
                refine jk_iload (q := 90) h dX10_pairs_88 rfl rfl ?_
                refine jk_iconst (q := 91) h dX10_pairs_90 rfl ?_
                refine jk_callS (q := 94) h hX (c_X10_of hσ ⟨hi1, by omega⟩ ⟨by decide, by decide⟩ (hm3.b hi1 (by omega))) ms_X10_of dX10_pairs_91 ml_X10_54 ⟨rfl, Nat.le_refl _⟩ rfl rfl (Nat.le_of_ble_eq_true rfl) (Nat.le_of_ble_eq_true rfl) rfl rfl (Nat.le_of_ble_eq_true rfl) rfl (fun v9 n9 M9 hp9 => ?_)
                obtain ⟨rfl, rfl, rfl⟩ := hp9
                refine jk_callS (q := 97) h hX (c_X10_isPaired hσ ⟨hk1, by omega⟩ hsn hpp ⟨by omega, by omega⟩ ⟨by omega, by omega⟩) ms_X10_isPaired dX10_pairs_94 ml_X10_60 ⟨rfl, Nat.le_refl _⟩ rfl rfl (Nat.le_of_ble_eq_true rfl) (Nat.le_of_ble_eq_true rfl) rfl rfl (Nat.le_of_ble_eq_true rfl) rfl (fun v9 n9 M9 hp9 => ?_)
                obtain ⟨w9, rfl, rfl, rfl, hw9⟩ := hp9
                have jn129 : ∀ (f : Int) (hf : (f = 1 ∧ ¬ isPd pa pb k (y.1 i.toNat) (y.2.1 i.toNat) ∧ (n9 < c5 ∨ (c5 = n9 ∧ 1 < c5 ∧ e6 < d))) ∨ (f = 0 ∧ (isPd pa pb k (y.1 i.toNat) (y.2.1 i.toNat) ∨ ¬ (n9 < c5 ∨ (c5 = n9 ∧ 1 < c5 ∧ e6 < d))))), jJ X 129 [some (.ref (q)), none, some (jI (n9)), some (jI (d)), some (jI (i)), some (jI (c5)), some (jI (e6)), none] [jI f] n M9 0 0 := by
                  intro f hf
                  have hfb : f = 0 ∨ f = 1 := by { rcases hf with z | z; exact Or.inr z.1; exact Or.inl z.1 }
                  refine jk_istore (q := 131) h dX10_pairs_129 rfl (Nat.le_of_ble_eq_true rfl) rfl rfl ?_
                  have jn142 : ∀ (d2 : Int) (hd2 : (f = 1 → d2 = e6) ∧ (f = 0 → d2 = d)), jJ X 142 [some (.ref (q)), none, some (jI (n9)), none, some (jI (i)), some (jI (c5)), some (jI (e6)), some (jI (f))] [jI d2] n M9 0 0 := by
                    intro d2 hd2
                    refine jk_istore_n (q := 143) h dX10_pairs_142 rfl (Nat.le_of_ble_eq_true rfl) rfl rfl ?_
                    have jn154 : ∀ (n2 : Int) (hn2 : (f = 1 → n2 = c5) ∧ (f = 0 → n2 = n9)), jJ X 154 [some (.ref (q)), none, none, some (jI (d2)), some (jI (i)), some (jI (c5)), some (jI (e6)), some (jI (f))] [jI n2] n M9 0 0 := by
                      intro n2 hn2
                      have hbiN : bpI y pa pb k n2 d2 (i + 1) := by
                        rcases hf with ⟨z1, z2, z3⟩ | ⟨z1, z2⟩
                        · rw [hn2.1 z1, hd2.1 z1]; exact bpI_t hy hbi ⟨hi1, by omega⟩ hc5 he6 z2 z3
                        · rw [hn2.2 z1, hd2.2 z1]; exact bpI_n hy hbi ⟨hi1, by omega⟩ hc5 he6 z2
                      refine jk_istore_n (q := 155) h dX10_pairs_154 rfl (Nat.le_of_ble_eq_true rfl) rfl rfl ?_
                      refine jk_iinc (q := 158) h dX10_pairs_155 rfl rfl rfl rfl ?_
                      refine jk_goto (q := 161) (tgt := 31) h dX10_pairs_158 (by decide) ?_
                      exact jk_weak (jwk_s rfl (jwk_n (jwk_s rfl (jwk_s rfl (jwk_s rfl (jwk_n (jwk_n (jwk_n jwk_0)))))))) (ih31 _ (by omega) _ _ _ (by omega) (by omega) hbiN rfl)
                    refine jk_iload (q := 145) h dX10_pairs_143 rfl rfl ?_
                    refine jk_if_eq (q := 148) (tgt := 153) h dX10_pairs_145 (by decide) rfl ⟨by omega, by omega⟩ (fun c145 => ?_) (fun c145 => ?_)
                    · refine jk_iload_n (q := 154) h dX10_pairs_153 rfl rfl ?_
                      exact jk_weak (jwk_s rfl (jwk_n (jwk_n (jwk_s rfl (jwk_s rfl (jwk_s rfl (jwk_s rfl (jwk_s rfl jwk_0)))))))) (jn154 _ (by constructor <;> omega))
                    · refine jk_iload (q := 150) h dX10_pairs_148 rfl rfl ?_
                      refine jk_goto (q := 153) (tgt := 154) h dX10_pairs_150 (by decide) ?_
                      exact jk_weak (jwk_s rfl (jwk_n (jwk_n (jwk_s rfl (jwk_s rfl (jwk_s rfl (jwk_s rfl (jwk_s rfl jwk_0)))))))) (jn154 _ (by constructor <;> omega))
                  refine jk_iload (q := 133) h dX10_pairs_131 rfl rfl ?_
                  refine jk_if_eq (q := 136) (tgt := 141) h dX10_pairs_133 (by decide) rfl ⟨by omega, by omega⟩ (fun c133 => ?_) (fun c133 => ?_)
                  · refine jk_iload_n (q := 142) h dX10_pairs_141 rfl rfl ?_
                    exact jk_weak (jwk_s rfl (jwk_n (jwk_s rfl (jwk_n (jwk_s rfl (jwk_s rfl (jwk_s rfl (jwk_s rfl jwk_0)))))))) (jn142 _ (by constructor <;> omega))
                  · refine jk_iload (q := 138) h dX10_pairs_136 rfl rfl ?_
                    refine jk_goto (q := 141) (tgt := 142) h dX10_pairs_138 (by decide) ?_
                    exact jk_weak (jwk_s rfl (jwk_n (jwk_s rfl (jwk_n (jwk_s rfl (jwk_s rfl (jwk_s rfl (jwk_s rfl jwk_0)))))))) (jn142 _ (by constructor <;> omega))
                have hw2 : w9 = 0 ∨ w9 = 1 := by { rcases hw9 with z | z; exact Or.inr z.1; exact Or.inl z.1 }
                refine jk_if_ne (q := 100) (tgt := 128) h dX10_pairs_97 (by decide) rfl ⟨by omega, by omega⟩ (fun c97 => ?_) (fun c97 => ?_)
                · have hwP : isPd pa pb k (y.1 i.toNat) (y.2.1 i.toNat) := by { rcases hw9 with z | z; exact z.2; exact absurd z.1 c97 }
                  refine jk_iconst (q := 129) h dX10_pairs_128 rfl ?_
                  exact jk_weak (jwk_s rfl (jwk_n (jwk_s rfl (jwk_s rfl (jwk_s rfl (jwk_s rfl (jwk_s rfl (jwk_n jwk_0)))))))) (jn129 _ (by first | exact Or.inl ⟨rfl, hwN, by omega⟩ | exact Or.inr ⟨rfl, Or.inl hwP⟩ | exact Or.inr ⟨rfl, Or.inr (by omega)⟩))
                · have hwN : ¬ isPd pa pb k (y.1 i.toNat) (y.2.1 i.toNat) := by { rcases hw9 with z | z; exact absurd z.1 (by omega); exact z.2 }
                  clear hw9
                  refine jk_iload (q := 102) h dX10_pairs_100 rfl rfl ?_
                  refine jk_iload_n (q := 103) h dX10_pairs_102 rfl rfl ?_
                  refine jk_icmp_gt (q := 106) (tgt := 124) h dX10_pairs_103 (by decide) rfl ⟨by omega, by omega⟩ ⟨by omega, by omega⟩ (fun c103 => ?_) (fun c103 => ?_)
                  · refine jk_iconst (q := 125) h dX10_pairs_124 rfl ?_
                    refine jk_goto (q := 128) (tgt := 129) h dX10_pairs_125 (by decide) ?_
                    exact jk_weak (jwk_s rfl (jwk_n (jwk_s rfl (jwk_s rfl (jwk_s rfl (jwk_s rfl (jwk_s rfl (jwk_n jwk_0)))))))) (jn129 _ (by first | exact Or.inl ⟨rfl, hwN, by omega⟩ | exact Or.inr ⟨rfl, Or.inl hwP⟩ | exact Or.inr ⟨rfl, Or.inr (by omega)⟩))
                  · refine jk_iload (q := 108) h dX10_pairs_106 rfl rfl ?_
                    refine jk_iload_n (q := 109) h dX10_pairs_108 rfl rfl ?_
                    refine jk_icmp_ne (q := 112) (tgt := 128) h dX10_pairs_109 (by decide) rfl ⟨by omega, by omega⟩ ⟨by omega, by omega⟩ (fun c109 => ?_) (fun c109 => ?_)
                    · refine jk_iconst (q := 129) h dX10_pairs_128 rfl ?_
                      exact jk_weak (jwk_s rfl (jwk_n (jwk_s rfl (jwk_s rfl (jwk_s rfl (jwk_s rfl (jwk_s rfl (jwk_n jwk_0)))))))) (jn129 _ (by first | exact Or.inl ⟨rfl, hwN, by omega⟩ | exact Or.inr ⟨rfl, Or.inl hwP⟩ | exact Or.inr ⟨rfl, Or.inr (by omega)⟩))
                    · refine jk_iload (q := 114) h dX10_pairs_112 rfl rfl ?_
                      refine jk_iconst (q := 115) h dX10_pairs_114 rfl ?_
                      refine jk_icmp_le (q := 118) (tgt := 128) h dX10_pairs_115 (by decide) rfl ⟨by omega, by omega⟩ ⟨by omega, by omega⟩ (fun c115 => ?_) (fun c115 => ?_)
                      · refine jk_iconst (q := 129) h dX10_pairs_128 rfl ?_
                        exact jk_weak (jwk_s rfl (jwk_n (jwk_s rfl (jwk_s rfl (jwk_s rfl (jwk_s rfl (jwk_s rfl (jwk_n jwk_0)))))))) (jn129 _ (by first | exact Or.inl ⟨rfl, hwN, by omega⟩ | exact Or.inr ⟨rfl, Or.inl hwP⟩ | exact Or.inr ⟨rfl, Or.inr (by omega)⟩))
                      · refine jk_iload (q := 120) h dX10_pairs_118 rfl rfl ?_
                        refine jk_iload_n (q := 121) h dX10_pairs_120 rfl rfl ?_
                        refine jk_icmp_ge (q := 124) (tgt := 128) h dX10_pairs_121 (by decide) rfl ⟨by omega, by omega⟩ ⟨by omega, by omega⟩ (fun c121 => ?_) (fun c121 => ?_)
                        · refine jk_iconst (q := 129) h dX10_pairs_128 rfl ?_
                          exact jk_weak (jwk_s rfl (jwk_n (jwk_s rfl (jwk_s rfl (jwk_s rfl (jwk_s rfl (jwk_s rfl (jwk_n jwk_0)))))))) (jn129 _ (by first | exact Or.inl ⟨rfl, hwN, by omega⟩ | exact Or.inr ⟨rfl, Or.inl hwP⟩ | exact Or.inr ⟨rfl, Or.inr (by omega)⟩))
                        · refine jk_iconst (q := 125) h dX10_pairs_124 rfl ?_
                          refine jk_goto (q := 128) (tgt := 129) h dX10_pairs_125 (by decide) ?_
                          exact jk_weak (jwk_s rfl (jwk_n (jwk_s rfl (jwk_s rfl (jwk_s rfl (jwk_s rfl (jwk_s rfl (jwk_n jwk_0)))))))) (jn129 _ (by first | exact Or.inl ⟨rfl, hwN, by omega⟩ | exact Or.inr ⟨rfl, Or.inl hwP⟩ | exact Or.inr ⟨rfl, Or.inr (by omega)⟩))
          exact jk_weak (jwk_s rfl (jwk_n (jwk_s rfl (jwk_s rfl (jwk_s rfl (jwk_n (jwk_n (jwk_n jwk_0)))))))) (lp31 _ 1 0 0 (by omega) (by omega) (bpI_0 y pa pb k) rfl)
  exact jk_weak (jwk_s rfl (jwk_s rfl (jwk_n (jwk_n (jwk_n (jwk_n (jwk_n (jwk_n jwk_0)))))))) (lp8 _ 1 0 σ1 jz jz jz _ (by omega) (by omega) (by omega) hσ (ppJ_0 y jz jz jz) e10 (fun i8 h0 h1 => absurd h1 (by omega)) (fun k hk => e1 k (by omega)) (fun z => absurd z (by decide)) hj rfl)
