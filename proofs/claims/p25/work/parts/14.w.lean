/-! counts, choices, cuts: the numbers alone -/
def hcS (f : Nat → Int) (z : Int) : Nat → Int := fun v => smI (fun k => if f k = (v : Int) then 1 else 0) z
theorem hcS_0 (f : Nat → Int) : hcS f 0 = jz := rfl
theorem hcS_bd {f : Nat → Int} {z : Int} (h : 0 ≤ z) (v : Nat) : 0 ≤ hcS f z v ∧ hcS f z v ≤ z := smI_01 h
theorem hcS_up {f : Nat → Int} {i v : Int} (h0 : 0 ≤ i) (hv : f i.toNat = v) (hv0 : 0 ≤ v) : jfup (hcS f i) v.toNat (hcS f i v.toNat + 1) = hcS f (i + 1) := by
  funext k
  simp only [jfup, hcS]
  rw [smI_s h0]
  by_cases hk : k = v.toNat
  · subst hk
    rw [if_pos rfl, if_pos (by rw [hv]; omega)]
  · rw [if_neg hk, if_neg (by rw [hv]; omega)]
    omega
abbrev colT (y : TT) (q : Int) : Nat → Int := if q = 0 then y.1 else y.2.1
theorem colT_F {y : TT} {q : Int} (h : tbQ y) : jrF (colT y q) 0 99 := fun k => by
  unfold colT
  split
  · exact h.1 k
  · exact h.2.1 k
-- the greatest of those that are meant
def mxS (p : Nat → Prop) [DecidablePred p] (r : Nat → Int) : Nat → Int
  | 0 => 0
  | n + 1 => if p n ∧ mxS p r n < r n then r n else mxS p r n
def mxI (p : Nat → Prop) [DecidablePred p] (r : Nat → Int) (z : Int) : Int := mxS p r z.toNat
theorem mxI_s {p : Nat → Prop} [DecidablePred p] {r : Nat → Int} {z : Int} (h : 0 ≤ z) : mxI p r (z + 1) = if p z.toNat ∧ mxI p r z < r z.toNat then r z.toNat else mxI p r z := by
  unfold mxI
  rw [show (z + 1).toNat = z.toNat + 1 by omega]
  rfl
theorem mxS_spec {p : Nat → Prop} [DecidablePred p] {r : Nat → Int} : ∀ (n : Nat), 0 ≤ mxS p r n ∧ (mxS p r n = 0 ∨ ∃ k, k < n ∧ p k ∧ mxS p r n = r k) ∧ ∀ k, k < n → p k → r k ≤ mxS p r n
  | 0 => ⟨Int.le_refl _, Or.inl rfl, fun k h => absurd h (by omega)⟩
  | n + 1 => by
    obtain ⟨h1, h2, h3⟩ := mxS_spec (p := p) (r := r) n
    simp only [mxS]
    by_cases hc : p n ∧ mxS p r n < r n
    · rw [if_pos hc]
      refine ⟨by omega, Or.inr ⟨n, by omega, hc.1, rfl⟩, fun k hk hp => ?_⟩
      by_cases hkn : k = n
      · subst hkn; exact Int.le_refl _
      · have := h3 k (by omega) hp; omega
    · rw [if_neg hc]
      refine ⟨h1, ?_, fun k hk hp => ?_⟩
      · rcases h2 with h2 | ⟨k, a, b, c⟩
        · exact Or.inl h2
        · exact Or.inr ⟨k, by omega, b, c⟩
      · by_cases hkn : k = n
        · subst hkn
          have : ¬ mxS p r k < r k := fun z => hc ⟨hp, z⟩
          omega
        · exact h3 k (by omega) hp
/-- choices by rank: the greatest first, none left out before the number is full -/
def CSq (S : Int → Prop) (m n : Int) (r : Nat → Int) : Prop := 0 ≤ n ∧ n ≤ m ∧ (∀ k : Nat, (k : Int) < n → S (r k)) ∧ (∀ j k : Nat, j < k → (k : Int) < n → r k < r j) ∧ ∀ s, S s → (∃ k : Nat, (k : Int) < n ∧ r k = s) ∨ (n = m ∧ ∀ k : Nat, (k : Int) < n → s < r k)
theorem CSq_eq {S : Int → Prop} {m n n2 : Int} {r r2 : Nat → Int} (h : CSq S m n r) (h2 : CSq S m n2 r2) : ∀ k : Nat, (k : Int) < n → (k : Int) < n2 → r k = r2 k := by
  intro k
  induction k using Nat.strongRecOn with
  | _ k ih =>
    intro hk hk2
    obtain ⟨a1, a2, a3, a4, a5⟩ := h
    obtain ⟨b1, b2, b3, b4, b5⟩ := h2
    have p1 : r k ≤ r2 k := by
      rcases b5 _ (a3 k hk) with ⟨j, hj, e⟩ | ⟨e, hj⟩
      · rcases Nat.lt_trichotomy j k with g | g | g
        · have := ih j g (by omega) hj
          have := a4 j k g hk
          omega
        · subst g; omega
        · have := b4 k j g hj
          omega
      · have := hj k hk2
        omega
    have p2 : r2 k ≤ r k := by
      rcases a5 _ (b3 k hk2) with ⟨j, hj, e⟩ | ⟨e, hj⟩
      · rcases Nat.lt_trichotomy j k with g | g | g
        · have := ih j g hj (by omega)
          have := b4 j k g hk2
          omega
        · subst g; omega
        · have := a4 k j g hj
          omega
      · have := hj k hk
        omega
    omega
theorem CSq_le {S : Int → Prop} {m n n2 : Int} {r r2 : Nat → Int} (h : CSq S m n r) (h2 : CSq S m n2 r2) : n2 ≤ n := by
  rcases Int.lt_or_le n n2 with hlt | hle
  · exfalso
    have e := CSq_eq h h2
    obtain ⟨a1, a2, a3, a4, a5⟩ := h
    obtain ⟨b1, b2, b3, b4, b5⟩ := h2
    have hn : ((n.toNat : Nat) : Int) = n := by omega
    rcases a5 _ (b3 n.toNat (by omega)) with ⟨j, hj, e2⟩ | ⟨e2, hj⟩
    · have := e j hj (by omega)
      have := b4 j n.toNat (by omega) (by omega)
      omega
    · omega
  · exact hle
theorem CSq_n {S : Int → Prop} {m n n2 : Int} {r r2 : Nat → Int} (h : CSq S m n r) (h2 : CSq S m n2 r2) : n = n2 := Int.le_antisymm (CSq_le h2 h) (CSq_le h h2)
def rnk (had : Nat → Int) (k : Nat) : Int := had k * 100 + 99 - k
theorem rnk_inj {had : Nat → Int} {u v : Nat} (hu : u < 100) (hv : v < 100) (e : rnk had u = rnk had v) : u = v := by
  unfold rnk at e
  omega
abbrev cmR (had : Nat → Int) : Int → Prop := fun s => ∃ v : Nat, v < 100 ∧ 2 ≤ had v ∧ s = rnk had v
/-- the common values are chosen -/
def cmQ (had : Nat → Int) (m n : Int) (cv cr : Nat → Int) : Prop := (∀ k : Nat, (k : Int) < n → 0 ≤ cv k ∧ cv k ≤ 99 ∧ cr k = had (cv k).toNat) ∧ CSq (cmR had) m n (fun k => rnk had (cv k).toNat)
theorem cmQ_eq {had : Nat → Int} {m n n2 : Int} {cv cr cv2 cr2 : Nat → Int} (h : cmQ had m n cv cr) (h2 : cmQ had m n2 cv2 cr2) : n = n2 ∧ ∀ k : Nat, (k : Int) < n → cv k = cv2 k ∧ cr k = cr2 k := by
  have hn := CSq_n h.2 h2.2
  refine ⟨hn, fun k hk => ?_⟩
  have e := CSq_eq h.2 h2.2 k hk (by omega)
  obtain ⟨a1, a2, a3⟩ := h.1 k hk
  obtain ⟨b1, b2, b3⟩ := h2.1 k (by omega)
  have e2 := rnk_inj (by omega) (by omega) e
  exact ⟨by omega, by rw [a3, b3, e2]⟩
def ccI (had : Nat → Int) (i last : Int) (cv cr : Nat → Int) : Prop := (∀ k : Nat, (k : Int) < i → ∃ v : Nat, v < 100 ∧ 2 ≤ had v ∧ cv k = v ∧ cr k = had v) ∧ (∀ j k : Nat, j < k → (k : Int) < i → rnk had (cv k).toNat < rnk had (cv j).toNat) ∧ (∀ k : Nat, (k : Int) < i → last ≤ rnk had (cv k).toNat) ∧ (∀ v : Nat, v < 100 → 2 ≤ had v → (∃ k : Nat, (k : Int) < i ∧ cv k = v) ∨ rnk had v < last) ∧ 0 < last ∧ last ≤ 1000000
theorem ccI_0 {had cv cr : Nat → Int} (h : jrF had 0 60) : ccI had 0 1000000 cv cr := by
  refine ⟨fun k hk => absurd hk (by omega), fun j k _ hk => absurd hk (by omega), fun k hk => absurd hk (by omega), fun v hv h2 => Or.inr ?_, by omega, by omega⟩
  have := h v
  unfold rnk
  omega
abbrev ccp (had : Nat → Int) (last : Int) : Nat → Prop := fun v => 2 ≤ had v ∧ rnk had v < last
theorem ccI_s {had cv cr : Nat → Int} {i last nr : Int} (hi : 0 ≤ i) (h : ccI had i last cv cr) (he : nr = mxI (ccp had last) (rnk had) 100) (hn : nr ≠ 0) : ccI had (i + 1) nr (jfup cv i.toNat (99 - nr % 100)) (jfup cr i.toNat (nr / 100)) ∧ (0 ≤ 99 - nr % 100 ∧ 99 - nr % 100 ≤ 99) ∧ 200 ≤ nr := by
  obtain ⟨a1, a2, a3, a4, a5, a6⟩ := h
  obtain ⟨s1, s2, s3⟩ := mxS_spec (p := ccp had last) (r := rnk had) 100
  have he2 : nr = mxS (ccp had last) (rnk had) 100 := he
  rw [← he2] at s1 s2 s3
  rcases s2 with s2 | ⟨v, hv, hp, e⟩
  · exact absurd s2 hn
  have em : nr % 100 = 99 - (v : Int) := by rw [e]; unfold rnk; omega
  have ed : nr / 100 = had v := by rw [e]; unfold rnk; omega
  have hnew : ∀ k : Nat, k = i.toNat → jfup cv i.toNat (99 - nr % 100) k = v := fun k hk => by rw [hk, jfup_s]; omega
  have hold : ∀ k : Nat, (k : Int) < i → jfup cv i.toNat (99 - nr % 100) k = cv k := fun k hk => jfup_n _ _ (by omega)
  refine ⟨⟨fun k hk => ?_, fun j k hj hk => ?_, fun k hk => ?_, fun w hw h2 => ?_, by omega, by have := hp.2; omega⟩, by omega, by have := hp.1; rw [e]; unfold rnk; omega⟩
  · by_cases hki : (k : Int) < i
    · rw [hold k hki, jfup_n _ _ (by omega)]
      exact a1 k hki
    · have hk2 : k = i.toNat := by omega
      refine ⟨v, hv, hp.1, hnew k hk2, ?_⟩
      rw [hk2, jfup_s]
      exact ed
  · by_cases hki : (k : Int) < i
    · rw [hold k hki, hold j (by omega)]
      exact a2 j k hj hki
    · have hk2 : k = i.toNat := by omega
      rw [hnew k hk2, hold j (by omega)]
      have := a3 j (by omega)
      have := hp.2
      rw [Int.toNat_natCast]
      omega
  · by_cases hki : (k : Int) < i
    · rw [hold k hki]
      have := a3 k hki
      have := hp.2
      omega
    · have hk2 : k = i.toNat := by omega
      rw [hnew k hk2, Int.toNat_natCast]
      omega
  · rcases a4 w hw h2 with ⟨k, hk, ek⟩ | hl
    · exact Or.inl ⟨k, by omega, by rw [hold k hk]; exact ek⟩
    · by_cases hwv : w = v
      · subst hwv
        exact Or.inl ⟨i.toNat, by omega, hnew _ rfl⟩
      · right
        have := s3 w hw ⟨h2, hl⟩
        rcases Int.lt_or_le (rnk had w) nr with g | g
        · exact g
        · exact absurd (rnk_inj (had := had) hw hv (by omega)) hwv
theorem ccI_e {had cv cr : Nat → Int} {i last m : Int} (hi : 0 ≤ i) (hm : i ≤ m) (h : ccI had i last cv cr) (hz : i = m ∨ mxI (ccp had last) (rnk had) 100 = 0) (hh : jrF had 0 60) : cmQ had m i cv cr := by
  obtain ⟨a1, a2, a3, a4, a5, a6⟩ := h
  refine ⟨fun k hk => ?_, hi, hm, fun k hk => ?_, a2, fun s hs => ?_⟩
  · obtain ⟨v, h1, h2, h3, h4⟩ := a1 k hk
    exact ⟨by omega, by omega, by rw [h4, h3, Int.toNat_natCast]⟩
  · obtain ⟨v, h1, h2, h3, h4⟩ := a1 k hk
    exact ⟨v, h1, h2, by show rnk had (cv k).toNat = _; rw [h3, Int.toNat_natCast]⟩
  · obtain ⟨v, h1, h2, rfl⟩ := hs
    rcases a4 v h1 h2 with ⟨k, hk, ek⟩ | hl
    · exact Or.inl ⟨k, hk, by show rnk had (cv k).toNat = _; rw [ek, Int.toNat_natCast]⟩
    · right
      rcases hz with hz | hz
      · exact ⟨hz, fun k hk => Int.lt_of_lt_of_le hl (a3 k hk)⟩
      · exfalso
        obtain ⟨s1, s2, s3⟩ := mxS_spec (p := ccp had last) (r := rnk had) 100
        have := s3 v h1 ⟨h2, hl⟩
        have e0 : mxS (ccp had last) (rnk had) 100 = 0 := hz
        rw [e0] at this
        have := hh v
        unfold rnk at *
        omega
-- sums of parts
theorem sm_add {f g : Nat → Int} : ∀ {n : Nat}, sm (fun k => f k + g k) n = sm f n + sm g n
  | 0 => rfl
  | n + 1 => by
    simp only [sm]
    rw [sm_add]
    omega
theorem sm_one {a : Int} {i : Nat} : ∀ {n : Nat}, i < n → sm (fun k => if k = i then a else 0) n = a
  | 0, h => absurd h (by omega)
  | n + 1, h => by
    simp only [sm]
    by_cases hi : i = n
    · subst hi
      rw [if_pos rfl]
      have : sm (fun k => if k = i then a else 0) i = 0 := by
        have e := sm_cong (f := fun k => if k = i then a else 0) (g := fun _ => 0) (n := i) (fun k hk => by show (if k = i then a else 0) = 0; rw [if_neg (by omega)])
        rw [e]
        exact sm_zero i
      omega
    · rw [if_neg (Ne.symm hi), sm_one (by omega)]
      omega
where sm_zero : ∀ n : Nat, sm (fun _ => 0) n = 0
  | 0 => rfl
  | n + 1 => by simp only [sm]; rw [sm_zero n]; rfl
theorem sm_zer : ∀ n : Nat, sm (fun _ => 0) n = 0
  | 0 => rfl
  | n + 1 => by simp only [sm]; rw [sm_zer n]; rfl
theorem sm_mono {f : Nat → Int} (h : ∀ k, 0 ≤ f k) : ∀ {m n : Nat}, m ≤ n → sm f m ≤ sm f n
  | m, 0, hm => by rw [show m = 0 by omega]; exact Int.le_refl _
  | m, n + 1, hm => by
    by_cases he : m = n + 1
    · subst he; exact Int.le_refl _
    · have := sm_mono h (m := m) (n := n) (by omega)
      have := h n
      simp only [sm]
      omega
/-- each row has one value -/
theorem hcS_sum {f : Nat → Int} (h : jrF f 0 99) : ∀ {z : Nat}, sm (hcS f z) 100 = z
  | 0 => by
    have e := sm_cong (f := hcS f ((0 : Nat) : Int)) (g := fun _ => 0) (n := 100) (fun k _ => rfl)
    rw [e, sm_zer]
    rfl
  | z + 1 => by
    have ih := hcS_sum h (z := z)
    have e := sm_cong (f := hcS f ((z + 1 : Nat) : Int)) (g := fun v => hcS f z v + if v = (f z).toNat then 1 else 0) (n := 100) (fun v _ => by
      have := h z
      show smI _ _ = _
      rw [show ((z + 1 : Nat) : Int) = (z : Int) + 1 by omega, smI_s (by omega), Int.toNat_natCast]
      simp only [hcS]
      by_cases hv : v = (f z).toNat
      · have hv2 : f z = (v : Int) := by omega
        rw [if_pos hv, if_pos hv2]
      · have hv2 : ¬ f z = (v : Int) := by omega
        rw [if_neg hv, if_neg hv2])
    rw [e, sm_add, ih, sm_one (by have := h z; omega)]
    omega
/-- what the common values leave -/
def lfS (had cv : Nat → Int) (cn : Int) : Nat → Int := fun v => if isC cv cn v = true then 0 else had v
theorem lfS_sum {had cv cr : Nat → Int} : ∀ {c : Nat}, (∀ k : Nat, k < c → 0 ≤ cv k ∧ cv k ≤ 99 ∧ cr k = had (cv k).toNat) → (∀ j k : Nat, j < k → k < c → cv j ≠ cv k) → sm (lfS had cv c) 100 + sm cr c = sm had 100
  | 0, _, _ => by
    have e := sm_cong (f := lfS had cv ((0 : Nat) : Int)) (g := had) (n := 100) (fun v _ => by
      unfold lfS isC
      simp [jany])
    rw [e]
    simp [sm]
  | c + 1, h, hd => by
    have ih := lfS_sum (c := c) (fun k hk => h k (by omega)) (fun j k hj hk => hd j k hj (by omega))
    obtain ⟨h1, h2, h3⟩ := h c (by omega)
    have e := sm_cong (f := lfS had cv (c : Int)) (g := fun v => lfS had cv ((c + 1 : Nat) : Int) v + if v = (cv c).toNat then cr c else 0) (n := 100) (fun v _ => by
      unfold lfS isC
      simp only [Int.toNat_natCast, jany]
      by_cases hv : v = (cv c).toNat
      · have hn : jany (fun k => decide (cv k = (v : Int))) c = false := by
          rw [Bool.eq_false_iff]
          intro hj
          obtain ⟨k, k1, k2⟩ := jany_iff.mp hj
          have k3 : cv k = v := by simpa using k2
          exact hd k c k1 (by omega) (by omega)
        have hv2 : cv c = (v : Int) := by omega
        have hq : cr c = had v := by rw [h3, hv]
        rw [if_pos hv, if_neg (by rw [hn]; decide), if_pos (by rw [decide_eq_true hv2, Bool.or_true]), hq]
        omega
      · have hv2 : ¬ cv c = (v : Int) := by omega
        rw [if_neg hv, decide_eq_false hv2, Bool.or_false, Int.add_zero])
    rw [e, sm_add, sm_one (by omega)] at ih
    have hs : sm cr (c + 1) = sm cr c + cr c := rfl
    omega
