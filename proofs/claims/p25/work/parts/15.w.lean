/-! buckets: the numbers alone -/
def fhS (all bn b : Int) : Int := all / bn + (if b < all % bn then 1 else 0)
def stB (all bn : Int) : Nat → Int
  | 0 => 0
  | b + 1 => stB all bn b + fhS all bn b
theorem stB_f {all bn : Int} : ∀ b : Nat, stB all bn b = b * (all / bn) + (if (b : Int) < all % bn then (b : Int) else if 0 ≤ all % bn then all % bn else 0)
  | 0 => by
    simp only [stB]
    split <;> (try split) <;> simp <;> omega
  | b + 1 => by
    simp only [stB, fhS]
    rw [stB_f b]
    have e : ((b + 1 : Nat) : Int) * (all / bn) = b * (all / bn) + all / bn := by rw [Int.natCast_add, Int.add_mul]; simp
    rw [e]
    generalize (b : Int) * (all / bn) = x
    generalize all / bn = y
    generalize all % bn = r
    split <;> split <;> (try split) <;> (try split) <;> omega
theorem stB_n {all bn : Int} (h : 0 < bn) (ha : 0 ≤ all) : stB all bn bn.toNat = all := by
  rw [stB_f]
  have h1 := Int.emod_nonneg all (show bn ≠ 0 by omega)
  have h2 := Int.emod_lt_of_pos all h
  have h3 := Int.mul_ediv_add_emod all bn
  rw [show ((bn.toNat : Nat) : Int) = bn by omega]
  rw [if_neg (by omega), if_pos h1]
  omega
theorem fhS_1 {all bn b : Int} (h : 0 < bn) (ha : bn ≤ all) : 1 ≤ fhS all bn b := by
  have : 1 ≤ all / bn := Int.le_ediv_of_mul_le h (by omega)
  unfold fhS
  split <;> omega
theorem stB_lt {all bn : Int} (h : 0 < bn) (ha : bn ≤ all) (b : Nat) : stB all bn b < stB all bn (b + 1) := by
  have := fhS_1 (b := b) h ha
  simp only [stB]
  omega
theorem stB_mono {all bn : Int} (h : 0 < bn) (ha : bn ≤ all) : ∀ {a b : Nat}, a ≤ b → stB all bn a ≤ stB all bn b
  | a, 0, hab => by rw [show a = 0 by omega]; exact Int.le_refl _
  | a, b + 1, hab => by
    by_cases e : a = b + 1
    · subst e; exact Int.le_refl _
    · have := stB_mono h ha (a := a) (b := b) (by omega)
      have := stB_lt h ha b
      omega
theorem stB_0 {all bn : Int} (h : 0 < bn) (ha : bn ≤ all) (b : Nat) : 0 ≤ stB all bn b := stB_mono h ha (Nat.zero_le b)
def ovl (lf : Nat → Int) (s e : Int) : Int := sm (fun v => if 0 < lf v ∧ sm lf v < e ∧ s < sm lf (v + 1) then 1 else 0) 100
theorem cum_1 {lf : Nat → Int} (h : ∀ k, 0 ≤ lf k) {u v : Nat} {p : Int} (hu : sm lf u ≤ p) (hu2 : p < sm lf (u + 1)) (hv : sm lf v ≤ p) (hv2 : p < sm lf (v + 1)) : u = v := by
  rcases Nat.lt_trichotomy u v with g | g | g
  · have := sm_mono h (m := u + 1) (n := v) (by omega)
    omega
  · exact g
  · have := sm_mono h (m := v + 1) (n := u) (by omega)
    omega
theorem ovl_new {lf : Nat → Int} (h : ∀ k, 0 ≤ lf k) {v : Nat} {p : Int} (hv : v < 100) (h1 : sm lf v ≤ p) (h2 : p < sm lf (v + 1)) : ovl lf p (p + 1) = 1 := by
  have e := sm_cong (f := fun w => if 0 < lf w ∧ sm lf w < p + 1 ∧ p < sm lf (w + 1) then (1 : Int) else 0) (g := fun w => if w = v then 1 else 0) (n := 100) (fun w _ => by
    by_cases hw : w = v
    · subst hw
      show (if _ then (1 : Int) else 0) = if _ then 1 else 0
      have hs : sm lf (w + 1) = sm lf w + lf w := rfl
      rw [if_pos rfl, if_pos ⟨by omega, by omega, h2⟩]
    · show (if _ then (1 : Int) else 0) = if _ then 1 else 0
      rw [if_neg hw, if_neg (fun z => hw (cum_1 h (by omega) z.2.2 h1 h2))])
  unfold ovl
  rw [e, sm_one hv]
theorem ovl_up {lf : Nat → Int} (h : ∀ k, 0 ≤ lf k) {v : Nat} {s p : Int} (hv : v < 100) (h1 : sm lf v ≤ p) (h2 : p < sm lf (v + 1)) (hs : s < p) : ovl lf s (p + 1) = ovl lf s p + (if sm lf v = p then 1 else 0) := by
  have e := sm_cong (f := fun w => if 0 < lf w ∧ sm lf w < p + 1 ∧ s < sm lf (w + 1) then (1 : Int) else 0) (g := fun w => (if 0 < lf w ∧ sm lf w < p ∧ s < sm lf (w + 1) then 1 else 0) + if w = v then (if sm lf v = p then 1 else 0) else 0) (n := 100) (fun w _ => by
    have hs2 : sm lf (w + 1) = sm lf w + lf w := rfl
    show (if _ then (1 : Int) else 0) = (if _ then 1 else 0) + if _ then _ else 0
    by_cases hw : w = v
    · subst hw
      rw [if_pos rfl]
      by_cases hp : sm lf w = p
      · rw [if_pos hp, if_pos ⟨by omega, by omega, by omega⟩, if_neg (fun z => by omega)]
        rfl
      · rw [if_neg hp]
        by_cases hc : 0 < lf w ∧ sm lf w < p ∧ s < sm lf (w + 1)
        · rw [if_pos hc, if_pos ⟨hc.1, by omega, hc.2.2⟩]
          rfl
        · rw [if_neg hc, if_neg (fun z => hc ⟨z.1, by omega, z.2.2⟩)]
          rfl
    · rw [if_neg hw]
      by_cases hc : 0 < lf w ∧ sm lf w < p ∧ s < sm lf (w + 1)
      · rw [if_pos hc, if_pos ⟨hc.1, by omega, hc.2.2⟩]
        rfl
      · rw [if_neg hc, if_neg (fun z => by
          by_cases hp : sm lf w = p
          · exact hw (cum_1 h (p := p) (by omega) (by omega) h1 h2)
          · exact hc ⟨z.1, by omega, z.2.2⟩)]
        rfl)
  unfold ovl
  rw [e, sm_add, sm_one hv]
/-- one bucket, from the place s to the place e -/
def bS (lf : Nat → Int) (s e lo hi br un : Int) : Prop := (0 ≤ lo ∧ lo ≤ 99) ∧ (0 ≤ hi ∧ hi ≤ 99) ∧ (sm lf lo.toNat ≤ s ∧ s < sm lf (lo.toNat + 1)) ∧ (sm lf hi.toNat ≤ e - 1 ∧ e - 1 < sm lf (hi.toNat + 1)) ∧ br = e - s ∧ un = ovl lf s e
theorem bS_eq {lf : Nat → Int} (h : ∀ k, 0 ≤ lf k) {s e lo hi br un lo2 hi2 br2 un2 : Int} (a : bS lf s e lo hi br un) (b : bS lf s e lo2 hi2 br2 un2) : lo = lo2 ∧ hi = hi2 ∧ br = br2 ∧ un = un2 := by
  obtain ⟨a1, a2, a3, a4, a5, a6⟩ := a
  obtain ⟨b1, b2, b3, b4, b5, b6⟩ := b
  have e1 := cum_1 h a3.1 a3.2 b3.1 b3.2
  have e2 := cum_1 h a4.1 a4.2 b4.1 b4.2
  exact ⟨by omega, by omega, by omega, by omega⟩
theorem bS_le {lf : Nat → Int} (h : ∀ k, 0 ≤ lf k) {s e lo hi br un : Int} (a : bS lf s e lo hi br un) (hse : s < e) : lo ≤ hi := by
  obtain ⟨a1, a2, a3, a4, a5, a6⟩ := a
  rcases Int.lt_or_le hi lo with g | g
  · have := sm_mono h (m := hi.toNat + 1) (n := lo.toNat) (by omega)
    omega
  · exact g
def bkQ (lf : Nat → Int) (all bn : Int) (lo hi br un : Nat → Int) : Prop := ∀ b : Nat, (b : Int) < bn → bS lf (stB all bn b) (stB all bn (b + 1)) (lo b) (hi b) (br b) (un b)
theorem bkQ_eq {lf : Nat → Int} (h : ∀ k, 0 ≤ lf k) {all bn : Int} {lo hi br un lo2 hi2 br2 un2 : Nat → Int} (a : bkQ lf all bn lo hi br un) (b : bkQ lf all bn lo2 hi2 br2 un2) : ∀ k : Nat, (k : Int) < bn → lo k = lo2 k ∧ hi k = hi2 k ∧ br k = br2 k ∧ un k = un2 k := fun k hk => bS_eq h (a k hk) (b k hk)
def pbI (lf : Nat → Int) (all bn p bk room : Int) (lo hi br un : Nat → Int) : Prop :=
  ((bk = -1 ∧ p = 0 ∧ room = 0) ∨ (0 ≤ bk ∧ bk < bn ∧ stB all bn bk.toNat < p ∧ p + room = stB all bn (bk.toNat + 1) ∧ 0 ≤ room)) ∧
  ∀ b : Nat, (b : Int) ≤ bk → bS lf (stB all bn b) (if p < stB all bn (b + 1) then p else stB all bn (b + 1)) (lo b) (hi b) (br b) (un b)
def pbM (lf : Nat → Int) (all bn p bk room : Int) (lo hi br un : Nat → Int) (v : Int) : Prop :=
  0 ≤ bk ∧ bk < bn ∧ stB all bn bk.toNat ≤ p ∧ p + room = stB all bn (bk.toNat + 1) ∧ 0 < room ∧
  (∀ b : Nat, (b : Int) < bk → bS lf (stB all bn b) (stB all bn (b + 1)) (lo b) (hi b) (br b) (un b)) ∧
  ((p = stB all bn bk.toNat ∧ lo bk.toNat = v ∧ hi bk.toNat = v ∧ br bk.toNat = 0 ∧ un bk.toNat = 1) ∨ (stB all bn bk.toNat < p ∧ bS lf (stB all bn bk.toNat) p (lo bk.toNat) (hi bk.toNat) (br bk.toNat) (un bk.toNat)))
theorem pbI_0 {lf : Nat → Int} {all bn : Int} {lo hi br un : Nat → Int} : pbI lf all bn 0 (-1) 0 lo hi br un := ⟨Or.inl ⟨rfl, rfl, rfl⟩, fun b hb => absurd hb (by omega)⟩
theorem pbI_m {lf : Nat → Int} {all bn p bk room v : Int} {lo hi br un : Nat → Int} (hbn : 0 < bn) (ha : bn ≤ all) (hr : room ≠ 0) (h : pbI lf all bn p bk room lo hi br un) : pbM lf all bn p bk room lo hi br un v := by
  obtain ⟨h1, h2⟩ := h
  rcases h1 with ⟨-, -, e⟩ | ⟨b1, b2, b3, b4, b5⟩
  · exact absurd e hr
  · refine ⟨b1, b2, by omega, b4, by omega, fun b hb => ?_, Or.inr ⟨b3, ?_⟩⟩
    · have h3 := h2 b (by omega)
      have h4 := stB_mono hbn ha (a := b + 1) (b := bk.toNat) (by omega)
      rwa [if_neg (by omega)] at h3
    · have h3 := h2 bk.toNat (by omega)
      rwa [if_pos (by omega)] at h3
theorem pbI_n {lf : Nat → Int} {all bn p bk v : Int} {lo hi br un : Nat → Int} (hbn : 0 < bn) (ha : bn ≤ all) (hp : p < all) (h : pbI lf all bn p bk 0 lo hi br un) : -1 ≤ bk ∧ bk + 1 < bn ∧ pbM lf all bn p (bk + 1) (fhS all bn (bk + 1)) (jfup lo (bk + 1).toNat v) (jfup hi (bk + 1).toNat v) (jfup br (bk + 1).toNat 0) (jfup un (bk + 1).toNat 1) v := by
  obtain ⟨h1, h2⟩ := h
  have hn := stB_n hbn (show 0 ≤ all by omega)
  have hst : p = stB all bn (bk + 1).toNat ∧ -1 ≤ bk := by
    rcases h1 with ⟨b1, b2, -⟩ | ⟨b1, b2, b3, b4, b5⟩
    · subst b1; subst b2
      exact ⟨rfl, by omega⟩
    · rw [show (bk + 1).toNat = bk.toNat + 1 by omega]
      exact ⟨by omega, by omega⟩
  obtain ⟨hst, hb1⟩ := hst
  have hlt : bk + 1 < bn := by
    rcases Int.lt_or_le (bk + 1) bn with g | g
    · exact g
    · have := stB_mono hbn ha (a := bn.toNat) (b := (bk + 1).toNat) (by omega)
      omega
  have hf := fhS_1 (b := bk + 1) hbn ha
  have hs : stB all bn ((bk + 1).toNat + 1) = stB all bn (bk + 1).toNat + fhS all bn (bk + 1) := by
    show stB all bn (bk + 1).toNat + fhS all bn _ = _
    rw [show (((bk + 1).toNat : Nat) : Int) = bk + 1 by omega]
  refine ⟨hb1, hlt, by omega, hlt, by omega, by omega, by omega, fun b hb => ?_, Or.inl ⟨hst, jfup_s _ _ _, jfup_s _ _ _, jfup_s _ _ _, jfup_s _ _ _⟩⟩
  have h3 := h2 b (by omega)
  have h4 := stB_mono hbn ha (a := b + 1) (b := (bk + 1).toNat) (by omega)
  rw [jfup_n _ _ (by omega), jfup_n _ _ (by omega), jfup_n _ _ (by omega), jfup_n _ _ (by omega)]
  rwa [if_neg (by omega)] at h3
theorem pbM_s {lf : Nat → Int} (hlf : ∀ k, 0 ≤ lf k) {all bn p bk room : Int} {v : Nat} {lo hi br un un2 : Nat → Int} (hbn : 0 < bn) (ha : bn ≤ all) (hv : v < 100) (h1 : sm lf v ≤ p) (h2 : p < sm lf (v + 1)) (h : pbM lf all bn p bk room lo hi br un v)
    (hu : un2 = if (v : Int) = hi bk.toNat then un else jfup un bk.toNat (un bk.toNat + 1)) : pbI lf all bn (p + 1) bk (room - 1) lo (jfup hi bk.toNat v) (jfup br bk.toNat (br bk.toNat + 1)) un2 ∧ (0 ≤ br bk.toNat ∧ br bk.toNat ≤ p) := by
  obtain ⟨b1, b2, b3, b4, b5, b6, b7⟩ := h
  have h0 := stB_0 hbn ha bk.toNat
  refine ⟨⟨Or.inr ⟨b1, b2, by omega, by omega, by omega⟩, fun b hb => ?_⟩, ?_⟩
  · by_cases hbk : (b : Int) < bk
    · have h3 := b6 b hbk
      have h4 := stB_mono hbn ha (a := b + 1) (b := bk.toNat) (by omega)
      rw [if_neg (by omega), jfup_n _ _ (by omega), jfup_n _ _ (by omega)]
      have e : un2 b = un b := by
        rw [hu]
        split
        · rfl
        · exact jfup_n _ _ (by omega)
      rw [e]
      exact h3
    · have e : b = bk.toNat := by omega
      subst e
      have e1 : (if p + 1 < stB all bn (bk.toNat + 1) then p + 1 else stB all bn (bk.toNat + 1)) = p + 1 := by split <;> omega
      rw [e1, jfup_s, jfup_s]
      rcases b7 with ⟨c1, c2, c3, c4, c5⟩ | ⟨c1, c2⟩
      · rw [if_pos c3.symm] at hu
        refine ⟨by omega, by omega, ⟨by rw [c2, Int.toNat_natCast]; omega, by rw [c2, Int.toNat_natCast]; omega⟩, ⟨by rw [Int.toNat_natCast]; omega, by rw [Int.toNat_natCast]; omega⟩, by omega, ?_⟩
        rw [hu, c5, ← c1, ovl_new hlf hv h1 h2]
      · obtain ⟨d1, d2, d3, d4, d5, d6⟩ := c2
        refine ⟨d1, by omega, d3, ⟨by rw [Int.toNat_natCast]; omega, by rw [Int.toNat_natCast]; omega⟩, by omega, ?_⟩
        rw [ovl_up hlf hv h1 h2 c1]
        by_cases hc : sm lf v = p
        · have hne : ¬ (v : Int) = hi bk.toNat := fun z => by
            have : (hi bk.toNat).toNat = v := by omega
            rw [this] at d4
            omega
          rw [if_neg hne] at hu
          rw [hu, jfup_s, if_pos hc, d6]
        · have heq : (v : Int) = hi bk.toNat := by
            have := cum_1 hlf (u := v) (v := (hi bk.toNat).toNat) (p := p - 1) (by omega) (by omega) d4.1 d4.2
            omega
          rw [if_pos heq] at hu
          rw [hu, if_neg hc, d6, Int.add_zero]
  · rcases b7 with ⟨c1, c2, c3, c4, c5⟩ | ⟨c1, d1, d2, d3, d4, d5, d6⟩ <;> omega
theorem pbI_e {lf : Nat → Int} {all bn bk room : Int} {lo hi br un : Nat → Int} (hbn : 0 < bn) (ha : bn ≤ all) (h : pbI lf all bn all bk room lo hi br un) : bkQ lf all bn lo hi br un := by
  intro b hb
  obtain ⟨h1, h2⟩ := h
  have hn := stB_n hbn (show 0 ≤ all by omega)
  rcases h1 with ⟨-, b2, -⟩ | ⟨b1, b2, b3, b4, b5⟩
  · omega
  · have h5 := stB_mono hbn ha (a := bk.toNat + 1) (b := bn.toNat) (by omega)
    have h6 : bn ≤ bk + 1 := by
      rcases Int.lt_or_le (bk + 1) bn with g | g
      · have h7 := stB_lt hbn ha (bk.toNat + 1)
        have h8 := stB_mono hbn ha (a := bk.toNat + 1 + 1) (b := bn.toNat) (by omega)
        omega
      · exact g
    have h3 := h2 b (by omega)
    have h9 := stB_mono hbn ha (a := b + 1) (b := bn.toNat) (by omega)
    rwa [if_neg (by omega)] at h3
