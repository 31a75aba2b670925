/-! pure facts of what an analysis remembers -/
theorem qs_cong0 {f : Nat → Int} : ∀ {n : Nat}, (∀ k, k < n → f k = 0) → sm f n = 0
  | 0, _ => rfl
  | n + 1, h => by rw [sm, qs_cong0 (fun k hk => h k (by omega)), h n (by omega)]; rfl
/-- a sum over what lies between two bounds -/
theorem qs_rng {g : Nat → Int} {lo hi : Int} (h0 : 0 ≤ lo) (h1 : lo ≤ hi + 1) : ∀ n : Nat, sm (fun v => if lo ≤ (v : Int) ∧ (v : Int) ≤ hi then g v else 0) n = if (n : Int) ≤ lo then 0 else if (n : Int) ≤ hi + 1 then sm g n - sm g lo.toNat else sm g (hi + 1).toNat - sm g lo.toNat
  | 0 => by
    rw [if_pos (by omega)]
    rfl
  | n + 1 => by
    rw [sm, qs_rng h0 h1 n]
    by_cases a : ((n : Int) + 1) ≤ lo
    · rw [if_pos (by omega), if_neg (by omega), if_pos (by omega)]
      rfl
    · rw [if_neg (show ¬ (((n + 1 : Nat) : Int) ≤ lo) by omega)]
      by_cases b : (n : Int) ≤ lo
      · have e : lo.toNat = n := by omega
        rw [if_pos b, e]
        by_cases c : ((n + 1 : Nat) : Int) ≤ hi + 1
        · rw [if_pos c, if_pos ⟨by omega, by omega⟩, sm]
          omega
        · rw [if_neg c, if_neg (by omega)]
          have e2 : (hi + 1).toNat = n := by omega
          rw [e2]
          omega
      · rw [if_neg b]
        by_cases c : ((n + 1 : Nat) : Int) ≤ hi + 1
        · rw [if_pos c, if_pos (by omega), if_pos ⟨by omega, by omega⟩, sm]
          omega
        · rw [if_neg c, if_neg (show ¬ (lo ≤ (n : Int) ∧ (n : Int) ≤ hi) by omega)]
          by_cases d : (n : Int) ≤ hi + 1
          · have e2 : (hi + 1).toNat = n := by omega
            rw [if_pos d, e2]
            omega
          · rw [if_neg d]
            omega
theorem qs_rng100 {g : Nat → Int} {lo hi : Int} (h0 : 0 ≤ lo) (h1 : lo ≤ hi + 1) (h2 : hi ≤ 99) : sm (fun v => if lo ≤ (v : Int) ∧ (v : Int) ≤ hi then g v else 0) 100 = sm g (hi + 1).toNat - sm g lo.toNat := by
  rw [qs_rng h0 h1]
  by_cases a : ((100 : Nat) : Int) ≤ lo
  · rw [if_pos a]
    have e1 : (hi + 1).toNat = 100 := by omega
    have e2 : lo.toNat = 100 := by omega
    rw [e1, e2]
    omega
  · rw [if_neg a]
    by_cases b : ((100 : Nat) : Int) ≤ hi + 1
    · rw [if_pos b]
      have e1 : (hi + 1).toNat = 100 := by omega
      rw [e1]
    · rw [if_neg b]
/-- how many rows have a value between two bounds: by the values, by the rows -/
theorem qs_one {a v : Int} : ∀ {n : Nat} {lo hi : Int}, sm (fun k => if lo ≤ (k : Int) ∧ (k : Int) ≤ hi then (if v = (k : Int) then 1 else 0) else 0) n = if (0 ≤ v ∧ v < n) ∧ lo ≤ v ∧ v ≤ hi then 1 else 0
  | 0, lo, hi => by
    rw [if_neg (by omega)]
    rfl
  | n + 1, lo, hi => by
    have ih := qs_one (a := a) (v := v) (n := n) (lo := lo) (hi := hi)
    simp only [sm]
    rw [ih]
    (repeat' split) <;> omega
theorem qs_cnt {f : Nat → Int} (hf : jrF f 0 99) {lo hi : Int} : ∀ {z : Nat}, sm (fun v => if lo ≤ (v : Int) ∧ (v : Int) ≤ hi then hcS f z v else 0) 100 = sm (fun k => if lo ≤ f k ∧ f k ≤ hi then (1 : Int) else 0) z
  | 0 => qs_cong0 (fun k _ => by
      split
      · rfl
      · rfl)
  | z + 1 => by
    have e0 : sm (fun k => if lo ≤ f k ∧ f k ≤ hi then (1 : Int) else 0) (z + 1) = sm (fun k => if lo ≤ f k ∧ f k ≤ hi then (1 : Int) else 0) z + (if lo ≤ f z ∧ f z ≤ hi then 1 else 0) := rfl
    rw [e0, ← qs_cnt hf (z := z)]
    have e1 : (fun v : Nat => if lo ≤ (v : Int) ∧ (v : Int) ≤ hi then hcS f ((z + 1 : Nat) : Int) v else 0) = fun v : Nat => (if lo ≤ (v : Int) ∧ (v : Int) ≤ hi then hcS f (z : Int) v else 0) + (if lo ≤ (v : Int) ∧ (v : Int) ≤ hi then (if f z = (v : Int) then 1 else 0) else 0) := by
      funext v
      by_cases h : lo ≤ (v : Int) ∧ (v : Int) ≤ hi
      · rw [if_pos h, if_pos h, if_pos h]
        show hcS f ((z : Int) + 1) v = _
        unfold hcS
        rw [smI_s (by omega)]
        rfl
      · rw [if_neg h, if_neg h, if_neg h]
        rfl
    rw [e1, sm_add, qs_one (a := 0)]
    have h9 := hf z
    by_cases h : lo ≤ f z ∧ f z ≤ hi
    · rw [if_pos ⟨by omega, h⟩, if_pos h]
    · rw [if_neg (by omega), if_neg h]
section QLR
variable {f : Nat → Int} {sz mc mb : Int} {x : TC}
theorem qr_cm (h : lrQ f sz mc mb x) {k : Nat} (hk : (k : Int) < x.2.2.2.1) : 0 ≤ x.2.1 k ∧ x.2.1 k ≤ 99 ∧ x.2.2.1 k = x.1 (x.2.1 k).toNat ∧ 2 ≤ x.2.2.1 k := by
  obtain ⟨h1, ⟨h2, h3⟩, -, -⟩ := h
  obtain ⟨a1, a2, a3⟩ := h2 k hk
  refine ⟨a1, a2, a3, ?_⟩
  obtain ⟨v, hv, hv2, he⟩ := h3.2.2.1 k hk
  have e := rnk_inj (had := x.1) (u := (x.2.1 k).toNat) (v := v) (by omega) hv he
  rw [a3, e]
  exact hv2
theorem qr_cm_dec (h : lrQ f sz mc mb x) {k : Nat} (hk : (k : Int) + 1 < x.2.2.2.1) : x.2.2.1 (k + 1) ≤ x.2.2.1 k := by
  have a := qr_cm h (k := k) (by omega)
  have b := qr_cm h (k := k + 1) (by omega)
  have c : rnk x.1 (x.2.1 (k + 1)).toNat < rnk x.1 (x.2.1 k).toNat := h.2.1.2.2.2.2.1 k (k + 1) (by omega) (by omega)
  unfold rnk at c
  rw [← a.2.2.1, ← b.2.2.1] at c
  omega
theorem qr_cm_ne (h : lrQ f sz mc mb x) {j k : Nat} (hjk : j < k) (hk : (k : Int) < x.2.2.2.1) : x.2.1 j ≠ x.2.1 k := fun e => by
  have c : rnk x.1 (x.2.1 k).toNat < rnk x.1 (x.2.1 j).toNat := h.2.1.2.2.2.2.1 j k hjk hk
  rw [e] at c
  omega
theorem qr_lf0 (h : lrQ f sz mc mb x) (hs : 0 ≤ sz) (k : Nat) : 0 ≤ lfS x.1 x.2.1 x.2.2.2.1 k := by
  unfold lfS
  split
  · omega
  · rw [h.1]
    exact (hcS_bd hs k).1
theorem qr_bn (h : lrQ f sz mc mb x) (hs : 0 ≤ sz) (hb : 1 ≤ mb) : 0 ≤ sm (lfS x.1 x.2.1 x.2.2.2.1) 100 ∧ (x.2.2.2.2.2.2.2.2 = 0 ∧ sm (lfS x.1 x.2.1 x.2.2.2.1) 100 = 0 ∨ 0 < x.2.2.2.2.2.2.2.2) ∧ x.2.2.2.2.2.2.2.2 ≤ sm (lfS x.1 x.2.1 x.2.2.2.1) 100 := by
  have h0 : 0 ≤ sm (lfS x.1 x.2.1 x.2.2.2.1) 100 := sm_nn (qr_lf0 h hs) _
  have h3 := h.2.2.1
  refine ⟨h0, ?_, ?_⟩
  · rw [h3]
    split <;> omega
  · rw [h3]
    split <;> omega
theorem qr_bk (h : lrQ f sz mc mb x) {k : Nat} (hk : (k : Int) < x.2.2.2.2.2.2.2.2) : bS (lfS x.1 x.2.1 x.2.2.2.1) (stB (sm (lfS x.1 x.2.1 x.2.2.2.1) 100) x.2.2.2.2.2.2.2.2 k) (stB (sm (lfS x.1 x.2.1 x.2.2.2.1) 100) x.2.2.2.2.2.2.2.2 (k + 1)) (x.2.2.2.2.1 k) (x.2.2.2.2.2.1 k) (x.2.2.2.2.2.2.1 k) (x.2.2.2.2.2.2.2.1 k) := h.2.2.2 k hk
end QLR
/-- a place of the rest has its value -/
theorem qb_at {lf : Nat → Int} {p : Int} (h0 : 0 ≤ p) : ∀ {n : Nat}, p < sm lf n → ∃ v, v < n ∧ sm lf v ≤ p ∧ p < sm lf (v + 1)
  | 0, h => absurd h (by show ¬ p < (0 : Int); omega)
  | n + 1, h => by
    by_cases a : p < sm lf n
    · obtain ⟨v, h1, h2, h3⟩ := qb_at h0 a
      exact ⟨v, by omega, h2, h3⟩
    · exact ⟨n, by omega, by omega, h⟩
theorem qb_un {lf : Nat → Int} (hl : ∀ k, 0 ≤ lf k) {s T : Int} (hs : 0 ≤ s) (hT : sm lf 100 = T) : ∀ {n : Nat}, s + (n : Int) + 1 ≤ T → 1 ≤ ovl lf s (s + n + 1) ∧ ovl lf s (s + n + 1) ≤ n + 1
  | 0, h => by
    obtain ⟨v, h1, h2, h3⟩ := qb_at (lf := lf) (p := s) hs (n := 100) (by rw [hT]; omega)
    have := ovl_new hl h1 h2 h3
    have e : s + ((0 : Nat) : Int) + 1 = s + 1 := by omega
    rw [e, this]
    omega
  | n + 1, h => by
    obtain ⟨a, b⟩ := qb_un hl hs hT (n := n) (by omega)
    obtain ⟨v, h1, h2, h3⟩ := qb_at (lf := lf) (p := s + n + 1) (by omega) (n := 100) (by rw [hT]; omega)
    have := ovl_up hl h1 h2 h3 (s := s) (by omega)
    have e : s + ((n + 1 : Nat) : Int) + 1 = s + n + 1 + 1 := by omega
    rw [e, this]
    split <;> omega
theorem qb_w {lf : Nat → Int} (hl : ∀ k, 0 ≤ lf k) {s e lo hi br un : Int} (h : bS lf s e lo hi br un) (hlh : lo ≤ hi) : un ≤ hi - lo + 1 := by
  obtain ⟨⟨a1, a2⟩, ⟨a3, a4⟩, ⟨a5, a6⟩, ⟨a7, a8⟩, -, hu⟩ := h
  have h1 : ovl lf s e ≤ sm (fun v => if lo ≤ (v : Int) ∧ (v : Int) ≤ hi then (fun _ => (1 : Int)) v else 0) 100 := by
    refine sm_le (fun v hv => ?_)
    by_cases hp : 0 < lf v ∧ sm lf v < e ∧ s < sm lf (v + 1)
    · have c1 : lo ≤ (v : Int) := by
        by_cases c : lo ≤ (v : Int)
        · exact c
        · have := sm_mono hl (m := v + 1) (n := lo.toNat) (by omega)
          omega
      have c2 : (v : Int) ≤ hi := by
        by_cases c : (v : Int) ≤ hi
        · exact c
        · have := sm_mono hl (m := hi.toNat + 1) (n := v) (by omega)
          omega
      rw [if_pos hp, if_pos ⟨c1, c2⟩]
      exact Int.le_refl _
    · rw [if_neg hp]
      split
      · exact (by decide : (0 : Int) ≤ 1)
      · exact Int.le_refl _
  rw [qs_rng100 a1 (by omega) a4, sm_const, sm_const] at h1
  omega
theorem qb_ord {lf : Nat → Int} (hl : ∀ k, 0 ≤ lf k) {s t e lo hi br un lo2 hi2 br2 un2 : Int} (h : bS lf s t lo hi br un) (h2 : bS lf t e lo2 hi2 br2 un2) : hi ≤ lo2 := by
  obtain ⟨⟨a1, a2⟩, ⟨a3, a4⟩, ⟨a5, a6⟩, ⟨a7, a8⟩, -, -⟩ := h
  obtain ⟨⟨b1, b2⟩, ⟨b3, b4⟩, ⟨b5, b6⟩, ⟨b7, b8⟩, -, -⟩ := h2
  by_cases c : hi ≤ lo2
  · exact c
  · have := sm_mono hl (m := lo2.toNat + 1) (n := hi.toNat) (by omega)
    omega
abbrev jcl (A B t : Int) : Int := if t ≤ A then A else if B ≤ t then B else t
theorem qb_sand {lf : Nat → Int} (hl : ∀ k, 0 ≤ lf k) {all bn low high : Int} {lo hi br un : Nat → Int} (hbn : 0 < bn) (ha : bn ≤ all) (hk : bkQ lf all bn lo hi br un) (h0 : 0 ≤ low) (h1 : low ≤ high + 1) : ∀ b : Nat, (b : Int) ≤ bn → sm (fun k => if low ≤ lo k ∧ hi k ≤ high then br k else 0) b ≤ jcl (sm lf low.toNat) (sm lf (high + 1).toNat) (stB all bn b) - sm lf low.toNat ∧ jcl (sm lf low.toNat) (sm lf (high + 1).toNat) (stB all bn b) - sm lf low.toNat ≤ sm (fun k => if low ≤ hi k ∧ lo k ≤ high then br k else 0) b
  | 0, _ => by
    have h2 := sm_nn hl low.toNat
    have e : jcl (sm lf low.toNat) (sm lf (high + 1).toNat) (stB all bn 0) = sm lf low.toNat := if_pos h2
    rw [e]
    show (0 : Int) ≤ _ ∧ _ ≤ (0 : Int)
    omega
  | b + 1, hb => by
    obtain ⟨i1, i2⟩ := qb_sand hl hbn ha hk h0 h1 b (by omega)
    have hlt := stB_lt hbn ha b
    obtain ⟨⟨a1, a2⟩, ⟨a3, a4⟩, ⟨a5, a6⟩, ⟨a7, a8⟩, a9, -⟩ := hk b (by omega)
    have hAB := sm_mono hl (m := low.toNat) (n := (high + 1).toNat) (by omega)
    simp only [sm]
    unfold jcl at i1 i2 ⊢
    constructor
    · by_cases c : low ≤ lo b ∧ hi b ≤ high
      · have m1 := sm_mono hl (m := low.toNat) (n := (lo b).toNat) (by omega)
        have m2 := sm_mono hl (m := (hi b).toNat + 1) (n := (high + 1).toNat) (by omega)
        rw [if_pos c]
        split at i1 <;> split <;> (try split at i1) <;> (try split) <;> omega
      · rw [if_neg c]
        split at i1 <;> split <;> (try split at i1) <;> (try split) <;> omega
    · by_cases c : low ≤ hi b ∧ lo b ≤ high
      · rw [if_pos c]
        split at i2 <;> split <;> (try split at i2) <;> (try split) <;> omega
      · rw [if_neg c]
        have hc : hi b < low ∨ high < lo b := by omega
        rcases hc with hc | hc
        · have m1 := sm_mono hl (m := (hi b).toNat + 1) (n := low.toNat) (by omega)
          split at i2 <;> split <;> (try split at i2) <;> (try split) <;> omega
        · have m1 := sm_mono hl (m := (high + 1).toNat) (n := (lo b).toNat) (by omega)
          split at i2 <;> split <;> (try split at i2) <;> (try split) <;> omega
section QLR2
variable {f : Nat → Int} {sz mc mb : Int} {x : TC}
/-- the analysed rows between two bounds lie between the least and the most -/
theorem qr_sand (h : lrQ f sz mc mb x) (hf : jrF f 0 99) (hs : 0 ≤ sz) (hb : 1 ≤ mb) (hc : 0 ≤ x.2.2.2.1) {lo hi : Int} (h0 : 0 ≤ lo) (h1 : lo ≤ hi) (h2 : hi ≤ 99) : lsT x lo hi ≤ smI (fun k => if lo ≤ f k ∧ f k ≤ hi then (1 : Int) else 0) sz ∧ smI (fun k => if lo ≤ f k ∧ f k ≤ hi then (1 : Int) else 0) sz ≤ msT x lo hi := by
  have hl := qr_lf0 h hs
  obtain ⟨b0, b1, b2⟩ := qr_bn h hs hb
  -- by values
  have e1 : smI (fun k => if lo ≤ f k ∧ f k ≤ hi then (1 : Int) else 0) sz = sm (fun v => if lo ≤ (v : Int) ∧ (v : Int) ≤ hi then x.1 v else 0) 100 := by
    unfold smI
    rw [← qs_cnt hf, h.1, show ((sz.toNat : Nat) : Int) = sz by omega]
  -- the common ones apart
  have e2 : sm (lfS (fun v => if lo ≤ (v : Int) ∧ (v : Int) ≤ hi then x.1 v else 0) x.2.1 ((x.2.2.2.1.toNat : Nat) : Int)) 100 + sm (fun k => if lo ≤ x.2.1 k ∧ x.2.1 k ≤ hi then x.2.2.1 k else 0) x.2.2.2.1.toNat = sm (fun v => if lo ≤ (v : Int) ∧ (v : Int) ≤ hi then x.1 v else 0) 100 := by
    refine lfS_sum (fun k hk => ?_) (fun j k hjk hk => qr_cm_ne h hjk (by omega))
    obtain ⟨a1, a2, a3, -⟩ := qr_cm h (k := k) (by omega)
    refine ⟨a1, a2, ?_⟩
    rw [a3, show (((x.2.1 k).toNat : Nat) : Int) = x.2.1 k by omega]
  have e3 : lfS (fun v => if lo ≤ (v : Int) ∧ (v : Int) ≤ hi then x.1 v else 0) x.2.1 ((x.2.2.2.1.toNat : Nat) : Int) = fun (v : Nat) => if lo ≤ (v : Int) ∧ (v : Int) ≤ hi then lfS x.1 x.2.1 x.2.2.2.1 v else 0 := by
    funext v
    rw [show ((x.2.2.2.1.toNat : Nat) : Int) = x.2.2.2.1 by omega]
    by_cases hv : lo ≤ (v : Int) ∧ (v : Int) ≤ hi
    · simp only [lfS, if_pos hv]
    · simp only [lfS, if_neg hv]
      split <;> rfl
  rw [e3, qs_rng100 h0 (by omega) h2] at e2
  have hcm : cmS x.2.1 x.2.2.1 x.2.2.2.1 lo hi = sm (fun k => if lo ≤ x.2.1 k ∧ x.2.1 k ≤ hi then x.2.2.1 k else 0) x.2.2.2.1.toNat := rfl
  show cmS _ _ _ _ _ + smI _ _ ≤ _ ∧ _ ≤ cmS _ _ _ _ _ + smI _ _
  rw [e1, ← e2, hcm]
  have m1 := sm_mono hl (m := (hi + 1).toNat) (n := 100) (by omega)
  have m2 := sm_mono hl (m := lo.toNat) (n := (hi + 1).toNat) (by omega)
  have m3 := sm_nn hl lo.toNat
  rcases b1 with ⟨z1, z2⟩ | z1
  · rw [z1]
    show _ + (0 : Int) ≤ _ ∧ _ ≤ _ + (0 : Int)
    omega
  · obtain ⟨s1, s2⟩ := qb_sand hl z1 b2 h.2.2.2 h0 (show lo ≤ hi + 1 by omega) x.2.2.2.2.2.2.2.2.toNat (by omega)
    rw [stB_n z1 b0] at s1 s2
    have e4 : jcl (sm (lfS x.1 x.2.1 x.2.2.2.1) lo.toNat) (sm (lfS x.1 x.2.1 x.2.2.2.1) (hi + 1).toNat) (sm (lfS x.1 x.2.1 x.2.2.2.1) 100) = sm (lfS x.1 x.2.1 x.2.2.2.1) (hi + 1).toNat := by
      unfold jcl
      by_cases c1 : sm (lfS x.1 x.2.1 x.2.2.2.1) 100 ≤ sm (lfS x.1 x.2.1 x.2.2.2.1) lo.toNat
      · rw [if_pos c1]
        omega
      · rw [if_neg c1]
        by_cases c2 : sm (lfS x.1 x.2.1 x.2.2.2.1) (hi + 1).toNat ≤ sm (lfS x.1 x.2.1 x.2.2.2.1) 100
        · rw [if_pos c2]
        · omega
    rw [e4] at s1 s2
    unfold smI
    omega
end QLR2
theorem smI_le {f g : Nat → Int} {z : Int} (h : ∀ k : Nat, (k : Int) < z → f k ≤ g k) (h0 : 0 ≤ z) : smI f z ≤ smI g z := sm_le (fun k hk => h k (by omega))
theorem qg_b {lo hi br low high : Int} (h0 : 0 ≤ br) (hlh : lo ≤ hi) : (if low ≤ lo ∧ hi ≤ high then br else 0) ≤ (if 0 < jmn hi high - jmx lo low + 1 then br * (jmn hi high - jmx lo low + 1) / (hi - lo + 1) else 0) ∧ (low ≤ high → (if 0 < jmn hi high - jmx lo low + 1 then br * (jmn hi high - jmx lo low + 1) / (hi - lo + 1) else 0) ≤ (if low ≤ hi ∧ lo ≤ high then br else 0)) := by
  have m1 : jmn hi high ≤ hi ∧ jmn hi high ≤ high ∧ (jmn hi high = hi ∨ jmn hi high = high) := by unfold jmn; split <;> omega
  have m2 : lo ≤ jmx lo low ∧ low ≤ jmx lo low ∧ (jmx lo low = lo ∨ jmx lo low = low) := by unfold jmx; split <;> omega
  have hd : 0 < jmn hi high - jmx lo low + 1 → 0 ≤ br * (jmn hi high - jmx lo low + 1) / (hi - lo + 1) ∧ br * (jmn hi high - jmx lo low + 1) / (hi - lo + 1) ≤ br := fun hp => ⟨Int.ediv_nonneg (Int.mul_nonneg h0 (by omega)) (by omega), Int.ediv_le_of_le_mul (by omega) (Int.mul_le_mul_of_nonneg_left (by omega) h0)⟩
  constructor
  · by_cases c : low ≤ lo ∧ hi ≤ high
    · have e1 : jmn hi high = hi := by unfold jmn; split <;> omega
      have e2 : jmx lo low = lo := by unfold jmx; split <;> omega
      rw [if_pos c, e1, e2, if_pos (by omega), Int.mul_ediv_cancel _ (by omega)]
      exact Int.le_refl _
    · rw [if_neg c]
      split
      · rename_i hp
        exact (hd hp).1
      · exact Int.le_refl _
  · intro hl
    by_cases hp : 0 < jmn hi high - jmx lo low + 1
    · rw [if_pos hp, if_pos ⟨by omega, by omega⟩]
      exact (hd hp).2
    · rw [if_neg hp]
      split <;> omega
/-- the least, the estimate, the most -/
theorem qg_le {y : TC} {lo hi : Int} (h : cfQ y) (hlh : lo ≤ hi) : (0 ≤ lsT y lo hi ∧ lsT y lo hi ≤ gsT y lo hi) ∧ gsT y lo hi ≤ msT y lo hi ∧ msT y lo hi ≤ smT y := by
  obtain ⟨hhad, hcv, hcr, hcn, hlo, hhi, hbr, hun, hbn, hb⟩ := id h
  have c0 := cmS_bd (cv := y.2.1) (low := lo) (high := hi) hcr hcn
  have c1 : cmS y.2.1 y.2.2.1 y.2.2.2.1 lo hi ≤ smI y.2.2.1 y.2.2.2.1 := sm_le (fun k _ => by
    have := hcr k
    show (if _ then _ else _) ≤ _
    split <;> omega)
  have a1 : smI (fun k => if lo ≤ y.2.2.2.2.1 k ∧ y.2.2.2.2.2.1 k ≤ hi then y.2.2.2.2.2.2.1 k else 0) y.2.2.2.2.2.2.2.2 ≤ smI (gbS y.2.2.2.2.1 y.2.2.2.2.2.1 y.2.2.2.2.2.2.1 lo hi) y.2.2.2.2.2.2.2.2 := smI_le (fun k hk => (qg_b (hbr k).1 (hb k hk)).1) hbn.1
  have a2 : smI (gbS y.2.2.2.2.1 y.2.2.2.2.2.1 y.2.2.2.2.2.2.1 lo hi) y.2.2.2.2.2.2.2.2 ≤ smI (fun k => if lo ≤ y.2.2.2.2.2.1 k ∧ y.2.2.2.2.1 k ≤ hi then y.2.2.2.2.2.2.1 k else 0) y.2.2.2.2.2.2.2.2 := smI_le (fun k hk => (qg_b (hbr k).1 (hb k hk)).2 hlh) hbn.1
  have a3 : smI (fun k => if lo ≤ y.2.2.2.2.2.1 k ∧ y.2.2.2.2.1 k ≤ hi then y.2.2.2.2.2.2.1 k else 0) y.2.2.2.2.2.2.2.2 ≤ smI y.2.2.2.2.2.2.1 y.2.2.2.2.2.2.2.2 := smI_le (fun k hk => by
    have := hbr k
    show (if _ then _ else _) ≤ _
    split <;> omega) hbn.1
  have a0 : 0 ≤ smI (fun k => if lo ≤ y.2.2.2.2.1 k ∧ y.2.2.2.2.2.1 k ≤ hi then y.2.2.2.2.2.2.1 k else 0) y.2.2.2.2.2.2.2.2 := sm_nn (fun k => by
    have := hbr k
    split <;> omega) _
  show (0 ≤ cmS _ _ _ _ _ + _ ∧ cmS _ _ _ _ _ + _ ≤ cmS _ _ _ _ _ + _) ∧ cmS _ _ _ _ _ + _ ≤ cmS _ _ _ _ _ + _ ∧ cmS _ _ _ _ _ + _ ≤ _ + _
  omega
/-- the whole is estimated as the whole -/
theorem qg_all {y : TC} (h : cfQ y) : lsT y 0 99 = smT y ∧ gsT y 0 99 = smT y := by
  obtain ⟨hhad, hcv, hcr, hcn, hlo, hhi, hbr, hun, hbn, hb⟩ := id h
  have e1 : cmS y.2.1 y.2.2.1 y.2.2.2.1 0 99 = smI y.2.2.1 y.2.2.2.1 := sm_cong (fun k _ => if_pos (hcv k))
  have e2 : smI (fun k => if 0 ≤ y.2.2.2.2.1 k ∧ y.2.2.2.2.2.1 k ≤ 99 then y.2.2.2.2.2.2.1 k else 0) y.2.2.2.2.2.2.2.2 = smI y.2.2.2.2.2.2.1 y.2.2.2.2.2.2.2.2 := sm_cong (fun k _ => if_pos ⟨(hlo k).1, (hhi k).2⟩)
  have a := qg_le (lo := 0) (hi := 99) h (by omega)
  have e3 : lsT y 0 99 = smT y := by
    show cmS _ _ _ _ _ + smI _ _ = _
    rw [e1, e2]
  omega
