/-! what holds of every state that the law comes to -/
def gdQ (x : TS) : Prop := inQ x ∧ ((x.2.2.1.1 = 0 ∧ x.2.2.1.2 = 0) ∨ (0 < x.2.2.1.1 ∧ ∃ (y : TT) (mc mb : Int), tbQ y ∧ y.2.2 = x.2.2.1.1 ∧ 1 ≤ mb ∧ lrQ y.1 y.2.2 mc mb x.2.2.2.1 ∧ lrQ y.2.1 y.2.2 mc mb x.2.2.2.2.1 ∧ (x.2.2.1.2 = 0 → y = x.2.1)))
theorem gdQ_0 : gdQ ts0 := ⟨ts0_in, Or.inl ⟨rfl, rfl⟩⟩
theorem gdQ.ch {x x2 : TS} {q v r : Int} (hg : gdQ x) (h : chQ x q v r x2) : gdQ x2 := ⟨chQ_in hg.1 h, by
  rcases h with ⟨-, -, rfl⟩ | ⟨-, -, rfl⟩ <;> exact hg.2⟩
theorem gd_nch {rows ch : Int} (h : 0 < rows) (h2 : 0 ≤ ch) : ¬ nch rows ch = 0 := by
  unfold nch
  rw [if_pos h]
  omega
theorem gdQ.ad {x x2 : TS} {p q r : Int} (hx : stQ x) (hg : gdQ x) (h : adQ x p q r x2) : gdQ x2 := ⟨adQ_in hg.1 h, by
  rcases h with ⟨-, -, rfl⟩ | ⟨-, -, -, rfl⟩ | ⟨-, -, -, rfl⟩
  · exact hg.2
  · exact hg.2
  · rcases hg.2 with ⟨a1, a2⟩ | ⟨a1, y, mc, mb, a2, a3, a4, a5, a6, a7⟩
    · refine Or.inl ⟨a1, ?_⟩
      show nch x.2.2.1.1 x.2.2.1.2 = 0
      unfold nch
      rw [if_neg (by omega)]
      exact a2
    · exact Or.inr ⟨a1, y, mc, mb, a2, a3, a4, a5, a6, fun z => absurd z (gd_nch a1 hx.2.2.2.1.1)⟩⟩
theorem gdQ.dr {x x2 : TS} {p r : Int} (hx : stQ x) (hg : gdQ x) (h : drQ x p r x2) : gdQ x2 := ⟨drQ_in hg.1 h, by
  rcases h with ⟨-, -, rfl⟩ | ⟨-, -, rfl⟩
  · exact hg.2
  · rcases hg.2 with ⟨a1, a2⟩ | ⟨a1, y, mc, mb, a2, a3, a4, a5, a6, a7⟩
    · refine Or.inl ⟨a1, ?_⟩
      show nch x.2.2.1.1 x.2.2.1.2 = 0
      unfold nch
      rw [if_neg (by omega)]
      exact a2
    · exact Or.inr ⟨a1, y, mc, mb, a2, a3, a4, a5, a6, fun z => absurd z (gd_nch a1 hx.2.2.2.1.1)⟩⟩
theorem gdQ.an {x x2 : TS} {r : Int} (hx : stQ x) (hg : gdQ x) (h : anQ x r x2) : gdQ x2 := ⟨anQ_in hx hg.1 h, by
  rcases h with ⟨-, -, rfl⟩ | ⟨hp, -, A, B, p, rfl, hA, hB, -⟩
  · exact hg.2
  · exact Or.inr ⟨hp, x.2.1, x.1 1, x.1 0, hx.2.1, rfl, hx.1.1.1, hA, hB, fun _ => rfl⟩⟩
theorem gdQ.z {x : TS} (hg : gdQ x) (h : x.2.2.1.1 = 0) : x.2.2.1.2 = 0 := by
  rcases hg.2 with ⟨-, a⟩ | ⟨a, -⟩
  · exact a
  · omega
theorem gdQ.col {x : TS} {c : Int} (hg : gdQ x) (hp : 0 < x.2.2.1.1) : ∃ (f : Nat → Int) (mc mb : Int), jrF f 0 99 ∧ 1 ≤ mb ∧ lrQ f x.2.2.1.1 mc mb (colA x c) ∧ (x.2.2.1.2 = 0 → f = colT x.2.1 c ∧ x.2.2.1.1 = x.2.1.2.2) := by
  rcases hg.2 with ⟨a, -⟩ | ⟨a1, y, mc, mb, a2, a3, a4, a5, a6, a7⟩
  · omega
  · rw [← a3]
    by_cases hc : c = 0
    · refine ⟨y.1, mc, mb, a2.1, a4, ?_, fun z => ?_⟩
      · unfold colA
        rw [if_pos hc]
        exact a5
      · unfold colT
        rw [if_pos hc, a7 z]
        exact ⟨rfl, rfl⟩
    · refine ⟨y.2.1, mc, mb, a2.2.1, a4, ?_, fun z => ?_⟩
      · unfold colA
        rw [if_neg hc]
        exact a6
      · unfold colT
        rw [if_neg hc, a7 z]
        exact ⟨rfl, rfl⟩
theorem colA_Q {x : TS} (hx : stQ x) (c : Int) : cfQ (colA x c) := by
  unfold colA
  split
  · exact hx.2.2.2.2.1
  · exact hx.2.2.2.2.2.1
theorem colA_s {x : TS} (hg : gdQ x) (c : Int) : smT (colA x c) = x.2.2.1.1 := by
  unfold colA
  split
  · exact hg.1.1
  · exact hg.1.2.1
section QST
variable {x : TS} {c : Int}
theorem qe_0 (hc : c = 0 ∨ c = 1) {lo hi : Int} (hb : bdO lo hi) (hp : 0 < x.2.2.1.1) : estR x c lo hi 0 = gsT (colA x c) lo hi := by
  unfold estR
  rw [if_pos ⟨hc, hb, by omega⟩, if_neg (by omega), if_pos hp, if_pos rfl]
theorem qe_1 (hc : c = 0 ∨ c = 1) {lo hi : Int} (hb : bdO lo hi) (hp : 0 < x.2.2.1.1) : estR x c lo hi 1 = lsT (colA x c) lo hi := by
  unfold estR
  rw [if_pos ⟨hc, hb, by omega⟩, if_neg (by omega), if_pos hp, if_neg (by omega), if_pos rfl]
theorem qe_2 (hc : c = 0 ∨ c = 1) {lo hi : Int} (hb : bdO lo hi) (hp : 0 < x.2.2.1.1) : estR x c lo hi 2 = msT (colA x c) lo hi := by
  unfold estR
  rw [if_pos ⟨hc, hb, by omega⟩, if_neg (by omega), if_pos hp, if_neg (by omega), if_neg (by omega), if_pos rfl]
theorem qe_3 (hc : c = 0 ∨ c = 1) {lo hi : Int} (hb : bdO lo hi) (hp : 0 < x.2.2.1.1) : estR x c lo hi 3 = gsT (colA x c) lo hi * x.2.1.2.2 / x.2.2.1.1 := by
  unfold estR
  rw [if_pos ⟨hc, hb, by omega⟩, if_neg (by omega), if_pos hp, if_neg (by omega), if_neg (by omega), if_neg (by omega)]
  exact if_pos hp
theorem qe_4 (hc : c = 0 ∨ c = 1) {lo hi : Int} (hb : bdO lo hi) : estR x c lo hi 4 = truR x c lo hi := by
  unfold estR
  rw [if_pos ⟨hc, hb, by omega⟩, if_pos rfl]
theorem qe_n (hc : c = 0 ∨ c = 1) {lo hi : Int} (hb : bdO lo hi) (hp : x.2.2.1.1 = 0) : estR x c lo hi 0 = -6 := by
  unfold estR
  rw [if_pos ⟨hc, hb, by omega⟩, if_neg (by omega), if_neg (by show ¬ 0 < x.2.2.1.1; omega)]
theorem qt_all (hx : stQ x) (c : Int) : truR x c 0 99 = x.2.1.2.2 := by
  have hz := hx.2.1.2.2
  have e : rib x.2.1.1 x.2.1.2.1 x.2.1.2.2 0 99 0 99 = x.2.1.2.2 := by
    unfold rib smI
    rw [sm_cong (g := fun _ => 1) (fun k _ => if_pos ⟨hx.2.1.1 k, hx.2.1.2.1 k⟩), sm_const]
    show 1 * (x.2.1.2.2.toNat : Int) = x.2.1.2.2
    omega
  unfold truR
  split
  · exact e
  · exact e
theorem qt_bd (hx : stQ x) (la ha lb hb : Int) : 0 ≤ rib x.2.1.1 x.2.1.2.1 x.2.1.2.2 la ha lb hb ∧ rib x.2.1.1 x.2.1.2.1 x.2.1.2.2 la ha lb hb ≤ 60 := by
  have hz := hx.2.1.2.2
  have h1 := smI_01 (p := fun k => (la ≤ x.2.1.1 k ∧ x.2.1.1 k ≤ ha) ∧ (lb ≤ x.2.1.2.1 k ∧ x.2.1.2.1 k ≤ hb)) (z := x.2.1.2.2) hz.1
  unfold rib
  omega
theorem qt_bd2 (hx : stQ x) (c la ha : Int) : 0 ≤ truR x c la ha ∧ truR x c la ha ≤ 60 := by
  unfold truR
  split
  · exact qt_bd hx _ _ _ _
  · exact qt_bd hx _ _ _ _
/-- the analysed rows are the rows of now as long as nothing came or went -/
theorem qt_now (hx : stQ x) {f : Nat → Int} {lo hi : Int} (hf : f = colT x.2.1 c) : smI (fun k => if lo ≤ f k ∧ f k ≤ hi then (1 : Int) else 0) x.2.1.2.2 = truR x c lo hi := by
  subst hf
  unfold truR colT
  by_cases hc : c = 0
  · rw [if_pos hc, if_pos hc]
    refine sm_cong (fun k _ => ?_)
    by_cases h : lo ≤ x.2.1.1 k ∧ x.2.1.1 k ≤ hi
    · rw [if_pos h, if_pos ⟨h, hx.2.1.2.1 k⟩]
    · rw [if_neg h, if_neg (fun z => h z.1)]
  · rw [if_neg hc, if_neg hc]
    refine sm_cong (fun k _ => ?_)
    by_cases h : lo ≤ x.2.1.2.1 k ∧ x.2.1.2.1 k ≤ hi
    · rw [if_pos h, if_pos ⟨hx.2.1.1 k, h⟩]
    · rw [if_neg h, if_neg (fun z => h z.2)]
/-- the estimates of the whole -/
theorem cl_est (hx : stQ x) (hg : gdQ x) (hp : 0 < x.2.2.1.1) (hc : c = 0 ∨ c = 1) : estR x c 0 99 0 = x.2.2.1.1 ∧ estR x c 0 99 1 = x.2.2.1.1 ∧ estR x c 0 99 3 = x.2.1.2.2 ∧ estR x c 0 99 4 = x.2.1.2.2 := by
  have hb : bdO 0 99 := ⟨by decide, by decide, by decide⟩
  obtain ⟨e1, e2⟩ := qg_all (colA_Q hx c)
  have e3 := colA_s hg c
  rw [qe_0 hc hb hp, qe_1 hc hb hp, qe_3 hc hb hp, qe_4 hc hb, e1, e2, e3, qt_all hx]
  exact ⟨rfl, rfl, Int.mul_ediv_cancel_left _ (by omega), rfl⟩
theorem qc_1 (hc : c = 0 ∨ c = 1) {k : Int} (h0 : 0 ≤ k) (h1 : k < (colA x c).2.2.2.1) : cmnR x c k 1 = (colA x c).2.2.1 k.toNat := by
  unfold cmnR tcmT
  rw [if_pos ⟨hc, by omega⟩, if_pos ⟨h0, h1⟩, if_neg (by omega)]
theorem cl_cm (hg : gdQ x) (hx : stQ x) (hp : 0 < x.2.2.1.1) (hc : c = 0 ∨ c = 1) {k : Int} (h0 : 0 ≤ k) (h1 : k < (colA x c).2.2.2.1) : (2 ≤ cmnR x c k 1 ∧ cmnR x c k 1 ≤ 60) ∧ (k + 1 < (colA x c).2.2.2.1 → cmnR x c (k + 1) 1 ≤ cmnR x c k 1) := by
  obtain ⟨f, mc, mb, hf, hmb, hl, -⟩ := hg.col (c := c) hp
  have a := qr_cm hl (k := k.toNat) (by omega)
  have b := (colA_Q hx c).2.2.1 k.toNat
  rw [qc_1 hc h0 h1]
  refine ⟨⟨a.2.2.2, b.2⟩, fun h2 => ?_⟩
  rw [qc_1 hc (by omega) h2, show (k + 1).toNat = k.toNat + 1 by omega]
  exact qr_cm_dec hl (by omega)
theorem qk_w (hc : c = 0 ∨ c = 1) {k : Int} (h0 : 0 ≤ k) (h1 : k < (colA x c).2.2.2.2.2.2.2.2) : bktR x c k 0 = (colA x c).2.2.2.2.1 k.toNat ∧ bktR x c k 1 = (colA x c).2.2.2.2.2.1 k.toNat ∧ bktR x c k 2 = (colA x c).2.2.2.2.2.2.1 k.toNat ∧ bktR x c k 3 = (colA x c).2.2.2.2.2.2.2.1 k.toNat := by
  have e : ∀ w : Int, 0 ≤ w → w ≤ 3 → bktR x c k w = if w = 0 then (colA x c).2.2.2.2.1 k.toNat else if w = 1 then (colA x c).2.2.2.2.2.1 k.toNat else if w = 2 then (colA x c).2.2.2.2.2.2.1 k.toNat else (colA x c).2.2.2.2.2.2.2.1 k.toNat := fun w a b => by
    unfold bktR tbkT
    rw [if_pos ⟨hc, a, b⟩, if_pos ⟨h0, h1⟩]
  exact ⟨e 0 (by decide) (by decide), e 1 (by decide) (by decide), e 2 (by decide) (by decide), e 3 (by decide) (by decide)⟩
theorem cl_bk (hg : gdQ x) (hx : stQ x) (hp : 0 < x.2.2.1.1) (hc : c = 0 ∨ c = 1) {k : Int} (h0 : 0 ≤ k) (h1 : k < (colA x c).2.2.2.2.2.2.2.2) : (0 ≤ bktR x c k 0 ∧ bktR x c k 0 ≤ bktR x c k 1 ∧ bktR x c k 1 ≤ 99) ∧ (0 < bktR x c k 2 ∧ bktR x c k 2 ≤ 60) ∧ (0 ≤ bktR x c k 3 ∧ bktR x c k 3 ≤ bktR x c k 2 ∧ bktR x c k 3 ≤ bktR x c k 1 - bktR x c k 0 + 1) ∧ (bktR x c 0 2 = bktR x c k 2 ∨ bktR x c 0 2 = bktR x c k 2 + 1) ∧ (k + 1 < (colA x c).2.2.2.2.2.2.2.2 → bktR x c k 1 ≤ bktR x c (k + 1) 0) := by
  obtain ⟨f, mc, mb, hf, hmb, hl, -⟩ := hg.col (c := c) hp
  have hs : 0 ≤ x.2.2.1.1 := by omega
  have hlf := qr_lf0 hl hs
  obtain ⟨b0, b1, b2⟩ := qr_bn hl hs hmb
  have hbn : 0 < (colA x c).2.2.2.2.2.2.2.2 := by omega
  obtain ⟨e1, e2, e3, e4⟩ := qk_w hc h0 h1
  obtain ⟨-, -, f3, -⟩ := qk_w (k := 0) hc (by omega) hbn
  have hk := qr_bk hl (k := k.toNat) (by omega)
  have hz := qr_bk hl (k := 0) (by omega)
  have hle := bS_le hlf hk (stB_lt hbn b2 _)
  have hw := qb_w hlf hk hle
  have s0 := stB_0 hbn b2 k.toNat
  have s1 := stB_lt hbn b2 k.toNat
  have s2 : stB (sm (lfS (colA x c).1 (colA x c).2.1 (colA x c).2.2.2.1) 100) (colA x c).2.2.2.2.2.2.2.2 (k.toNat + 1) ≤ sm (lfS (colA x c).1 (colA x c).2.1 (colA x c).2.2.2.1) 100 := by
    have := stB_mono hbn b2 (a := k.toNat + 1) (b := (colA x c).2.2.2.2.2.2.2.2.toNat) (by omega)
    rw [stB_n hbn b0] at this
    exact this
  have hu := qb_un hlf s0 rfl (n := (stB (sm (lfS (colA x c).1 (colA x c).2.1 (colA x c).2.2.2.1) 100) (colA x c).2.2.2.2.2.2.2.2 (k.toNat + 1) - stB (sm (lfS (colA x c).1 (colA x c).2.1 (colA x c).2.2.2.1) 100) (colA x c).2.2.2.2.2.2.2.2 k.toNat - 1).toNat) (by omega)
  rw [show stB (sm (lfS (colA x c).1 (colA x c).2.1 (colA x c).2.2.2.1) 100) (colA x c).2.2.2.2.2.2.2.2 k.toNat + (((stB (sm (lfS (colA x c).1 (colA x c).2.1 (colA x c).2.2.2.1) 100) (colA x c).2.2.2.2.2.2.2.2 (k.toNat + 1) - stB (sm (lfS (colA x c).1 (colA x c).2.1 (colA x c).2.2.2.1) 100) (colA x c).2.2.2.2.2.2.2.2 k.toNat - 1).toNat : Nat) : Int) + 1 = stB (sm (lfS (colA x c).1 (colA x c).2.1 (colA x c).2.2.2.1) 100) (colA x c).2.2.2.2.2.2.2.2 (k.toNat + 1) by omega] at hu
  have h60 := (colA_Q hx c).2.2.2.2.2.2.1 k.toNat
  have hst : stB (sm (lfS (colA x c).1 (colA x c).2.1 (colA x c).2.2.2.1) 100) (colA x c).2.2.2.2.2.2.2.2 (k.toNat + 1) = stB (sm (lfS (colA x c).1 (colA x c).2.1 (colA x c).2.2.2.1) 100) (colA x c).2.2.2.2.2.2.2.2 k.toNat + fhS (sm (lfS (colA x c).1 (colA x c).2.1 (colA x c).2.2.2.1) 100) (colA x c).2.2.2.2.2.2.2.2 (k.toNat : Int) := rfl
  have hst0 : stB (sm (lfS (colA x c).1 (colA x c).2.1 (colA x c).2.2.2.1) 100) (colA x c).2.2.2.2.2.2.2.2 (0 + 1) = stB (sm (lfS (colA x c).1 (colA x c).2.1 (colA x c).2.2.2.1) 100) (colA x c).2.2.2.2.2.2.2.2 0 + fhS (sm (lfS (colA x c).1 (colA x c).2.1 (colA x c).2.2.2.1) 100) (colA x c).2.2.2.2.2.2.2.2 ((0 : Nat) : Int) := rfl
  have hf1 := hk.2.2.2.2.1
  have hf0 := hz.2.2.2.2.1
  have hun := hk.2.2.2.2.2
  have hrng := hk.1
  have hrng2 := hk.2.1
  rw [e1, e2, e3, e4, f3]
  refine ⟨⟨hrng.1, hle, hrng2.2⟩, ⟨by omega, h60.2⟩, ⟨by omega, by omega, hw⟩, ?_, fun h2 => ?_⟩
  · show (colA x c).2.2.2.2.2.2.1 0 = _ ∨ (colA x c).2.2.2.2.2.2.1 0 = _
    rw [hf0, hf1, hst, hst0]
    unfold fhS
    have hm : 0 ≤ sm (lfS (colA x c).1 (colA x c).2.1 (colA x c).2.2.2.1) 100 % (colA x c).2.2.2.2.2.2.2.2 := Int.emod_nonneg _ (by omega)
    split <;> split <;> omega
  · obtain ⟨g1, -, -, -⟩ := qk_w hc (k := k + 1) (by omega) h2
    rw [g1, show (k + 1).toNat = k.toNat + 1 by omega]
    exact qb_ord hlf hk (qr_bk hl (k := k.toNat + 1) (by omega))
theorem cl_sum (hg : gdQ x) (hx : stQ x) (hc : c = 0 ∨ c = 1) : smI (fun k => cmnR x c (k : Int) 1) (colA x c).2.2.2.1 + smI (fun k => bktR x c (k : Int) 2) (colA x c).2.2.2.2.2.2.2.2 = x.2.2.1.1 := by
  have h := colA_Q hx c
  have e1 : smI (fun k => cmnR x c (k : Int) 1) (colA x c).2.2.2.1 = smI (colA x c).2.2.1 (colA x c).2.2.2.1 := sm_cong (fun k hk => by
    have h1 := h.2.2.2.1
    rw [qc_1 hc (by omega) (by omega), Int.toNat_natCast])
  have e2 : smI (fun k => bktR x c (k : Int) 2) (colA x c).2.2.2.2.2.2.2.2 = smI (colA x c).2.2.2.2.2.2.1 (colA x c).2.2.2.2.2.2.2.2 := sm_cong (fun k hk => by
    have h1 := h.2.2.2.2.2.2.2.2.1
    rw [(qk_w hc (k := (k : Int)) (by omega) (by omega)).2.2.1, Int.toNat_natCast])
  rw [e1, e2]
  exact colA_s hg c
theorem cl_wr (hg : gdQ x) (hx : stQ x) (hp : 0 < x.2.2.1.1) (hc : c = 0 ∨ c = 1) : 0 ≤ wrsR x c 1 ∧ wrsR x c 1 ≤ x.2.2.1.1 := by
  obtain ⟨f, mc, mb, hf, hmb, hl, -⟩ := hg.col (c := c) hp
  have hs : 0 ≤ x.2.2.1.1 := by omega
  have e : wrsR x c 1 = miT (colA x c) (wvI (miT (colA x c)) 100) := by
    unfold wrsR
    rw [if_pos ⟨hc, by omega⟩, if_pos hp, if_neg (by omega)]
  have g1 := gsT_le (lo := wvI (miT (colA x c)) 100) (hi := wvI (miT (colA x c)) 100) (colA_Q hx c)
  have g0 := gsT_bd (low := wvI (miT (colA x c)) 100) (high := wvI (miT (colA x c)) 100) (colA_Q hx c)
  rw [colA_s hg c] at g1
  have h1 := hcS_bd (f := f) hs (wvI (miT (colA x c)) 100).toNat
  rw [← hl.1] at h1
  rw [e]
  have em : ∀ g t m : Int, m = (if 0 ≤ g - t then g - t else -(g - t)) → 0 ≤ g → g ≤ x.2.2.1.1 → 0 ≤ t → t ≤ x.2.2.1.1 → 0 ≤ m ∧ m ≤ x.2.2.1.1 := fun g t m h2 h3 h4 h5 h6 => by
    rw [h2]
    split <;> omega
  exact em _ _ _ rfl g0.1 g1 h1.1 h1.2
theorem cl_ht (hc : c = 0 ∨ c = 1) (h : (colA x c).2.2.2.2.2.2.2.2 ≤ 0) : hgtR x c = Int64.ofNat 0 := by
  unfold hgtR
  rw [if_pos hc, if_neg (by show ¬ 0 < (colA x c).2.2.2.2.2.2.2.2; omega)]
/-- an estimate, its least, its most -/
theorem es_1 (hg : gdQ x) (hx : stQ x) (hp : 0 < x.2.2.1.1) (hc : c = 0 ∨ c = 1) {lo hi : Int} (hb : bdO lo hi) : (0 ≤ estR x c lo hi 1 ∧ estR x c lo hi 1 ≤ estR x c lo hi 0) ∧ (estR x c lo hi 0 ≤ estR x c lo hi 2 ∧ estR x c lo hi 2 ≤ 60) ∧ estR x c lo hi 3 = estR x c lo hi 0 * x.2.1.2.2 / x.2.2.1.1 ∧ (0 ≤ estR x c lo hi 4 ∧ estR x c lo hi 4 ≤ 60) ∧ (x.2.2.1.2 ≤ 0 → estR x c lo hi 1 ≤ estR x c lo hi 4 ∧ estR x c lo hi 4 ≤ estR x c lo hi 2) := by
  have h1 := qg_le (lo := lo) (hi := hi) (colA_Q hx c) hb.2.1
  rw [colA_s hg c] at h1
  have h2 := hx.2.2.1.2
  rw [qe_0 hc hb hp, qe_1 hc hb hp, qe_2 hc hb hp, qe_3 hc hb hp, qe_4 hc hb]
  refine ⟨h1.1, ⟨h1.2.1, Int.le_trans h1.2.2 h2⟩, rfl, qt_bd2 hx c lo hi, fun hz => ?_⟩
  obtain ⟨f, mc, mb, hf, hmb, hl, hn⟩ := hg.col (c := c) hp
  obtain ⟨n1, n2⟩ := hn (by have := hx.2.2.2.1.1; omega)
  have h3 := qr_sand hl hf (by omega) hmb (colA_Q hx c).2.2.2.1.1 hb.1 hb.2.1 hb.2.2
  rw [show smI (fun k => if lo ≤ f k ∧ f k ≤ hi then (1 : Int) else 0) x.2.2.1.1 = smI (fun k => if lo ≤ f k ∧ f k ≤ hi then (1 : Int) else 0) x.2.1.2.2 from congrArg _ n2, qt_now hx n1] at h3
  exact h3
/-- both columns -/
theorem es_2 (hg : gdQ x) (hx : stQ x) (hp : 0 < x.2.2.1.1) {lo hi : Int} (hb : bdO lo hi) : (0 ≤ botR x lo hi 0 99 0 ∧ botR x lo hi 0 99 0 ≤ 1000000) ∧ botR x 0 99 0 99 0 = x.2.2.1.1 ∧ botR x lo hi 0 99 1 = botR x lo hi 0 99 0 * x.2.1.2.2 / x.2.2.1.1 ∧ (0 ≤ botR x lo hi lo hi 2 ∧ botR x lo hi lo hi 2 ≤ 60) ∧ botR x lo hi lo hi 2 ≤ estR x 0 lo hi 4 ∧ botR x lo hi lo hi 2 ≤ estR x 1 lo hi 4 := by
  have hb0 : bdO 0 99 := ⟨by decide, by decide, by decide⟩
  have e1 : botR x lo hi 0 99 0 = gbT x.2.2.1.1 x.2.2.2.1 x.2.2.2.2.1 x.2.2.2.2.2 lo hi 0 99 := by
    unfold botR
    rw [if_pos ⟨hb, hb0, by omega⟩, if_neg (by omega), if_pos hp, if_pos rfl]
  have e2 : botR x lo hi 0 99 1 = gbT x.2.2.1.1 x.2.2.2.1 x.2.2.2.2.1 x.2.2.2.2.2 lo hi 0 99 * x.2.1.2.2 / x.2.2.1.1 := by
    unfold botR
    rw [if_pos ⟨hb, hb0, by omega⟩, if_neg (by omega), if_pos hp, if_neg (by omega)]
    exact if_pos hp
  have e3 : botR x lo hi lo hi 2 = rib x.2.1.1 x.2.1.2.1 x.2.1.2.2 lo hi lo hi := by
    unfold botR
    rw [if_pos ⟨hb, hb, by omega⟩, if_pos rfl]
  have e4 : botR x 0 99 0 99 0 = gbT x.2.2.1.1 x.2.2.2.1 x.2.2.2.2.1 x.2.2.2.2.2 0 99 0 99 := by
    unfold botR
    rw [if_pos ⟨hb0, hb0, by omega⟩, if_neg (by omega), if_pos hp, if_pos rfl]
  have hz := hx.2.1.2.2
  rw [e1, e2, e3, e4, qe_4 (Or.inl rfl) hb, qe_4 (Or.inr rfl) hb]
  refine ⟨gbT_bd hx.2.2.2.2.1 hx.2.2.2.2.2.1 hx.2.2.2.2.2.2, ?_, rfl, qt_bd hx _ _ _ _, ?_, ?_⟩
  · have a := (qg_all hx.2.2.2.2.1).2
    have b := (qg_all hx.2.2.2.2.2.1).2
    rw [hg.1.1] at a
    rw [hg.1.2.1] at b
    have hpr : prS x.2.2.2.2.2 0 99 0 99 = smI x.2.2.2.2.2.2.2.1 x.2.2.2.2.2.2.2.2 := sm_cong (fun k _ => if_pos ⟨hx.2.2.2.2.2.2.1 k, hx.2.2.2.2.2.2.2.1 k⟩)
    have hle := hg.1.2.2
    unfold gbT
    rw [a, b, hpr]
    by_cases hq : 0 < x.2.2.1.1 - smI x.2.2.2.2.2.2.2.1 x.2.2.2.2.2.2.2.2
    · have em : jmx (x.2.2.1.1 - smI x.2.2.2.2.2.2.2.1 x.2.2.2.2.2.2.2.2) 0 = x.2.2.1.1 - smI x.2.2.2.2.2.2.2.1 x.2.2.2.2.2.2.2.2 := if_neg (by omega)
      rw [if_pos hq, em, Int.mul_ediv_cancel _ (by omega)]
      show _ = x.2.2.1.1
      omega
    · rw [if_neg hq]
      show _ = x.2.2.1.1
      omega
  · unfold truR
    rw [if_pos rfl]
    exact smI_le (fun k _ => by
      by_cases h : (lo ≤ x.2.1.1 k ∧ x.2.1.1 k ≤ hi) ∧ (lo ≤ x.2.1.2.1 k ∧ x.2.1.2.1 k ≤ hi)
      · rw [if_pos h, if_pos ⟨h.1, hx.2.1.2.1 k⟩]
        exact Int.le_refl _
      · rw [if_neg h]
        split <;> omega) hz.1
  · unfold truR
    rw [if_neg (by decide)]
    exact smI_le (fun k _ => by
      by_cases h : (lo ≤ x.2.1.1 k ∧ x.2.1.1 k ≤ hi) ∧ (lo ≤ x.2.1.2.1 k ∧ x.2.1.2.1 k ≤ hi)
      · rw [if_pos h, if_pos ⟨hx.2.1.1 k, h.2⟩]
        exact Int.le_refl _
      · rw [if_neg h]
        split <;> omega) hz.1
end QST
