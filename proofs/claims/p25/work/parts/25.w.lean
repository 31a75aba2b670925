/-! what holds of every state, and share and height -/
abbrev smT (y : TC) : Int := smI y.2.2.1 y.2.2.2.1 + smI y.2.2.2.2.2.2.1 y.2.2.2.2.2.2.2.2
def inQ (x : TS) : Prop := smT x.2.2.2.1 = x.2.2.1.1 ∧ smT x.2.2.2.2.1 = x.2.2.1.1 ∧ smI x.2.2.2.2.2.2.2.1 x.2.2.2.2.2.2.2.2 ≤ x.2.2.1.1
theorem sm_le {f g : Nat → Int} : ∀ {n : Nat}, (∀ k, k < n → f k ≤ g k) → sm f n ≤ sm g n
  | 0, _ => Int.le_refl _
  | n + 1, h => Int.add_le_add (sm_le (fun k hk => h k (by omega))) (h n (by omega))
theorem sm_nn {f : Nat → Int} (h : ∀ k, 0 ≤ f k) : ∀ n : Nat, 0 ≤ sm f n
  | 0 => Int.le_refl _
  | n + 1 => Int.add_nonneg (sm_nn h n) (h n)
theorem gsT_le {y : TC} {lo hi : Int} (h : cfQ y) : gsT y lo hi ≤ smT y := by
  obtain ⟨hhad, hcv, hcr, hcn, hlo, hhi, hbr, hun, hbn, hlh⟩ := id h
  have h1 : cmS y.2.1 y.2.2.1 y.2.2.2.1 lo hi ≤ smI y.2.2.1 y.2.2.2.1 := sm_le (fun k _ => by
    have := hcr k
    show (if _ then _ else _) ≤ _
    split <;> omega)
  have h2 : smI (gbS y.2.2.2.2.1 y.2.2.2.2.2.1 y.2.2.2.2.2.2.1 lo hi) y.2.2.2.2.2.2.2.2 ≤ smI y.2.2.2.2.2.2.1 y.2.2.2.2.2.2.2.2 := sm_le (fun k hk => by
    have h3 := hbr k
    have h4 := hlh k (by omega)
    unfold gbS
    split
    · rename_i hp
      have h5 : jmn (y.2.2.2.2.2.1 k) hi ≤ y.2.2.2.2.2.1 k := by unfold jmn; split <;> omega
      have h6 : y.2.2.2.2.1 k ≤ jmx (y.2.2.2.2.1 k) lo := by unfold jmx; split <;> omega
      exact Int.ediv_le_of_le_mul (by omega) (Int.mul_le_mul_of_nonneg_left (by omega) h3.1)
    · exact h3.1)
  show cmS _ _ _ _ _ + _ ≤ _
  exact Int.add_le_add h1 h2
theorem bk_sum {lf : Nat → Int} {all bn : Int} {lo hi br un : Nat → Int} (h : bkQ lf all bn lo hi br un) : ∀ b : Nat, (b : Int) ≤ bn → sm br b = stB all bn b
  | 0, _ => rfl
  | b + 1, hb => by
    rw [sm, bk_sum h b (by omega)]
    have := (h b (by omega)).2.2.2.2.1
    omega
theorem lr_sum {f : Nat → Int} {sz mc mb : Int} {x : TC} (h : lrQ f sz mc mb x) (hf : jrF f 0 99) (hs : 0 ≤ sz) (hb : 1 ≤ mb) : smT x = sz := by
  obtain ⟨h1, h2, h3, h4⟩ := h
  have e1 := cmQ_sum h2
  have e2 : sm x.1 100 = sz := by
    rw [h1]
    unfold hcS
    have := hcS_sum (z := sz.toNat) hf
    have h9 : ((sz.toNat : Nat) : Int) = sz := by omega
    rw [h9] at this
    exact this
  have hl : ∀ k, 0 ≤ lfS x.1 x.2.1 x.2.2.2.1 k := fun k => by
    unfold lfS
    split
    · omega
    · rw [h1]; exact (hcS_bd hs k).1
  have h0 : 0 ≤ sm (lfS x.1 x.2.1 x.2.2.2.1) 100 := sm_nn hl _
  have e3 : smI x.2.2.2.2.2.2.1 x.2.2.2.2.2.2.2.2 = sm (lfS x.1 x.2.1 x.2.2.2.1) 100 := by
    have hbn : 0 ≤ x.2.2.2.2.2.2.2.2 := by rw [h3]; split <;> omega
    unfold smI
    rw [bk_sum h4 _ (by omega)]
    by_cases hz : 0 < x.2.2.2.2.2.2.2.2
    · exact stB_n hz h0
    · have hz0 : x.2.2.2.2.2.2.2.2 = 0 := by omega
      rw [hz0]
      show (0 : Int) = _
      rw [hz0] at h3
      split at h3 <;> omega
  show smI _ _ + _ = _
  omega
theorem sm_swap {g : Nat → Nat → Int} {m : Nat} : ∀ {n : Nat}, sm (fun i => sm (g i) m) n = sm (fun j => sm (fun i => g i j) n) m
  | 0 => (sm_zer m).symm
  | n + 1 => by
    rw [sm, sm_swap (n := n), ← sm_add]
    rfl
theorem sm_ex {p : Nat → Prop} [DecidablePred p] : ∀ {n : Nat}, (∀ j k, j < n → k < n → p j → p k → j = k) → sm (fun k => if p k then 1 else 0) n ≤ 1 ∧ (1 ≤ sm (fun k => if p k then (1 : Int) else 0) n → ∃ k, k < n ∧ p k)
  | 0, _ => ⟨by show (0 : Int) ≤ 1; decide, fun h => absurd (show (1 : Int) ≤ 0 from h) (by decide)⟩
  | n + 1, h => by
    obtain ⟨a, b⟩ := sm_ex (n := n) (p := p) (fun j k hj hk => h j k (by omega) (by omega))
    simp only [sm]
    by_cases hp : p n
    · rw [if_pos hp]
      refine ⟨?_, fun _ => ⟨n, by omega, hp⟩⟩
      by_cases hc : 1 ≤ sm (fun k => if p k then (1 : Int) else 0) n
      · obtain ⟨k, hk, hpk⟩ := b hc
        have := h k n (by omega) (by omega) hpk hp
        omega
      · omega
    · rw [if_neg hp]
      refine ⟨by omega, fun hc => ?_⟩
      obtain ⟨k, hk, hpk⟩ := b (by omega)
      exact ⟨k, by omega, hpk⟩
theorem sm_const (c : Int) : ∀ n : Nat, sm (fun _ => c) n = c * n
  | 0 => by simp [sm]
  | n + 1 => by
    rw [sm, sm_const c n, Int.natCast_add, Int.mul_add]
    simp
theorem pm_sum {y : TT} (hy : tbQ y) {m n : Int} {pa pb pr : Nat → Int} (h : pmQ y m n pa pb pr) : smI pr n ≤ y.2.2 := by
  have hd : ∀ j k : Nat, (j : Int) < n → (k : Int) < n → pa j = pa k → pb j = pb k → j = k := fun j k hj hk e1 e2 => by
    have key : ∀ a b : Nat, (a : Int) < n → (b : Int) < n → pa a = pa b → pb a = pb b → ¬ a < b := fun a b ha hb f1 f2 hab => by
      have h9 : rk3 (pr b) (pa b) (pb b) < rk3 (pr a) (pa a) (pb a) := h.2.2.2.2.1 a b hab hb
      obtain ⟨r1, q1, q2, q3, q4⟩ := h.1 a ha
      obtain ⟨r2, p1, p2, p3, p4⟩ := h.1 b hb
      have : pr a = pr b := by
        rw [q4, p4]
        show rlk _ _ _ _ _ = rlk _ _ _ _ _
        rw [← q2, ← q3, ← p2, ← p3, f1, f2]
      rw [this, f1, f2] at h9
      omega
    have a := key j k hj hk e1 e2
    have b := key k j hk hj e1.symm e2.symm
    omega
  have e : smI pr n = sm (fun k => sm (fun r => if y.1 r = pa k ∧ y.2.1 r = pb k then (1 : Int) else 0) y.2.2.toNat) n.toNat := by
    refine sm_cong (fun k hk => ?_)
    obtain ⟨r, q1, q2, q3, q4⟩ := h.1 k (by omega)
    rw [q4, q2, q3]
    rfl
  rw [e, sm_swap]
  refine Int.le_trans (sm_le (g := fun _ => 1) (fun r _ => (sm_ex (p := fun k => y.1 r = pa k ∧ y.2.1 r = pb k) (fun j k hj hk h1 h2 => hd j k (by omega) (by omega) (h1.1.symm.trans h2.1) (h1.2.symm.trans h2.2))).1)) ?_
  rw [sm_const]
  have := hy.2.2
  omega
theorem anQ_in {x x2 : TS} {r : Int} (hx : stQ x) (hi : inQ x) (h : anQ x r x2) : inQ x2 := by
  rcases h with ⟨-, -, rfl⟩ | ⟨-, -, A, B, p, rfl, hA, hB, hp⟩
  · exact hi
  · exact ⟨lr_sum hA hx.2.1.1 hx.2.1.2.2.1 hx.1.1.1, lr_sum hB hx.2.1.2.1 hx.2.1.2.2.1 hx.1.1.1, pm_sum hx.2.1 hp⟩
theorem chQ_in {x x2 : TS} {q v r : Int} (hi : inQ x) (h : chQ x q v r x2) : inQ x2 := by
  rcases h with ⟨-, -, rfl⟩ | ⟨-, -, rfl⟩ <;> exact hi
theorem adQ_in {x x2 : TS} {p q r : Int} (hi : inQ x) (h : adQ x p q r x2) : inQ x2 := by
  rcases h with ⟨-, -, rfl⟩ | ⟨-, -, -, rfl⟩ | ⟨-, -, -, rfl⟩ <;> exact hi
theorem drQ_in {x x2 : TS} {p r : Int} (hi : inQ x) (h : drQ x p r x2) : inQ x2 := by
  rcases h with ⟨-, -, rfl⟩ | ⟨-, -, rfl⟩ <;> exact hi
theorem ts0_in : inQ ts0 := ⟨rfl, rfl, Int.le_refl _⟩
abbrev qtD (g r : Int) : UInt64 := FP.ddiv (FP.i2d (Int32.ofInt g)) (FP.i2d (Int32.ofInt r))
theorem shC_f {g r : Int} (h0 : 0 ≤ g) (h1 : g ≤ r) (h2 : 1 ≤ r) (h3 : r ≤ 60) : vf_n64 (qtD g r) ∧ vf_n32 (FP.d2f (qtD g r)) ∧ vf_n64 (FP.f2d (FP.d2f (qtD g r))) ∧ cvF .l (FP.d2f (qtD g r)) (FP.d2f (qtD g r)) = 0 ∧ (bF (FP.f2d (FP.d2f (qtD g r))) 127 23).map (fun z => z.toInt32) = some (FP.d2f (qtD g r)).toInt32 := by
  obtain ⟨a, rfl⟩ : ∃ a : Nat, g = a := ⟨g.toNat, by omega⟩
  obtain ⟨b, rfl⟩ : ∃ b : Nat, r = b := ⟨r.toNat, by omega⟩
  have h := List.all_eq_true.mp shA b (List.mem_range.mpr (by omega))
  rw [Bool.or_eq_true] at h
  rcases h with h | h
  · have := eq_of_beq h; omega
  · have h := List.all_eq_true.mp h a (List.mem_range.mpr (by omega))
    unfold shC at h
    simp only [Bool.and_eq_true] at h
    exact ⟨vb64_t h.1.1.1.1, vb32_t h.1.1.1.2, vb64_t h.1.1.2, of_decide_eq_true h.1.2, of_decide_eq_true h.2⟩
theorem heC_f {g r : Int} (h0 : 0 ≤ g) (h1 : g ≤ 60) (h2 : 1 ≤ r) (h3 : r ≤ 10) : vf_n64 (qtD g r) ∧ cvD .l (qtD g r) (qtD g r) = 0 ∧ bF (qtD g r) 1023 52 = some (qtD g r).toInt64 := by
  obtain ⟨a, rfl⟩ : ∃ a : Nat, g = a := ⟨g.toNat, by omega⟩
  obtain ⟨b, rfl⟩ : ∃ b : Nat, r = b := ⟨r.toNat, by omega⟩
  have h := List.all_eq_true.mp heA b (List.mem_range.mpr (by omega))
  rw [Bool.or_eq_true] at h
  rcases h with h | h
  · have := eq_of_beq h; omega
  · have h := List.all_eq_true.mp h a (List.mem_range.mpr (by omega))
    unfold heC at h
    simp only [Bool.and_eq_true] at h
    exact ⟨vb64_t h.1.1, of_decide_eq_true h.1.2, of_decide_eq_true h.2⟩
def shrR (x : TS) (c lo hi : Int) : Int := if (c = 0 ∨ c = 1) ∧ bdO lo hi then (if 0 < x.2.2.1.1 then (FP.d2f (qtD (gsT (colA x c) lo hi) x.2.2.1.1)).toInt32.toInt else -6) else -2
abbrev sbT (y : TC) : Int := smI y.2.2.2.2.2.2.1 y.2.2.2.2.2.2.2.2
def hgtR (x : TS) (c : Int) : Int64 := if c = 0 ∨ c = 1 then (if 0 < (colA x c).2.2.2.2.2.2.2.2 then (qtD (sbT (colA x c)) (colA x c).2.2.2.2.2.2.2.2).toInt64 else Int64.ofNat 0) else -2
theorem sbT_bd {x : TS} {y : TC} (hx : stQ x) (hy : cfQ y) (h : smT y = x.2.2.1.1) : 0 ≤ sbT y ∧ sbT y ≤ 60 := by
  have h1 := smI_bd (f := y.2.2.1) (c := 60) (z := y.2.2.2.1) (N := 6) hy.2.2.2.1.1 hy.2.2.2.1.2 (by decide) (fun k _ => hy.2.2.1 k)
  have h2 := smI_bd (f := y.2.2.2.2.2.2.1) (c := 60) (z := y.2.2.2.2.2.2.2.2) (N := 10) hy.2.2.2.2.2.2.2.2.1.1 hy.2.2.2.2.2.2.2.2.1.2 (by decide) (fun k _ => hy.2.2.2.2.2.2.1 k)
  have h3 := hx.2.2.1
  have h4 : smI y.2.2.1 y.2.2.2.1 + sbT y = x.2.2.1.1 := h
  have h5 : sbT y = smI y.2.2.2.2.2.2.1 y.2.2.2.2.2.2.2.2 := rfl
  omega

set_option maxHeartbeats 4000000 in
set_option maxRecDepth 100000 in
theorem c_X9_share {l : Launch} {D : va_G} {b0 : Nat} {n : Nat} {M : jM} {e lo : Nat} {x : TS} {hl : Int} {hk : Nat → TS} {sl : Nat → Option TS} {sg : Nat → Int} {len : Int} (hW : ehP M n e lo x hl hk sl sg len none) {c : Int} {lo9 : Int} {hi : Int} (h_c : jRng c) (h_lo9 : jRng lo9) (h_hi : jRng hi) (hin : inQ x) : jCtr l D b0 yX9_share cX9_share 7 (some .int) 3 0 0 [.ref e, jI c, jI lo9, jI hi] n M (jrd n M (shrR x c lo9 hi)) := by
  refine jctr (lv := [some (.ref e), some (jI c), some (jI lo9), some (jI hi), none, none, none]) RX9 "share" rfl rfl (by decide) (Nat.le_of_ble_eq_true rfl) rfl ?_
  intro X h hR hX
  obtain ⟨g, gs, nx, at9, kd, fi, se, ti, tr, L, f, hE, hNw, hL, hH, hD, hR9, hC, hdy, hrs, hsQ, hpQ, hcQ, hnx, hhl, hlo1, hlo2⟩ := id hW
  obtain ⟨hS, hT, hN, hA, hB, hP⟩ := hNw
  obtain ⟨hse, htb, hr, hch, hOA, hOB, hOP⟩ := id hsQ
  obtain ⟨hya, hyb, hys⟩ := id htb
  obtain ⟨hin1, hin2, hin3⟩ := hin
  refine jk_iload_n (q := 1) h dX9_share_0 rfl rfl ?_
  refine jk_callS (q := 4) h hX (c_X9_isColumn ⟨by omega, by omega⟩) ms_X9_isColumn dX9_share_1 ml_X9_82 ⟨rfl, Nat.le_refl _⟩ rfl rfl (Nat.le_of_ble_eq_true rfl) (Nat.le_of_ble_eq_true rfl) rfl rfl (Nat.le_of_ble_eq_true rfl) rfl (fun v9 n9 M9 hp9 => ?_)
  obtain ⟨rfl, rfl, rfl⟩ := hp9
  refine jk_if_eqB (q := 7) (tgt := 15) h dX9_share_4 (by decide) rfl (fun c4 => ?_) (fun c4 => ?_)
  · refine jk_bipush (q := 17) h dX9_share_15 (by decide) rfl ?_
    exact jk_iret h hR dX9_share_17 (Nat.le_of_ble_eq_true rfl) (Nat.le_of_ble_eq_true rfl) (jrd_of (by unfold shrR; rw [if_neg (by omega)]))
  · refine jk_iload_n (q := 8) h dX9_share_7 rfl rfl ?_
    refine jk_iload_n (q := 9) h dX9_share_8 rfl rfl ?_
    refine jk_callS (q := 12) h hX (c_X9_areBounds ⟨by omega, by omega⟩ ⟨by omega, by omega⟩) ms_X9_areBounds dX9_share_9 ml_X9_154 ⟨rfl, Nat.le_refl _⟩ rfl rfl (Nat.le_of_ble_eq_true rfl) (Nat.le_of_ble_eq_true rfl) rfl rfl (Nat.le_of_ble_eq_true rfl) rfl (fun v9 n9 M9 hp9 => ?_)
    obtain ⟨rfl, rfl, rfl⟩ := hp9
    refine jk_if_neB (q := 15) (tgt := 18) h dX9_share_12 (by decide) rfl (fun c12 => ?_) (fun c12 => ?_)
    · refine jk_aload_n (q := 19) h dX9_share_18 rfl rfl ?_
      refine jk_get (q := 22) h fg_X9_12 dX9_share_19 (hE.at 0 rfl) rfl rfl ?_
      refine jk_getN (q := 25) h fg_X9_92 dX9_share_22 (hS.at 0 rfl) rfl rfl ?_
      refine jk_getN (q := 28) h fg_X9_121 dX9_share_25 (hN.at 0 rfl) rfl rfl ?_
      refine jk_istore (q := 30) h dX9_share_28 rfl (Nat.le_of_ble_eq_true rfl) rfl rfl ?_
      refine jk_iload (q := 32) h dX9_share_30 rfl rfl ?_
      refine jk_if_gt (q := 35) (tgt := 38) h dX9_share_32 (by decide) rfl ⟨by omega, by omega⟩ (fun c32 => ?_) (fun c32 => ?_)
      · refine jk_aload_n (q := 39) h dX9_share_38 rfl rfl ?_
        refine jk_get (q := 42) h fg_X9_12 dX9_share_39 (hE.at 0 rfl) rfl rfl ?_
        refine jk_getN (q := 45) h fg_X9_92 dX9_share_42 (hS.at 0 rfl) rfl rfl ?_
        refine jk_iload_n (q := 46) h dX9_share_45 rfl rfl ?_
        rcases Decidable.em (c = 0) with hq0 | hq0
        · refine jk_callV (q := 49) h hX (c_X0_facts hN ⟨by omega, by omega⟩) mv_X0_facts (hN.at 0 rfl) dX9_share_46 ml_X9_96 ⟨rfl, Nat.le_refl _⟩ rfl rfl (Nat.le_of_ble_eq_true rfl) (Nat.le_of_ble_eq_true rfl) rfl rfl (Nat.le_of_ble_eq_true rfl) rfl (fun v9 n9 M9 hp9 => ?_)
          obtain ⟨rfl, rfl, rfl⟩ := hp9
          rw [if_pos hq0]
          have hO := hOA
          have hgb := gsT_bd (low := lo9) (high := hi) hO
          obtain ⟨hs1, hs2, hs3, hs4, hs5⟩ := shC_f (g := gsT x.2.2.2.1 lo9 hi) (r := x.2.2.1.1) hgb.1 (by rw [← hin1]; exact gsT_le hO) (by omega) (by omega)
          have hcol : colA x c = x.2.2.2.1 := if_pos hq0
          refine jk_iload_n (q := 50) h dX9_share_49 rfl rfl ?_
          refine jk_iload_n (q := 51) h dX9_share_50 rfl rfl ?_
          refine jk_callV (q := 54) h hX (c_X2_guess hA hO ⟨by omega, by omega⟩ ⟨by omega, by omega⟩) mv_X2_guess (hA.at 0 rfl) dX9_share_51 ml_X9_162 ⟨rfl, Nat.le_refl _⟩ rfl rfl (Nat.le_of_ble_eq_true rfl) (Nat.le_of_ble_eq_true rfl) rfl rfl (Nat.le_of_ble_eq_true rfl) rfl (fun v9 n9 M9 hp9 => ?_)
          obtain ⟨rfl, rfl, rfl⟩ := hp9
          refine jk_i2d (q := 55) h dX9_share_54 rfl ?_
          refine jk_iload (q := 57) h dX9_share_55 rfl rfl ?_
          refine jk_i2d (q := 58) h dX9_share_57 rfl ?_
          refine jk_ddiv (q := 59) h dX9_share_58 hs1 rfl ?_
          refine jk_dstore (q := 61) h dX9_share_59 rfl (Nat.le_of_ble_eq_true rfl) rfl rfl ?_
          refine jk_dload (q := 63) h dX9_share_61 rfl rfl ?_
          refine jk_d2f (q := 64) h dX9_share_63 hs2 rfl ?_
          refine jk_callS (q := 67) h hX (c_X1_ofFloat hs3 hs5) ms_X1_ofFloat dX9_share_64 ml_X9_181 ⟨rfl, Nat.le_refl _⟩ rfl rfl (Nat.le_of_ble_eq_true rfl) (Nat.le_of_ble_eq_true rfl) rfl rfl (Nat.le_of_ble_eq_true rfl) rfl (fun v9 n9 M9 hp9 => ?_)
          obtain ⟨rfl, rfl, rfl⟩ := hp9
          exact jk_iret h hR dX9_share_67 (Nat.le_of_ble_eq_true rfl) (Nat.le_of_ble_eq_true rfl) (jrd_of (by unfold shrR; rw [if_pos ⟨by omega, by omega⟩, if_pos (by omega), hcol]))
        · refine jk_callV (q := 49) h hX (c_X0_facts hN ⟨by omega, by omega⟩) mv_X0_facts (hN.at 0 rfl) dX9_share_46 ml_X9_96 ⟨rfl, Nat.le_refl _⟩ rfl rfl (Nat.le_of_ble_eq_true rfl) (Nat.le_of_ble_eq_true rfl) rfl rfl (Nat.le_of_ble_eq_true rfl) rfl (fun v9 n9 M9 hp9 => ?_)
          obtain ⟨rfl, rfl, rfl⟩ := hp9
          rw [if_neg hq0]
          have hO := hOB
          have hgb := gsT_bd (low := lo9) (high := hi) hO
          obtain ⟨hs1, hs2, hs3, hs4, hs5⟩ := shC_f (g := gsT x.2.2.2.2.1 lo9 hi) (r := x.2.2.1.1) hgb.1 (by rw [← hin2]; exact gsT_le hO) (by omega) (by omega)
          have hcol : colA x c = x.2.2.2.2.1 := if_neg hq0
          refine jk_iload_n (q := 50) h dX9_share_49 rfl rfl ?_
          refine jk_iload_n (q := 51) h dX9_share_50 rfl rfl ?_
          refine jk_callV (q := 54) h hX (c_X2_guess hB hO ⟨by omega, by omega⟩ ⟨by omega, by omega⟩) mv_X2_guess (hB.at 0 rfl) dX9_share_51 ml_X9_162 ⟨rfl, Nat.le_refl _⟩ rfl rfl (Nat.le_of_ble_eq_true rfl) (Nat.le_of_ble_eq_true rfl) rfl rfl (Nat.le_of_ble_eq_true rfl) rfl (fun v9 n9 M9 hp9 => ?_)
          obtain ⟨rfl, rfl, rfl⟩ := hp9
          refine jk_i2d (q := 55) h dX9_share_54 rfl ?_
          refine jk_iload (q := 57) h dX9_share_55 rfl rfl ?_
          refine jk_i2d (q := 58) h dX9_share_57 rfl ?_
          refine jk_ddiv (q := 59) h dX9_share_58 hs1 rfl ?_
          refine jk_dstore (q := 61) h dX9_share_59 rfl (Nat.le_of_ble_eq_true rfl) rfl rfl ?_
          refine jk_dload (q := 63) h dX9_share_61 rfl rfl ?_
          refine jk_d2f (q := 64) h dX9_share_63 hs2 rfl ?_
          refine jk_callS (q := 67) h hX (c_X1_ofFloat hs3 hs5) ms_X1_ofFloat dX9_share_64 ml_X9_181 ⟨rfl, Nat.le_refl _⟩ rfl rfl (Nat.le_of_ble_eq_true rfl) (Nat.le_of_ble_eq_true rfl) rfl rfl (Nat.le_of_ble_eq_true rfl) rfl (fun v9 n9 M9 hp9 => ?_)
          obtain ⟨rfl, rfl, rfl⟩ := hp9
          exact jk_iret h hR dX9_share_67 (Nat.le_of_ble_eq_true rfl) (Nat.le_of_ble_eq_true rfl) (jrd_of (by unfold shrR; rw [if_pos ⟨by omega, by omega⟩, if_pos (by omega), hcol]))
      · refine jk_bipush (q := 37) h dX9_share_35 (by decide) rfl ?_
        exact jk_iret h hR dX9_share_37 (Nat.le_of_ble_eq_true rfl) (Nat.le_of_ble_eq_true rfl) (jrd_of (by unfold shrR; rw [if_pos ⟨by omega, by omega⟩, if_neg (by omega)]))
    · refine jk_bipush (q := 17) h dX9_share_15 (by decide) rfl ?_
      exact jk_iret h hR dX9_share_17 (Nat.le_of_ble_eq_true rfl) (Nat.le_of_ble_eq_true rfl) (jrd_of (by unfold shrR; rw [if_neg (by omega)]))

set_option maxHeartbeats 4000000 in
set_option maxRecDepth 100000 in
theorem c_X9_height {l : Launch} {D : va_G} {b0 : Nat} {n : Nat} {M : jM} {e lo : Nat} {x : TS} {hl : Int} {hk : Nat → TS} {sl : Nat → Option TS} {sg : Nat → Int} {len : Int} (hW : ehP M n e lo x hl hk sl sg len none) {c : Int} (h_c : jRng c) (hin : inQ x) : jCtr l D b0 yX9_height cX9_height 3 (some .long) 2 0 0 [.ref e, jI c] n M (fun v n2 M2 => some (.long (hgtR x c)) = v ∧ n = n2 ∧ M = M2) := by
  refine jctr (lv := [some (.ref e), some (jI c), none]) RX9 "height" rfl rfl (by decide) (Nat.le_of_ble_eq_true rfl) rfl ?_
  intro X h hR hX
  obtain ⟨g, gs, nx, at9, kd, fi, se, ti, tr, L, f, hE, hNw, hL, hH, hD, hR9, hC, hdy, hrs, hsQ, hpQ, hcQ, hnx, hhl, hlo1, hlo2⟩ := id hW
  obtain ⟨hS, hT, hN, hA, hB, hP⟩ := hNw
  obtain ⟨hse, htb, hr, hch, hOA, hOB, hOP⟩ := id hsQ
  obtain ⟨hya, hyb, hys⟩ := id htb
  obtain ⟨hin1, hin2, hin3⟩ := hin
  have hbA := hOA.2.2.2.2.2.2.2.2.1
  have hbB := hOB.2.2.2.2.2.2.2.2.1
  refine jk_iload_n (q := 1) h dX9_height_0 rfl rfl ?_
  refine jk_callS (q := 4) h hX (c_X9_isColumn ⟨by omega, by omega⟩) ms_X9_isColumn dX9_height_1 ml_X9_82 ⟨rfl, Nat.le_refl _⟩ rfl rfl (Nat.le_of_ble_eq_true rfl) (Nat.le_of_ble_eq_true rfl) rfl rfl (Nat.le_of_ble_eq_true rfl) rfl (fun v9 n9 M9 hp9 => ?_)
  obtain ⟨rfl, rfl, rfl⟩ := hp9
  refine jk_if_neB (q := 7) (tgt := 11) h dX9_height_4 (by decide) rfl (fun c4 => ?_) (fun c4 => ?_)
  · refine jk_aload_n (q := 12) h dX9_height_11 rfl rfl ?_
    refine jk_get (q := 15) h fg_X9_12 dX9_height_12 (hE.at 0 rfl) rfl rfl ?_
    refine jk_getN (q := 18) h fg_X9_92 dX9_height_15 (hS.at 0 rfl) rfl rfl ?_
    refine jk_iload_n (q := 19) h dX9_height_18 rfl rfl ?_
    rcases Decidable.em (c = 0) with hq0 | hq0
    · refine jk_callV (q := 22) h hX (c_X0_facts hN ⟨by omega, by omega⟩) mv_X0_facts (hN.at 0 rfl) dX9_height_19 ml_X9_96 ⟨rfl, Nat.le_refl _⟩ rfl rfl (Nat.le_of_ble_eq_true rfl) (Nat.le_of_ble_eq_true rfl) rfl rfl (Nat.le_of_ble_eq_true rfl) rfl (fun v9 n9 M9 hp9 => ?_)
      obtain ⟨rfl, rfl, rfl⟩ := hp9
      rw [if_pos hq0]
      have hO := hOA
      have hsb := sbT_bd hsQ hO hin1
      have hbn := hbA
      have hcol : colA x c = x.2.2.2.1 := if_pos hq0
      refine jk_astore_n (q := 23) h dX9_height_22 rfl (Nat.le_of_ble_eq_true rfl) rfl rfl ?_
      refine jk_aload_n (q := 24) h dX9_height_23 rfl rfl ?_
      refine jk_getN (q := 27) h fg_X9_130 dX9_height_24 (hA.at 0 rfl) rfl rfl ?_
      refine jk_if_gt (q := 30) (tgt := 32) h dX9_height_27 (by decide) rfl ⟨by omega, by omega⟩ (fun c27 => ?_) (fun c27 => ?_)
      · obtain ⟨hs1, hs2, hs3⟩ := heC_f hsb.1 hsb.2 (by omega) hbn.2
        refine jk_aload_n (q := 33) h dX9_height_32 rfl rfl ?_
        refine jk_callV (q := 36) h hX (c_X2_rowsOfBuckets hA hO) mv_X2_rowsOfBuckets (hA.at 0 rfl) dX9_height_33 ml_X9_189 ⟨rfl, Nat.le_refl _⟩ rfl rfl (Nat.le_of_ble_eq_true rfl) (Nat.le_of_ble_eq_true rfl) rfl rfl (Nat.le_of_ble_eq_true rfl) rfl (fun v9 n9 M9 hp9 => ?_)
        obtain ⟨rfl, rfl, rfl⟩ := hp9
        refine jk_i2d (q := 37) h dX9_height_36 rfl ?_
        refine jk_aload_n (q := 38) h dX9_height_37 rfl rfl ?_
        refine jk_getN (q := 41) h fg_X9_130 dX9_height_38 (hA.at 0 rfl) rfl rfl ?_
        refine jk_i2d (q := 42) h dX9_height_41 rfl ?_
        refine jk_ddiv (q := 43) h dX9_height_42 hs1 rfl ?_
        refine jk_callS (q := 46) h hX (c_X1_ofDouble hs3) ms_X1_ofDouble dX9_height_43 ml_X9_192 ⟨rfl, Nat.le_refl _⟩ rfl rfl (Nat.le_of_ble_eq_true rfl) (Nat.le_of_ble_eq_true rfl) rfl rfl (Nat.le_of_ble_eq_true rfl) rfl (fun v9 n9 M9 hp9 => ?_)
        obtain ⟨rfl, rfl, rfl⟩ := hp9
        exact jk_lret h hR dX9_height_46 (Nat.le_of_ble_eq_true rfl) (Nat.le_of_ble_eq_true rfl) ⟨by unfold hgtR; rw [if_pos (by omega), hcol, if_pos (by omega)], rfl, rfl⟩
      · refine jk_lconst (q := 31) h dX9_height_30 rfl ?_
        exact jk_lret h hR dX9_height_31 (Nat.le_of_ble_eq_true rfl) (Nat.le_of_ble_eq_true rfl) ⟨by unfold hgtR; rw [if_pos (by omega), hcol, if_neg (by omega)]; rfl, rfl, rfl⟩
    · refine jk_callV (q := 22) h hX (c_X0_facts hN ⟨by omega, by omega⟩) mv_X0_facts (hN.at 0 rfl) dX9_height_19 ml_X9_96 ⟨rfl, Nat.le_refl _⟩ rfl rfl (Nat.le_of_ble_eq_true rfl) (Nat.le_of_ble_eq_true rfl) rfl rfl (Nat.le_of_ble_eq_true rfl) rfl (fun v9 n9 M9 hp9 => ?_)
      obtain ⟨rfl, rfl, rfl⟩ := hp9
      rw [if_neg hq0]
      have hO := hOB
      have hsb := sbT_bd hsQ hO hin2
      have hbn := hbB
      have hcol : colA x c = x.2.2.2.2.1 := if_neg hq0
      refine jk_astore_n (q := 23) h dX9_height_22 rfl (Nat.le_of_ble_eq_true rfl) rfl rfl ?_
      refine jk_aload_n (q := 24) h dX9_height_23 rfl rfl ?_
      refine jk_getN (q := 27) h fg_X9_130 dX9_height_24 (hB.at 0 rfl) rfl rfl ?_
      refine jk_if_gt (q := 30) (tgt := 32) h dX9_height_27 (by decide) rfl ⟨by omega, by omega⟩ (fun c27 => ?_) (fun c27 => ?_)
      · obtain ⟨hs1, hs2, hs3⟩ := heC_f hsb.1 hsb.2 (by omega) hbn.2
        refine jk_aload_n (q := 33) h dX9_height_32 rfl rfl ?_
        refine jk_callV (q := 36) h hX (c_X2_rowsOfBuckets hB hO) mv_X2_rowsOfBuckets (hB.at 0 rfl) dX9_height_33 ml_X9_189 ⟨rfl, Nat.le_refl _⟩ rfl rfl (Nat.le_of_ble_eq_true rfl) (Nat.le_of_ble_eq_true rfl) rfl rfl (Nat.le_of_ble_eq_true rfl) rfl (fun v9 n9 M9 hp9 => ?_)
        obtain ⟨rfl, rfl, rfl⟩ := hp9
        refine jk_i2d (q := 37) h dX9_height_36 rfl ?_
        refine jk_aload_n (q := 38) h dX9_height_37 rfl rfl ?_
        refine jk_getN (q := 41) h fg_X9_130 dX9_height_38 (hB.at 0 rfl) rfl rfl ?_
        refine jk_i2d (q := 42) h dX9_height_41 rfl ?_
        refine jk_ddiv (q := 43) h dX9_height_42 hs1 rfl ?_
        refine jk_callS (q := 46) h hX (c_X1_ofDouble hs3) ms_X1_ofDouble dX9_height_43 ml_X9_192 ⟨rfl, Nat.le_refl _⟩ rfl rfl (Nat.le_of_ble_eq_true rfl) (Nat.le_of_ble_eq_true rfl) rfl rfl (Nat.le_of_ble_eq_true rfl) rfl (fun v9 n9 M9 hp9 => ?_)
        obtain ⟨rfl, rfl, rfl⟩ := hp9
        exact jk_lret h hR dX9_height_46 (Nat.le_of_ble_eq_true rfl) (Nat.le_of_ble_eq_true rfl) ⟨by unfold hgtR; rw [if_pos (by omega), hcol, if_pos (by omega)], rfl, rfl⟩
      · refine jk_lconst (q := 31) h dX9_height_30 rfl ?_
        exact jk_lret h hR dX9_height_31 (Nat.le_of_ble_eq_true rfl) (Nat.le_of_ble_eq_true rfl) ⟨by unfold hgtR; rw [if_pos (by omega), hcol, if_neg (by omega)]; rfl, rfl, rfl⟩
  · refine jk_ldc2 (q := 10) h dX9_height_7 kc_X9_187 rfl ?_
    exact jk_lret h hR dX9_height_10 (Nat.le_of_ble_eq_true rfl) (Nat.le_of_ble_eq_true rfl) ⟨by unfold hgtR; rw [if_neg (by omega)], rfl, rfl⟩
