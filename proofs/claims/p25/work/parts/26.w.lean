/-! EqualHeights: what changes -/
theorem aS_inj {gs gs2 : Nat → Option Nat} (h : (aS 2 gs : jC) = aS 2 gs2) : gs = gs2 := by
  have h1 : (fun k => va_rf (gs k)) = fun k => va_rf (gs2 k) := by
    have := Sum.inl.inj h
    exact (Prod.mk.inj (Prod.mk.inj this).2).2
  funext k
  have h2 := congrFun h1 k
  simp only [va_rf] at h2
  cases h3 : gs k <;> cases h4 : gs2 k <;> rw [h3, h4] at h2 <;> first | rfl | exact congrArg some (Value.ref.inj h2) | exact Value.noConfusion h2
theorem chQ_r {x x2 : TS} {q v r : Int} (hx : stQ x) (h : chQ x q v r x2) : -4 ≤ r ∧ r ≤ 100 := by
  rcases h with ⟨-, rfl, -⟩ | ⟨h1, rfl, -⟩
  · omega
  · have h2 := seQ_up (f := x.1) hx.1 h1
    obtain ⟨⟨a1, a2⟩, ⟨b1, b2⟩, ⟨c1, c2⟩, d1, d2⟩ := hx.1
    have hq : q.toNat = 0 ∨ q.toNat = 1 ∨ q.toNat = 2 ∨ q.toNat = 3 := by omega
    rcases hq with z | z | z | z <;> rw [z] <;> omega
theorem drQ_r {x x2 : TS} {p r : Int} (hx : stQ x) (h : drQ x p r x2) : -4 ≤ r ∧ r ≤ 60 := by
  have := hx.2.1.2.2
  rcases h with ⟨-, rfl, -⟩ | ⟨h1, rfl, -⟩ <;> omega
theorem anQ_r {x x2 : TS} {r : Int} (hx : stQ x) (h : anQ x r x2) : -5 ≤ r ∧ r ≤ 60 := by
  have := hx.2.1.2.2
  rcases h with ⟨-, rfl, -⟩ | ⟨h1, rfl, -⟩ <;> omega
theorem arQ_s {x x2 : TS} {p q : Int} : ∀ {k : Nat} {r : Int}, stQ x → arQ x p q k r x2 → x2.2.2.1.2 ≤ x.2.2.1.2 + k
  | 0, r, _, h => by rw [h.2]; omega
  | k + 1, r, hx, ⟨r1, x1, h1, h2⟩ => by
    have a := arQ_s hx h1
    have b := adQ_ch h2
    omega
theorem arQ_in {x x2 : TS} {p q : Int} : ∀ {k : Nat} {r : Int}, inQ x → arQ x p q k r x2 → inQ x2
  | 0, r, hx, h => by rw [h.2]; exact hx
  | k + 1, r, hx, ⟨r1, x1, h1, h2⟩ => adQ_in (arQ_in hx h1) h2
theorem rsQ_sOld {g gs : Nat → Option Nat} {nx hl : Int} {hk : Nat → TS} {sl : Nat → Option TS} {L : List Nat} {f : Nat → TS} {y : TS} {a i : Nat} (h : rsQ g gs nx hl hk sl none L f) (hi : i < 2) (hg : gs i = some a) : rsQ g gs nx hl hk (fun k => if k = i then some y else sl k) none L (fup9 f a y) := by
  obtain ⟨a1, a2, a3, a4, a5, a6⟩ := h
  have hno : ∀ k, k < 7 → g k ≠ some a := by
    rcases a4 i hi with z | ⟨b, h1, h2, h3, h4⟩
    · rw [z.1] at hg; exact absurd hg (by simp)
    · rw [hg] at h1; cases h1; exact h4
  refine ⟨a1, a2, fun j hj => ?_, fun k hk2 => ?_, a5, fun z hz => by cases hz⟩
  · obtain ⟨b, h1, h2⟩ := a3 j hj
    refine ⟨b, h1, ?_⟩
    have hne : b ≠ a := fun z => hno _ (rgI_lt j) (z ▸ h1)
    simp only [fup9, if_neg hne]
    exact h2
  · by_cases hki : k = i
    · subst hki
      rcases a4 k hk2 with z | ⟨b, h1, h2, h3, h4⟩
      · rw [z.1] at hg; exact absurd hg (by simp)
      · rw [hg] at h1
        cases h1
        exact Or.inr ⟨a, hg, h2, by simp [fup9], h4⟩
    · rcases a4 k hk2 with z | ⟨b, h1, h2, h3, h4⟩
      · exact Or.inl ⟨z.1, by simp only [if_neg hki]; exact z.2⟩
      · have hne : b ≠ a := fun z => hki (a5 k i a hk2 hi (z ▸ h1) hg)
        exact Or.inr ⟨b, h1, h2, by simp only [if_neg hki, fup9, if_neg hne]; exact h3, h4⟩
theorem rsQ_sNew {g gs : Nat → Option Nat} {nx hl : Int} {hk : Nat → TS} {sl : Nat → Option TS} {L : List Nat} {f : Nat → TS} {y : TS} {a i : Nat} (h : rsQ g gs nx hl hk sl none L f) (hi : i < 2) (ha : a ∉ L) : rsQ g (va_up gs i (some a)) nx hl hk (fun k => if k = i then some y else sl k) none (a :: L) (fup9 f a y) := by
  obtain ⟨a1, a2, a3, a4, a5, a6⟩ := h
  have hneq : ∀ {b : Nat}, b ∈ L → b ≠ a := fun hb z => ha (z ▸ hb)
  have hu : ∀ k b, va_up gs i (some a) k = some b → (k = i ∧ b = a) ∨ (k ≠ i ∧ gs k = some b) := fun k b hb => by
    unfold va_up at hb
    by_cases e : k = i
    · rw [if_pos e] at hb
      exact Or.inl ⟨e, (Option.some.inj hb).symm⟩
    · rw [if_neg e] at hb
      exact Or.inr ⟨e, hb⟩
  have hin : ∀ k b, k < 2 → gs k = some b → b ∈ L := fun k b hk2 hb => by
    rcases a4 k hk2 with z | ⟨c, h1, h2, -⟩
    · rw [z.1] at hb; exact absurd hb (by simp)
    · rw [hb] at h1; cases h1; exact h2
  refine ⟨fun k b hk2 hb => List.mem_cons_of_mem _ (a1 k b hk2 hb), a2, fun j hj => ?_, fun k hk2 => ?_, fun j k b hj hk2 h1 h2 => ?_, fun z hz => by cases hz⟩
  · obtain ⟨b, h1, h2⟩ := a3 j hj
    refine ⟨b, h1, ?_⟩
    simp only [fup9, if_neg (hneq (a1 _ b (rgI_lt j) h1))]
    exact h2
  · by_cases hki : k = i
    · subst hki
      exact Or.inr ⟨a, by simp [va_up], List.mem_cons_self, by simp [fup9], fun j hj hb => ha (a1 j a hj hb)⟩
    · rcases a4 k hk2 with z | ⟨b, h1, h2, h3, h4⟩
      · exact Or.inl ⟨by unfold va_up; rw [if_neg hki]; exact z.1, by simp only [if_neg hki]; exact z.2⟩
      · exact Or.inr ⟨b, by unfold va_up; rw [if_neg hki]; exact h1, List.mem_cons_of_mem _ h2, by simp only [if_neg hki, fup9, if_neg (hneq h2)]; exact h3, h4⟩
  · rcases hu j b h1 with ⟨z1, z2⟩ | ⟨z1, z2⟩ <;> rcases hu k b h2 with ⟨w1, w2⟩ | ⟨w1, w2⟩
    · omega
    · exact absurd z2 (hneq (hin k b hk2 w2))
    · exact absurd w2 (hneq (hin j b hj z2))
    · exact a5 j k b hj hk2 z2 w2

theorem ehP.non {M : jM} {n e lo : Nat} {x : TS} {hl : Int} {hk : Nat → TS} {sl : Nat → Option TS} {sg : Nat → Int} {len : Int} {pr : Option TS} (h : ehP M n e lo x hl hk sl sg len pr) : ehP M n e lo x hl hk sl sg len none := by
  obtain ⟨g, gs, nx, at9, kd, fi, se, ti, tr, L, f, h1, h2, h3, h4, h5, h6, h7, h8, h9, q⟩ := h
  exact ⟨g, gs, nx, at9, kd, fi, se, ti, tr, L, f, h1, h2, h3, h4, h5, h6, h7, h8, rsQ_none h9, q⟩

set_option maxHeartbeats 4000000 in
set_option maxRecDepth 100000 in
theorem c_X9_recorded {l : Launch} {D : va_G} {b0 : Nat} {n : Nat} {M : jM} {e lo : Nat} {x : TS} {hl : Int} {hk : Nat → TS} {sl : Nat → Option TS} {sg : Nat → Int} {len : Int} {y : TS} (hW : ehP M n e lo x hl hk sl sg len (some y)) {r : Int} (hr : jRng r) : jCtr l D b0 yX9_recorded cX9_recorded 2 (some .int) 2 0 0 [.ref e, jI r] n M (fun v n2 M2 => some (jI r) = v ∧ n = n2 ∧ ehP M2 n e lo x (rcH r hl) (rcK r y hk) sl sg len none ∧ jlo M M2 lo e 41) := by
  refine jctr (lv := [some (.ref e), some (jI r)]) RX9 "recorded" rfl rfl (by decide) (Nat.le_of_ble_eq_true rfl) rfl ?_
  intro X h hR hX
  obtain ⟨g, gs, nx, at9, kd, fi, se, ti, tr, L, f, hE, hNw, hL, hH, hD, hR9, hC, hdy, hrs, hsQ, hpQ, hcQ, hnx, hhl, hlo1, hlo2⟩ := id hW
  obtain ⟨hS, hT, hN, hA, hB, hP⟩ := hNw
  have hj := jlo.rf M lo e 41
  refine jk_iload_n (q := 1) h dX9_recorded_0 rfl rfl ?_
  refine jk_if_lt (q := 4) (tgt := 11) h dX9_recorded_1 (by decide) rfl ⟨by omega, by omega⟩ (fun c1 => ?_) (fun c1 => ?_)
  · refine jk_iload_n (q := 12) h dX9_recorded_11 rfl rfl ?_
    exact jk_iret h hR dX9_recorded_12 (Nat.le_of_ble_eq_true rfl) (Nat.le_of_ble_eq_true rfl) (by first | exact ⟨rfl, rfl, by unfold rcH rcK; rw [if_neg (by omega), if_neg (by omega)]; exact ehP.non hW, hj⟩ | exact ⟨rfl, rfl, by unfold rcH rcK; rw [if_pos (by omega), if_pos (by omega)]; exact hW, hj⟩)
  · refine jk_aload_n (q := 5) h dX9_recorded_4 rfl rfl ?_
    refine jk_get (q := 8) h fg_X9_23 dX9_recorded_5 (hE.at 0 rfl) rfl rfl ?_
    refine jk_callV (q := 11) h hX (c_X3_keep hW) mv_X3_keep (hH.at 0 rfl) dX9_recorded_8 ml_X9_251 ⟨rfl, Nat.le_refl _⟩ rfl rfl (Nat.le_of_ble_eq_true rfl) (Nat.le_of_ble_eq_true rfl) rfl rfl (Nat.le_of_ble_eq_true rfl) rfl (fun v9 n9 M_1 hp9 => ?_)
    obtain ⟨rfl, rfl, hW, o_1⟩ := hp9
    have hj := hj.trq o_1 (by omega)
    refine jk_iload_n (q := 12) h dX9_recorded_11 rfl rfl ?_
    exact jk_iret h hR dX9_recorded_12 (Nat.le_of_ble_eq_true rfl) (Nat.le_of_ble_eq_true rfl) (by first | exact ⟨rfl, rfl, by unfold rcH rcK; rw [if_neg (by omega), if_neg (by omega)]; exact ehP.non hW, hj⟩ | exact ⟨rfl, rfl, by unfold rcH rcK; rw [if_pos (by omega), if_pos (by omega)]; exact hW, hj⟩)

set_option maxHeartbeats 4000000 in
set_option maxRecDepth 100000 in
theorem c_X9_set {l : Launch} {D : va_G} {b0 : Nat} {n : Nat} {M : jM} {e lo : Nat} {x : TS} {hl : Int} {hk : Nat → TS} {sl : Nat → Option TS} {sg : Nat → Int} {len : Int} (hW : ehP M n e lo x hl hk sl sg len none) {q : Int} {v : Int} (h_q : jRng q) (h_v : jRng v) : jCtr l D b0 yX9_set cX9_set 3 (some .int) 5 26 479 [.ref e, jI q, jI v] n M (fun v9 n2 M2 => ∃ (r : Int) (x2 : TS), some (jI r) = v9 ∧ n ≤ n2 ∧ n2 ≤ n + 26 ∧ ehP M2 n2 e lo x2 (rcH r hl) (rcK r x hk) sl sg len none ∧ chQ x q v r x2 ∧ jlo M M2 lo e 41) := by
  refine jctr (lv := [some (.ref e), some (jI q), some (jI v)]) RX9 "set" rfl rfl (by decide) (Nat.le_of_ble_eq_true rfl) rfl ?_
  intro X h hR hX
  obtain ⟨g, gs, nx, at9, kd, fi, se, ti, tr, L, f, hE, hNw, hL, hH, hD, hR9, hC, hdy, hrs, hsQ, hpQ, hcQ, hnx, hhl, hlo1, hlo2⟩ := id hW
  obtain ⟨hS, hT, hN, hA, hB, hP⟩ := hNw
  have hj := jlo.rf M lo e 41
  refine jk_aload_n (q := 1) h dX9_set_0 rfl rfl ?_
  refine jk_get (q := 4) h fg_X9_23 dX9_set_1 (hE.at 0 rfl) rfl rfl ?_
  refine jk_aload_n (q := 5) h dX9_set_4 rfl rfl ?_
  refine jk_get (q := 8) h fg_X9_12 dX9_set_5 (hE.at 0 rfl) rfl rfl ?_
  refine jk_callV (q := 11) h hX (c_X3_prepare hW) mv_X3_prepare (hH.at 0 rfl) dX9_set_8 ml_X9_50 ⟨rfl, Nat.le_refl _⟩ rfl rfl (Nat.le_of_ble_eq_true rfl) (Nat.le_of_ble_eq_true rfl) rfl rfl (Nat.le_of_ble_eq_true rfl) rfl (fun v9 n9 M_1 hp9 => ?_)
  obtain ⟨rfl, hn1, hn2, hW, o_1, hL27⟩ := hp9
  have hj := hj.tr o_1
  obtain ⟨g, gs, nx, at9, kd, fi, se, ti, tr, L, f, hE, hNw, hL, hH, hD, hR9, hC, hdy, hrs, hsQ, hpQ, hcQ, hnx, hhl, hlo1, hlo2⟩ := id hW
  obtain ⟨hS, hT, hN, hA, hB, hP⟩ := hNw
  refine jk_aload_n (q := 12) h dX9_set_11 rfl rfl ?_
  refine jk_aload_n (q := 13) h dX9_set_12 rfl rfl ?_
  refine jk_get (q := 16) h fg_X9_12 dX9_set_13 (hE.at 0 rfl) rfl rfl ?_
  refine jk_iload_n (q := 17) h dX9_set_16 rfl rfl ?_
  refine jk_iload_n (q := 18) h dX9_set_17 rfl rfl ?_
  refine jk_callV (q := 21) h hX (c_X7_change ⟨hS, hT, hN, hA, hB, hP⟩ hsQ h_q h_v) mv_X7_change (hS.at 0 rfl) dX9_set_18 ml_X9_54 ⟨rfl, Nat.le_refl _⟩ rfl rfl (Nat.le_of_ble_eq_true rfl) (Nat.le_of_ble_eq_true rfl) rfl rfl (Nat.le_of_ble_eq_true rfl) rfl (fun v9 n9 M_2 hp9 => ?_)
  obtain ⟨r9, x9, rfl, rfl, hst9, hq9, hsp9, o_2⟩ := hp9
  have hW := hW.now hst9 hq9 o_2
  have hj := hj.trq o_2 (by omega)
  have hr9 := chQ_r hsQ hsp9
  obtain ⟨g, gs, nx, at9, kd, fi, se, ti, tr, L, f, hE, hNw, hL, hH, hD, hR9, hC, hdy, hrs, hsQ, hpQ, hcQ, hnx, hhl, hlo1, hlo2⟩ := id hW
  obtain ⟨hS, hT, hN, hA, hB, hP⟩ := hNw
  refine jk_callV (q := 24) h hX (c_X9_recorded hW ⟨by omega, by omega⟩) mv_X9_recorded (hE.at 0 rfl) dX9_set_21 ml_X9_58 ⟨rfl, Nat.le_refl _⟩ rfl rfl (Nat.le_of_ble_eq_true rfl) (Nat.le_of_ble_eq_true rfl) rfl rfl (Nat.le_of_ble_eq_true rfl) rfl (fun v9 n9 M_3 hp9 => ?_)
  obtain ⟨rfl, rfl, hW, o_3⟩ := hp9
  have hj := hj.tr o_3
  exact jk_iret h hR dX9_set_24 (Nat.le_of_ble_eq_true rfl) (Nat.le_of_ble_eq_true rfl) ⟨r9, x9, rfl, hn1, hn2, hW, hsp9, hj⟩

set_option maxHeartbeats 4000000 in
set_option maxRecDepth 100000 in
theorem c_X9_insert {l : Launch} {D : va_G} {b0 : Nat} {n : Nat} {M : jM} {e lo : Nat} {x : TS} {hl : Int} {hk : Nat → TS} {sl : Nat → Option TS} {sg : Nat → Int} {len : Int} (hW : ehP M n e lo x hl hk sl sg len none) {p : Int} {q : Int} (h_p : jRng p) (h_q : jRng q) (hcc : x.2.2.1.2 ≤ 9999999) : jCtr l D b0 yX9_insert cX9_insert 3 (some .int) 5 26 479 [.ref e, jI p, jI q] n M (fun v9 n2 M2 => ∃ (r : Int) (x2 : TS), some (jI r) = v9 ∧ n ≤ n2 ∧ n2 ≤ n + 26 ∧ ehP M2 n2 e lo x2 (rcH r hl) (rcK r x hk) sl sg len none ∧ adQ x p q r x2 ∧ jlo M M2 lo e 41) := by
  refine jctr (lv := [some (.ref e), some (jI p), some (jI q)]) RX9 "insert" rfl rfl (by decide) (Nat.le_of_ble_eq_true rfl) rfl ?_
  intro X h hR hX
  obtain ⟨g, gs, nx, at9, kd, fi, se, ti, tr, L, f, hE, hNw, hL, hH, hD, hR9, hC, hdy, hrs, hsQ, hpQ, hcQ, hnx, hhl, hlo1, hlo2⟩ := id hW
  obtain ⟨hS, hT, hN, hA, hB, hP⟩ := hNw
  have hj := jlo.rf M lo e 41
  refine jk_aload_n (q := 1) h dX9_insert_0 rfl rfl ?_
  refine jk_get (q := 4) h fg_X9_23 dX9_insert_1 (hE.at 0 rfl) rfl rfl ?_
  refine jk_aload_n (q := 5) h dX9_insert_4 rfl rfl ?_
  refine jk_get (q := 8) h fg_X9_12 dX9_insert_5 (hE.at 0 rfl) rfl rfl ?_
  refine jk_callV (q := 11) h hX (c_X3_prepare hW) mv_X3_prepare (hH.at 0 rfl) dX9_insert_8 ml_X9_50 ⟨rfl, Nat.le_refl _⟩ rfl rfl (Nat.le_of_ble_eq_true rfl) (Nat.le_of_ble_eq_true rfl) rfl rfl (Nat.le_of_ble_eq_true rfl) rfl (fun v9 n9 M_1 hp9 => ?_)
  obtain ⟨rfl, hn1, hn2, hW, o_1, hL27⟩ := hp9
  have hj := hj.tr o_1
  obtain ⟨g, gs, nx, at9, kd, fi, se, ti, tr, L, f, hE, hNw, hL, hH, hD, hR9, hC, hdy, hrs, hsQ, hpQ, hcQ, hnx, hhl, hlo1, hlo2⟩ := id hW
  obtain ⟨hS, hT, hN, hA, hB, hP⟩ := hNw
  refine jk_aload_n (q := 12) h dX9_insert_11 rfl rfl ?_
  refine jk_aload_n (q := 13) h dX9_insert_12 rfl rfl ?_
  refine jk_get (q := 16) h fg_X9_12 dX9_insert_13 (hE.at 0 rfl) rfl rfl ?_
  refine jk_iload_n (q := 17) h dX9_insert_16 rfl rfl ?_
  refine jk_iload_n (q := 18) h dX9_insert_17 rfl rfl ?_
  refine jk_callV (q := 21) h hX (c_X7_addRow ⟨hS, hT, hN, hA, hB, hP⟩ hsQ hcc h_p h_q) mv_X7_addRow (hS.at 0 rfl) dX9_insert_18 ml_X9_62 ⟨rfl, Nat.le_refl _⟩ rfl rfl (Nat.le_of_ble_eq_true rfl) (Nat.le_of_ble_eq_true rfl) rfl rfl (Nat.le_of_ble_eq_true rfl) rfl (fun v9 n9 M_2 hp9 => ?_)
  obtain ⟨r9, x9, rfl, rfl, hst9, hq9, hsp9, o_2⟩ := hp9
  have hW := hW.now hst9 hq9 o_2
  have hj := hj.trq o_2 (by omega)
  have hr9 := adQ_r hsQ hsp9
  obtain ⟨g, gs, nx, at9, kd, fi, se, ti, tr, L, f, hE, hNw, hL, hH, hD, hR9, hC, hdy, hrs, hsQ, hpQ, hcQ, hnx, hhl, hlo1, hlo2⟩ := id hW
  obtain ⟨hS, hT, hN, hA, hB, hP⟩ := hNw
  refine jk_callV (q := 24) h hX (c_X9_recorded hW ⟨by omega, by omega⟩) mv_X9_recorded (hE.at 0 rfl) dX9_insert_21 ml_X9_58 ⟨rfl, Nat.le_refl _⟩ rfl rfl (Nat.le_of_ble_eq_true rfl) (Nat.le_of_ble_eq_true rfl) rfl rfl (Nat.le_of_ble_eq_true rfl) rfl (fun v9 n9 M_3 hp9 => ?_)
  obtain ⟨rfl, rfl, hW, o_3⟩ := hp9
  have hj := hj.tr o_3
  exact jk_iret h hR dX9_insert_24 (Nat.le_of_ble_eq_true rfl) (Nat.le_of_ble_eq_true rfl) ⟨r9, x9, rfl, hn1, hn2, hW, hsp9, hj⟩

set_option maxHeartbeats 4000000 in
set_option maxRecDepth 100000 in
theorem c_X9_remove {l : Launch} {D : va_G} {b0 : Nat} {n : Nat} {M : jM} {e lo : Nat} {x : TS} {hl : Int} {hk : Nat → TS} {sl : Nat → Option TS} {sg : Nat → Int} {len : Int} (hW : ehP M n e lo x hl hk sl sg len none) {p : Int} (h_p : jRng p) (hcc : x.2.2.1.2 ≤ 9999999) : jCtr l D b0 yX9_remove cX9_remove 2 (some .int) 5 26 479 [.ref e, jI p] n M (fun v9 n2 M2 => ∃ (r : Int) (x2 : TS), some (jI r) = v9 ∧ n ≤ n2 ∧ n2 ≤ n + 26 ∧ ehP M2 n2 e lo x2 (rcH r hl) (rcK r x hk) sl sg len none ∧ drQ x p r x2 ∧ jlo M M2 lo e 41) := by
  refine jctr (lv := [some (.ref e), some (jI p)]) RX9 "remove" rfl rfl (by decide) (Nat.le_of_ble_eq_true rfl) rfl ?_
  intro X h hR hX
  obtain ⟨g, gs, nx, at9, kd, fi, se, ti, tr, L, f, hE, hNw, hL, hH, hD, hR9, hC, hdy, hrs, hsQ, hpQ, hcQ, hnx, hhl, hlo1, hlo2⟩ := id hW
  obtain ⟨hS, hT, hN, hA, hB, hP⟩ := hNw
  have hj := jlo.rf M lo e 41
  refine jk_aload_n (q := 1) h dX9_remove_0 rfl rfl ?_
  refine jk_get (q := 4) h fg_X9_23 dX9_remove_1 (hE.at 0 rfl) rfl rfl ?_
  refine jk_aload_n (q := 5) h dX9_remove_4 rfl rfl ?_
  refine jk_get (q := 8) h fg_X9_12 dX9_remove_5 (hE.at 0 rfl) rfl rfl ?_
  refine jk_callV (q := 11) h hX (c_X3_prepare hW) mv_X3_prepare (hH.at 0 rfl) dX9_remove_8 ml_X9_50 ⟨rfl, Nat.le_refl _⟩ rfl rfl (Nat.le_of_ble_eq_true rfl) (Nat.le_of_ble_eq_true rfl) rfl rfl (Nat.le_of_ble_eq_true rfl) rfl (fun v9 n9 M_1 hp9 => ?_)
  obtain ⟨rfl, hn1, hn2, hW, o_1, hL27⟩ := hp9
  have hj := hj.tr o_1
  obtain ⟨g, gs, nx, at9, kd, fi, se, ti, tr, L, f, hE, hNw, hL, hH, hD, hR9, hC, hdy, hrs, hsQ, hpQ, hcQ, hnx, hhl, hlo1, hlo2⟩ := id hW
  obtain ⟨hS, hT, hN, hA, hB, hP⟩ := hNw
  refine jk_aload_n (q := 12) h dX9_remove_11 rfl rfl ?_
  refine jk_aload_n (q := 13) h dX9_remove_12 rfl rfl ?_
  refine jk_get (q := 16) h fg_X9_12 dX9_remove_13 (hE.at 0 rfl) rfl rfl ?_
  refine jk_iload_n (q := 17) h dX9_remove_16 rfl rfl ?_
  refine jk_callV (q := 20) h hX (c_X7_dropRow ⟨hS, hT, hN, hA, hB, hP⟩ hsQ hcc h_p) mv_X7_dropRow (hS.at 0 rfl) dX9_remove_17 ml_X9_65 ⟨rfl, Nat.le_refl _⟩ rfl rfl (Nat.le_of_ble_eq_true rfl) (Nat.le_of_ble_eq_true rfl) rfl rfl (Nat.le_of_ble_eq_true rfl) rfl (fun v9 n9 M_2 hp9 => ?_)
  obtain ⟨r9, x9, rfl, rfl, hst9, hq9, hsp9, o_2⟩ := hp9
  have hW := hW.now hst9 hq9 o_2
  have hj := hj.trq o_2 (by omega)
  have hr9 := drQ_r hsQ hsp9
  obtain ⟨g, gs, nx, at9, kd, fi, se, ti, tr, L, f, hE, hNw, hL, hH, hD, hR9, hC, hdy, hrs, hsQ, hpQ, hcQ, hnx, hhl, hlo1, hlo2⟩ := id hW
  obtain ⟨hS, hT, hN, hA, hB, hP⟩ := hNw
  refine jk_callV (q := 23) h hX (c_X9_recorded hW ⟨by omega, by omega⟩) mv_X9_recorded (hE.at 0 rfl) dX9_remove_20 ml_X9_58 ⟨rfl, Nat.le_refl _⟩ rfl rfl (Nat.le_of_ble_eq_true rfl) (Nat.le_of_ble_eq_true rfl) rfl rfl (Nat.le_of_ble_eq_true rfl) rfl (fun v9 n9 M_3 hp9 => ?_)
  obtain ⟨rfl, rfl, hW, o_3⟩ := hp9
  have hj := hj.tr o_3
  exact jk_iret h hR dX9_remove_23 (Nat.le_of_ble_eq_true rfl) (Nat.le_of_ble_eq_true rfl) ⟨r9, x9, rfl, hn1, hn2, hW, hsp9, hj⟩

set_option maxHeartbeats 4000000 in
set_option maxRecDepth 100000 in
theorem c_X9_analyse {l : Launch} {D : va_G} {b0 : Nat} {n : Nat} {M : jM} {e lo : Nat} {x : TS} {hl : Int} {hk : Nat → TS} {sl : Nat → Option TS} {sg : Nat → Int} {len : Int} (hW : ehP M n e lo x hl hk sl sg len none) : jCtr l D b0 yX9_analyse cX9_analyse 1 (some .int) 5 26 479 [.ref e] n M (fun v9 n2 M2 => ∃ (r : Int) (x2 : TS), some (jI r) = v9 ∧ n ≤ n2 ∧ n2 ≤ n + 26 ∧ ehP M2 n2 e lo x2 (rcH r hl) (rcK r x hk) sl sg len none ∧ anQ x r x2 ∧ jlo M M2 lo e 41) := by
  refine jctr (lv := [some (.ref e)]) RX9 "analyse" rfl rfl (by decide) (Nat.le_of_ble_eq_true rfl) rfl ?_
  intro X h hR hX
  obtain ⟨g, gs, nx, at9, kd, fi, se, ti, tr, L, f, hE, hNw, hL, hH, hD, hR9, hC, hdy, hrs, hsQ, hpQ, hcQ, hnx, hhl, hlo1, hlo2⟩ := id hW
  obtain ⟨hS, hT, hN, hA, hB, hP⟩ := hNw
  have hj := jlo.rf M lo e 41
  refine jk_aload_n (q := 1) h dX9_analyse_0 rfl rfl ?_
  refine jk_get (q := 4) h fg_X9_23 dX9_analyse_1 (hE.at 0 rfl) rfl rfl ?_
  refine jk_aload_n (q := 5) h dX9_analyse_4 rfl rfl ?_
  refine jk_get (q := 8) h fg_X9_12 dX9_analyse_5 (hE.at 0 rfl) rfl rfl ?_
  refine jk_callV (q := 11) h hX (c_X3_prepare hW) mv_X3_prepare (hH.at 0 rfl) dX9_analyse_8 ml_X9_50 ⟨rfl, Nat.le_refl _⟩ rfl rfl (Nat.le_of_ble_eq_true rfl) (Nat.le_of_ble_eq_true rfl) rfl rfl (Nat.le_of_ble_eq_true rfl) rfl (fun v9 n9 M_1 hp9 => ?_)
  obtain ⟨rfl, hn1, hn2, hW, o_1, hL27⟩ := hp9
  have hj := hj.tr o_1
  obtain ⟨g, gs, nx, at9, kd, fi, se, ti, tr, L, f, hE, hNw, hL, hH, hD, hR9, hC, hdy, hrs, hsQ, hpQ, hcQ, hnx, hhl, hlo1, hlo2⟩ := id hW
  obtain ⟨hS, hT, hN, hA, hB, hP⟩ := hNw
  refine jk_aload_n (q := 12) h dX9_analyse_11 rfl rfl ?_
  refine jk_aload_n (q := 13) h dX9_analyse_12 rfl rfl ?_
  refine jk_get (q := 16) h fg_X9_12 dX9_analyse_13 (hE.at 0 rfl) rfl rfl ?_
  refine jk_callV (q := 19) h hX (c_X7_makeAnalysis ⟨hS, hT, hN, hA, hB, hP⟩ hsQ) mv_X7_makeAnalysis (hS.at 0 rfl) dX9_analyse_16 ml_X9_68 ⟨rfl, Nat.le_refl _⟩ rfl rfl (Nat.le_of_ble_eq_true rfl) (Nat.le_of_ble_eq_true rfl) rfl rfl (Nat.le_of_ble_eq_true rfl) rfl (fun v9 n9 M_2 hp9 => ?_)
  obtain ⟨r9, x9, rfl, rfl, hst9, hq9, hsp9, o_2⟩ := hp9
  have hW := hW.now hst9 hq9 o_2
  have hj := hj.trq o_2 (by omega)
  have hr9 := anQ_r hsQ hsp9
  obtain ⟨g, gs, nx, at9, kd, fi, se, ti, tr, L, f, hE, hNw, hL, hH, hD, hR9, hC, hdy, hrs, hsQ, hpQ, hcQ, hnx, hhl, hlo1, hlo2⟩ := id hW
  obtain ⟨hS, hT, hN, hA, hB, hP⟩ := hNw
  refine jk_callV (q := 22) h hX (c_X9_recorded hW ⟨by omega, by omega⟩) mv_X9_recorded (hE.at 0 rfl) dX9_analyse_19 ml_X9_58 ⟨rfl, Nat.le_refl _⟩ rfl rfl (Nat.le_of_ble_eq_true rfl) (Nat.le_of_ble_eq_true rfl) rfl rfl (Nat.le_of_ble_eq_true rfl) rfl (fun v9 n9 M_3 hp9 => ?_)
  obtain ⟨rfl, rfl, hW, o_3⟩ := hp9
  have hj := hj.tr o_3
  exact jk_iret h hR dX9_analyse_22 (Nat.le_of_ble_eq_true rfl) (Nat.le_of_ble_eq_true rfl) ⟨r9, x9, rfl, hn1, hn2, hW, hsp9, hj⟩

set_option maxHeartbeats 4000000 in
set_option maxRecDepth 100000 in
theorem c_X9_undo {l : Launch} {D : va_G} {b0 : Nat} {n : Nat} {M : jM} {e lo : Nat} {x : TS} {hl : Int} {hk : Nat → TS} {sl : Nat → Option TS} {sg : Nat → Int} {len : Int} (hW : ehP M n e lo x hl hk sl sg len none) : jCtr l D b0 yX9_undo cX9_undo 1 (some .int) 5 0 0 [.ref e] n M (fun v n2 M2 => ∃ r : Int, some (jI r) = v ∧ n = n2 ∧ ((hl = 0 ∧ r = -5 ∧ ehP M2 n e lo x hl hk sl sg len none) ∨ (0 < hl ∧ r = hl - 1 ∧ ehP M2 n e lo (hk 0) (hl - 1) (fun j => hk (j + 1)) sl sg len none)) ∧ jlo M M2 lo e 41) := by
  refine jctr (lv := [some (.ref e)]) RX9 "undo" rfl rfl (by decide) (Nat.le_of_ble_eq_true rfl) rfl ?_
  intro X h hR hX
  obtain ⟨g, gs, nx, at9, kd, fi, se, ti, tr, L, f, hE, hNw, hL, hH, hD, hR9, hC, hdy, hrs, hsQ, hpQ, hcQ, hnx, hhl, hlo1, hlo2⟩ := id hW
  obtain ⟨hS, hT, hN, hA, hB, hP⟩ := hNw
  have hj := jlo.rf M lo e 41
  refine jk_aload_n (q := 1) h dX9_undo_0 rfl rfl ?_
  refine jk_get (q := 4) h fg_X9_23 dX9_undo_1 (hE.at 0 rfl) rfl rfl ?_
  refine jk_getN (q := 7) h fg_X9_144 dX9_undo_4 (hH.at 0 rfl) rfl rfl ?_
  refine jk_if_ne (q := 10) (tgt := 13) h dX9_undo_7 (by decide) rfl ⟨by omega, by omega⟩ (fun c7 => ?_) (fun c7 => ?_)
  · refine jk_aload_n (q := 14) h dX9_undo_13 rfl rfl ?_
    refine jk_get (q := 17) h fg_X9_23 dX9_undo_14 (hE.at 0 rfl) rfl rfl ?_
    refine jk_aload_n (q := 18) h dX9_undo_17 rfl rfl ?_
    refine jk_get (q := 21) h fg_X9_12 dX9_undo_18 (hE.at 0 rfl) rfl rfl ?_
    refine jk_callV (q := 24) h hX (c_X3_bringBack hW (by omega)) mv_X3_bringBack (hH.at 0 rfl) dX9_undo_21 ml_X9_245 ⟨rfl, Nat.le_refl _⟩ rfl rfl (Nat.le_of_ble_eq_true rfl) (Nat.le_of_ble_eq_true rfl) rfl rfl (Nat.le_of_ble_eq_true rfl) rfl (fun v9 n9 M_1 hp9 => ?_)
    obtain ⟨rfl, rfl, hW, o_1⟩ := hp9
    have hj := hj.tr o_1
    have hh9 : 0 < hl := by omega
    obtain ⟨g, gs, nx, at9, kd, fi, se, ti, tr, L, f, hE, hNw, hL, hH, hD, hR9, hC, hdy, hrs, hsQ, hpQ, hcQ, hnx, hhl, hlo1, hlo2⟩ := id hW
    obtain ⟨hS, hT, hN, hA, hB, hP⟩ := hNw
    refine jk_aload_n (q := 25) h dX9_undo_24 rfl rfl ?_
    refine jk_get (q := 28) h fg_X9_23 dX9_undo_25 (hE.at 0 rfl) rfl rfl ?_
    refine jk_getN (q := 31) h fg_X9_144 dX9_undo_28 (hH.at 0 rfl) rfl rfl ?_
    exact jk_iret h hR dX9_undo_31 (Nat.le_of_ble_eq_true rfl) (Nat.le_of_ble_eq_true rfl) ⟨_, rfl, rfl, Or.inr ⟨hh9, rfl, hW⟩, hj⟩
  · refine jk_bipush (q := 12) h dX9_undo_10 (by decide) rfl ?_
    exact jk_iret h hR dX9_undo_12 (Nat.le_of_ble_eq_true rfl) (Nat.le_of_ble_eq_true rfl) ⟨-5, rfl, rfl, Or.inl ⟨by omega, rfl, hW⟩, hj⟩

/-- an order is followed -/
def foQ (x : TS) (kd fi se ti r : Int) (x2 : TS) : Prop := (kd = 43 ∧ arQ x fi se ti.toNat r x2) ∨ (kd = 45 ∧ drQ x fi r x2) ∨ (kd = 97 ∧ anQ x r x2) ∨ (kd = 98 ∧ chQ x 0 fi r x2) ∨ (kd = 99 ∧ chQ x 1 fi r x2) ∨ (kd = 112 ∧ chQ x 2 fi r x2)
theorem arQ_r {x x2 : TS} {p q : Int} {k : Nat} {r : Int} (hx : stQ x) (h : arQ x p q k r x2) : -4 ≤ r ∧ r ≤ 60 := by
  have key : ∀ {k : Nat} {r : Int} {x2 : TS}, arQ x p q k r x2 → (0 ≤ x2.2.1.2.2 ∧ x2.2.1.2.2 ≤ 60) ∧ -4 ≤ r ∧ r ≤ 60 := by
    intro k
    induction k with
    | zero =>
      intro r x2 h
      obtain ⟨h1, h2⟩ := h
      subst h1; subst h2
      exact ⟨hx.2.1.2.2, by omega⟩
    | succ k ih =>
      intro r x2 h
      obtain ⟨r1, x1, h1, h2⟩ := h
      have a := (ih h1).1
      rcases h2 with ⟨-, e, f⟩ | ⟨-, -, e, f⟩ | ⟨-, g, e, f⟩
      · subst e; subst f; exact ⟨a, by omega⟩
      · subst e; subst f; exact ⟨a, by omega⟩
      · subst e; subst f; exact ⟨by show 0 ≤ x1.2.1.2.2 + 1 ∧ x1.2.1.2.2 + 1 ≤ 60; omega, by omega⟩
  exact (key h).2
theorem foQ_r {x x2 : TS} {kd fi se ti r : Int} (hx : stQ x) (h : foQ x kd fi se ti r x2) : -5 ≤ r ∧ r ≤ 100 := by
  rcases h with ⟨-, h⟩ | ⟨-, h⟩ | ⟨-, h⟩ | ⟨-, h⟩ | ⟨-, h⟩ | ⟨-, h⟩
  · have := arQ_r hx h; omega
  · have := drQ_r hx h; omega
  · have := anQ_r hx h; omega
  · have := chQ_r hx h; omega
  · have := chQ_r hx h; omega
  · have := chQ_r hx h; omega
theorem foQ_c {x x2 : TS} {kd fi se ti r : Int} (hx : stQ x) (ht : kd = 43 → ti ≤ 9) (h : foQ x kd fi se ti r x2) : x2.2.2.1.2 ≤ x.2.2.1.2 + 9 := by
  have hc := hx.2.2.2.1
  rcases h with ⟨e, h⟩ | ⟨-, h⟩ | ⟨-, h⟩ | ⟨-, h⟩ | ⟨-, h⟩ | ⟨-, h⟩
  · have := arQ_s hx h; have := ht e; omega
  · rcases h with ⟨-, -, rfl⟩ | ⟨-, -, rfl⟩
    · omega
    · show nch _ _ ≤ _
      have := nch_le x.2.2.1.1 x.2.2.1.2
      omega
  · rcases h with ⟨-, -, rfl⟩ | ⟨-, -, A, B, p, rfl, -⟩
    · omega
    · show (0 : Int) ≤ _
      omega
  all_goals
    rcases h with ⟨-, -, rfl⟩ | ⟨-, -, rfl⟩
    · omega
    · show x.2.2.1.2 ≤ _
      omega
theorem foQ_in {x x2 : TS} {kd fi se ti r : Int} (hx : stQ x) (hi : inQ x) (h : foQ x kd fi se ti r x2) : inQ x2 := by
  rcases h with ⟨-, h⟩ | ⟨-, h⟩ | ⟨-, h⟩ | ⟨-, h⟩ | ⟨-, h⟩ | ⟨-, h⟩
  · exact arQ_in hi h
  · exact drQ_in hi h
  · exact anQ_in hx hi h
  all_goals exact chQ_in hi h
