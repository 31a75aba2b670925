/-! carryOut, save, restore, fewest, a new object -/
abbrev oFi (sg : Nat → Int) (len i : Int) : Int := nmV sg len (i + 1)
abbrev oSe (sg : Nat → Int) (len i : Int) : Int := nmV sg len (nmE sg len (i + 1) + 1)
abbrev oTi (sg : Nat → Int) (len i : Int) : Int := tmV sg len (nmE sg len (nmE sg len (i + 1) + 1))
abbrev nxO (sg : Nat → Int) (len a : Int) : Int := if sgA sg len (oE sg len a) = 59 then oE sg len a + 1 else oE sg len a
def coQ (sg : Nat → Int) (len : Int) : Nat → Int → Int → TS → Int → TS → Prop
  | 0, a, k, x, r, x2 => r = k ∧ x2 = x
  | f + 1, a, k, x, r, x2 => (¬ oK sg len a ∧ r = k ∧ x2 = x) ∨ (oK sg len a ∧ ∃ r1 x1, stQ x1 ∧ foQ x (sgA sg len a) (oFi sg len a) (oSe sg len a) (oTi sg len a) r1 x1 ∧ ((r1 < 0 ∧ r = k ∧ x2 = x1) ∨ (0 ≤ r1 ∧ coQ sg len f (nxO sg len a) (k + 1) x1 r x2)))
section COQ
variable {sg : Nat → Int} {len a k : Int} {y : TS}
theorem coQ_0 (h : 80 ≤ k) : coQ sg len (80 - k).toNat a k y k y := by
  rw [show (80 - k).toNat = 0 by omega]
  exact ⟨rfl, rfl⟩
theorem coQ_n (h : k < 80) (h2 : ¬ oK sg len a) : coQ sg len (80 - k).toNat a k y k y := by
  rw [show (80 - k).toNat = (80 - (k + 1)).toNat + 1 by omega]
  exact Or.inl ⟨h2, rfl, rfl⟩
theorem coQ_f {r1 : Int} {y1 : TS} (h : k < 80) (h2 : oK sg len a) (h9 : stQ y1) (h3 : foQ y (sgA sg len a) (oFi sg len a) (oSe sg len a) (oTi sg len a) r1 y1) (h4 : r1 < 0) : coQ sg len (80 - k).toNat a k y k y1 := by
  rw [show (80 - k).toNat = (80 - (k + 1)).toNat + 1 by omega]
  exact Or.inr ⟨h2, r1, y1, h9, h3, Or.inl ⟨h4, rfl, rfl⟩⟩
theorem coQ_s {r1 r : Int} {y1 x2 : TS} (h : k < 80) (h2 : oK sg len a) (h9 : stQ y1) (h3 : foQ y (sgA sg len a) (oFi sg len a) (oSe sg len a) (oTi sg len a) r1 y1) (h4 : 0 ≤ r1) (h5 : coQ sg len (80 - (k + 1)).toNat (nxO sg len a) (k + 1) y1 r x2) : coQ sg len (80 - k).toNat a k y r x2 := by
  rw [show (80 - k).toNat = (80 - (k + 1)).toNat + 1 by omega]
  exact Or.inr ⟨h2, r1, y1, h9, h3, Or.inr ⟨h4, h5⟩⟩
theorem foQ_o {fi se ti r : Int} {x2 : TS} (h : oF sg len a fi se ti) (h2 : foQ y (sgA sg len a) fi se ti r x2) : foQ y (sgA sg len a) (oFi sg len a) (oSe sg len a) (oTi sg len a) r x2 := by
  obtain ⟨h3, h4⟩ := h
  rcases h2 with ⟨e, h⟩ | ⟨e, h⟩ | ⟨e, h⟩ | ⟨e, h⟩ | ⟨e, h⟩ | ⟨e, h⟩
  · have h5 := h3 (by omega)
    obtain ⟨h6, h7⟩ := h4 e
    subst h5; subst h6; subst h7
    exact Or.inl ⟨e, h⟩
  · have h5 := h3 (by omega)
    subst h5
    exact Or.inr (Or.inl ⟨e, h⟩)
  · exact Or.inr (Or.inr (Or.inl ⟨e, h⟩))
  · have h5 := h3 (by omega)
    subst h5
    exact Or.inr (Or.inr (Or.inr (Or.inl ⟨e, h⟩)))
  · have h5 := h3 (by omega)
    subst h5
    exact Or.inr (Or.inr (Or.inr (Or.inr (Or.inl ⟨e, h⟩))))
  · have h5 := h3 (by omega)
    subst h5
    exact Or.inr (Or.inr (Or.inr (Or.inr (Or.inr ⟨e, h⟩))))
theorem oK_k (h : oK sg len a) : sgA sg len a = 43 ∨ sgA sg len a = 45 ∨ sgA sg len a = 97 ∨ sgA sg len a = 98 ∨ sgA sg len a = 99 ∨ sgA sg len a = 112 := by
  unfold oK at h
  omega
theorem oK_t {fi se ti : Int} (h : oK sg len a) (hf : oF sg len a fi se ti) (e : sgA sg len a = 43) : 0 ≤ ti ∧ ti ≤ 9 := by
  have h1 := (hf.2 e).2
  have h2 : rwK sg len (a + 1) := by
    rcases h with z | z | z
    · omega
    · exact z.2
    · omega
  obtain ⟨q1, q2, q3, q4⟩ := h2
  subst h1
  unfold tmK at q4
  unfold tmV
  split <;> omega
theorem oF_r {fi se ti : Int} (hf : oF sg len a fi se ti) : (sgA sg len a ≠ 97 → jRng fi) ∧ (sgA sg len a = 43 → jRng se) := by
  refine ⟨fun h => ?_, fun h => ?_⟩
  · rw [hf.1 h]
    have := nmV_bd sg len (a + 1)
    exact ⟨by omega, by omega⟩
  · rw [(hf.2 h).1]
    have := nmV_bd sg len (nmE sg len (a + 1) + 1)
    exact ⟨by omega, by omega⟩
theorem nxO_bd (h : pdQ sg len) (h0 : 0 ≤ a) (h1 : a ≤ 80) : 0 ≤ nxO sg len a ∧ nxO sg len a ≤ 80 := by
  have h2 := o_E h h0 h1
  unfold nxO
  split
  · have h3 := sgA_lt (i := oE sg len a) h (by omega)
    have h4 := h.2
    omega
  · omega
theorem ftS_bd (h : pdQ sg len) : ∀ (f : Nat) {i : Int}, 0 ≤ i → i ≤ 80 → -6 ≤ ftS sg len f i ∧ ftS sg len f i ≤ 80
  | 0, i, h0, h1 => ⟨by show -6 ≤ i; omega, h1⟩
  | f + 1, i, h0, h1 => by
    have h2 := o_E h h0 h1
    unfold ftS
    split
    · split
      · omega
      · split
        · omega
        · have h3 := sgA_lt (i := oE sg len i) h (by omega)
          have h4 := h.2
          exact ftS_bd h f (by omega) (by omega)
    · omega
end COQ

set_option maxHeartbeats 4000000 in
set_option maxRecDepth 100000 in
theorem c_X9_carryOut {l : Launch} {D : va_G} {b0 : Nat} {n : Nat} {M : jM} {e lo : Nat} {x : TS} {hl : Int} {hk : Nat → TS} {sl : Nat → Option TS} {sg : Nat → Int} {len : Int} (hW : ehP M n e lo x hl hk sl sg len none) (hcc : x.2.2.1.2 ≤ 9990000) : jCtr l D b0 yX9_carryOut cX9_carryOut 2 (some .int) 6 26 479 [.ref e] n M (fun v9 n2 M2 => ∃ (r : Int) (x2 : TS), some (jI r) = v9 ∧ n ≤ n2 ∧ n2 ≤ n + 26 ∧ ((ftS sg len 80 0 ≠ -6 ∧ r = -3 ∧ ehP M2 n2 e lo x hl hk sl sg len none) ∨ (ftS sg len 80 0 = -6 ∧ 0 ≤ r ∧ coQ sg len 80 0 0 x r x2 ∧ ehP M2 n2 e lo x2 (rcH r hl) (rcK r x hk) sl sg 0 none)) ∧ jlo M M2 lo e 41) := by
  refine jctr (lv := [some (.ref e), none]) RX9 "carryOut" rfl rfl (by decide) (Nat.le_of_ble_eq_true rfl) rfl ?_
  intro X h hR hX
  obtain ⟨g, gs, nx, at9, kd, fi, se, ti, tr, L, f, hE, hNw, hL, hH, hD, hR9, hC, hdy, hrs, hsQ, hpQ, hcQ, hnx, hhl, hlo1, hlo2⟩ := id hW
  obtain ⟨hS, hT, hN, hA, hB, hP⟩ := hNw
  have hj := jlo.rf M lo e 41
  have hft := ftS_bd hpQ 80 (i := 0) (by decide) (by decide)
  refine jk_aload_n (q := 1) h dX9_carryOut_0 rfl rfl ?_
  refine jk_get (q := 4) h fg_X9_39 dX9_carryOut_1 (hE.at 0 rfl) rfl rfl ?_
  refine jk_callV (q := 7) h hX (c_X6_findFault hR9 hD hpQ (by omega)) mv_X6_findFault (hR9.at 0 rfl) dX9_carryOut_4 ml_X9_213 ⟨rfl, Nat.le_refl _⟩ rfl rfl (Nat.le_of_ble_eq_true rfl) (Nat.le_of_ble_eq_true rfl) rfl rfl (Nat.le_of_ble_eq_true rfl) rfl (fun v9 n9 M_1 hp9 => ?_)
  obtain ⟨at2, kd2, fi2, se2, ti2, rfl, rfl, hR9, ha2, o_1⟩ := hp9
  have hW := hW.rdr hR9 o_1
  have hj := hj.trq o_1 (by omega)
  obtain ⟨g, gs, nx, at9, kd, fi, se, ti, tr, L, f, hE, hNw, hL, hH, hD, hR9, hC, hdy, hrs, hsQ, hpQ, hcQ, hnx, hhl, hlo1, hlo2⟩ := id hW
  obtain ⟨hS, hT, hN, hA, hB, hP⟩ := hNw
  refine jk_bipush (q := 9) h dX9_carryOut_7 (by decide) rfl ?_
  refine jk_icmp_eq (q := 12) (tgt := 15) h dX9_carryOut_9 (by decide) rfl ⟨by omega, by omega⟩ ⟨by omega, by omega⟩ (fun c9 => ?_) (fun c9 => ?_)
  · refine jk_aload_n (q := 16) h dX9_carryOut_15 rfl rfl ?_
    refine jk_get (q := 19) h fg_X9_23 dX9_carryOut_16 (hE.at 0 rfl) rfl rfl ?_
    refine jk_aload_n (q := 20) h dX9_carryOut_19 rfl rfl ?_
    refine jk_get (q := 23) h fg_X9_12 dX9_carryOut_20 (hE.at 0 rfl) rfl rfl ?_
    refine jk_callV (q := 26) h hX (c_X3_prepare hW) mv_X3_prepare (hH.at 0 rfl) dX9_carryOut_23 ml_X9_50 ⟨rfl, Nat.le_refl _⟩ rfl rfl (Nat.le_of_ble_eq_true rfl) (Nat.le_of_ble_eq_true rfl) rfl rfl (Nat.le_of_ble_eq_true rfl) rfl (fun v9 n9 M_2 hp9 => ?_)
    obtain ⟨rfl, hn1, hn2, hW, o_2, hL27⟩ := hp9
    have hj := hj.tr o_2
    obtain ⟨g, gs, nx, at9, kd, fi, se, ti, tr, L, f, hE, hNw, hL, hH, hD, hR9, hC, hdy, hrs, hsQ, hpQ, hcQ, hnx, hhl, hlo1, hlo2⟩ := id hW
    obtain ⟨hS, hT, hN, hA, hB, hP⟩ := hNw
    refine jk_iconst (q := 27) h dX9_carryOut_26 rfl ?_
    refine jk_istore_n (q := 28) h dX9_carryOut_27 rfl (Nat.le_of_ble_eq_true rfl) rfl rfl ?_
    have jn74 : ∀ (k : Int) (y : TS) (M9 : jM) (hW : ehP M9 n9 e lo y hl hk sl sg len (some x)) (hkk : 0 ≤ k ∧ k ≤ 80) (hco : coQ sg len 80 0 0 x k y) (hj : jlo M M9 lo e 41), jJ X 74 [some (.ref (e)), some (jI (k))] [] n9 M9 26 479 := by
      intro k y M9 hW hkk hco hj
      obtain ⟨g, gs, nx, at9, kd, fi, se, ti, tr, L, f, hE, hNw, hL, hH, hD, hR9, hC, hdy, hrs, hsQ, hpQ, hcQ, hnx, hhl, hlo1, hlo2⟩ := id hW
      obtain ⟨hS, hT, hN, hA, hB, hP⟩ := hNw
      refine jk_aload_n (q := 75) h dX9_carryOut_74 rfl rfl ?_
      refine jk_get (q := 78) h fg_X9_30 dX9_carryOut_75 (hE.at 0 rfl) rfl rfl ?_
      refine jk_callV (q := 81) h hX (c_X4_clear hD hpQ) mv_X4_clear (hD.at 0 rfl) dX9_carryOut_78 ml_X9_210 ⟨rfl, Nat.le_refl _⟩ rfl rfl (Nat.le_of_ble_eq_true rfl) (Nat.le_of_ble_eq_true rfl) rfl rfl (Nat.le_of_ble_eq_true rfl) rfl (fun v9 n9 M_3 hp9 => ?_)
      obtain ⟨rfl, rfl, hD, o_3⟩ := hp9
      have hW := hW.pdr hD ⟨hpQ.1, by decide, by decide⟩ o_3
      have hj := hj.trq o_3 (by omega)
      obtain ⟨g, gs, nx, at9, kd, fi, se, ti, tr, L, f, hE, hNw, hL, hH, hD, hR9, hC, hdy, hrs, hsQ, hpQ, hcQ, hnx, hhl, hlo1, hlo2⟩ := id hW
      obtain ⟨hS, hT, hN, hA, hB, hP⟩ := hNw
      refine jk_pop (q := 82) h dX9_carryOut_81 rfl rfl ?_
      refine jk_aload_n (q := 83) h dX9_carryOut_82 rfl rfl ?_
      refine jk_iload_n (q := 84) h dX9_carryOut_83 rfl rfl ?_
      refine jk_callV (q := 87) h hX (c_X9_recorded hW ⟨by omega, by omega⟩) mv_X9_recorded (hE.at 0 rfl) dX9_carryOut_84 ml_X9_58 ⟨rfl, Nat.le_refl _⟩ rfl rfl (Nat.le_of_ble_eq_true rfl) (Nat.le_of_ble_eq_true rfl) rfl rfl (Nat.le_of_ble_eq_true rfl) rfl (fun v9 n9 M_4 hp9 => ?_)
      obtain ⟨rfl, rfl, hW, o_4⟩ := hp9
      have hj := hj.tr o_4
      exact jk_iret h hR dX9_carryOut_87 (Nat.le_of_ble_eq_true rfl) (Nat.le_of_ble_eq_true rfl) ⟨k, y, rfl, hn1, hn2, Or.inr ⟨c9, by omega, hco, hW⟩, hj⟩
    refine jk_aload_n (q := 29) h dX9_carryOut_28 rfl rfl ?_
    refine jk_get (q := 32) h fg_X9_39 dX9_carryOut_29 (hE.at 0 rfl) rfl rfl ?_
    refine jk_callV (q := 35) h hX (c_X6_start hR9 hD hpQ (by omega)) mv_X6_start (hR9.at 0 rfl) dX9_carryOut_32 ml_X9_216 ⟨rfl, Nat.le_refl _⟩ rfl rfl (Nat.le_of_ble_eq_true rfl) (Nat.le_of_ble_eq_true rfl) rfl rfl (Nat.le_of_ble_eq_true rfl) rfl (fun v9 n9 M_5 hp9 => ?_)
    obtain ⟨rfl, rfl, hR, o_5⟩ := hp9
    have hW := hW.rdr hR o_5
    have hj := hj.trq o_5 (by omega)
    obtain ⟨g, gs, nx, at9, kd, fi, se, ti, tr, L, f, hE, hNw, hL, hH, hD, hR9, hC, hdy, hrs, hsQ, hpQ, hcQ, hnx, hhl, hlo1, hlo2⟩ := id hW
    obtain ⟨hS, hT, hN, hA, hB, hP⟩ := hNw
    have hR9 := hR
    have lp35 : ∀ (k9 : Nat) (k : Int) (a : Int) (kq : Int) (fq : Int) (sq : Int) (tq : Int) (y : TS) (M9 : jM) (hW : ehP M9 n9 e lo y hl hk sl sg len (some x)) (hR : jPic M9 (e + 32) (rdL (e + 30) a kq fq sq tq)) (ha : 0 ≤ a ∧ a ≤ 80) (hk1 : 0 ≤ k) (hk2 : k ≤ 80) (hcy : y.2.2.1.2 ≤ x.2.2.1.2 + 9 * k) (hco : ∀ (r : Int) (x2 : TS), coQ sg len (80 - k).toNat a k y r x2 → coQ sg len 80 0 0 x r x2) (hj : jlo M M9 lo e 41) (hk9 : (80 - k).toNat = k9), jJ X 35 [some (.ref (e)), some (jI (k))] [] n9 M9 26 479 := by
      intro k9
      induction k9 using Nat.strongRecOn with
      | _ k9 ih35 =>
        intro k a kq fq sq tq y M9 hW hR ha hk1 hk2 hcy hco hj hk9
        obtain ⟨g, gs, nx, at9, kd, fi, se, ti, tr, L, f, hE, hNw, hL, hH, hD, hR9, hC, hdy, hrs, hsQ, hpQ, hcQ, hnx, hhl, hlo1, hlo2⟩ := id hW
        obtain ⟨hS, hT, hN, hA, hB, hP⟩ := hNw
        have hR9 := hR
        have hoE := o_E hpQ ha.1 ha.2
        have hsb := sgA_bd (i := a) hpQ
        have ha2 := nxO_bd hpQ ha.1 ha.2
        refine jk_iload_n (q := 36) h dX9_carryOut_35 rfl rfl ?_
        refine jk_bipush (q := 38) h dX9_carryOut_36 (by decide) rfl ?_
        refine jk_icmp_ge (q := 41) (tgt := 74) h dX9_carryOut_38 (by decide) rfl ⟨by omega, by omega⟩ ⟨by omega, by omega⟩ (fun c38 => ?_) (fun c38 => ?_)
        · exact jk_weak (jwk_s rfl (jwk_s rfl jwk_0)) (jn74 _ _ _ hW (by omega) (by first | exact hco _ _ (coQ_f (by omega) hok hq9 hsp9 (by omega)) | exact hco _ _ (coQ_n (by omega) hnk) | exact hco _ _ (coQ_0 (by omega))) hj)
        · refine jk_aload_n (q := 42) h dX9_carryOut_41 rfl rfl ?_
          refine jk_get (q := 45) h fg_X9_39 dX9_carryOut_42 (hE.at 0 rfl) rfl rfl ?_
          refine jk_callV (q := 48) h hX (c_X6_readOrder hR9 hD hpQ (by omega) ha) mv_X6_readOrder (hR9.at 0 rfl) dX9_carryOut_45 ml_X9_219 ⟨rfl, Nat.le_refl _⟩ rfl rfl (Nat.le_of_ble_eq_true rfl) (Nat.le_of_ble_eq_true rfl) rfl rfl (Nat.le_of_ble_eq_true rfl) rfl (fun v9 n9 M_6 hp9 => ?_)
          obtain ⟨w9, fi9, se9, ti9, rfl, rfl, hR, hw01, hwk, hwv, o_6⟩ := hp9
          have hW := hW.rdr hR o_6
          have hj := hj.trq o_6 (by omega)
          obtain ⟨g, gs, nx, at9, kd, fi, se, ti, tr, L, f, hE, hNw, hL, hH, hD, hR9, hC, hdy, hrs, hsQ, hpQ, hcQ, hnx, hhl, hlo1, hlo2⟩ := id hW
          obtain ⟨hS, hT, hN, hA, hB, hP⟩ := hNw
          have hR9 := hR
          refine jk_if_eq (q := 51) (tgt := 74) h dX9_carryOut_48 (by decide) rfl ⟨by omega, by omega⟩ (fun c48 => ?_) (fun c48 => ?_)
          · have hnk : ¬ oK sg len a := fun z => by { have := hwk.mpr z; omega }
            exact jk_weak (jwk_s rfl (jwk_s rfl jwk_0)) (jn74 _ _ _ hW (by omega) (by first | exact hco _ _ (coQ_f (by omega) hok hq9 hsp9 (by omega)) | exact hco _ _ (coQ_n (by omega) hnk) | exact hco _ _ (coQ_0 (by omega))) hj)
          · have hok := hwk.mp (by omega)
            have hof := hwv (by omega)
            have hofr := oF_r hof
            refine jk_aload_n (q := 52) h dX9_carryOut_51 rfl rfl ?_
            refine jk_callV (q := 55) h hX (c_X9_followOrder hE ⟨hS, hT, hN, hA, hB, hP⟩ hsQ hR9 ⟨by omega, by omega⟩ hofr.1 hofr.2 (oK_t hok hof) (oK_k hok) (by omega)) mv_X9_followOrder (hE.at 0 rfl) dX9_carryOut_52 ml_X9_222 ⟨rfl, Nat.le_refl _⟩ rfl rfl (Nat.le_of_ble_eq_true rfl) (Nat.le_of_ble_eq_true rfl) rfl rfl (Nat.le_of_ble_eq_true rfl) rfl (fun v9 n9 M_7 hp9 => ?_)
            obtain ⟨r9, y9, rfl, rfl, hst9, hq9, hsp9, o_7⟩ := hp9
            have hr9 := foQ_r hsQ hsp9
            have hcy2 := foQ_c hsQ (fun z => (oK_t hok hof z).2) hsp9
            have hR := hR9.keep o_7 1 rfl (by omega)
            have hW := hW.now hst9 hq9 o_7
            have hj := hj.trq o_7 (by omega)
            have hsp9 := foQ_o hof hsp9
            obtain ⟨g, gs, nx, at9, kd, fi, se, ti, tr, L, f, hE, hNw, hL, hH, hD, hR9, hC, hdy, hrs, hsQ, hpQ, hcQ, hnx, hhl, hlo1, hlo2⟩ := id hW
            obtain ⟨hS, hT, hN, hA, hB, hP⟩ := hNw
            have hR9 := hR
            refine jk_if_lt (q := 58) (tgt := 74) h dX9_carryOut_55 (by decide) rfl ⟨by omega, by omega⟩ (fun c55 => ?_) (fun c55 => ?_)
            · exact jk_weak (jwk_s rfl (jwk_s rfl jwk_0)) (jn74 _ _ _ hW (by omega) (by first | exact hco _ _ (coQ_f (by omega) hok hq9 hsp9 (by omega)) | exact hco _ _ (coQ_n (by omega) hnk) | exact hco _ _ (coQ_0 (by omega))) hj)
            · refine jk_iinc (q := 61) h dX9_carryOut_58 rfl rfl rfl rfl ?_
              refine jk_aload_n (q := 62) h dX9_carryOut_61 rfl rfl ?_
              refine jk_get (q := 65) h fg_X9_39 dX9_carryOut_62 (hE.at 0 rfl) rfl rfl ?_
              refine jk_bipush (q := 67) h dX9_carryOut_65 (by decide) rfl ?_
              refine jk_callV (q := 70) h hX (c_X6_passSign hR9 hD hpQ (by omega) ⟨by omega, by omega⟩ ⟨by omega, by omega⟩) mv_X6_passSign (hR9.at 0 rfl) dX9_carryOut_67 ml_X9_225 ⟨rfl, Nat.le_refl _⟩ rfl rfl (Nat.le_of_ble_eq_true rfl) (Nat.le_of_ble_eq_true rfl) rfl rfl (Nat.le_of_ble_eq_true rfl) rfl (fun v9 n9 M_8 hp9 => ?_)
              obtain ⟨rfl, rfl, hR, o_8⟩ := hp9
              have hW := hW.rdr hR o_8
              have hj := hj.trq o_8 (by omega)
              obtain ⟨g, gs, nx, at9, kd, fi, se, ti, tr, L, f, hE, hNw, hL, hH, hD, hR9, hC, hdy, hrs, hsQ, hpQ, hcQ, hnx, hhl, hlo1, hlo2⟩ := id hW
              obtain ⟨hS, hT, hN, hA, hB, hP⟩ := hNw
              have hR9 := hR
              refine jk_pop (q := 71) h dX9_carryOut_70 rfl rfl ?_
              refine jk_goto (q := 74) (tgt := 35) h dX9_carryOut_71 (by decide) ?_
              exact jk_weak (jwk_s rfl (jwk_s rfl jwk_0)) (ih35 _ (by omega) _ _ _ _ _ _ _ _ hW hR ha2 (by omega) (by omega) (by omega) (fun r x2 h9 => hco r x2 (coQ_s (by omega) hok hq9 hsp9 (by omega) h9)) hj rfl)
    exact jk_weak (jwk_s rfl (jwk_s rfl jwk_0)) (lp35 _ 0 0 _ _ _ _ x _ hW hR (by omega) (by omega) (by omega) (by omega) (by exact fun r x2 h9 => h9) hj rfl)
  · refine jk_bipush (q := 14) h dX9_carryOut_12 (by decide) rfl ?_
    exact jk_iret h hR dX9_carryOut_14 (Nat.le_of_ble_eq_true rfl) (Nat.le_of_ble_eq_true rfl) ⟨-3, x, rfl, Nat.le_refl _, by omega, Or.inl ⟨c9, rfl, hW⟩, hj⟩
