/-! the reference: set, insert, remove, rows that come often, the pad -/
theorem adQ_u {x a b : TS} {p q r s : Int} (h : adQ x p q r a) (h2 : adQ x p q s b) : r = s ∧ a = b := by
  rcases h with ⟨c1, rfl, rfl⟩ | ⟨c1, c2, rfl, rfl⟩ | ⟨c1, c2, rfl, rfl⟩ <;> rcases h2 with ⟨d1, rfl, rfl⟩ | ⟨d1, d2, rfl, rfl⟩ | ⟨d1, d2, rfl, rfl⟩ <;> first | exact ⟨rfl, rfl⟩ | exact absurd d1 c1 | exact absurd c1 d1 | omega
theorem arQ_u {x : TS} {p q : Int} : ∀ {k : Nat} {a b : TS} {r s : Int}, arQ x p q k r a → arQ x p q k s b → r = s ∧ a = b
  | 0, a, b, r, s, h, h2 => ⟨h.1.trans h2.1.symm, h.2.trans h2.2.symm⟩
  | k + 1, a, b, r, s, ⟨r1, x1, h1, h2⟩, ⟨r2, x2, h3, h4⟩ => by
    obtain ⟨e1, e2⟩ := arQ_u h1 h3
    subst e2
    exact adQ_u h2 h4
theorem adQ_st {x y : TS} {p q r : Int} (hx : stQ x) (h : adQ x p q r y) (hr : r < 0) : y = x := by
  have := hx.2.1.2.2
  rcases h with ⟨-, -, e⟩ | ⟨-, -, -, e⟩ | ⟨-, -, e, -⟩
  · exact e
  · exact e
  · omega
theorem arQ_st {x y : TS} {p q r : Int} {k : Nat} (hy : stQ y) (h : arQ x p q k r y) (ha : adQ y p q r y) : ∀ j : Nat, arQ x p q (k + j) r y
  | 0 => h
  | j + 1 => ⟨r, y, arQ_st hy h ha j, ha⟩

theorem adQ_stQ {x x2 : TS} {p q r : Int} (hQ : stQ x) (hc : x.2.2.1.2 ≤ 9999999) (h : adQ x p q r x2) : stQ x2 := by
  obtain ⟨hse, ⟨hya, hyb, hys⟩, hr, hch, hO⟩ := id hQ
  rcases h with ⟨-, -, rfl⟩ | ⟨-, -, -, rfl⟩ | ⟨h1, h2, -, rfl⟩
  · exact hQ
  · exact hQ
  · exact ⟨hse, ⟨jrF_up hya h1.1.1 h1.1.2, jrF_up hyb h1.2.1 h1.2.2, by show 0 ≤ x.2.1.2.2 + 1; omega, by show x.2.1.2.2 + 1 ≤ 60; omega⟩, hr, by show 0 ≤ nch _ _ ∧ nch _ _ ≤ 10000000; unfold nch; split <;> omega, hO⟩

set_option maxHeartbeats 4000000 in
set_option maxRecDepth 100000 in
theorem c_X10_set {l : Launch} {D : va_G} {b0 : Nat} {n : Nat} {M : jM} {m : Nat} {x : TS} {hl : Int} {hk : Nat → TS} {sl : Nat → Option TS} {sg : Nat → Int} {len : Int} (hW : moP M m x hl hk sl sg len) {q : Int} {v : Int} (h_q : jRng q) (h_v : jRng v) {r : Int} {x2 : TS} (hs9 : chQ x q v r x2) : jCtr l D b0 yX10_set cX10_set 3 (some .int) 2 0 0 [.ref m, jI q, jI v] n M (fun v9 n2 M2 => some (jI r) = v9 ∧ n = n2 ∧ moP M2 m x2 (rcH r hl) (rcK r x hk) sl sg len ∧ jout M M2 m 9) := by
  refine jctr (lv := [some (.ref m), some (jI q), some (jI v)]) RX10 "set" rfl rfl (by decide) (Nat.le_of_ble_eq_true rfl) rfl ?_
  intro X h hR hX
  obtain ⟨σ, τ, ps, sv, hd, pd, a9, od, on, lf, hM, hm, hQ, hh, hsl, hpd, hkp, hpQ⟩ := id hW
  obtain ⟨hmr, ⟨hm1, hm2, hm3⟩, hms, hmA, hmB, hmP⟩ := id hm
  obtain ⟨hse, htb, hr, hch, hOA, hOB, hOP⟩ := id hQ
  obtain ⟨hya, hyb, hys⟩ := id htb
  have hm0 := hmr.1
  have hk1 : σ (1 : Int).toNat = 1 ∨ σ (1 : Int).toNat = 0 := by { rw [hm1]; unfold mkn; split <;> simp }
  have hk2 : σ (1 : Int).toNat = 0 ↔ x.2.2.1.1 = 0 := by { rw [hm1]; unfold mkn; split <;> omega }
  have ho := jout.rf M m 9
  have hirb := irS_01 q v
  refine jk_iload_n (q := 1) h dX10_set_0 rfl rfl ?_
  refine jk_iconst (q := 2) h dX10_set_1 rfl ?_
  refine jk_iconst (q := 3) h dX10_set_2 rfl ?_
  refine jk_callS (q := 6) h hX (c_X10_in ⟨by omega, by omega⟩ ⟨by omega, by omega⟩ ⟨by omega, by omega⟩) ms_X10_in dX10_set_3 ml_X10_35 ⟨rfl, Nat.le_refl _⟩ rfl rfl (Nat.le_of_ble_eq_true rfl) (Nat.le_of_ble_eq_true rfl) rfl rfl (Nat.le_of_ble_eq_true rfl) rfl (fun v9 n9 M9 hp9 => ?_)
  obtain ⟨rfl, rfl, rfl⟩ := hp9
  refine jk_if_eqB (q := 9) (tgt := 17) h dX10_set_6 (by decide) rfl (fun c6 => ?_) (fun c6 => ?_)
  · refine jk_bipush (q := 19) h dX10_set_17 (by decide) rfl ?_
    exact jk_iret h hR dX10_set_19 (Nat.le_of_ble_eq_true rfl) (Nat.le_of_ble_eq_true rfl) (by
          have hir : irS q v = 0 := by first | exact (by omega) | (unfold irS; rw [if_neg (by omega), if_neg (by omega), if_neg (by omega), if_neg (by omega)])
          rcases hs9 with ⟨-, rfl, rfl⟩ | ⟨z, -, -⟩
          · exact ⟨rfl, rfl, by unfold rcH rcK; rw [if_neg (by decide), if_neg (by decide)]; exact hW, ho⟩
          · omega)
  · refine jk_iload_n (q := 10) h dX10_set_9 rfl rfl ?_
    refine jk_iload_n (q := 11) h dX10_set_10 rfl rfl ?_
    refine jk_callS (q := 14) h hX (c_X10_isFor ⟨by omega, by omega⟩ ⟨by omega, by omega⟩) ms_X10_isFor dX10_set_11 ml_X10_129 ⟨rfl, Nat.le_refl _⟩ rfl rfl (Nat.le_of_ble_eq_true rfl) (Nat.le_of_ble_eq_true rfl) rfl rfl (Nat.le_of_ble_eq_true rfl) rfl (fun v9 n9 M9 hp9 => ?_)
    obtain ⟨rfl, rfl, rfl⟩ := hp9
    refine jk_if_ne (q := 17) (tgt := 20) h dX10_set_14 (by decide) rfl ⟨by omega, by omega⟩ (fun c14 => ?_) (fun c14 => ?_)
    · refine jk_aload_n (q := 21) h dX10_set_20 rfl rfl ?_
      refine jk_callV (q := 24) h hX (c_X10_records hM hm hQ hkp hh) mv_X10_records (hM.at 0 rfl) dX10_set_21 ml_X10_47 ⟨rfl, Nat.le_refl _⟩ rfl rfl (Nat.le_of_ble_eq_true rfl) (Nat.le_of_ble_eq_true rfl) rfl rfl (Nat.le_of_ble_eq_true rfl) rfl (fun v9 n9 M_1 hp9 => ?_)
      obtain ⟨rfl, rfl, ⟨ps2, hM, hh⟩, o_1⟩ := hp9
      have ho := ho.tr o_1 (by omega) (by omega)
      refine jk_aload_n (q := 25) h dX10_set_24 rfl rfl ?_
      refine jk_iload_n (q := 26) h dX10_set_25 rfl rfl ?_
      refine jk_iload_n (q := 27) h dX10_set_26 rfl rfl ?_
      refine jk_callV (q := 30) h hX (c_X10_sets hM ⟨by omega, by omega⟩) mv_X10_sets (hM.at 0 rfl) dX10_set_27 ml_X10_132 ⟨rfl, Nat.le_refl _⟩ rfl rfl (Nat.le_of_ble_eq_true rfl) (Nat.le_of_ble_eq_true rfl) rfl rfl (Nat.le_of_ble_eq_true rfl) rfl (fun v9 n9 M_2 hp9 => ?_)
      obtain ⟨rfl, rfl, hM, o_2⟩ := hp9
      have ho := ho.tr o_2 (by omega) (by omega)
      exact jk_iret h hR dX10_set_30 (Nat.le_of_ble_eq_true rfl) (Nat.le_of_ble_eq_true rfl) (by
            rcases hs9 with ⟨z, -, -⟩ | ⟨-, rfl, rfl⟩
            · exact absurd z c14
            · have hq0 : 0 ≤ x.1 q.toNat := by
                obtain ⟨⟨a1, a2⟩, ⟨b1, b2⟩, ⟨c1, c2⟩, d1, d2⟩ := hse
                have hq : q.toNat = 0 ∨ q.toNat = 1 ∨ q.toNat = 2 ∨ q.toNat = 3 := by omega
                rcases hq with z | z | z | z <;> rw [z] <;> omega
              refine ⟨by rw [hms q (by omega) (by omega)], rfl, ?_, ho⟩
              unfold rcH rcK
              rw [if_pos hq0, if_pos hq0]
              exact ⟨_, _, _, _, _, _, _, _, _, _, hM, hm.set hQ ⟨by omega, by omega⟩, ⟨(seQ_up hse (by have := irS_01 q v; omega)).1, htb, hr, hch, hOA, hOB, hOP⟩, hh, hsl, hpd, jmn_b hkp, hpQ⟩)
    · refine jk_bipush (q := 19) h dX10_set_17 (by decide) rfl ?_
      exact jk_iret h hR dX10_set_19 (Nat.le_of_ble_eq_true rfl) (Nat.le_of_ble_eq_true rfl) (by
            have hir : irS q v = 0 := by first | exact (by omega) | (unfold irS; rw [if_neg (by omega), if_neg (by omega), if_neg (by omega), if_neg (by omega)])
            rcases hs9 with ⟨-, rfl, rfl⟩ | ⟨z, -, -⟩
            · exact ⟨rfl, rfl, by unfold rcH rcK; rw [if_neg (by decide), if_neg (by decide)]; exact hW, ho⟩
            · omega)

set_option maxHeartbeats 4000000 in
set_option maxRecDepth 100000 in
theorem c_X10_insert {l : Launch} {D : va_G} {b0 : Nat} {n : Nat} {M : jM} {m : Nat} {x : TS} {hl : Int} {hk : Nat → TS} {sl : Nat → Option TS} {sg : Nat → Int} {len : Int} (hW : moP M m x hl hk sl sg len) {p : Int} {q : Int} (h_p : jRng p) (h_q : jRng q) {r : Int} {x2 : TS} (hs9 : adQ x p q r x2) (hq2 : stQ x2) : jCtr l D b0 yX10_insert cX10_insert 4 (some .int) 3 0 0 [.ref m, jI p, jI q] n M (fun v9 n2 M2 => some (jI r) = v9 ∧ n = n2 ∧ moP M2 m x2 (rcH r hl) (rcK r x hk) sl sg len ∧ jout M M2 m 9) := by
  refine jctr (lv := [some (.ref m), some (jI p), some (jI q), none]) RX10 "insert" rfl rfl (by decide) (Nat.le_of_ble_eq_true rfl) rfl ?_
  intro X h hR hX
  obtain ⟨σ, τ, ps, sv, hd, pd, a9, od, on, lf, hM, hm, hQ, hh, hsl, hpd, hkp, hpQ⟩ := id hW
  obtain ⟨hmr, ⟨hm1, hm2, hm3⟩, hms, hmA, hmB, hmP⟩ := id hm
  obtain ⟨hse, htb, hr, hch, hOA, hOB, hOP⟩ := id hQ
  obtain ⟨hya, hyb, hys⟩ := id htb
  have hm0 := hmr.1
  have hk1 : σ (1 : Int).toNat = 1 ∨ σ (1 : Int).toNat = 0 := by { rw [hm1]; unfold mkn; split <;> simp }
  have hk2 : σ (1 : Int).toNat = 0 ↔ x.2.2.1.1 = 0 := by { rw [hm1]; unfold mkn; split <;> omega }
  have ho := jout.rf M m 9
  refine jk_aload_n (q := 1) h dX10_insert_0 rfl rfl ?_
  refine jk_iload_n (q := 2) h dX10_insert_1 rfl rfl ?_
  refine jk_iload_n (q := 3) h dX10_insert_2 rfl rfl ?_
  refine jk_callV (q := 6) h hX (c_X10_mayCome hM hm hQ h_p h_q) mv_X10_mayCome (hM.at 0 rfl) dX10_insert_3 ml_X10_136 ⟨rfl, Nat.le_refl _⟩ rfl rfl (Nat.le_of_ble_eq_true rfl) (Nat.le_of_ble_eq_true rfl) rfl rfl (Nat.le_of_ble_eq_true rfl) rfl (fun v9 n9 M9 hp9 => ?_)
  obtain ⟨rfl, rfl, rfl⟩ := hp9
  refine jk_name (fun my hmy => ?_)
  have hmb : -4 ≤ my ∧ my ≤ 0 := by { rw [hmy]; split; split <;> omega; omega }
  refine jk_istore_n (q := 7) h dX10_insert_6 rfl (Nat.le_of_ble_eq_true rfl) rfl rfl ?_
  refine jk_iload_n (q := 8) h dX10_insert_7 rfl rfl ?_
  refine jk_if_eq (q := 11) (tgt := 13) h dX10_insert_8 (by decide) rfl ⟨by omega, by omega⟩ (fun c8 => ?_) (fun c8 => ?_)
  · have hpv : (0 ≤ p ∧ p ≤ 99) ∧ 0 ≤ q ∧ q ≤ 99 := by
      by_cases z : (0 ≤ p ∧ p ≤ 99) ∧ 0 ≤ q ∧ q ≤ 99
      · exact z
      · rw [if_neg z] at hmy; omega
    have hs6 : x.2.1.2.2 < 60 := by
      by_cases z : x.2.1.2.2 < 60
      · exact z
      · rw [if_pos hpv, if_neg z] at hmy; omega
    refine jk_aload_n (q := 14) h dX10_insert_13 rfl rfl ?_
    refine jk_callV (q := 17) h hX (c_X10_records hM hm hQ hkp hh) mv_X10_records (hM.at 0 rfl) dX10_insert_14 ml_X10_47 ⟨rfl, Nat.le_refl _⟩ rfl rfl (Nat.le_of_ble_eq_true rfl) (Nat.le_of_ble_eq_true rfl) rfl rfl (Nat.le_of_ble_eq_true rfl) rfl (fun v9 n9 M_1 hp9 => ?_)
    obtain ⟨rfl, rfl, ⟨ps2, hM, hh⟩, o_1⟩ := hp9
    have ho := ho.tr o_1 (by omega) (by omega)
    refine jk_aload_n (q := 18) h dX10_insert_17 rfl rfl ?_
    refine jk_iload_n (q := 19) h dX10_insert_18 rfl rfl ?_
    refine jk_iload_n (q := 20) h dX10_insert_19 rfl rfl ?_
    refine jk_callV (q := 23) h hX (c_X10_comes hM hm hQ (by omega) ⟨by omega, by omega⟩ ⟨by omega, by omega⟩) mv_X10_comes (hM.at 0 rfl) dX10_insert_20 ml_X10_139 ⟨rfl, Nat.le_refl _⟩ rfl rfl (Nat.le_of_ble_eq_true rfl) (Nat.le_of_ble_eq_true rfl) rfl rfl (Nat.le_of_ble_eq_true rfl) rfl (fun v9 n9 M_2 hp9 => ?_)
    obtain ⟨rfl, rfl, ⟨σ2, hM, hm2⟩, o_2⟩ := hp9
    have ho := ho.tr o_2 (by omega) (by omega)
    exact jk_iret h hR dX10_insert_23 (Nat.le_of_ble_eq_true rfl) (Nat.le_of_ble_eq_true rfl) (by
          rcases hs9 with ⟨z, -, -⟩ | ⟨z1, z2, -, -⟩ | ⟨z1, z2, rfl, rfl⟩
          · exact absurd hpv z
          · omega
          · refine ⟨rfl, rfl, ?_, ho⟩
            unfold rcH rcK
            rw [if_pos hys.1, if_pos hys.1]
            exact ⟨_, _, _, _, _, _, _, _, _, _, hM, hm2, hq2, hh, hsl, hpd, jmn_b hkp, hpQ⟩)
  · refine jk_iload_n (q := 12) h dX10_insert_11 rfl rfl ?_
    exact jk_iret h hR dX10_insert_12 (Nat.le_of_ble_eq_true rfl) (Nat.le_of_ble_eq_true rfl) (by
          rcases hs9 with ⟨z, rfl, rfl⟩ | ⟨z1, z2, rfl, rfl⟩ | ⟨z1, z2, -, -⟩
          · rw [if_neg z] at hmy
            exact ⟨by rw [hmy], rfl, by unfold rcH rcK; rw [if_neg (by decide), if_neg (by decide)]; exact hW, ho⟩
          · rw [if_pos z1, if_neg (by omega)] at hmy
            exact ⟨by rw [hmy], rfl, by unfold rcH rcK; rw [if_neg (by decide), if_neg (by decide)]; exact hW, ho⟩
          · rw [if_pos z1, if_pos z2] at hmy; exact absurd hmy c8)

set_option maxHeartbeats 4000000 in
set_option maxRecDepth 100000 in
theorem c_X10_remove {l : Launch} {D : va_G} {b0 : Nat} {n : Nat} {M : jM} {m : Nat} {x : TS} {hl : Int} {hk : Nat → TS} {sl : Nat → Option TS} {sg : Nat → Int} {len : Int} (hW : moP M m x hl hk sl sg len) {p : Int} (h_p : jRng p) {r : Int} {x2 : TS} (hs9 : drQ x p r x2) (hq2 : stQ x2) : jCtr l D b0 yX10_remove cX10_remove 2 (some .int) 2 0 0 [.ref m, jI p] n M (fun v9 n2 M2 => some (jI r) = v9 ∧ n = n2 ∧ moP M2 m x2 (rcH r hl) (rcK r x hk) sl sg len ∧ jout M M2 m 9) := by
  refine jctr (lv := [some (.ref m), some (jI p)]) RX10 "remove" rfl rfl (by decide) (Nat.le_of_ble_eq_true rfl) rfl ?_
  intro X h hR hX
  obtain ⟨σ, τ, ps, sv, hd, pd, a9, od, on, lf, hM, hm, hQ, hh, hsl, hpd, hkp, hpQ⟩ := id hW
  obtain ⟨hmr, ⟨hm1, hm2, hm3⟩, hms, hmA, hmB, hmP⟩ := id hm
  obtain ⟨hse, htb, hr, hch, hOA, hOB, hOP⟩ := id hQ
  obtain ⟨hya, hyb, hys⟩ := id htb
  have hm0 := hmr.1
  have hk1 : σ (1 : Int).toNat = 1 ∨ σ (1 : Int).toNat = 0 := by { rw [hm1]; unfold mkn; split <;> simp }
  have hk2 : σ (1 : Int).toNat = 0 ↔ x.2.2.1.1 = 0 := by { rw [hm1]; unfold mkn; split <;> omega }
  have ho := jout.rf M m 9
  refine jk_aload_n (q := 1) h dX10_remove_0 rfl rfl ?_
  refine jk_iload_n (q := 2) h dX10_remove_1 rfl rfl ?_
  refine jk_callV (q := 5) h hX (c_X10_isRow hM hm hQ h_p) mv_X10_isRow (hM.at 0 rfl) dX10_remove_2 ml_X10_142 ⟨rfl, Nat.le_refl _⟩ rfl rfl (Nat.le_of_ble_eq_true rfl) (Nat.le_of_ble_eq_true rfl) rfl rfl (Nat.le_of_ble_eq_true rfl) rfl (fun v9 n9 M9 hp9 => ?_)
  obtain ⟨rfl, rfl, rfl⟩ := hp9
  refine jk_if_neB (q := 8) (tgt := 10) h dX10_remove_5 (by decide) rfl (fun c5 => ?_) (fun c5 => ?_)
  · refine jk_aload_n (q := 11) h dX10_remove_10 rfl rfl ?_
    refine jk_callV (q := 14) h hX (c_X10_records hM hm hQ hkp hh) mv_X10_records (hM.at 0 rfl) dX10_remove_11 ml_X10_47 ⟨rfl, Nat.le_refl _⟩ rfl rfl (Nat.le_of_ble_eq_true rfl) (Nat.le_of_ble_eq_true rfl) rfl rfl (Nat.le_of_ble_eq_true rfl) rfl (fun v9 n9 M_1 hp9 => ?_)
    obtain ⟨rfl, rfl, ⟨ps2, hM, hh⟩, o_1⟩ := hp9
    have ho := ho.tr o_1 (by omega) (by omega)
    refine jk_aload_n (q := 15) h dX10_remove_14 rfl rfl ?_
    refine jk_iload_n (q := 16) h dX10_remove_15 rfl rfl ?_
    refine jk_callV (q := 19) h hX (c_X10_goes hM hm hQ ⟨by omega, by omega⟩) mv_X10_goes (hM.at 0 rfl) dX10_remove_16 ml_X10_145 ⟨rfl, Nat.le_refl _⟩ rfl rfl (Nat.le_of_ble_eq_true rfl) (Nat.le_of_ble_eq_true rfl) rfl rfl (Nat.le_of_ble_eq_true rfl) rfl (fun v9 n9 M_2 hp9 => ?_)
    obtain ⟨rfl, rfl, ⟨σ2, hM, hm2⟩, o_2⟩ := hp9
    have ho := ho.tr o_2 (by omega) (by omega)
    exact jk_iret h hR dX10_remove_19 (Nat.le_of_ble_eq_true rfl) (Nat.le_of_ble_eq_true rfl) (by
          rcases hs9 with ⟨z, -, -⟩ | ⟨z, rfl, rfl⟩
          · omega
          · refine ⟨rfl, rfl, ?_, ho⟩
            unfold rcH rcK
            rw [if_pos (by omega), if_pos (by omega)]
            exact ⟨_, _, _, _, _, _, _, _, _, _, hM, hm2, hq2, hh, hsl, hpd, jmn_b hkp, hpQ⟩)
  · refine jk_iconst (q := 9) h dX10_remove_8 rfl ?_
    exact jk_iret h hR dX10_remove_9 (Nat.le_of_ble_eq_true rfl) (Nat.le_of_ble_eq_true rfl) (by
          rcases hs9 with ⟨z, rfl, rfl⟩ | ⟨z, -, -⟩
          · exact ⟨rfl, rfl, by unfold rcH rcK; rw [if_neg (by decide), if_neg (by decide)]; exact hW, ho⟩
          · exact absurd z c5)

set_option maxHeartbeats 4000000 in
set_option maxRecDepth 100000 in
theorem c_X10_comeOften {l : Launch} {D : va_G} {b0 : Nat} {n : Nat} {M : jM} {m : Nat} {σ τ ps : Nat → Int} {kp : Int} {sv hd pd : Nat → Int} {pn a9 : Int} {od : Nat → Int} {on : Int} {lf : Nat → Int} (hM : jPic M m (mdL m σ τ ps kp sv hd pd pn a9 od on lf)) {x : TS} (hm : mdT σ x) (hQ : stQ x) {p q t r : Int} {x2 : TS} (h_p : jRng p) (h_q : jRng q) (ht : 1 ≤ t ∧ t ≤ 9) (hcc : x.2.2.1.2 ≤ 9999900) (hs9 : arQ x p q t.toNat r x2) : jCtr l D b0 yX10_comeOften cX10_comeOften 5 (some .boolean) 3 0 0 [.ref m, jI p, jI q, jI t] n M (fun v9 n2 M2 => some (jI (if 0 ≤ r then 1 else 0)) = v9 ∧ n = n2 ∧ (∃ σ2, jPic M2 m (mdL m σ2 τ ps kp sv hd pd pn a9 od on lf) ∧ mdT σ2 x2) ∧ jout M M2 m 9) := by
  refine jctr (lv := [some (.ref m), some (jI p), some (jI q), some (jI t), none]) RX10 "comeOften" rfl rfl (by decide) (Nat.le_of_ble_eq_true rfl) rfl ?_
  intro X h hR hX
  obtain ⟨hmr, ⟨hm1, hm2, hm3⟩, hms, hmA, hmB, hmP⟩ := id hm
  obtain ⟨hse, htb, hr, hch, hOA, hOB, hOP⟩ := id hQ
  obtain ⟨hya, hyb, hys⟩ := id htb
  have hm0 := hmr.1
  have hk1 : σ (1 : Int).toNat = 1 ∨ σ (1 : Int).toNat = 0 := by { rw [hm1]; unfold mkn; split <;> simp }
  have hk2 : σ (1 : Int).toNat = 0 ↔ x.2.2.1.1 = 0 := by { rw [hm1]; unfold mkn; split <;> omega }
  have ho := jout.rf M m 9
  refine jk_iconst (q := 1) h dX10_comeOften_0 rfl ?_
  refine jk_istore (q := 3) h dX10_comeOften_1 rfl (Nat.le_of_ble_eq_true rfl) rfl rfl ?_
  have lp3 : ∀ (k9 : Nat) (i : Int) (σ3 : Nat → Int) (y : TS) (r3 : Int) (M9 : jM) (hi1 : 0 ≤ i) (hi2 : i ≤ t) (hM : jPic M9 m (mdL m σ3 τ ps kp sv hd pd pn a9 od on lf)) (hmy : mdT σ3 y) (hyQ : stQ y) (hyc : y.2.2.1.2 ≤ 9999900 + i) (hay : arQ x p q i.toNat r3 y) (hr3 : 0 < i → 0 ≤ r3) (ho : jout M M9 m 9) (hk9 : (t - i).toNat = k9), jJ X 3 [some (.ref (m)), some (jI (p)), some (jI (q)), some (jI (t)), some (jI (i))] [] n M9 0 0 := by
    intro k9
    induction k9 using Nat.strongRecOn with
    | _ k9 ih3 =>
      intro i σ3 y r3 M9 hi1 hi2 hM hmy hyQ hyc hay hr3 ho hk9
      have hyz := hyQ.2.1.2.2
      refine jk_iload (q := 5) h dX10_comeOften_3 rfl rfl ?_
      refine jk_iload_n (q := 6) h dX10_comeOften_5 rfl rfl ?_
      refine jk_icmp_ge (q := 9) (tgt := 33) h dX10_comeOften_6 (by decide) rfl ⟨by omega, by omega⟩ ⟨by omega, by omega⟩ (fun c6 => ?_) (fun c6 => ?_)
      · obtain ⟨e1, e2⟩ := arQ_u hs9 (show arQ x p q t.toNat r3 y by rw [show t = i by omega]; exact hay)
        have hr4 := hr3 (by omega)
        refine jk_iconst (q := 34) h dX10_comeOften_33 rfl ?_
        exact jk_zret h hR dX10_comeOften_34 (Nat.le_of_ble_eq_true rfl) (Nat.le_of_ble_eq_true rfl) (by first | exact Or.inl rfl | exact Or.inr rfl | omega) ⟨by rw [if_pos (by omega)], rfl, ⟨σ3, hM, by rw [e2]; exact hmy⟩, ho⟩
      · refine jk_aload_n (q := 10) h dX10_comeOften_9 rfl rfl ?_
        refine jk_iload_n (q := 11) h dX10_comeOften_10 rfl rfl ?_
        refine jk_iload_n (q := 12) h dX10_comeOften_11 rfl rfl ?_
        refine jk_callV (q := 15) h hX (c_X10_mayCome hM hmy hyQ h_p h_q) mv_X10_mayCome (hM.at 0 rfl) dX10_comeOften_12 ml_X10_136 ⟨rfl, Nat.le_refl _⟩ rfl rfl (Nat.le_of_ble_eq_true rfl) (Nat.le_of_ble_eq_true rfl) rfl rfl (Nat.le_of_ble_eq_true rfl) rfl (fun v9 n9 M9 hp9 => ?_)
        obtain ⟨rfl, rfl, rfl⟩ := hp9
        refine jk_name (fun my hmy9 => ?_)
        have hmb : -4 ≤ my ∧ my ≤ 0 := by { rw [hmy9]; split; split <;> omega; omega }
        refine jk_if_eq (q := 18) (tgt := 20) h dX10_comeOften_15 (by decide) rfl ⟨by omega, by omega⟩ (fun c15 => ?_) (fun c15 => ?_)
        · have hpv : (0 ≤ p ∧ p ≤ 99) ∧ 0 ≤ q ∧ q ≤ 99 := by
            by_cases z : (0 ≤ p ∧ p ≤ 99) ∧ 0 ≤ q ∧ q ≤ 99
            · exact z
            · rw [if_neg z] at hmy9; omega
          have hs6 : y.2.1.2.2 < 60 := by
            by_cases z : y.2.1.2.2 < 60
            · exact z
            · rw [if_pos hpv, if_neg z] at hmy9; omega
          have hadn : adQ y p q y.2.1.2.2 _ := Or.inr (Or.inr ⟨hpv, hs6, rfl, rfl⟩)
          have hznQ : stQ (y.1, (jfup y.2.1.1 y.2.1.2.2.toNat p, jfup y.2.1.2.1 y.2.1.2.2.toNat q, y.2.1.2.2 + 1), (y.2.2.1.1, nch y.2.2.1.1 y.2.2.1.2), y.2.2.2) := adQ_stQ hyQ (by omega) hadn
          refine jk_aload_n (q := 21) h dX10_comeOften_20 rfl rfl ?_
          refine jk_iload_n (q := 22) h dX10_comeOften_21 rfl rfl ?_
          refine jk_iload_n (q := 23) h dX10_comeOften_22 rfl rfl ?_
          refine jk_callV (q := 26) h hX (c_X10_comes hM hmy hyQ hs6 ⟨by omega, by omega⟩ ⟨by omega, by omega⟩) mv_X10_comes (hM.at 0 rfl) dX10_comeOften_23 ml_X10_139 ⟨rfl, Nat.le_refl _⟩ rfl rfl (Nat.le_of_ble_eq_true rfl) (Nat.le_of_ble_eq_true rfl) rfl rfl (Nat.le_of_ble_eq_true rfl) rfl (fun v9 n9 M_1 hp9 => ?_)
          obtain ⟨rfl, rfl, ⟨σ4, hM, hm2⟩, o_1⟩ := hp9
          have ho := ho.tr o_1 (by omega) (by omega)
          refine jk_pop (q := 27) h dX10_comeOften_26 rfl rfl ?_
          refine jk_iinc (q := 30) h dX10_comeOften_27 rfl rfl rfl rfl ?_
          refine jk_goto (q := 33) (tgt := 3) h dX10_comeOften_30 (by decide) ?_
          exact jk_weak (jwk_s rfl (jwk_s rfl (jwk_s rfl (jwk_s rfl (jwk_s rfl jwk_0))))) (ih3 _ (by omega) _ _ _ _ _ (by omega) (by omega) hM hm2 (by assumption) (by have := adQ_ch hadn; omega) (by rw [show (i + 1).toNat = i.toNat + 1 by omega]; exact ⟨_, _, hay, hadn⟩) (by omega) ho rfl)
        · obtain ⟨r5, hr5, had5⟩ : ∃ r5, r5 < 0 ∧ adQ y p q r5 y := by
            by_cases z : (0 ≤ p ∧ p ≤ 99) ∧ 0 ≤ q ∧ q ≤ 99
            · by_cases z2 : y.2.1.2.2 < 60
              · rw [if_pos z, if_pos z2] at hmy9; exact absurd hmy9 c15
              · exact ⟨-4, by decide, Or.inr (Or.inl ⟨z, by omega, rfl, rfl⟩)⟩
            · exact ⟨-2, by decide, Or.inl ⟨z, rfl, rfl⟩⟩
          obtain ⟨e1, e2⟩ := arQ_u hs9 (show arQ x p q t.toNat r5 y by
            have h8 : arQ x p q (i.toNat + 1) r5 y := ⟨_, _, hay, had5⟩
            have h9 := arQ_st hyQ h8 had5 (t.toNat - (i.toNat + 1))
            rwa [show i.toNat + 1 + (t.toNat - (i.toNat + 1)) = t.toNat by omega] at h9)
          refine jk_iconst (q := 19) h dX10_comeOften_18 rfl ?_
          exact jk_zret h hR dX10_comeOften_19 (Nat.le_of_ble_eq_true rfl) (Nat.le_of_ble_eq_true rfl) (by first | exact Or.inl rfl | exact Or.inr rfl | omega) ⟨by rw [if_neg (by omega)], rfl, ⟨σ3, hM, by rw [e2]; exact hmy⟩, ho⟩
  exact jk_weak (jwk_s rfl (jwk_s rfl (jwk_s rfl (jwk_s rfl (jwk_s rfl jwk_0))))) (lp3 _ 0 σ x (-2) _ (by omega) (by omega) hM hm hQ (by omega) ⟨rfl, rfl⟩ (by omega) ho rfl)

set_option maxHeartbeats 4000000 in
set_option maxRecDepth 100000 in
theorem c_X10_byteOf {l : Launch} {D : va_G} {b0 : Nat} {n : Nat} {M : jM} {u : Int64} {k : Int} (hk : 0 ≤ k ∧ k < 8) : jCtr l D b0 yX10_byteOf cX10_byteOf 3 (some .int) 0 0 0 [.long (u), jI k] n M (jrd n M (by9 (lu u) k.toNat)) := by
  refine jctr (lv := [some (.long (u)), none, some (jI k)]) RX10 "byteOf" rfl rfl (by decide) (Nat.le_of_ble_eq_true rfl) rfl ?_
  intro X h hR hX
  refine jk_lload_n (q := 1) h dX10_byteOf_0 rfl rfl ?_
  refine jk_bipush (q := 3) h dX10_byteOf_1 (by decide) rfl ?_
  refine jk_iload_n (q := 4) h dX10_byteOf_3 rfl rfl ?_
  refine jk_imul (q := 5) h dX10_byteOf_4 rfl ?_
  refine jk_lshr (q := 6) h dX10_byteOf_5 rfl ?_
  refine jk_ldc2 (q := 9) h dX10_byteOf_6 kc_X10_151 rfl ?_
  refine jk_land (q := 10) h dX10_byteOf_9 rfl ?_
  refine jk_l2i (q := 11) h dX10_byteOf_10 (lu_byte u hk.1 hk.2) rfl ?_
  exact jk_iret h hR dX10_byteOf_11 (Nat.le_of_ble_eq_true rfl) (Nat.le_of_ble_eq_true rfl) (jrd_of rfl)

theorem snN_bad {u : Nat} {i : Int} (h0 : 0 ≤ i) (hnz : ¬ by9 u i.toNat = 0) (hb : ¬ (33 ≤ by9 u i.toNat ∧ by9 u i.toNat ≤ 126)) (hg : ∀ k : Nat, (k : Int) < i → 33 ≤ by9 u k ∧ by9 u k ≤ 126) : ∀ k, ¬ (1 ≤ k ∧ k ≤ 8 ∧ snG u k) := fun k hk => by
  by_cases h : i.toNat < k
  · exact hb (hk.2.2.1 _ h)
  · have h2 : u / 256 ^ i.toNat = 0 := Nat.div_eq_of_lt (Nat.lt_of_lt_of_le hk.2.2.2 (Nat.pow_le_pow_right (by decide) (by omega)))
    exact hnz (by unfold by9; rw [h2]; rfl)
theorem snN_nz {u : Nat} {i j : Int} (h0 : 0 ≤ i) (hij : i ≤ j) (hj : j ≤ 8) (hg : ∀ k : Nat, (k : Int) < i → 33 ≤ by9 u k ∧ by9 u k ≤ 126) (hz : ∀ k : Nat, i ≤ (k : Int) → (k : Int) < j → by9 u k = 0) (hnz : ¬ by9 u j.toNat = 0) (hii : (i = j) → by9 u i.toNat = 0) : ∀ k, ¬ (1 ≤ k ∧ k ≤ 8 ∧ snG u k) := fun k hk => by
  by_cases h : j.toNat < k
  · by_cases hjj : i = j
    · exact hnz (by rw [← hjj]; exact hii hjj)
    · have h1 := hk.2.2.1 i.toNat (by omega)
      rw [hz i.toNat (by omega) (by omega)] at h1
      omega
  · have h2 : u / 256 ^ j.toNat = 0 := Nat.div_eq_of_lt (Nat.lt_of_lt_of_le hk.2.2.2 (Nat.pow_le_pow_right (by decide) (by omega)))
    exact hnz (by unfold by9; rw [h2]; rfl)
theorem snN_ok {u : Nat} {i : Int} (h0 : 0 ≤ i) (h8 : i ≤ 8) (hg : ∀ k : Nat, (k : Int) < i → 33 ≤ by9 u k ∧ by9 u k ≤ 126) (hz : ∀ k : Nat, i ≤ (k : Int) → (k : Int) < 8 → by9 u k = 0) (hu : u < 2 ^ 64) : snG u i.toNat := by
  refine ⟨fun k hk => hg k (by omega), ?_⟩
  have key : ∀ d : Nat, i.toNat + d ≤ 8 → u < 256 ^ (8 - d) ∨ 8 - d < i.toNat := fun d => by
    induction d with
    | zero => exact fun _ => Or.inl (by simpa using hu)
    | succ d ih =>
      intro hd
      rcases ih (by omega) with h | h
      · left
        have h9 := hz (8 - (d + 1)) (by omega) (by omega)
        unfold by9 at h9
        have h7 : u / 256 ^ (8 - (d + 1)) < 256 := by
          rw [Nat.div_lt_iff_lt_mul (Nat.pow_pos (by decide)), ← Nat.pow_succ', show (8 - (d + 1)).succ = 8 - d by omega]
          exact h
        have h6 : u / 256 ^ (8 - (d + 1)) = 0 := by
          generalize u / 256 ^ (8 - (d + 1)) = w at h7 h9 ⊢
          omega
        rcases Nat.div_eq_zero_iff.mp h6 with z | z
        · exact absurd z (Nat.pos_iff_ne_zero.mp (Nat.pow_pos (by decide)))
        · exact z
      · omega
  rcases key (8 - i.toNat) (by omega) with h | h
  · rwa [show 8 - (8 - i.toNat) = i.toNat by omega] at h
  · omega
theorem snN_0 {u : Nat} {i j : Int} (h0 : i = 0) (hz : ∀ k : Nat, i ≤ (k : Int) → (k : Int) < j → by9 u k = 0) (hj : 8 ≤ j := by omega) : ∀ k, ¬ (1 ≤ k ∧ k ≤ 8 ∧ snG u k) := fun k hk => by
  have h1 := hk.2.2.1 0 (by omega)
  rw [hz 0 (by omega) (by omega)] at h1
  omega
/-- signs are laid from the pad's end on, as far as i -/
def aq9 (pd : Nat → Int) (u : Nat) (len e i : Int) : Nat → Int := fun k => if len ≤ (k : Int) ∧ (k : Int) < i then by9 u (e - 1 - k).toNat else pd k
theorem aq9_0 (pd : Nat → Int) (u : Nat) (len e : Int) : aq9 pd u len e len = pd := by
  funext k
  unfold aq9
  rw [if_neg (by omega)]
theorem aq9_s {pd : Nat → Int} {u : Nat} {len e i : Int} (h0 : 0 ≤ len) (h : len ≤ i) : jfup (aq9 pd u len e i) i.toNat (by9 u (e - 1 - i).toNat) = aq9 pd u len e (i + 1) := by
  funext k
  unfold jfup aq9
  by_cases hk : k = i.toNat
  · rw [if_pos hk, if_pos (by omega), show (k : Int) = i by omega]
  · rw [if_neg hk]
    by_cases h2 : len ≤ (k : Int) ∧ (k : Int) < i
    · rw [if_pos h2, if_pos (by omega)]
    · rw [if_neg h2, if_neg (by omega)]

set_option maxHeartbeats 4000000 in
set_option maxRecDepth 100000 in
theorem c_X10_toldBy {l : Launch} {D : va_G} {b0 : Nat} {n : Nat} {M : jM} {u : Int64} : jCtr l D b0 yX10_toldBy cX10_toldBy 4 (some .int) 1 0 0 [.long (u)] n M (fun v n2 M2 => ∃ r : Int, some (jI r) = v ∧ n = n2 ∧ M = M2 ∧ ((r = -2 ∧ ∀ k, ¬ (1 ≤ k ∧ k ≤ 8 ∧ snG (lu u) k)) ∨ (1 ≤ r ∧ r ≤ 8 ∧ snG (lu u) r.toNat))) := by
  refine jctr (lv := [some (.long (u)), none, none, none]) RX10 "toldBy" rfl rfl (by decide) (Nat.le_of_ble_eq_true rfl) rfl ?_
  intro X h hR hX
  refine jk_iconst (q := 1) h dX10_toldBy_0 rfl ?_
  refine jk_istore_n (q := 2) h dX10_toldBy_1 rfl (Nat.le_of_ble_eq_true rfl) rfl rfl ?_
  have lp2 : ∀ (k9 : Nat) (i : Int) (hi1 : 0 ≤ i) (hi2 : i ≤ 8) (hg : ∀ k : Nat, (k : Int) < i → 33 ≤ by9 (lu u) k ∧ by9 (lu u) k ≤ 126) (hk9 : (8 - i).toNat = k9), jJ X 2 [some (.long (u)), none, some (jI (i)), none] [] n M 0 0 := by
    intro k9
    induction k9 using Nat.strongRecOn with
    | _ k9 ih2 =>
      intro i hi1 hi2 hg hk9
      have hbi := by9_bd (lu u) i.toNat
      refine jk_iload_n (q := 3) h dX10_toldBy_2 rfl rfl ?_
      refine jk_bipush (q := 5) h dX10_toldBy_3 (by decide) rfl ?_
      refine jk_icmp_ge (q := 8) (tgt := 40) h dX10_toldBy_5 (by decide) rfl ⟨by omega, by omega⟩ ⟨by omega, by omega⟩ (fun c5 => ?_) (fun c5 => ?_)
      · refine jk_iload_n (q := 41) h dX10_toldBy_40 rfl rfl ?_
        refine jk_istore_n (q := 42) h dX10_toldBy_41 rfl (Nat.le_of_ble_eq_true rfl) rfl rfl ?_
        have lp42 : ∀ (k9 : Nat) (i : Int) (j : Int) (hi1 : 0 ≤ i) (hi2 : i ≤ 8) (hg : ∀ k : Nat, (k : Int) < i → 33 ≤ by9 (lu u) k ∧ by9 (lu u) k ≤ 126) (hii : i < 8 → by9 (lu u) i.toNat = 0) (hj1 : i ≤ j) (hj2 : j ≤ 8) (hz : ∀ k : Nat, i ≤ (k : Int) → (k : Int) < j → by9 (lu u) k = 0) (hk9 : (8 - j).toNat = k9), jJ X 42 [some (.long (u)), none, some (jI (i)), some (jI (j))] [] n M 0 0 := by
          intro k9
          induction k9 using Nat.strongRecOn with
          | _ k9 ih42 =>
            intro i j hi1 hi2 hg hii hj1 hj2 hz hk9
            have hbj := by9_bd (lu u) j.toNat
            refine jk_iload_n (q := 43) h dX10_toldBy_42 rfl rfl ?_
            refine jk_bipush (q := 45) h dX10_toldBy_43 (by decide) rfl ?_
            refine jk_icmp_ge (q := 48) (tgt := 65) h dX10_toldBy_45 (by decide) rfl ⟨by omega, by omega⟩ ⟨by omega, by omega⟩ (fun c45 => ?_) (fun c45 => ?_)
            · refine jk_iload_n (q := 66) h dX10_toldBy_65 rfl rfl ?_
              refine jk_if_ne (q := 69) (tgt := 74) h dX10_toldBy_66 (by decide) rfl ⟨by omega, by omega⟩ (fun c66 => ?_) (fun c66 => ?_)
              · refine jk_iload_n (q := 75) h dX10_toldBy_74 rfl rfl ?_
                exact jk_iret h hR dX10_toldBy_75 (Nat.le_of_ble_eq_true rfl) (Nat.le_of_ble_eq_true rfl) (by first | exact ⟨-2, rfl, rfl, rfl, Or.inl ⟨rfl, snN_0 (by omega) hz⟩⟩ | exact ⟨i, rfl, rfl, rfl, Or.inr ⟨by omega, by omega, snN_ok hi1 hi2 hg (fun k h1 h2 => hz k h1 (by omega)) (lu_lt u)⟩⟩)
              · refine jk_bipush (q := 71) h dX10_toldBy_69 (by decide) rfl ?_
                refine jk_goto (q := 74) (tgt := 75) h dX10_toldBy_71 (by decide) ?_
                exact jk_iret h hR dX10_toldBy_75 (Nat.le_of_ble_eq_true rfl) (Nat.le_of_ble_eq_true rfl) (by first | exact ⟨-2, rfl, rfl, rfl, Or.inl ⟨rfl, snN_0 (by omega) hz⟩⟩ | exact ⟨i, rfl, rfl, rfl, Or.inr ⟨by omega, by omega, snN_ok hi1 hi2 hg (fun k h1 h2 => hz k h1 (by omega)) (lu_lt u)⟩⟩)
            · refine jk_lload_n (q := 49) h dX10_toldBy_48 rfl rfl ?_
              refine jk_iload_n (q := 50) h dX10_toldBy_49 rfl rfl ?_
              refine jk_callS (q := 53) h hX (c_X10_byteOf ⟨by omega, by omega⟩) ms_X10_byteOf dX10_toldBy_50 ml_X10_153 ⟨rfl, Nat.le_refl _⟩ rfl rfl (Nat.le_of_ble_eq_true rfl) (Nat.le_of_ble_eq_true rfl) rfl rfl (Nat.le_of_ble_eq_true rfl) rfl (fun v9 n9 M9 hp9 => ?_)
              obtain ⟨rfl, rfl, rfl⟩ := hp9
              refine jk_if_eq (q := 56) (tgt := 59) h dX10_toldBy_53 (by decide) rfl ⟨by omega, by omega⟩ (fun c53 => ?_) (fun c53 => ?_)
              · refine jk_iinc (q := 62) h dX10_toldBy_59 rfl rfl rfl rfl ?_
                refine jk_goto (q := 65) (tgt := 42) h dX10_toldBy_62 (by decide) ?_
                exact jk_weak (jwk_s rfl (jwk_n (jwk_s rfl (jwk_s rfl jwk_0)))) (ih42 _ (by omega) _ _ (by omega) (by omega) hg (by omega) (by omega) (by omega) (fun k h1 h2 => by
                            by_cases h9 : (k : Int) < j
                            · exact hz k h1 h9
                            · rw [show k = j.toNat by omega]; omega) rfl)
              · refine jk_bipush (q := 58) h dX10_toldBy_56 (by decide) rfl ?_
                exact jk_iret h hR dX10_toldBy_58 (Nat.le_of_ble_eq_true rfl) (Nat.le_of_ble_eq_true rfl) ⟨-2, rfl, rfl, rfl, Or.inl ⟨rfl, snN_nz hi1 hj1 hj2 hg hz (by omega) (fun z => hii (by omega))⟩⟩
        exact jk_weak (jwk_s rfl (jwk_n (jwk_s rfl (jwk_s rfl jwk_0)))) (lp42 _ _ _ (by omega) (by omega) hg (by omega) (by omega) (by omega) (fun k h1 h2 => absurd h2 (by omega)) rfl)
      · refine jk_lload_n (q := 9) h dX10_toldBy_8 rfl rfl ?_
        refine jk_iload_n (q := 10) h dX10_toldBy_9 rfl rfl ?_
        refine jk_callS (q := 13) h hX (c_X10_byteOf ⟨by omega, by omega⟩) ms_X10_byteOf dX10_toldBy_10 ml_X10_153 ⟨rfl, Nat.le_refl _⟩ rfl rfl (Nat.le_of_ble_eq_true rfl) (Nat.le_of_ble_eq_true rfl) rfl rfl (Nat.le_of_ble_eq_true rfl) rfl (fun v9 n9 M9 hp9 => ?_)
        obtain ⟨rfl, rfl, rfl⟩ := hp9
        refine jk_if_eq (q := 16) (tgt := 40) h dX10_toldBy_13 (by decide) rfl ⟨by omega, by omega⟩ (fun c13 => ?_) (fun c13 => ?_)
        · refine jk_iload_n (q := 41) h dX10_toldBy_40 rfl rfl ?_
          refine jk_istore_n (q := 42) h dX10_toldBy_41 rfl (Nat.le_of_ble_eq_true rfl) rfl rfl ?_
          have lp42 : ∀ (k9 : Nat) (i : Int) (j : Int) (hi1 : 0 ≤ i) (hi2 : i ≤ 8) (hg : ∀ k : Nat, (k : Int) < i → 33 ≤ by9 (lu u) k ∧ by9 (lu u) k ≤ 126) (hii : i < 8 → by9 (lu u) i.toNat = 0) (hj1 : i ≤ j) (hj2 : j ≤ 8) (hz : ∀ k : Nat, i ≤ (k : Int) → (k : Int) < j → by9 (lu u) k = 0) (hk9 : (8 - j).toNat = k9), jJ X 42 [some (.long (u)), none, some (jI (i)), some (jI (j))] [] n M 0 0 := by
            intro k9
            induction k9 using Nat.strongRecOn with
            | _ k9 ih42 =>
              intro i j hi1 hi2 hg hii hj1 hj2 hz hk9
              have hbj := by9_bd (lu u) j.toNat
              refine jk_iload_n (q := 43) h dX10_toldBy_42 rfl rfl ?_
              refine jk_bipush (q := 45) h dX10_toldBy_43 (by decide) rfl ?_
              refine jk_icmp_ge (q := 48) (tgt := 65) h dX10_toldBy_45 (by decide) rfl ⟨by omega, by omega⟩ ⟨by omega, by omega⟩ (fun c45 => ?_) (fun c45 => ?_)
              · refine jk_iload_n (q := 66) h dX10_toldBy_65 rfl rfl ?_
                refine jk_if_ne (q := 69) (tgt := 74) h dX10_toldBy_66 (by decide) rfl ⟨by omega, by omega⟩ (fun c66 => ?_) (fun c66 => ?_)
                · refine jk_iload_n (q := 75) h dX10_toldBy_74 rfl rfl ?_
                  exact jk_iret h hR dX10_toldBy_75 (Nat.le_of_ble_eq_true rfl) (Nat.le_of_ble_eq_true rfl) (by first | exact ⟨-2, rfl, rfl, rfl, Or.inl ⟨rfl, snN_0 (by omega) hz⟩⟩ | exact ⟨i, rfl, rfl, rfl, Or.inr ⟨by omega, by omega, snN_ok hi1 hi2 hg (fun k h1 h2 => hz k h1 (by omega)) (lu_lt u)⟩⟩)
                · refine jk_bipush (q := 71) h dX10_toldBy_69 (by decide) rfl ?_
                  refine jk_goto (q := 74) (tgt := 75) h dX10_toldBy_71 (by decide) ?_
                  exact jk_iret h hR dX10_toldBy_75 (Nat.le_of_ble_eq_true rfl) (Nat.le_of_ble_eq_true rfl) (by first | exact ⟨-2, rfl, rfl, rfl, Or.inl ⟨rfl, snN_0 (by omega) hz⟩⟩ | exact ⟨i, rfl, rfl, rfl, Or.inr ⟨by omega, by omega, snN_ok hi1 hi2 hg (fun k h1 h2 => hz k h1 (by omega)) (lu_lt u)⟩⟩)
              · refine jk_lload_n (q := 49) h dX10_toldBy_48 rfl rfl ?_
                refine jk_iload_n (q := 50) h dX10_toldBy_49 rfl rfl ?_
                refine jk_callS (q := 53) h hX (c_X10_byteOf ⟨by omega, by omega⟩) ms_X10_byteOf dX10_toldBy_50 ml_X10_153 ⟨rfl, Nat.le_refl _⟩ rfl rfl (Nat.le_of_ble_eq_true rfl) (Nat.le_of_ble_eq_true rfl) rfl rfl (Nat.le_of_ble_eq_true rfl) rfl (fun v9 n9 M9 hp9 => ?_)
                obtain ⟨rfl, rfl, rfl⟩ := hp9
                refine jk_if_eq (q := 56) (tgt := 59) h dX10_toldBy_53 (by decide) rfl ⟨by omega, by omega⟩ (fun c53 => ?_) (fun c53 => ?_)
                · refine jk_iinc (q := 62) h dX10_toldBy_59 rfl rfl rfl rfl ?_
                  refine jk_goto (q := 65) (tgt := 42) h dX10_toldBy_62 (by decide) ?_
                  exact jk_weak (jwk_s rfl (jwk_n (jwk_s rfl (jwk_s rfl jwk_0)))) (ih42 _ (by omega) _ _ (by omega) (by omega) hg (by omega) (by omega) (by omega) (fun k h1 h2 => by
                              by_cases h9 : (k : Int) < j
                              · exact hz k h1 h9
                              · rw [show k = j.toNat by omega]; omega) rfl)
                · refine jk_bipush (q := 58) h dX10_toldBy_56 (by decide) rfl ?_
                  exact jk_iret h hR dX10_toldBy_58 (Nat.le_of_ble_eq_true rfl) (Nat.le_of_ble_eq_true rfl) ⟨-2, rfl, rfl, rfl, Or.inl ⟨rfl, snN_nz hi1 hj1 hj2 hg hz (by omega) (fun z => hii (by omega))⟩⟩
          exact jk_weak (jwk_s rfl (jwk_n (jwk_s rfl (jwk_s rfl jwk_0)))) (lp42 _ _ _ (by omega) (by omega) hg (by omega) (by omega) (by omega) (fun k h1 h2 => absurd h2 (by omega)) rfl)
        · refine jk_lload_n (q := 17) h dX10_toldBy_16 rfl rfl ?_
          refine jk_iload_n (q := 18) h dX10_toldBy_17 rfl rfl ?_
          refine jk_callS (q := 21) h hX (c_X10_byteOf ⟨by omega, by omega⟩) ms_X10_byteOf dX10_toldBy_18 ml_X10_153 ⟨rfl, Nat.le_refl _⟩ rfl rfl (Nat.le_of_ble_eq_true rfl) (Nat.le_of_ble_eq_true rfl) rfl rfl (Nat.le_of_ble_eq_true rfl) rfl (fun v9 n9 M9 hp9 => ?_)
          obtain ⟨rfl, rfl, rfl⟩ := hp9
          refine jk_bipush (q := 23) h dX10_toldBy_21 (by decide) rfl ?_
          refine jk_bipush (q := 25) h dX10_toldBy_23 (by decide) rfl ?_
          refine jk_callS (q := 28) h hX (c_X10_in ⟨by omega, by omega⟩ ⟨by omega, by omega⟩ ⟨by omega, by omega⟩) ms_X10_in dX10_toldBy_25 ml_X10_35 ⟨rfl, Nat.le_refl _⟩ rfl rfl (Nat.le_of_ble_eq_true rfl) (Nat.le_of_ble_eq_true rfl) rfl rfl (Nat.le_of_ble_eq_true rfl) rfl (fun v9 n9 M9 hp9 => ?_)
          obtain ⟨rfl, rfl, rfl⟩ := hp9
          refine jk_if_neB (q := 31) (tgt := 34) h dX10_toldBy_28 (by decide) rfl (fun c28 => ?_) (fun c28 => ?_)
          · refine jk_iinc (q := 37) h dX10_toldBy_34 rfl rfl rfl rfl ?_
            refine jk_goto (q := 40) (tgt := 2) h dX10_toldBy_37 (by decide) ?_
            exact jk_weak (jwk_s rfl (jwk_n (jwk_s rfl (jwk_n jwk_0)))) (ih2 _ (by omega) _ (by omega) (by omega) (fun k hk => by
                        by_cases h9 : (k : Int) < i
                        · exact hg k h9
                        · rw [show k = i.toNat by omega]; omega) rfl)
          · refine jk_bipush (q := 33) h dX10_toldBy_31 (by decide) rfl ?_
            exact jk_iret h hR dX10_toldBy_33 (Nat.le_of_ble_eq_true rfl) (Nat.le_of_ble_eq_true rfl) ⟨-2, rfl, rfl, rfl, Or.inl ⟨rfl, snN_bad hi1 (by omega) (by omega) hg⟩⟩
  exact jk_weak (jwk_s rfl (jwk_n (jwk_s rfl (jwk_n jwk_0)))) (lp2 _ _ (by omega) (by omega) (fun k hk => absurd hk (by omega)) rfl)
