/-! the reference: analyse, fewest -/
theorem md_now {M M2 : jM} {m : Nat} {σ τ ps sv hd pd od lf σ2 lf2 : Nat → Int} {kp pn a9 on : Int} (h : jPic M m (mdL m σ τ ps kp sv hd pd pn a9 od on lf)) (h1 : jPic M2 (m + 1) [aI 455 σ2]) (h8 : jPic M2 (m + 8) [aI 100 lf2]) (ho : jtw M M2 (m + 1) (m + 8)) : jPic M2 m (mdL m σ2 τ ps kp sv hd pd pn a9 od on lf2) := fun j x hx => by
  match j, hx with
  | 0, hx => exact (ho _ (by omega) (by omega)).trans (h 0 x hx)
  | 1, hx => exact h1 0 x hx
  | 2, hx => exact (ho _ (by omega) (by omega)).trans (h 2 x hx)
  | 3, hx => exact (ho _ (by omega) (by omega)).trans (h 3 x hx)
  | 4, hx => exact (ho _ (by omega) (by omega)).trans (h 4 x hx)
  | 5, hx => exact (ho _ (by omega) (by omega)).trans (h 5 x hx)
  | 6, hx => exact (ho _ (by omega) (by omega)).trans (h 6 x hx)
  | 7, hx => exact (ho _ (by omega) (by omega)).trans (h 7 x hx)
  | 8, hx => exact h8 0 x hx
  | j + 9, hx => exact absurd hx (by simp [mdL])
theorem md_then {M M2 : jM} {m : Nat} {σ τ ps sv hd pd od lf τ2 lf2 : Nat → Int} {kp pn a9 on : Int} (h : jPic M m (mdL m σ τ ps kp sv hd pd pn a9 od on lf)) (h1 : jPic M2 (m + 2) [aI 455 τ2]) (h8 : jPic M2 (m + 8) [aI 100 lf2]) (ho : jtw M M2 (m + 2) (m + 8)) : jPic M2 m (mdL m σ τ2 ps kp sv hd pd pn a9 od on lf2) := fun j x hx => by
  match j, hx with
  | 0, hx => exact (ho _ (by omega) (by omega)).trans (h 0 x hx)
  | 1, hx => exact (ho _ (by omega) (by omega)).trans (h 1 x hx)
  | 2, hx => exact h1 0 x hx
  | 3, hx => exact (ho _ (by omega) (by omega)).trans (h 3 x hx)
  | 4, hx => exact (ho _ (by omega) (by omega)).trans (h 4 x hx)
  | 5, hx => exact (ho _ (by omega) (by omega)).trans (h 5 x hx)
  | 6, hx => exact (ho _ (by omega) (by omega)).trans (h 6 x hx)
  | 7, hx => exact (ho _ (by omega) (by omega)).trans (h 7 x hx)
  | 8, hx => exact h8 0 x hx
  | j + 9, hx => exact absurd hx (by simp [mdL])
theorem ly_now {σ τ : Nat → Int} {x : TS} (h : mdT σ x) (hQ : stQ x) : mdT (lyS σ τ 0 0 455) x := h.cong hQ (fun k hk => by
  unfold lyS
  rw [if_pos (by omega)]
  congr 1
  omega)
theorem fw_st {x : TS} (hQ : stQ x) {k : Int} (hk : 1 ≤ k ∧ k ≤ 10) : stQ (jfup x.1 (0 : Int).toNat k, x.2) := by
  obtain ⟨hse, h2⟩ := hQ
  exact ⟨(seQ_up (q := 0) hse (by unfold irS; rw [if_pos rfl, if_pos hk])).1, h2⟩

set_option maxHeartbeats 4000000 in
set_option maxRecDepth 100000 in
theorem c_X10_analyse {l : Launch} {D : va_G} {b0 : Nat} {n : Nat} {M : jM} {m : Nat} {x : TS} {hl : Int} {hk : Nat → TS} {sl : Nat → Option TS} {sg : Nat → Int} {len : Int} (hW : moP M m x hl hk sl sg len) {r : Int} {x2 : TS} (hs9 : anQ x r x2) (hq2 : stQ x2) : jCtr l D b0 yX10_analyse cX10_analyse 1 (some .int) 4 0 0 [.ref m] n M (fun v9 n2 M2 => some (jI r) = v9 ∧ n = n2 ∧ moP M2 m x2 (rcH r hl) (rcK r x hk) sl sg len ∧ jout M M2 m 9) := by
  refine jctr (lv := [some (.ref m)]) RX10 "analyse" rfl rfl (by decide) (Nat.le_of_ble_eq_true rfl) rfl ?_
  intro X h hR hX
  obtain ⟨σ, τ, ps, sv, hd, pd, a9, od, on, lf, hM, hm, hQ, hh, hsl, hpd, hkp, hpQ⟩ := id hW
  obtain ⟨hmr, ⟨hm1, hm2, hm3⟩, hms, hmA, hmB, hmP⟩ := id hm
  obtain ⟨hse, htb, hr, hch, hOA, hOB, hOP⟩ := id hQ
  obtain ⟨hya, hyb, hys⟩ := id htb
  have hm0 := hmr.1
  have hk1 : σ (1 : Int).toNat = 1 ∨ σ (1 : Int).toNat = 0 := by { rw [hm1]; unfold mkn; split <;> simp }
  have hk2 : σ (1 : Int).toNat = 0 ↔ x.2.2.1.1 = 0 := by { rw [hm1]; unfold mkn; split <;> omega }
  have ho := jout.rf M m 9
  refine jk_aload_n (q := 1) h dX10_analyse_0 rfl rfl ?_
  refine jk_get (q := 4) h fg_X10_7 dX10_analyse_1 (hM.at 0 rfl) rfl rfl ?_
  refine jk_iconst (q := 5) h dX10_analyse_4 rfl ?_
  refine jk_ialdI (q := 6) h dX10_analyse_5 (hM.at 1 rfl) (by omega) (by omega) rfl rfl ?_
  refine jk_if_ne (q := 9) (tgt := 12) h dX10_analyse_6 (by decide) rfl ⟨by omega, by omega⟩ (fun c6 => ?_) (fun c6 => ?_)
  · refine jk_aload_n (q := 13) h dX10_analyse_12 rfl rfl ?_
    refine jk_callV (q := 16) h hX (c_X10_records hM hm hQ hkp hh) mv_X10_records (hM.at 0 rfl) dX10_analyse_13 ml_X10_47 ⟨rfl, Nat.le_refl _⟩ rfl rfl (Nat.le_of_ble_eq_true rfl) (Nat.le_of_ble_eq_true rfl) rfl rfl (Nat.le_of_ble_eq_true rfl) rfl (fun v9 n9 M_1 hp9 => ?_)
    obtain ⟨rfl, rfl, ⟨ps2, hM, hh⟩, o_1⟩ := hp9
    have ho := ho.tr o_1 (by omega) (by omega)
    refine jk_aload_n (q := 17) h dX10_analyse_16 rfl rfl ?_
    refine jk_aload_n (q := 18) h dX10_analyse_17 rfl rfl ?_
    refine jk_get (q := 21) h fg_X10_7 dX10_analyse_18 (hM.at 0 rfl) rfl rfl ?_
    refine jk_callV (q := 24) h hX (c_X10_analyses (jPic_c (hM.at 0 rfl)) (jPic_c (hM.at 1 rfl)) (jPic_c (hM.at 8 rfl)) (by omega) (by omega) hm hQ) mv_X10_analyses (hM.at 0 rfl) dX10_analyse_21 ml_X10_126 ⟨rfl, Nat.le_refl _⟩ rfl rfl (Nat.le_of_ble_eq_true rfl) (Nat.le_of_ble_eq_true rfl) rfl rfl (Nat.le_of_ble_eq_true rfl) rfl (fun v9 n9 M_2 hp9 => ?_)
    obtain ⟨rfl, rfl, ⟨s9, lf9, hs9q, hlf9, ham⟩, oj9⟩ := id hp9
    have o_2 := jtw.ou (m := m) (k := 9) oj9 ⟨by omega, by omega⟩ ⟨by omega, by omega⟩
    have hp8 := hp9
    have ho := ho.tr o_2 (by omega) (by omega)
    have hM := md_now hM hs9q hlf9 oj9
    refine jk_aload_n (q := 25) h dX10_analyse_24 rfl rfl ?_
    refine jk_get (q := 28) h fg_X10_7 dX10_analyse_25 (hM.at 0 rfl) rfl rfl ?_
    refine jk_iconst (q := 29) h dX10_analyse_28 rfl ?_
    refine jk_ialdI (q := 30) h dX10_analyse_29 (hM.at 1 rfl) (by omega) (by omega) rfl rfl ?_
    exact jk_iret h hR dX10_analyse_30 (Nat.le_of_ble_eq_true rfl) (Nat.le_of_ble_eq_true rfl) (by
          rcases hs9 with ⟨z, -, -⟩ | ⟨z, rfl, A, B, p, rfl, hA, hB, hp⟩
          · omega
          · refine ⟨by rw [ham.2.2.1.2.1], rfl, ?_, ho⟩
            unfold rcH rcK
            rw [if_pos hys.1, if_pos hys.1]
            exact ⟨_, _, _, _, _, _, _, _, _, _, hM, ham.md hm hQ z hA hB hp, hq2, hh, hsl, hpd, jmn_b hkp, hpQ⟩)
  · refine jk_bipush (q := 11) h dX10_analyse_9 (by decide) rfl ?_
    exact jk_iret h hR dX10_analyse_11 (Nat.le_of_ble_eq_true rfl) (Nat.le_of_ble_eq_true rfl) (by
          rcases hs9 with ⟨-, rfl, rfl⟩ | ⟨z, -⟩
          · exact ⟨rfl, rfl, by unfold rcH rcK; rw [if_neg (by decide), if_neg (by decide)]; exact hW, ho⟩
          · omega)

set_option maxHeartbeats 4000000 in
set_option maxRecDepth 100000 in
theorem c_X10_fewest {l : Launch} {D : va_G} {b0 : Nat} {n : Nat} {M : jM} {m : Nat} {x : TS} {hl : Int} {hk : Nat → TS} {sl : Nat → Option TS} {sg : Nat → Int} {len : Int} (hW : moP M m x hl hk sl sg len) {c : Int} {far : Int} (h_c : jRng c) (h_far : jRng far) {r : Int} (hs9 : (¬ ((c = 0 ∨ c = 1) ∧ 0 ≤ far ∧ far ≤ 60) ∧ r = -2) ∨ (((c = 0 ∨ c = 1) ∧ 0 ≤ far ∧ far ≤ 60) ∧ x.2.1.2.2 = 0 ∧ r = -5) ∨ (((c = 0 ∨ c = 1) ∧ 0 ≤ far ∧ far ≤ 60) ∧ 0 < x.2.1.2.2 ∧ fwQ x c far 10 1 r)) : jCtr l D b0 yX10_fewest cX10_fewest 4 (some .int) 5 0 0 [.ref m, jI c, jI far] n M (fun v9 n2 M2 => some (jI r) = v9 ∧ n = n2 ∧ moP M2 m x hl hk sl sg len ∧ jout M M2 m 9) := by
  refine jctr (lv := [some (.ref m), some (jI c), some (jI far), none]) RX10 "fewest" rfl rfl (by decide) (Nat.le_of_ble_eq_true rfl) rfl ?_
  intro X h hR hX
  obtain ⟨σ, τ, ps, sv, hd, pd, a9, od, on, lf, hM, hm, hQ, hh, hsl, hpd, hkp, hpQ⟩ := id hW
  obtain ⟨hmr, ⟨hm1, hm2, hm3⟩, hms, hmA, hmB, hmP⟩ := id hm
  obtain ⟨hse, htb, hr, hch, hOA, hOB, hOP⟩ := id hQ
  obtain ⟨hya, hyb, hys⟩ := id htb
  have hm0 := hmr.1
  have hk1 : σ (1 : Int).toNat = 1 ∨ σ (1 : Int).toNat = 0 := by { rw [hm1]; unfold mkn; split <;> simp }
  have hk2 : σ (1 : Int).toNat = 0 ↔ x.2.2.1.1 = 0 := by { rw [hm1]; unfold mkn; split <;> omega }
  have ho := jout.rf M m 9
  refine jk_iload_n (q := 1) h dX10_fewest_0 rfl rfl ?_
  refine jk_callS (q := 4) h hX (c_X10_isColumn ⟨by omega, by omega⟩) ms_X10_isColumn dX10_fewest_1 ml_X10_79 ⟨rfl, Nat.le_refl _⟩ rfl rfl (Nat.le_of_ble_eq_true rfl) (Nat.le_of_ble_eq_true rfl) rfl rfl (Nat.le_of_ble_eq_true rfl) rfl (fun v9 n9 M9 hp9 => ?_)
  obtain ⟨rfl, rfl, rfl⟩ := hp9
  refine jk_if_eqB (q := 7) (tgt := 17) h dX10_fewest_4 (by decide) rfl (fun c4 => ?_) (fun c4 => ?_)
  · refine jk_bipush (q := 19) h dX10_fewest_17 (by decide) rfl ?_
    exact jk_iret h hR dX10_fewest_19 (Nat.le_of_ble_eq_true rfl) (Nat.le_of_ble_eq_true rfl) (by
          rcases hs9 with ⟨-, rfl⟩ | ⟨z, -, -⟩ | ⟨z, -, -⟩
          · exact ⟨rfl, rfl, hW, ho⟩
          · omega
          · omega)
  · refine jk_iload_n (q := 8) h dX10_fewest_7 rfl rfl ?_
    refine jk_iconst (q := 9) h dX10_fewest_8 rfl ?_
    refine jk_bipush (q := 11) h dX10_fewest_9 (by decide) rfl ?_
    refine jk_callS (q := 14) h hX (c_X10_in ⟨by omega, by omega⟩ ⟨by omega, by omega⟩ ⟨by omega, by omega⟩) ms_X10_in dX10_fewest_11 ml_X10_35 ⟨rfl, Nat.le_refl _⟩ rfl rfl (Nat.le_of_ble_eq_true rfl) (Nat.le_of_ble_eq_true rfl) rfl rfl (Nat.le_of_ble_eq_true rfl) rfl (fun v9 n9 M9 hp9 => ?_)
    obtain ⟨rfl, rfl, rfl⟩ := hp9
    refine jk_if_neB (q := 17) (tgt := 20) h dX10_fewest_14 (by decide) rfl (fun c14 => ?_) (fun c14 => ?_)
    · refine jk_aload_n (q := 21) h dX10_fewest_20 rfl rfl ?_
      refine jk_get (q := 24) h fg_X10_7 dX10_fewest_21 (hM.at 0 rfl) rfl rfl ?_
      refine jk_iconst (q := 25) h dX10_fewest_24 rfl ?_
      refine jk_ialdI (q := 26) h dX10_fewest_25 (hM.at 1 rfl) (by omega) (by omega) rfl rfl ?_
      refine jk_if_ne (q := 29) (tgt := 32) h dX10_fewest_26 (by decide) rfl ⟨by omega, by omega⟩ (fun c26 => ?_) (fun c26 => ?_)
      · obtain ⟨hcc, hfb, hfw0⟩ : (c = 0 ∨ c = 1) ∧ (0 ≤ far ∧ far ≤ 60) ∧ fwQ x c far 10 1 r := by
          rcases hs9 with ⟨z, -⟩ | ⟨-, z, -⟩ | ⟨⟨z1, z2⟩, -, z3⟩
          · exact absurd ⟨by omega, by omega⟩ z
          · omega
          · exact ⟨z1, z2, z3⟩
        clear hs9
        refine jk_iconst (q := 33) h dX10_fewest_32 rfl ?_
        refine jk_istore_n (q := 34) h dX10_fewest_33 rfl (Nat.le_of_ble_eq_true rfl) rfl rfl ?_
        have lp34 : ∀ (k9 : Nat) (k : Int) (τ3 : Nat → Int) (lf3 : Nat → Int) (M9 : jM) (hk1b : 1 ≤ k) (hk2b : k ≤ 11) (hM : jPic M9 m (mdL m σ τ3 ps hl sv hd pd len a9 od on lf3)) (hfw : fwQ x c far (11 - k).toNat k r) (ho : jout M M9 m 9) (hk9 : (11 - k).toNat = k9), jJ X 34 [some (.ref (m)), some (jI (c)), some (jI (far)), some (jI (k))] [] n M9 0 0 := by
          intro k9
          induction k9 using Nat.strongRecOn with
          | _ k9 ih34 =>
            intro k τ3 lf3 M9 hk1b hk2b hM hfw ho hk9
            refine jk_iload_n (q := 35) h dX10_fewest_34 rfl rfl ?_
            refine jk_bipush (q := 37) h dX10_fewest_35 (by decide) rfl ?_
            refine jk_icmp_gt (q := 40) (tgt := 96) h dX10_fewest_37 (by decide) rfl ⟨by omega, by omega⟩ ⟨by omega, by omega⟩ (fun c37 => ?_) (fun c37 => ?_)
            · have hk11 : k = 11 := by omega
              subst hk11
              refine jk_bipush (q := 98) h dX10_fewest_96 (by decide) rfl ?_
              exact jk_iret h hR dX10_fewest_98 (Nat.le_of_ble_eq_true rfl) (Nat.le_of_ble_eq_true rfl) ⟨by rw [show r = -6 from hfw], rfl, ⟨_, _, _, _, _, _, _, _, _, _, hM, hm, hQ, hh, hsl, hpd, hkp, hpQ⟩, ho⟩
            · rw [show (11 - k).toNat = (11 - (k + 1)).toNat + 1 by omega] at hfw
              obtain ⟨y, hcy, hly, hfy⟩ := hfw
              have hxt := fw_st hQ (k := k) ⟨hk1b, by omega⟩
              have hwv := wvI_bd1 (miT y)
              have hmb9 := miT_bd (v := wvI (miT y) 100) hcy
              obtain ⟨mv, hmv⟩ : ∃ z, miT y (wvI (miT y) 100) = z := ⟨_, rfl⟩
              rw [hmv] at hmb9 hfy
              refine jk_aload_n (q := 41) h dX10_fewest_40 rfl rfl ?_
              refine jk_get (q := 44) h fg_X10_7 dX10_fewest_41 (hM.at 0 rfl) rfl rfl ?_
              refine jk_iconst (q := 45) h dX10_fewest_44 rfl ?_
              refine jk_aload_n (q := 46) h dX10_fewest_45 rfl rfl ?_
              refine jk_get (q := 49) h fg_X10_13 dX10_fewest_46 (hM.at 0 rfl) rfl rfl ?_
              refine jk_iconst (q := 50) h dX10_fewest_49 rfl ?_
              refine jk_callS (q := 53) h hX (c_X10_lays (jPic_c (hM.at 1 rfl)) (jPic_c (hM.at 2 rfl)) (by omega) ⟨by omega, by omega⟩ ⟨by omega, by omega⟩ rfl rfl) ms_X10_lays dX10_fewest_50 ml_X10_43 ⟨rfl, Nat.le_refl _⟩ rfl rfl (Nat.le_of_ble_eq_true rfl) (Nat.le_of_ble_eq_true rfl) rfl rfl (Nat.le_of_ble_eq_true rfl) rfl (fun v9 n9 M_1 hp9 => ?_)
              obtain ⟨rfl, rfl, s_1⟩ := hp9
              have hM := hM.put (i := 2) s_1 rfl
              have ho := ho.st (i := 2) s_1 (by omega)
              have hlyt := ly_now (τ := τ3) hm hQ
              refine jk_aload_n (q := 54) h dX10_fewest_53 rfl rfl ?_
              refine jk_get (q := 57) h fg_X10_13 dX10_fewest_54 (hM.at 0 rfl) rfl rfl ?_
              refine jk_iconst (q := 58) h dX10_fewest_57 rfl ?_
              refine jk_iload_n (q := 59) h dX10_fewest_58 rfl rfl ?_
              refine jk_iast (q := 60) h dX10_fewest_59 (hM.at 2 rfl) (by omega) (by omega) rfl rfl (fun M_2 s_2 => ?_)
              have hM := hM.put (i := 2) s_2 rfl
              have ho := ho.st (i := 2) s_2 (by omega)
              have hmt := hlyt.set hQ (q := 0) (v := k) ⟨by decide, by decide⟩
              refine jk_aload_n (q := 61) h dX10_fewest_60 rfl rfl ?_
              refine jk_aload_n (q := 62) h dX10_fewest_61 rfl rfl ?_
              refine jk_get (q := 65) h fg_X10_13 dX10_fewest_62 (hM.at 0 rfl) rfl rfl ?_
              refine jk_callV (q := 68) h hX (c_X10_analyses (jPic_c (hM.at 0 rfl)) (jPic_c (hM.at 2 rfl)) (jPic_c (hM.at 8 rfl)) (by omega) (by omega) hmt hxt) mv_X10_analyses (hM.at 0 rfl) dX10_fewest_65 ml_X10_126 ⟨rfl, Nat.le_refl _⟩ rfl rfl (Nat.le_of_ble_eq_true rfl) (Nat.le_of_ble_eq_true rfl) rfl rfl (Nat.le_of_ble_eq_true rfl) rfl (fun v9 n9 M_3 hp9 => ?_)
              obtain ⟨rfl, rfl, ⟨s9, lf9, hs9q, hlf9, ham⟩, oj9⟩ := id hp9
              have o_3 := jtw.ou (m := m) (k := 9) oj9 ⟨by omega, by omega⟩ ⟨by omega, by omega⟩
              have hp8 := hp9
              have ho := ho.tr o_3 (by omega) (by omega)
              have hM := md_then hM hs9q hlf9 oj9
              have hmc9 : mcT s9 c y := ham.1 c y hcc hly
              refine jk_aload_n (q := 69) h dX10_fewest_68 rfl rfl ?_
              refine jk_get (q := 72) h fg_X10_13 dX10_fewest_69 (hM.at 0 rfl) rfl rfl ?_
              refine jk_iload_n (q := 73) h dX10_fewest_72 rfl rfl ?_
              refine jk_aload_n (q := 74) h dX10_fewest_73 rfl rfl ?_
              refine jk_get (q := 77) h fg_X10_13 dX10_fewest_74 (hM.at 0 rfl) rfl rfl ?_
              refine jk_iload_n (q := 78) h dX10_fewest_77 rfl rfl ?_
              refine jk_callS (q := 81) h hX (c_X10_worstOf (jPic_c (hM.at 2 rfl)) hcc hmc9 hcy) ms_X10_worstOf dX10_fewest_78 ml_X10_122 ⟨rfl, Nat.le_refl _⟩ rfl rfl (Nat.le_of_ble_eq_true rfl) (Nat.le_of_ble_eq_true rfl) rfl rfl (Nat.le_of_ble_eq_true rfl) rfl (fun v9 n9 M9 hp9 => ?_)
              obtain ⟨rfl, rfl, rfl⟩ := hp9
              rw [← hmv] at hmb9
              refine jk_callS (q := 84) h hX (c_X10_off (jPic_c (hM.at 2 rfl)) hcc hmc9 hcy ⟨by omega, by omega⟩) ms_X10_off dX10_fewest_81 ml_X10_119 ⟨rfl, Nat.le_refl _⟩ rfl rfl (Nat.le_of_ble_eq_true rfl) (Nat.le_of_ble_eq_true rfl) rfl rfl (Nat.le_of_ble_eq_true rfl) rfl (fun v9 n9 M9 hp9 => ?_)
              obtain ⟨rfl, rfl, rfl⟩ := hp9
              rw [hmv] at hmb9 ⊢
              refine jk_iload_n (q := 85) h dX10_fewest_84 rfl rfl ?_
              refine jk_icmp_gt (q := 88) (tgt := 90) h dX10_fewest_85 (by decide) rfl ⟨by omega, by omega⟩ ⟨by omega, by omega⟩ (fun c85 => ?_) (fun c85 => ?_)
              · have hfwN : fwQ x c far (11 - (k + 1)).toNat (k + 1) r := by { rcases hfy with ⟨z, -⟩ | ⟨-, z⟩; omega; exact z }
                refine jk_iinc (q := 93) h dX10_fewest_90 rfl rfl rfl rfl ?_
                refine jk_goto (q := 96) (tgt := 34) h dX10_fewest_93 (by decide) ?_
                exact jk_weak (jwk_s rfl (jwk_s rfl (jwk_s rfl (jwk_s rfl jwk_0)))) (ih34 _ (by omega) _ _ _ _ (by omega) (by omega) hM hfwN ho rfl)
              · refine jk_iload_n (q := 89) h dX10_fewest_88 rfl rfl ?_
                exact jk_iret h hR dX10_fewest_89 (Nat.le_of_ble_eq_true rfl) (Nat.le_of_ble_eq_true rfl) (by
                      rcases hfy with ⟨-, hre⟩ | ⟨z, -⟩
                      · exact ⟨by rw [hre], rfl, ⟨_, _, _, _, _, _, _, _, _, _, hM, hm, hQ, hh, hsl, hpd, hkp, hpQ⟩, ho⟩
                      · omega)
        exact jk_weak (jwk_s rfl (jwk_s rfl (jwk_s rfl (jwk_s rfl jwk_0)))) (lp34 _ 1 τ lf _ (by omega) (by omega) hM hfw0 ho rfl)
      · refine jk_bipush (q := 31) h dX10_fewest_29 (by decide) rfl ?_
        exact jk_iret h hR dX10_fewest_31 (Nat.le_of_ble_eq_true rfl) (Nat.le_of_ble_eq_true rfl) (by
              rcases hs9 with ⟨z, -⟩ | ⟨-, -, rfl⟩ | ⟨-, z, -⟩
              · exact absurd ⟨by omega, by omega⟩ z
              · exact ⟨rfl, rfl, hW, ho⟩
              · omega)
    · refine jk_bipush (q := 19) h dX10_fewest_17 (by decide) rfl ?_
      exact jk_iret h hR dX10_fewest_19 (Nat.le_of_ble_eq_true rfl) (Nat.le_of_ble_eq_true rfl) (by
            rcases hs9 with ⟨-, rfl⟩ | ⟨z, -, -⟩ | ⟨z, -, -⟩
            · exact ⟨rfl, rfl, hW, ho⟩
            · omega
            · omega)
