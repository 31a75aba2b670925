/-! the reference: texts -/
theorem jfup_lt {f : Nat → Int} {i : Nat} {v : Int} {b : Int} (h : b ≤ (i : Int)) : ∀ j : Nat, (j : Int) < b → jfup f i v j = f j := fun j hj => jfup_n _ _ (by omega)

set_option maxHeartbeats 4000000 in
set_option maxRecDepth 100000 in
theorem c_X10_isComing {l : Launch} {D : va_G} {b0 : Nat} {n : Nat} {M : jM} {m : Nat} {σ τ ps : Nat → Int} {kp : Int} {sv hd pd : Nat → Int} {pn a9 : Int} {od : Nat → Int} {on : Int} {lf : Nat → Int} (hM : jPic M m (mdL m σ τ ps kp sv hd pd pn a9 od on lf)) {sg : Nat → Int} (hpd : ∀ k : Nat, (k : Int) < pn → pd k = sg k) (hpQ : pdQ sg pn) (ha : 0 ≤ a9 ∧ a9 ≤ 80) (hon : 0 ≤ on ∧ on ≤ 40) : jCtr l D b0 yX10_isComing cX10_isComing 1 (some .boolean) 3 0 0 [.ref m] n M (fun v9 n2 M2 => ∃ (w : Int) (od2 : Nat → Int), some (jI w) = v9 ∧ n = n2 ∧ jPic M2 m (mdL m σ τ ps kp sv hd pd pn (rwE sg pn a9) od2 on lf) ∧ (w = 0 ∨ w = 1) ∧ (w = 1 ↔ rwK sg pn a9) ∧ (∀ j : Nat, (j : Int) < 4 * on + 1 → od2 j = od j) ∧ (w = 1 → od2 (4 * on + 1).toNat = nmV sg pn a9 ∧ od2 (4 * on + 2).toNat = nmV sg pn (nmE sg pn a9 + 1) ∧ od2 (4 * on + 3).toNat = tmV sg pn (nmE sg pn (nmE sg pn a9 + 1))) ∧ jout M M2 m 9) := by
  refine jctr (lv := [some (.ref m)]) RX10 "isComing" rfl rfl (by decide) (Nat.le_of_ble_eq_true rfl) rfl ?_
  intro X h hR hX
  have hsa : (a9 < pn → sgA sg pn a9 = pd a9.toNat) ∧ (¬ a9 < pn → sgA sg pn a9 = 0) := ⟨fun z => by { unfold sgA; rw [if_pos (by omega), hpd _ (by omega)] }, fun z => by { unfold sgA; rw [if_neg (by omega)] }⟩
  have hsb := sgA_bd (i := a9) hpQ
  have hln := hpQ.2
  have ho := jout.rf M m 9
  have hn1 := nmV_bd sg pn a9
  have hn2 := nm_E hpQ ha.1 ha.2
  have hn3 := nmV_bd sg pn (nmE sg pn a9 + 1)
  refine jk_aload_n (q := 1) h dX10_isComing_0 rfl rfl ?_
  refine jk_get (q := 4) h fg_X10_29 dX10_isComing_1 (hM.at 0 rfl) rfl rfl ?_
  refine jk_iconst (q := 5) h dX10_isComing_4 rfl ?_
  refine jk_aload_n (q := 6) h dX10_isComing_5 rfl rfl ?_
  refine jk_get (q := 9) h fg_X10_167 dX10_isComing_6 (hM.at 0 rfl) rfl rfl ?_
  refine jk_imul (q := 10) h dX10_isComing_9 rfl ?_
  refine jk_iconst (q := 11) h dX10_isComing_10 rfl ?_
  refine jk_iadd (q := 12) h dX10_isComing_11 rfl ?_
  refine jk_iconst (q := 13) h dX10_isComing_12 rfl ?_
  refine jk_iast (q := 14) h dX10_isComing_13 (hM.at 7 rfl) (by omega) (by omega) rfl rfl (fun M_1 s_1 => ?_)
  have hM := hM.put (i := 7) s_1 rfl
  have ho := ho.st (i := 7) s_1 (by omega)
  obtain ⟨od1, hod1⟩ : ∃ od9, jfup od (4 * on + 3).toNat 1 = od9 := ⟨_, rfl⟩
  rw [hod1] at hM
  have ho1 : ∀ j : Nat, (j : Int) < 4 * on + 3 → od1 j = od j := by { rw [← hod1]; exact jfup_lt (by omega) }
  have ho13 : od1 (4 * on + 3).toNat = 1 := by { rw [← hod1]; exact jfup_s _ _ _ }
  refine jk_aload_n (q := 15) h dX10_isComing_14 rfl rfl ?_
  refine jk_iconst (q := 16) h dX10_isComing_15 rfl ?_
  refine jk_callV (q := 19) h hX (c_X10_isNumber hM hpd hpQ ha hon ⟨by omega, by omega⟩) mv_X10_isNumber (hM.at 0 rfl) dX10_isComing_16 ml_X10_170 ⟨rfl, Nat.le_refl _⟩ rfl rfl (Nat.le_of_ble_eq_true rfl) (Nat.le_of_ble_eq_true rfl) rfl rfl (Nat.le_of_ble_eq_true rfl) rfl (fun v9 n9 M_2 hp9 => ?_)
  obtain ⟨rfl, rfl, hM, o_2⟩ := hp9
  have ho := ho.tr o_2 (by omega) (by omega)
  refine jk_if_eqB (q := 22) (tgt := 39) h dX10_isComing_19 (by decide) rfl (fun c19 => ?_) (fun c19 => ?_)
  · rw [if_neg c19] at hM
    refine jk_iconst (q := 40) h dX10_isComing_39 rfl ?_
    exact jk_zret h hR dX10_isComing_40 (Nat.le_of_ble_eq_true rfl) (Nat.le_of_ble_eq_true rfl) (by first | exact Or.inl rfl | exact Or.inr rfl | omega) (by first | exact ⟨0, od1, rfl, rfl, by unfold rwE; rw [if_pos (by omega), show nmE sg pn a9 = nmE sg pn a9 from rfl]; exact hM, by omega, ⟨fun z => by omega, fun z => absurd z.1 c19⟩, fun j hj => ho1 j (by omega), fun z => by omega, ho⟩ | exact ⟨0, od2, rfl, rfl, by unfold rwE; rw [if_neg (by omega), if_pos c28]; exact hM, by omega, ⟨fun z => by omega, fun z => absurd z.2.1 c28⟩, fun j hj => (ho2 j (by omega)).trans (ho1 j (by omega)), fun z => by omega, ho⟩ | exact ⟨0, od2, rfl, rfl, by unfold rwE; rw [if_neg (by omega), if_neg (by omega), if_pos (by omega)]; exact hM, by omega, ⟨fun z => by omega, fun z => absurd z.2.2.1 c36⟩, fun j hj => (ho2 j (by omega)).trans (ho1 j (by omega)), fun z => by omega, ho⟩)
  · rw [if_pos c19] at hM
    obtain ⟨od2, hod2⟩ : ∃ od9, jfup od1 (4 * on + 1).toNat (nmV sg pn a9) = od9 := ⟨_, rfl⟩
    rw [hod2] at hM
    have ho2 : ∀ j : Nat, j ≠ (4 * on + 1).toNat → od2 j = od1 j := fun j hj => by { rw [← hod2]; exact jfup_n _ _ hj }
    have ho21 : od2 (4 * on + 1).toNat = nmV sg pn a9 := by { rw [← hod2]; exact jfup_s _ _ _ }
    refine jk_aload_n (q := 23) h dX10_isComing_22 rfl rfl ?_
    refine jk_bipush (q := 25) h dX10_isComing_23 (by decide) rfl ?_
    refine jk_callV (q := 28) h hX (c_X10_isSign hM hpd hpQ ⟨by omega, by omega⟩ hon ⟨by omega, by omega⟩) mv_X10_isSign (hM.at 0 rfl) dX10_isComing_25 ml_X10_173 ⟨rfl, Nat.le_refl _⟩ rfl rfl (Nat.le_of_ble_eq_true rfl) (Nat.le_of_ble_eq_true rfl) rfl rfl (Nat.le_of_ble_eq_true rfl) rfl (fun v9 n9 M_3 hp9 => ?_)
    obtain ⟨rfl, rfl, hM, o_3⟩ := hp9
    have ho := ho.tr o_3 (by omega) (by omega)
    refine jk_if_eqB (q := 31) (tgt := 39) h dX10_isComing_28 (by decide) rfl (fun c28 => ?_) (fun c28 => ?_)
    · rw [if_neg c28] at hM
      refine jk_iconst (q := 40) h dX10_isComing_39 rfl ?_
      exact jk_zret h hR dX10_isComing_40 (Nat.le_of_ble_eq_true rfl) (Nat.le_of_ble_eq_true rfl) (by first | exact Or.inl rfl | exact Or.inr rfl | omega) (by first | exact ⟨0, od1, rfl, rfl, by unfold rwE; rw [if_pos (by omega), show nmE sg pn a9 = nmE sg pn a9 from rfl]; exact hM, by omega, ⟨fun z => by omega, fun z => absurd z.1 c19⟩, fun j hj => ho1 j (by omega), fun z => by omega, ho⟩ | exact ⟨0, od2, rfl, rfl, by unfold rwE; rw [if_neg (by omega), if_pos c28]; exact hM, by omega, ⟨fun z => by omega, fun z => absurd z.2.1 c28⟩, fun j hj => (ho2 j (by omega)).trans (ho1 j (by omega)), fun z => by omega, ho⟩ | exact ⟨0, od2, rfl, rfl, by unfold rwE; rw [if_neg (by omega), if_neg (by omega), if_pos (by omega)]; exact hM, by omega, ⟨fun z => by omega, fun z => absurd z.2.2.1 c36⟩, fun j hj => (ho2 j (by omega)).trans (ho1 j (by omega)), fun z => by omega, ho⟩)
    · rw [if_pos c28] at hM
      have hl1 := sgA_lt (i := nmE sg pn a9) hpQ (by omega)
      have hn4 := nm_E (i := nmE sg pn a9 + 1) hpQ (by omega) (by omega)
      refine jk_aload_n (q := 32) h dX10_isComing_31 rfl rfl ?_
      refine jk_iconst (q := 33) h dX10_isComing_32 rfl ?_
      refine jk_callV (q := 36) h hX (c_X10_isNumber hM hpd hpQ ⟨by omega, by omega⟩ hon ⟨by omega, by omega⟩) mv_X10_isNumber (hM.at 0 rfl) dX10_isComing_33 ml_X10_170 ⟨rfl, Nat.le_refl _⟩ rfl rfl (Nat.le_of_ble_eq_true rfl) (Nat.le_of_ble_eq_true rfl) rfl rfl (Nat.le_of_ble_eq_true rfl) rfl (fun v9 n9 M_4 hp9 => ?_)
      obtain ⟨rfl, rfl, hM, o_4⟩ := hp9
      have ho := ho.tr o_4 (by omega) (by omega)
      refine jk_if_neB (q := 39) (tgt := 41) h dX10_isComing_36 (by decide) rfl (fun c36 => ?_) (fun c36 => ?_)
      · rw [if_pos c36] at hM
        obtain ⟨od3, hod3⟩ : ∃ od9, jfup od2 (4 * on + 2).toNat (nmV sg pn (nmE sg pn a9 + 1)) = od9 := ⟨_, rfl⟩
        rw [hod3] at hM
        have ho3 : ∀ j : Nat, j ≠ (4 * on + 2).toNat → od3 j = od2 j := fun j hj => by { rw [← hod3]; exact jfup_n _ _ hj }
        have ho32 : od3 (4 * on + 2).toNat = nmV sg pn (nmE sg pn a9 + 1) := by { rw [← hod3]; exact jfup_s _ _ _ }
        obtain ⟨b9, hb9⟩ : ∃ b9, nmE sg pn (nmE sg pn a9 + 1) = b9 := ⟨_, rfl⟩
        rw [hb9] at hM hn4
        have hsc : (b9 < pn → sgA sg pn b9 = pd b9.toNat) ∧ (¬ b9 < pn → sgA sg pn b9 = 0) := ⟨fun z => by { unfold sgA; rw [if_pos (by omega), hpd _ (by omega)] }, fun z => by { unfold sgA; rw [if_neg (by omega)] }⟩
        have hsd := sgA_bd (i := b9) hpQ
        have hse := sgA_bd (i := b9 + 1) hpQ
        have hsf : (b9 + 1 < pn → sgA sg pn (b9 + 1) = pd (b9 + 1).toNat) ∧ (¬ b9 + 1 < pn → sgA sg pn (b9 + 1) = 0) := ⟨fun z => by { unfold sgA; rw [if_pos (by omega), hpd _ (by omega)] }, fun z => by { unfold sgA; rw [if_neg (by omega)] }⟩
        refine jk_aload_n (q := 42) h dX10_isComing_41 rfl rfl ?_
        refine jk_bipush (q := 44) h dX10_isComing_42 (by decide) rfl ?_
        refine jk_callV (q := 47) h hX (c_X10_isSign hM hpd hpQ ⟨by omega, by omega⟩ hon ⟨by omega, by omega⟩) mv_X10_isSign (hM.at 0 rfl) dX10_isComing_44 ml_X10_173 ⟨rfl, Nat.le_refl _⟩ rfl rfl (Nat.le_of_ble_eq_true rfl) (Nat.le_of_ble_eq_true rfl) rfl rfl (Nat.le_of_ble_eq_true rfl) rfl (fun v9 n9 M_5 hp9 => ?_)
        obtain ⟨rfl, rfl, hM, o_5⟩ := hp9
        have ho := ho.tr o_5 (by omega) (by omega)
        refine jk_if_eqB (q := 50) (tgt := 98) h dX10_isComing_47 (by decide) rfl (fun c47 => ?_) (fun c47 => ?_)
        · rw [if_neg c47] at hM
          refine jk_iconst (q := 99) h dX10_isComing_98 rfl ?_
          exact jk_zret h hR dX10_isComing_99 (Nat.le_of_ble_eq_true rfl) (Nat.le_of_ble_eq_true rfl) (by first | exact Or.inl rfl | exact Or.inr rfl | omega) (by first | exact ⟨1, od3, rfl, rfl, by unfold rwE tmE; rw [if_neg (by omega), if_neg (by omega), if_neg (by omega), hb9, if_pos c47]; exact hM, by omega, ⟨fun _ => ⟨c19, c28, c36, by rw [hb9]; exact Or.inl c47⟩, fun _ => rfl⟩, fun j hj => ((ho3 j (by omega)).trans (ho2 j (by omega))).trans (ho1 j (by omega)), fun _ => ⟨(ho3 _ (by omega)).trans ho21, ho32, by rw [ho3 _ (by omega), ho2 _ (by omega), ho13, hb9]; unfold tmV; rw [if_pos c47]⟩, ho⟩ | exact ⟨1, _, rfl, rfl, by unfold rwE tmE; rw [if_neg (by omega), if_neg (by omega), if_neg (by omega), hb9, if_neg (by omega), if_pos (by omega), show b9 + 2 = b9 + 1 + 1 by omega]; exact hM, by omega, ⟨fun _ => ⟨c19, c28, c36, by rw [hb9]; exact Or.inr (by omega)⟩, fun _ => rfl⟩, fun j hj => ((jfup_n _ _ (by omega)).trans (ho3 j (by omega))).trans ((ho2 j (by omega)).trans (ho1 j (by omega))), fun _ => ⟨((jfup_n _ _ (by omega)).trans (ho3 _ (by omega))).trans ho21, (jfup_n _ _ (by omega)).trans ho32, by rw [jfup_s, hb9]; unfold tmV; rw [if_neg (by omega)]; omega⟩, ho⟩)
        · rw [if_pos c47] at hM
          refine jk_aload_n (q := 51) h dX10_isComing_50 rfl rfl ?_
          refine jk_bipush (q := 53) h dX10_isComing_51 (by decide) rfl ?_
          refine jk_bipush (q := 55) h dX10_isComing_53 (by decide) rfl ?_
          refine jk_callV (q := 58) h hX (c_X10_isAt hM hpd hpQ ⟨by omega, by omega⟩ hon ⟨by omega, by omega⟩ ⟨by omega, by omega⟩) mv_X10_isAt (hM.at 0 rfl) dX10_isComing_55 ml_X10_164 ⟨rfl, Nat.le_refl _⟩ rfl rfl (Nat.le_of_ble_eq_true rfl) (Nat.le_of_ble_eq_true rfl) rfl rfl (Nat.le_of_ble_eq_true rfl) rfl (fun v9 n9 M9 hp9 => ?_)
          obtain ⟨rfl, rfl, rfl⟩ := hp9
          refine jk_if_neB (q := 61) (tgt := 63) h dX10_isComing_58 (by decide) rfl (fun c58 => ?_) (fun c58 => ?_)
          · refine jk_aload_n (q := 64) h dX10_isComing_63 rfl rfl ?_
            refine jk_get (q := 67) h fg_X10_29 dX10_isComing_64 (hM.at 0 rfl) rfl rfl ?_
            refine jk_iconst (q := 68) h dX10_isComing_67 rfl ?_
            refine jk_aload_n (q := 69) h dX10_isComing_68 rfl rfl ?_
            refine jk_get (q := 72) h fg_X10_167 dX10_isComing_69 (hM.at 0 rfl) rfl rfl ?_
            refine jk_imul (q := 73) h dX10_isComing_72 rfl ?_
            refine jk_iconst (q := 74) h dX10_isComing_73 rfl ?_
            refine jk_iadd (q := 75) h dX10_isComing_74 rfl ?_
            refine jk_aload_n (q := 76) h dX10_isComing_75 rfl rfl ?_
            refine jk_get (q := 79) h fg_X10_26 dX10_isComing_76 (hM.at 0 rfl) rfl rfl ?_
            refine jk_aload_n (q := 80) h dX10_isComing_79 rfl rfl ?_
            refine jk_get (q := 83) h fg_X10_161 dX10_isComing_80 (hM.at 0 rfl) rfl rfl ?_
            refine jk_ialdI (q := 84) h dX10_isComing_83 (hM.at 6 rfl) (by omega) (by omega) rfl rfl ?_
            refine jk_bipush (q := 86) h dX10_isComing_84 (by decide) rfl ?_
            refine jk_isub (q := 87) h dX10_isComing_86 rfl ?_
            refine jk_iast (q := 88) h dX10_isComing_87 (hM.at 7 rfl) (by omega) (by omega) rfl rfl (fun M_6 s_6 => ?_)
            have hM := hM.put (i := 7) s_6 rfl
            have ho := ho.st (i := 7) s_6 (by omega)
            refine jk_aload_n (q := 89) h dX10_isComing_88 rfl rfl ?_
            refine jk_dup (q := 90) h dX10_isComing_89 rfl rfl ?_
            refine jk_get (q := 93) h fg_X10_161 dX10_isComing_90 (hM.at 0 rfl) rfl rfl ?_
            refine jk_iconst (q := 94) h dX10_isComing_93 rfl ?_
            refine jk_iadd (q := 95) h dX10_isComing_94 rfl ?_
            refine jk_put (q := 98) h (fp_X10_161 _) dX10_isComing_95 (hM.at 0 rfl) (Nat.le_of_ble_eq_true rfl) rfl (fun M_7 s_7 => ?_)
            have hM := hM.put (i := 0) s_7 rfl
            have ho := ho.st (i := 0) s_7 (by omega)
            refine jk_iconst (q := 99) h dX10_isComing_98 rfl ?_
            exact jk_zret h hR dX10_isComing_99 (Nat.le_of_ble_eq_true rfl) (Nat.le_of_ble_eq_true rfl) (by first | exact Or.inl rfl | exact Or.inr rfl | omega) (by first | exact ⟨1, od3, rfl, rfl, by unfold rwE tmE; rw [if_neg (by omega), if_neg (by omega), if_neg (by omega), hb9, if_pos c47]; exact hM, by omega, ⟨fun _ => ⟨c19, c28, c36, by rw [hb9]; exact Or.inl c47⟩, fun _ => rfl⟩, fun j hj => ((ho3 j (by omega)).trans (ho2 j (by omega))).trans (ho1 j (by omega)), fun _ => ⟨(ho3 _ (by omega)).trans ho21, ho32, by rw [ho3 _ (by omega), ho2 _ (by omega), ho13, hb9]; unfold tmV; rw [if_pos c47]⟩, ho⟩ | exact ⟨1, _, rfl, rfl, by unfold rwE tmE; rw [if_neg (by omega), if_neg (by omega), if_neg (by omega), hb9, if_neg (by omega), if_pos (by omega), show b9 + 2 = b9 + 1 + 1 by omega]; exact hM, by omega, ⟨fun _ => ⟨c19, c28, c36, by rw [hb9]; exact Or.inr (by omega)⟩, fun _ => rfl⟩, fun j hj => ((jfup_n _ _ (by omega)).trans (ho3 j (by omega))).trans ((ho2 j (by omega)).trans (ho1 j (by omega))), fun _ => ⟨((jfup_n _ _ (by omega)).trans (ho3 _ (by omega))).trans ho21, (jfup_n _ _ (by omega)).trans ho32, by rw [jfup_s, hb9]; unfold tmV; rw [if_neg (by omega)]; omega⟩, ho⟩)
          · refine jk_iconst (q := 62) h dX10_isComing_61 rfl ?_
            exact jk_zret h hR dX10_isComing_62 (Nat.le_of_ble_eq_true rfl) (Nat.le_of_ble_eq_true rfl) (by first | exact Or.inl rfl | exact Or.inr rfl | omega) ⟨0, od3, rfl, rfl, by unfold rwE tmE; rw [if_neg (by omega), if_neg (by omega), if_neg (by omega), hb9, if_neg (by omega), if_neg (by omega)]; exact hM, by omega, ⟨fun z => by omega, fun z => by have h9 := z.2.2.2; rw [hb9] at h9; unfold tmK at h9; omega⟩, fun j hj => ((ho3 j (by omega)).trans (ho2 j (by omega))).trans (ho1 j (by omega)), fun z => by omega, ho⟩
      · rw [if_neg c36] at hM
        refine jk_iconst (q := 40) h dX10_isComing_39 rfl ?_
        exact jk_zret h hR dX10_isComing_40 (Nat.le_of_ble_eq_true rfl) (Nat.le_of_ble_eq_true rfl) (by first | exact Or.inl rfl | exact Or.inr rfl | omega) (by first | exact ⟨0, od1, rfl, rfl, by unfold rwE; rw [if_pos (by omega), show nmE sg pn a9 = nmE sg pn a9 from rfl]; exact hM, by omega, ⟨fun z => by omega, fun z => absurd z.1 c19⟩, fun j hj => ho1 j (by omega), fun z => by omega, ho⟩ | exact ⟨0, od2, rfl, rfl, by unfold rwE; rw [if_neg (by omega), if_pos c28]; exact hM, by omega, ⟨fun z => by omega, fun z => absurd z.2.1 c28⟩, fun j hj => (ho2 j (by omega)).trans (ho1 j (by omega)), fun z => by omega, ho⟩ | exact ⟨0, od2, rfl, rfl, by unfold rwE; rw [if_neg (by omega), if_neg (by omega), if_pos (by omega)]; exact hM, by omega, ⟨fun z => by omega, fun z => absurd z.2.2.1 c36⟩, fun j hj => (ho2 j (by omega)).trans (ho1 j (by omega)), fun z => by omega, ho⟩)

def enQ (od : Nat → Int) (sg : Nat → Int) (pn j a : Int) : Prop := od (4 * j).toNat = sgA sg pn a ∧ (sgA sg pn a ≠ 97 → od (4 * j + 1).toNat = oFi sg pn a) ∧ (sgA sg pn a = 43 → od (4 * j + 2).toNat = oSe sg pn a ∧ od (4 * j + 3).toNat = oTi sg pn a)

set_option maxHeartbeats 4000000 in
set_option maxRecDepth 100000 in
theorem c_X10_isOrder {l : Launch} {D : va_G} {b0 : Nat} {n : Nat} {M : jM} {m : Nat} {σ τ ps : Nat → Int} {kp : Int} {sv hd pd : Nat → Int} {pn a9 : Int} {od : Nat → Int} {on : Int} {lf : Nat → Int} (hM : jPic M m (mdL m σ τ ps kp sv hd pd pn a9 od on lf)) {sg : Nat → Int} (hpd : ∀ k : Nat, (k : Int) < pn → pd k = sg k) (hpQ : pdQ sg pn) (ha : 0 ≤ a9 ∧ a9 ≤ 80) (hon : 0 ≤ on ∧ on ≤ 40) : jCtr l D b0 yX10_isOrder cX10_isOrder 2 (some .boolean) 4 0 0 [.ref m] n M (fun v9 n2 M2 => ∃ (w : Int) (od2 : Nat → Int), some (jI w) = v9 ∧ n = n2 ∧ jPic M2 m (mdL m σ τ ps kp sv hd pd pn (oE sg pn a9) od2 on lf) ∧ (w = 0 ∨ w = 1) ∧ (w = 1 ↔ oK sg pn a9) ∧ (∀ j : Nat, (j : Int) < 4 * on → od2 j = od j) ∧ (w = 1 → enQ od2 sg pn on a9) ∧ jout M M2 m 9) := by
  refine jctr (lv := [some (.ref m), none]) RX10 "isOrder" rfl rfl (by decide) (Nat.le_of_ble_eq_true rfl) rfl ?_
  intro X h hR hX
  have hsa : (a9 < pn → sgA sg pn a9 = pd a9.toNat) ∧ (¬ a9 < pn → sgA sg pn a9 = 0) := ⟨fun z => by { unfold sgA; rw [if_pos (by omega), hpd _ (by omega)] }, fun z => by { unfold sgA; rw [if_neg (by omega)] }⟩
  have hsb := sgA_bd (i := a9) hpQ
  have hln := hpQ.2
  have ho := jout.rf M m 9
  have hlt : 0 < sgA sg pn a9 → a9 < pn := fun z => (sgA_lt hpQ z).2
  have hn1 := nmV_bd sg pn (a9 + 1)
  have jn24 : ∀ (so : Int) (hso : so = sgA sg pn a9), jJ X 24 [some (.ref (m)), none] [jI so] n M 0 0 := by
    intro so hso
    refine jk_istore_n (q := 25) h dX10_isOrder_24 rfl (Nat.le_of_ble_eq_true rfl) rfl rfl ?_
    refine jk_aload_n (q := 26) h dX10_isOrder_25 rfl rfl ?_
    refine jk_get (q := 29) h fg_X10_29 dX10_isOrder_26 (hM.at 0 rfl) rfl rfl ?_
    refine jk_iconst (q := 30) h dX10_isOrder_29 rfl ?_
    refine jk_aload_n (q := 31) h dX10_isOrder_30 rfl rfl ?_
    refine jk_get (q := 34) h fg_X10_167 dX10_isOrder_31 (hM.at 0 rfl) rfl rfl ?_
    refine jk_imul (q := 35) h dX10_isOrder_34 rfl ?_
    refine jk_iload_n (q := 36) h dX10_isOrder_35 rfl rfl ?_
    refine jk_iast (q := 37) h dX10_isOrder_36 (hM.at 7 rfl) (by omega) (by omega) rfl rfl (fun M_1 s_1 => ?_)
    have hM := hM.put (i := 7) s_1 rfl
    have ho := ho.st (i := 7) s_1 (by omega)
    obtain ⟨od1, hod1⟩ : ∃ od9, jfup od (4 * on).toNat so = od9 := ⟨_, rfl⟩
    rw [hod1] at hM
    have ho1 : ∀ j : Nat, (j : Int) < 4 * on → od1 j = od j := by { rw [← hod1]; exact jfup_lt (by omega) }
    have ho10 : od1 (4 * on).toNat = sgA sg pn a9 := by { rw [← hod1, jfup_s, hso] }
    refine jk_iload_n (q := 38) h dX10_isOrder_37 rfl rfl ?_
    refine jk_case (43) (fun c38_0 => ?_) (fun c38_0 => ?_)
    · refine jk_look (q := 0) (tgt := 108) h dX10_isOrder_38 (by decide) ⟨by omega, by omega⟩ (by rw [c38_0]; try rfl) (by decide) ?_
      refine jk_aload_n (q := 109) h dX10_isOrder_108 rfl rfl ?_
      refine jk_dup (q := 110) h dX10_isOrder_109 rfl rfl ?_
      refine jk_get (q := 113) h fg_X10_161 dX10_isOrder_110 (hM.at 0 rfl) rfl rfl ?_
      refine jk_iconst (q := 114) h dX10_isOrder_113 rfl ?_
      refine jk_iadd (q := 115) h dX10_isOrder_114 rfl ?_
      refine jk_put (q := 118) h (fp_X10_161 _) dX10_isOrder_115 (hM.at 0 rfl) (Nat.le_of_ble_eq_true rfl) rfl (fun M_2 s_2 => ?_)
      have hM := hM.put (i := 0) s_2 rfl
      have ho := ho.st (i := 0) s_2 (by omega)
      refine jk_aload_n (q := 119) h dX10_isOrder_118 rfl rfl ?_
      refine jk_callV (q := 122) h hX (c_X10_isComing hM hpd hpQ ⟨by omega, by omega⟩ hon) mv_X10_isComing (hM.at 0 rfl) dX10_isOrder_119 ml_X10_176 ⟨rfl, Nat.le_refl _⟩ rfl rfl (Nat.le_of_ble_eq_true rfl) (Nat.le_of_ble_eq_true rfl) rfl rfl (Nat.le_of_ble_eq_true rfl) rfl (fun v9 n9 M_3 hp9 => ?_)
      obtain ⟨w9, od2, rfl, rfl, hM, hw01, hwk, hof, hov, o_3⟩ := hp9
      have ho := ho.tr o_3 (by omega) (by omega)
      exact jk_zret h hR dX10_isOrder_122 (Nat.le_of_ble_eq_true rfl) (Nat.le_of_ble_eq_true rfl) hw01 ⟨w9, od2, rfl, rfl, by unfold oE; rw [if_neg (by omega), if_pos (by omega)]; exact hM, hw01, ⟨fun z => Or.inr (Or.inl ⟨by omega, hwk.mp z⟩), fun z => by
          rcases z with z | z | z
          · omega
          · exact hwk.mpr z.2
          · omega⟩, fun j hj => (hof j (by omega)).trans (ho1 j hj), fun z => ⟨(hof _ (by omega)).trans ho10, fun _ => (hov z).1, fun _ => (hov z).2⟩, ho⟩
    refine jk_case (45) (fun c38_1 => ?_) (fun c38_1 => ?_)
    · refine jk_look (q := 0) (tgt := 123) h dX10_isOrder_38 (by decide) ⟨by omega, by omega⟩ (by rw [c38_1]; try rfl) (by decide) ?_
      refine jk_aload_n (q := 124) h dX10_isOrder_123 rfl rfl ?_
      refine jk_dup (q := 125) h dX10_isOrder_124 rfl rfl ?_
      refine jk_get (q := 128) h fg_X10_161 dX10_isOrder_125 (hM.at 0 rfl) rfl rfl ?_
      refine jk_iconst (q := 129) h dX10_isOrder_128 rfl ?_
      refine jk_iadd (q := 130) h dX10_isOrder_129 rfl ?_
      refine jk_put (q := 133) h (fp_X10_161 _) dX10_isOrder_130 (hM.at 0 rfl) (Nat.le_of_ble_eq_true rfl) rfl (fun M_4 s_4 => ?_)
      have hM := hM.put (i := 0) s_4 rfl
      have ho := ho.st (i := 0) s_4 (by omega)
      refine jk_aload_n (q := 134) h dX10_isOrder_133 rfl rfl ?_
      refine jk_iconst (q := 135) h dX10_isOrder_134 rfl ?_
      refine jk_callV (q := 138) h hX (c_X10_isNumber hM hpd hpQ ⟨by omega, by omega⟩ hon ⟨by omega, by omega⟩) mv_X10_isNumber (hM.at 0 rfl) dX10_isOrder_135 ml_X10_170 ⟨rfl, Nat.le_refl _⟩ rfl rfl (Nat.le_of_ble_eq_true rfl) (Nat.le_of_ble_eq_true rfl) rfl rfl (Nat.le_of_ble_eq_true rfl) rfl (fun v9 n9 M_5 hp9 => ?_)
      obtain ⟨rfl, rfl, hM, o_5⟩ := hp9
      have ho := ho.tr o_5 (by omega) (by omega)
      exact jk_zret h hR dX10_isOrder_138 (Nat.le_of_ble_eq_true rfl) (Nat.le_of_ble_eq_true rfl) (by split <;> simp) ⟨_, _, rfl, rfl, by unfold oE; rw [if_neg (by omega), if_neg (by omega), if_pos (by omega)]; exact hM, by split <;> simp, ⟨fun z => Or.inr (Or.inr ⟨by omega, by by_cases h9 : 0 ≤ nmV sg pn (a9 + 1); exact h9; rw [if_neg h9] at z; omega⟩), fun z => by
          rcases z with z | z | z
          · omega
          · omega
          · rw [if_pos z.2]⟩, fun j hj => by
          by_cases h9 : 0 ≤ nmV sg pn (a9 + 1)
          · rw [if_pos h9, jfup_n _ _ (by omega)]; exact ho1 j hj
          · rw [if_neg h9]; exact ho1 j hj, fun z => by
          by_cases h9 : 0 ≤ nmV sg pn (a9 + 1)
          · rw [if_pos h9]
            exact ⟨(jfup_n _ _ (by omega)).trans ho10, fun _ => jfup_s _ _ _, fun z9 => by omega⟩
          · rw [if_neg h9] at z; omega, ho⟩
    refine jk_case (97) (fun c38_2 => ?_) (fun c38_2 => ?_)
    · refine jk_look (q := 0) (tgt := 96) h dX10_isOrder_38 (by decide) ⟨by omega, by omega⟩ (by rw [c38_2]; try rfl) (by decide) ?_
      refine jk_aload_n (q := 97) h dX10_isOrder_96 rfl rfl ?_
      refine jk_dup (q := 98) h dX10_isOrder_97 rfl rfl ?_
      refine jk_get (q := 101) h fg_X10_161 dX10_isOrder_98 (hM.at 0 rfl) rfl rfl ?_
      refine jk_iconst (q := 102) h dX10_isOrder_101 rfl ?_
      refine jk_iadd (q := 103) h dX10_isOrder_102 rfl ?_
      refine jk_put (q := 106) h (fp_X10_161 _) dX10_isOrder_103 (hM.at 0 rfl) (Nat.le_of_ble_eq_true rfl) rfl (fun M_6 s_6 => ?_)
      have hM := hM.put (i := 0) s_6 rfl
      have ho := ho.st (i := 0) s_6 (by omega)
      refine jk_iconst (q := 107) h dX10_isOrder_106 rfl ?_
      exact jk_zret h hR dX10_isOrder_107 (Nat.le_of_ble_eq_true rfl) (Nat.le_of_ble_eq_true rfl) (by first | exact Or.inl rfl | exact Or.inr rfl | omega) ⟨1, od1, rfl, rfl, by unfold oE; rw [if_pos (by omega)]; exact hM, by omega, ⟨fun _ => Or.inl (by omega), fun _ => rfl⟩, ho1, fun _ => ⟨ho10, fun z => by omega, fun z => by omega⟩, ho⟩
    refine jk_case (98) (fun c38_3 => ?_) (fun c38_3 => ?_)
    · refine jk_look (q := 0) (tgt := 123) h dX10_isOrder_38 (by decide) ⟨by omega, by omega⟩ (by rw [c38_3]; try rfl) (by decide) ?_
      refine jk_aload_n (q := 124) h dX10_isOrder_123 rfl rfl ?_
      refine jk_dup (q := 125) h dX10_isOrder_124 rfl rfl ?_
      refine jk_get (q := 128) h fg_X10_161 dX10_isOrder_125 (hM.at 0 rfl) rfl rfl ?_
      refine jk_iconst (q := 129) h dX10_isOrder_128 rfl ?_
      refine jk_iadd (q := 130) h dX10_isOrder_129 rfl ?_
      refine jk_put (q := 133) h (fp_X10_161 _) dX10_isOrder_130 (hM.at 0 rfl) (Nat.le_of_ble_eq_true rfl) rfl (fun M_7 s_7 => ?_)
      have hM := hM.put (i := 0) s_7 rfl
      have ho := ho.st (i := 0) s_7 (by omega)
      refine jk_aload_n (q := 134) h dX10_isOrder_133 rfl rfl ?_
      refine jk_iconst (q := 135) h dX10_isOrder_134 rfl ?_
      refine jk_callV (q := 138) h hX (c_X10_isNumber hM hpd hpQ ⟨by omega, by omega⟩ hon ⟨by omega, by omega⟩) mv_X10_isNumber (hM.at 0 rfl) dX10_isOrder_135 ml_X10_170 ⟨rfl, Nat.le_refl _⟩ rfl rfl (Nat.le_of_ble_eq_true rfl) (Nat.le_of_ble_eq_true rfl) rfl rfl (Nat.le_of_ble_eq_true rfl) rfl (fun v9 n9 M_8 hp9 => ?_)
      obtain ⟨rfl, rfl, hM, o_8⟩ := hp9
      have ho := ho.tr o_8 (by omega) (by omega)
      exact jk_zret h hR dX10_isOrder_138 (Nat.le_of_ble_eq_true rfl) (Nat.le_of_ble_eq_true rfl) (by split <;> simp) ⟨_, _, rfl, rfl, by unfold oE; rw [if_neg (by omega), if_neg (by omega), if_pos (by omega)]; exact hM, by split <;> simp, ⟨fun z => Or.inr (Or.inr ⟨by omega, by by_cases h9 : 0 ≤ nmV sg pn (a9 + 1); exact h9; rw [if_neg h9] at z; omega⟩), fun z => by
          rcases z with z | z | z
          · omega
          · omega
          · rw [if_pos z.2]⟩, fun j hj => by
          by_cases h9 : 0 ≤ nmV sg pn (a9 + 1)
          · rw [if_pos h9, jfup_n _ _ (by omega)]; exact ho1 j hj
          · rw [if_neg h9]; exact ho1 j hj, fun z => by
          by_cases h9 : 0 ≤ nmV sg pn (a9 + 1)
          · rw [if_pos h9]
            exact ⟨(jfup_n _ _ (by omega)).trans ho10, fun _ => jfup_s _ _ _, fun z9 => by omega⟩
          · rw [if_neg h9] at z; omega, ho⟩
    refine jk_case (99) (fun c38_4 => ?_) (fun c38_4 => ?_)
    · refine jk_look (q := 0) (tgt := 123) h dX10_isOrder_38 (by decide) ⟨by omega, by omega⟩ (by rw [c38_4]; try rfl) (by decide) ?_
      refine jk_aload_n (q := 124) h dX10_isOrder_123 rfl rfl ?_
      refine jk_dup (q := 125) h dX10_isOrder_124 rfl rfl ?_
      refine jk_get (q := 128) h fg_X10_161 dX10_isOrder_125 (hM.at 0 rfl) rfl rfl ?_
      refine jk_iconst (q := 129) h dX10_isOrder_128 rfl ?_
      refine jk_iadd (q := 130) h dX10_isOrder_129 rfl ?_
      refine jk_put (q := 133) h (fp_X10_161 _) dX10_isOrder_130 (hM.at 0 rfl) (Nat.le_of_ble_eq_true rfl) rfl (fun M_9 s_9 => ?_)
      have hM := hM.put (i := 0) s_9 rfl
      have ho := ho.st (i := 0) s_9 (by omega)
      refine jk_aload_n (q := 134) h dX10_isOrder_133 rfl rfl ?_
      refine jk_iconst (q := 135) h dX10_isOrder_134 rfl ?_
      refine jk_callV (q := 138) h hX (c_X10_isNumber hM hpd hpQ ⟨by omega, by omega⟩ hon ⟨by omega, by omega⟩) mv_X10_isNumber (hM.at 0 rfl) dX10_isOrder_135 ml_X10_170 ⟨rfl, Nat.le_refl _⟩ rfl rfl (Nat.le_of_ble_eq_true rfl) (Nat.le_of_ble_eq_true rfl) rfl rfl (Nat.le_of_ble_eq_true rfl) rfl (fun v9 n9 M_10 hp9 => ?_)
      obtain ⟨rfl, rfl, hM, o_10⟩ := hp9
      have ho := ho.tr o_10 (by omega) (by omega)
      exact jk_zret h hR dX10_isOrder_138 (Nat.le_of_ble_eq_true rfl) (Nat.le_of_ble_eq_true rfl) (by split <;> simp) ⟨_, _, rfl, rfl, by unfold oE; rw [if_neg (by omega), if_neg (by omega), if_pos (by omega)]; exact hM, by split <;> simp, ⟨fun z => Or.inr (Or.inr ⟨by omega, by by_cases h9 : 0 ≤ nmV sg pn (a9 + 1); exact h9; rw [if_neg h9] at z; omega⟩), fun z => by
          rcases z with z | z | z
          · omega
          · omega
          · rw [if_pos z.2]⟩, fun j hj => by
          by_cases h9 : 0 ≤ nmV sg pn (a9 + 1)
          · rw [if_pos h9, jfup_n _ _ (by omega)]; exact ho1 j hj
          · rw [if_neg h9]; exact ho1 j hj, fun z => by
          by_cases h9 : 0 ≤ nmV sg pn (a9 + 1)
          · rw [if_pos h9]
            exact ⟨(jfup_n _ _ (by omega)).trans ho10, fun _ => jfup_s _ _ _, fun z9 => by omega⟩
          · rw [if_neg h9] at z; omega, ho⟩
    refine jk_case (112) (fun c38_5 => ?_) (fun c38_5 => ?_)
    · refine jk_look (q := 0) (tgt := 123) h dX10_isOrder_38 (by decide) ⟨by omega, by omega⟩ (by rw [c38_5]; try rfl) (by decide) ?_
      refine jk_aload_n (q := 124) h dX10_isOrder_123 rfl rfl ?_
      refine jk_dup (q := 125) h dX10_isOrder_124 rfl rfl ?_
      refine jk_get (q := 128) h fg_X10_161 dX10_isOrder_125 (hM.at 0 rfl) rfl rfl ?_
      refine jk_iconst (q := 129) h dX10_isOrder_128 rfl ?_
      refine jk_iadd (q := 130) h dX10_isOrder_129 rfl ?_
      refine jk_put (q := 133) h (fp_X10_161 _) dX10_isOrder_130 (hM.at 0 rfl) (Nat.le_of_ble_eq_true rfl) rfl (fun M_11 s_11 => ?_)
      have hM := hM.put (i := 0) s_11 rfl
      have ho := ho.st (i := 0) s_11 (by omega)
      refine jk_aload_n (q := 134) h dX10_isOrder_133 rfl rfl ?_
      refine jk_iconst (q := 135) h dX10_isOrder_134 rfl ?_
      refine jk_callV (q := 138) h hX (c_X10_isNumber hM hpd hpQ ⟨by omega, by omega⟩ hon ⟨by omega, by omega⟩) mv_X10_isNumber (hM.at 0 rfl) dX10_isOrder_135 ml_X10_170 ⟨rfl, Nat.le_refl _⟩ rfl rfl (Nat.le_of_ble_eq_true rfl) (Nat.le_of_ble_eq_true rfl) rfl rfl (Nat.le_of_ble_eq_true rfl) rfl (fun v9 n9 M_12 hp9 => ?_)
      obtain ⟨rfl, rfl, hM, o_12⟩ := hp9
      have ho := ho.tr o_12 (by omega) (by omega)
      exact jk_zret h hR dX10_isOrder_138 (Nat.le_of_ble_eq_true rfl) (Nat.le_of_ble_eq_true rfl) (by split <;> simp) ⟨_, _, rfl, rfl, by unfold oE; rw [if_neg (by omega), if_neg (by omega), if_pos (by omega)]; exact hM, by split <;> simp, ⟨fun z => Or.inr (Or.inr ⟨by omega, by by_cases h9 : 0 ≤ nmV sg pn (a9 + 1); exact h9; rw [if_neg h9] at z; omega⟩), fun z => by
          rcases z with z | z | z
          · omega
          · omega
          · rw [if_pos z.2]⟩, fun j hj => by
          by_cases h9 : 0 ≤ nmV sg pn (a9 + 1)
          · rw [if_pos h9, jfup_n _ _ (by omega)]; exact ho1 j hj
          · rw [if_neg h9]; exact ho1 j hj, fun z => by
          by_cases h9 : 0 ≤ nmV sg pn (a9 + 1)
          · rw [if_pos h9]
            exact ⟨(jfup_n _ _ (by omega)).trans ho10, fun _ => jfup_s _ _ _, fun z9 => by omega⟩
          · rw [if_neg h9] at z; omega, ho⟩
    refine jk_look (q := 0) (tgt := 139) h dX10_isOrder_38 (by decide) ⟨by omega, by omega⟩ (by simp only [Array.toList]; rw [jl_ne c38_0, jl_ne c38_1, jl_ne c38_2, jl_ne c38_3, jl_ne c38_4, jl_ne c38_5, Op.lookupswitch.offset_nil]) (by decide) ?_
    refine jk_iconst (q := 140) h dX10_isOrder_139 rfl ?_
    exact jk_zret h hR dX10_isOrder_140 (Nat.le_of_ble_eq_true rfl) (Nat.le_of_ble_eq_true rfl) (by first | exact Or.inl rfl | exact Or.inr rfl | omega) ⟨0, od1, rfl, rfl, by unfold oE; rw [if_neg (by omega), if_neg (by omega), if_neg (by omega)]; exact hM, by omega, ⟨fun z => by omega, fun z => by unfold oK at z; omega⟩, ho1, fun z => by omega, ho⟩
  refine jk_aload_n (q := 1) h dX10_isOrder_0 rfl rfl ?_
  refine jk_get (q := 4) h fg_X10_161 dX10_isOrder_1 (hM.at 0 rfl) rfl rfl ?_
  refine jk_aload_n (q := 5) h dX10_isOrder_4 rfl rfl ?_
  refine jk_get (q := 8) h fg_X10_148 dX10_isOrder_5 (hM.at 0 rfl) rfl rfl ?_
  refine jk_icmp_ge (q := 11) (tgt := 23) h dX10_isOrder_8 (by decide) rfl ⟨by omega, by omega⟩ ⟨by omega, by omega⟩ (fun c8 => ?_) (fun c8 => ?_)
  · refine jk_iconst (q := 24) h dX10_isOrder_23 rfl ?_
    exact jk_weak (jwk_s rfl (jwk_n jwk_0)) (jn24 _ (by omega))
  · refine jk_aload_n (q := 12) h dX10_isOrder_11 rfl rfl ?_
    refine jk_get (q := 15) h fg_X10_26 dX10_isOrder_12 (hM.at 0 rfl) rfl rfl ?_
    refine jk_aload_n (q := 16) h dX10_isOrder_15 rfl rfl ?_
    refine jk_get (q := 19) h fg_X10_161 dX10_isOrder_16 (hM.at 0 rfl) rfl rfl ?_
    refine jk_ialdI (q := 20) h dX10_isOrder_19 (hM.at 6 rfl) (by omega) (by omega) rfl rfl ?_
    refine jk_goto (q := 23) (tgt := 24) h dX10_isOrder_20 (by decide) ?_
    exact jk_weak (jwk_s rfl (jwk_n jwk_0)) (jn24 _ (by omega))
