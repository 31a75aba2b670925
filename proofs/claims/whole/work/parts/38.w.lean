theorem ftS_k {sg : Nat → Int} {len a c : Int} (h : c < 80) : ftS sg len (80 - c).toNat a = @ite _ (oK sg len a) (Classical.propDecidable _) (if oE sg len a = len then -6 else if sgA sg len (oE sg len a) ≠ 59 then oE sg len a else ftS sg len (80 - (c + 1)).toNat (oE sg len a + 1)) (oE sg len a) := by
  rw [show (80 - c).toNat = (80 - (c + 1)).toNat + 1 by omega]
  rfl
theorem ftS_n {sg : Nat → Int} {len a c : Int} (h : c < 80) (ho : ¬ oK sg len a) : ftS sg len (80 - c).toNat a = oE sg len a := (ftS_k h).trans (if_neg ho)
theorem ftS_y {sg : Nat → Int} {len a c : Int} (h : c < 80) (ho : oK sg len a) : ftS sg len (80 - c).toNat a = if oE sg len a = len then -6 else if sgA sg len (oE sg len a) ≠ 59 then oE sg len a else ftS sg len (80 - (c + 1)).toNat (oE sg len a + 1) := (ftS_k h).trans (if_pos ho)
/-- the orders of a text, one after another -/
def psQ (od sg : Nat → Int) (pn c : Int) (t : Bool) (pos : Nat → Int) : Prop := pos 0 = 0 ∧ ∀ j : Nat, (j : Int) < c → oK sg pn (pos j) ∧ enQ od sg pn j (pos j) ∧ (((j : Int) + 1 < c ∨ t = true) → sgA sg pn (oE sg pn (pos j)) = 59 ∧ pos (j + 1) = oE sg pn (pos j) + 1)
theorem psQ_s {od od2 sg pos : Nat → Int} {pn c a : Int} (h : psQ od sg pn c true pos) (hc : 0 ≤ c) (hpa : pos c.toNat = a) (hk : oK sg pn a) (hen : enQ od2 sg pn c a) (hod : ∀ j : Nat, (j : Int) < 4 * c → od2 j = od j) {t : Bool} (ht : t = true → sgA sg pn (oE sg pn a) = 59) : psQ od2 sg pn (c + 1) t (jfup pos (c + 1).toNat (oE sg pn a + 1)) := by
  obtain ⟨h1, h2⟩ := h
  refine ⟨by rw [jfup_n _ _ (by omega)]; exact h1, fun j hj => ?_⟩
  rw [jfup_n _ _ (by omega)]
  by_cases hjc : (j : Int) < c
  · obtain ⟨a1, ⟨a2, a3, a4⟩, a5⟩ := h2 j hjc
    obtain ⟨b1, b2⟩ := a5 (Or.inr rfl)
    refine ⟨a1, ⟨(hod _ (by omega)).trans a2, fun z => (hod _ (by omega)).trans (a3 z), fun z => ⟨(hod _ (by omega)).trans (a4 z).1, (hod _ (by omega)).trans (a4 z).2⟩⟩, fun _ => ⟨b1, ?_⟩⟩
    rw [jfup_n _ _ (by omega)]
    exact b2
  · have hj2 : j = c.toNat := by omega
    subst hj2
    rw [hpa]
    have hc2 : ((c.toNat : Nat) : Int) = c := by omega
    rw [hc2]
    refine ⟨hk, hen, fun z => ⟨ht (by rcases z with z | z; omega; exact z), ?_⟩⟩
    rw [show c.toNat + 1 = (c + 1).toNat by omega, jfup_s]

set_option maxHeartbeats 4000000 in
set_option maxRecDepth 100000 in
theorem c_X10_isText {l : Launch} {D : va_G} {b0 : Nat} {n : Nat} {M : jM} {m : Nat} {σ τ ps : Nat → Int} {kp : Int} {sv hd pd : Nat → Int} {pn a9 : Int} {od : Nat → Int} {on : Int} {lf : Nat → Int} (hM : jPic M m (mdL m σ τ ps kp sv hd pd pn a9 od on lf)) {sg : Nat → Int} (hpd : ∀ k : Nat, (k : Int) < pn → pd k = sg k) (hpQ : pdQ sg pn) : jCtr l D b0 yX10_isText cX10_isText 2 (some .boolean) 5 0 0 [.ref m] n M (fun v9 n2 M2 => ∃ (w a2 : Int) (od2 : Nat → Int) (on2 : Int), some (jI w) = v9 ∧ n = n2 ∧ jPic M2 m (mdL m σ τ ps kp sv hd pd pn a2 od2 on2 lf) ∧ (w = 0 ∨ w = 1) ∧ (0 ≤ a2 ∧ a2 ≤ 80) ∧ (w = 0 → ftS sg pn 80 0 = a2) ∧ (w = 1 → ftS sg pn 80 0 = -6 ∧ (1 ≤ on2 ∧ on2 ≤ 41) ∧ ∃ pos, psQ od2 sg pn on2 false pos ∧ oE sg pn (pos (on2 - 1).toNat) = pn) ∧ jout M M2 m 9) := by
  refine jctr (lv := [some (.ref m), none]) RX10 "isText" rfl rfl (by decide) (Nat.le_of_ble_eq_true rfl) rfl ?_
  intro X h hR hX
  have ho := jout.rf M m 9
  have hln := hpQ.2
  refine jk_aload_n (q := 1) h dX10_isText_0 rfl rfl ?_
  refine jk_iconst (q := 2) h dX10_isText_1 rfl ?_
  refine jk_put (q := 5) h (fp_X10_161 _) dX10_isText_2 (hM.at 0 rfl) (Nat.le_of_ble_eq_true rfl) rfl (fun M_1 s_1 => ?_)
  have hM := hM.put (i := 0) s_1 rfl
  have ho := ho.st (i := 0) s_1 (by omega)
  refine jk_aload_n (q := 6) h dX10_isText_5 rfl rfl ?_
  refine jk_iconst (q := 7) h dX10_isText_6 rfl ?_
  refine jk_put (q := 10) h (fp_X10_167 _) dX10_isText_7 (hM.at 0 rfl) (Nat.le_of_ble_eq_true rfl) rfl (fun M_2 s_2 => ?_)
  have hM := hM.put (i := 0) s_2 rfl
  have ho := ho.st (i := 0) s_2 (by omega)
  refine jk_iconst (q := 11) h dX10_isText_10 rfl ?_
  refine jk_istore_n (q := 12) h dX10_isText_11 rfl (Nat.le_of_ble_eq_true rfl) rfl rfl ?_
  have lp12 : ∀ (k9 : Nat) (t : Int) (a : Int) (c : Int) (od3 : Nat → Int) (pos : Nat → Int) (M9 : jM) (ht : t = 0 ∨ t = 1) (ha : 0 ≤ a ∧ a ≤ 80) (hc0 : 0 ≤ c ∧ c ≤ 41) (hM : jPic M9 m (mdL m σ τ ps kp sv hd pd pn a od3 c lf)) (h1 : t = 1 → 2 * c ≤ a ∧ pos c.toNat = a ∧ psQ od3 sg pn c true pos ∧ ftS sg pn 80 0 = ftS sg pn (80 - c).toNat a) (h0 : t = 0 → 1 ≤ c ∧ psQ od3 sg pn c false pos ∧ oE sg pn (pos (c - 1).toNat) = a ∧ ftS sg pn 80 0 = if a = pn then -6 else a) (ho : jout M M9 m 9) (hk9 : (2 * (81 - a) + t).toNat = k9), jJ X 12 [some (.ref (m)), some (jI (t))] [] n M9 0 0 := by
    intro k9
    induction k9 using Nat.strongRecOn with
    | _ k9 ih12 =>
      intro t a c od3 pos M9 ht ha hc0 hM h1 h0 ho hk9
      refine jk_iload_n (q := 13) h dX10_isText_12 rfl rfl ?_
      refine jk_if_eq (q := 16) (tgt := 45) h dX10_isText_13 (by decide) rfl ⟨by omega, by omega⟩ (fun c13 => ?_) (fun c13 => ?_)
      · refine jk_aload_n (q := 46) h dX10_isText_45 rfl rfl ?_
        refine jk_get (q := 49) h fg_X10_161 dX10_isText_46 (hM.at 0 rfl) rfl rfl ?_
        refine jk_aload_n (q := 50) h dX10_isText_49 rfl rfl ?_
        refine jk_get (q := 53) h fg_X10_148 dX10_isText_50 (hM.at 0 rfl) rfl rfl ?_
        refine jk_icmp_ne (q := 56) (tgt := 60) h dX10_isText_53 (by decide) rfl ⟨by omega, by omega⟩ ⟨by omega, by omega⟩ (fun c53 => ?_) (fun c53 => ?_)
        · refine jk_iconst (q := 61) h dX10_isText_60 rfl ?_
          exact jk_zret h hR dX10_isText_61 (Nat.le_of_ble_eq_true rfl) (Nat.le_of_ble_eq_true rfl) (by first | exact Or.inl rfl | exact Or.inr rfl | omega) (by
                obtain ⟨q1, q2, q3, q4⟩ := h0 (by omega)
                first | exact ⟨1, _, _, _, rfl, rfl, hM, by omega, ha, fun z => by omega, fun _ => ⟨by rw [q4, if_pos (by omega)], ⟨by omega, by omega⟩, pos, q2, by omega⟩, ho⟩ | exact ⟨0, _, _, _, rfl, rfl, hM, by omega, ha, fun _ => by rw [q4, if_neg (by omega)], fun z => by omega, ho⟩)
        · refine jk_iconst (q := 57) h dX10_isText_56 rfl ?_
          refine jk_goto (q := 60) (tgt := 61) h dX10_isText_57 (by decide) ?_
          exact jk_zret h hR dX10_isText_61 (Nat.le_of_ble_eq_true rfl) (Nat.le_of_ble_eq_true rfl) (by first | exact Or.inl rfl | exact Or.inr rfl | omega) (by
                obtain ⟨q1, q2, q3, q4⟩ := h0 (by omega)
                first | exact ⟨1, _, _, _, rfl, rfl, hM, by omega, ha, fun z => by omega, fun _ => ⟨by rw [q4, if_pos (by omega)], ⟨by omega, by omega⟩, pos, q2, by omega⟩, ho⟩ | exact ⟨0, _, _, _, rfl, rfl, hM, by omega, ha, fun _ => by rw [q4, if_neg (by omega)], fun z => by omega, ho⟩)
      · obtain ⟨h2c, hpa, hps, hff⟩ := h1 (by omega)
        have hoE := o_E hpQ ha.1 ha.2
        refine jk_aload_n (q := 17) h dX10_isText_16 rfl rfl ?_
        refine jk_callV (q := 20) h hX (c_X10_isOrder hM hpd hpQ ha ⟨by omega, by omega⟩) mv_X10_isOrder (hM.at 0 rfl) dX10_isText_17 ml_X10_180 ⟨rfl, Nat.le_refl _⟩ rfl rfl (Nat.le_of_ble_eq_true rfl) (Nat.le_of_ble_eq_true rfl) rfl rfl (Nat.le_of_ble_eq_true rfl) rfl (fun v9 n9 M_3 hp9 => ?_)
        obtain ⟨w9, od4, rfl, rfl, hM, hw01, hwk, hof, hen9, o_3⟩ := hp9
        have ho := ho.tr o_3 (by omega) (by omega)
        refine jk_if_ne (q := 23) (tgt := 25) h dX10_isText_20 (by decide) rfl ⟨by omega, by omega⟩ (fun c20 => ?_) (fun c20 => ?_)
        · have hok := hwk.mp (by omega)
          have hen := hen9 (by omega)
          have hoE2 := hoE.2.2.1 hok
          refine jk_aload_n (q := 26) h dX10_isText_25 rfl rfl ?_
          refine jk_dup (q := 27) h dX10_isText_26 rfl rfl ?_
          refine jk_get (q := 30) h fg_X10_167 dX10_isText_27 (hM.at 0 rfl) rfl rfl ?_
          refine jk_iconst (q := 31) h dX10_isText_30 rfl ?_
          refine jk_iadd (q := 32) h dX10_isText_31 rfl ?_
          refine jk_put (q := 35) h (fp_X10_167 _) dX10_isText_32 (hM.at 0 rfl) (Nat.le_of_ble_eq_true rfl) rfl (fun M_4 s_4 => ?_)
          have hM := hM.put (i := 0) s_4 rfl
          have ho := ho.st (i := 0) s_4 (by omega)
          refine jk_aload_n (q := 36) h dX10_isText_35 rfl rfl ?_
          refine jk_bipush (q := 38) h dX10_isText_36 (by decide) rfl ?_
          refine jk_callV (q := 41) h hX (c_X10_isSign hM hpd hpQ ⟨by omega, by omega⟩ ⟨by omega, by omega⟩ ⟨by omega, by omega⟩) mv_X10_isSign (hM.at 0 rfl) dX10_isText_38 ml_X10_173 ⟨rfl, Nat.le_refl _⟩ rfl rfl (Nat.le_of_ble_eq_true rfl) (Nat.le_of_ble_eq_true rfl) rfl rfl (Nat.le_of_ble_eq_true rfl) rfl (fun v9 n9 M_5 hp9 => ?_)
          obtain ⟨rfl, rfl, hM, o_5⟩ := hp9
          have ho := ho.tr o_5 (by omega) (by omega)
          refine jk_istore_n (q := 42) h dX10_isText_41 rfl (Nat.le_of_ble_eq_true rfl) rfl rfl ?_
          by_cases h59 : sgA sg pn (oE sg pn a) = 59
          · simp only [if_pos h59] at hM ⊢
            have hl1 := sgA_lt (i := oE sg pn a) hpQ (by omega)
            have hfy : ftS sg pn 80 0 = ftS sg pn (80 - (c + 1)).toNat (oE sg pn a + 1) := by rw [hff, ftS_y (by omega) hok, if_neg (by omega), if_neg (by omega)]
            refine jk_goto (q := 45) (tgt := 12) h dX10_isText_42 (by decide) ?_
            exact jk_weak (jwk_s rfl (jwk_s rfl jwk_0)) (ih12 _ (by omega) 1 (oE sg pn a + 1) (c + 1) od4 (jfup pos (c + 1).toNat (oE sg pn a + 1)) _ (by omega) (by omega) (by omega) hM (fun _ => ⟨by omega, jfup_s _ _ _, psQ_s hps hc0.1 hpa hok hen hof (fun _ => h59), hfy⟩) (fun z => absurd z (by decide)) ho rfl)
          · simp only [if_neg h59] at hM ⊢
            have hfy : ftS sg pn 80 0 = if oE sg pn a = pn then -6 else oE sg pn a := by
              rw [hff, ftS_y (by omega) hok]
              by_cases z : oE sg pn a = pn
              · rw [if_pos z, if_pos z]
              · rw [if_neg z, if_neg z, if_pos h59]
            refine jk_goto (q := 45) (tgt := 12) h dX10_isText_42 (by decide) ?_
            exact jk_weak (jwk_s rfl (jwk_s rfl jwk_0)) (ih12 _ (by omega) 0 (oE sg pn a) (c + 1) od4 (jfup pos (c + 1).toNat (oE sg pn a + 1)) _ (by omega) (by omega) (by omega) hM (fun z => absurd z (by decide)) (fun _ => ⟨by omega, psQ_s hps hc0.1 hpa hok hen hof (fun z => absurd z (by decide)), by rw [jfup_n _ _ (by omega), show (c + 1 - 1).toNat = c.toNat by omega, hpa], hfy⟩) ho rfl)
        · have hok : ¬ oK sg pn a := fun z => by { have := hwk.mpr z; omega }
          refine jk_iconst (q := 24) h dX10_isText_23 rfl ?_
          exact jk_zret h hR dX10_isText_24 (Nat.le_of_ble_eq_true rfl) (Nat.le_of_ble_eq_true rfl) (by first | exact Or.inl rfl | exact Or.inr rfl | omega) ⟨0, _, _, _, rfl, rfl, hM, by omega, ⟨by omega, by omega⟩, fun _ => by rw [hff, ftS_n (by omega) hok], fun z => by omega, ho⟩
  exact jk_weak (jwk_s rfl (jwk_s rfl jwk_0)) (lp12 _ 1 0 0 od (fun _ => 0) _ (by omega) (by omega) (by omega) hM (fun _ => ⟨by omega, rfl, ⟨rfl, fun j hj => absurd hj (by omega)⟩, rfl⟩) (fun z => absurd z (by decide)) ho rfl)

set_option maxHeartbeats 4000000 in
set_option maxRecDepth 100000 in
theorem c_X10_fault {l : Launch} {D : va_G} {b0 : Nat} {n : Nat} {M : jM} {m : Nat} {x : TS} {hl : Int} {hk : Nat → TS} {sl : Nat → Option TS} {sg : Nat → Int} {len : Int} (hW : moP M m x hl hk sl sg len) : jCtr l D b0 yX10_fault cX10_fault 1 (some .int) 6 0 0 [.ref m] n M (fun v9 n2 M2 => some (jI (ftS sg len 80 0)) = v9 ∧ n = n2 ∧ moP M2 m x hl hk sl sg len ∧ jout M M2 m 9) := by
  refine jctr (lv := [some (.ref m)]) RX10 "fault" rfl rfl (by decide) (Nat.le_of_ble_eq_true rfl) rfl ?_
  intro X h hR hX
  obtain ⟨σ, τ, ps, sv, hd, pd, a9, od, on, lf, hM, hm, hQ, hh, hsl, hpd, hkp, hpQ⟩ := id hW
  obtain ⟨hmr, ⟨hm1, hm2, hm3⟩, hms, hmA, hmB, hmP⟩ := id hm
  obtain ⟨hse, htb, hr, hch, hOA, hOB, hOP⟩ := id hQ
  obtain ⟨hya, hyb, hys⟩ := id htb
  have hm0 := hmr.1
  have hk1 : σ (1 : Int).toNat = 1 ∨ σ (1 : Int).toNat = 0 := by { rw [hm1]; unfold mkn; split <;> simp }
  have hk2 : σ (1 : Int).toNat = 0 ↔ x.2.2.1.1 = 0 := by { rw [hm1]; unfold mkn; split <;> omega }
  have ho := jout.rf M m 9
  refine jk_aload_n (q := 1) h dX10_fault_0 rfl rfl ?_
  refine jk_callV (q := 4) h hX (c_X10_isText hM hpd hpQ) mv_X10_isText (hM.at 0 rfl) dX10_fault_1 ml_X10_183 ⟨rfl, Nat.le_refl _⟩ rfl rfl (Nat.le_of_ble_eq_true rfl) (Nat.le_of_ble_eq_true rfl) rfl rfl (Nat.le_of_ble_eq_true rfl) rfl (fun v9 n9 M_1 hp9 => ?_)
  obtain ⟨w9, a2, od2, on2, rfl, rfl, hM, hw01, ha2, hw0, hw1, o_1⟩ := hp9
  have ho := ho.tr o_1 (by omega) (by omega)
  have hw2 : w9 = 1 → ftS sg len 80 0 = -6 := fun z => (hw1 z).1
  clear hw1
  refine jk_if_eq (q := 7) (tgt := 12) h dX10_fault_4 (by decide) rfl ⟨by omega, by omega⟩ (fun c4 => ?_) (fun c4 => ?_)
  · refine jk_aload_n (q := 13) h dX10_fault_12 rfl rfl ?_
    refine jk_get (q := 16) h fg_X10_161 dX10_fault_13 (hM.at 0 rfl) rfl rfl ?_
    exact jk_iret h hR dX10_fault_16 (Nat.le_of_ble_eq_true rfl) (Nat.le_of_ble_eq_true rfl) (by first | exact ⟨by rw [hw0 (by omega)], rfl, ⟨_, _, _, _, _, _, _, _, _, _, hM, hm, hQ, hh, hsl, hpd, hkp, hpQ⟩, ho⟩ | exact ⟨by rw [hw2 (by omega)], rfl, ⟨_, _, _, _, _, _, _, _, _, _, hM, hm, hQ, hh, hsl, hpd, hkp, hpQ⟩, ho⟩)
  · refine jk_bipush (q := 9) h dX10_fault_7 (by decide) rfl ?_
    refine jk_goto (q := 12) (tgt := 16) h dX10_fault_9 (by decide) ?_
    exact jk_iret h hR dX10_fault_16 (Nat.le_of_ble_eq_true rfl) (Nat.le_of_ble_eq_true rfl) (by first | exact ⟨by rw [hw0 (by omega)], rfl, ⟨_, _, _, _, _, _, _, _, _, _, hM, hm, hQ, hh, hsl, hpd, hkp, hpQ⟩, ho⟩ | exact ⟨by rw [hw2 (by omega)], rfl, ⟨_, _, _, _, _, _, _, _, _, _, hM, hm, hQ, hh, hsl, hpd, hkp, hpQ⟩, ho⟩)
