/-! the reference: put, wipe, and what it reads in a text -/

set_option maxHeartbeats 4000000 in
set_option maxRecDepth 100000 in
theorem c_X10_put {l : Launch} {D : va_G} {b0 : Nat} {n : Nat} {M : jM} {m : Nat} {x : TS} {hl : Int} {hk : Nat → TS} {sl : Nat → Option TS} {sg : Nat → Int} {len : Int} (hW : moP M m x hl hk sl sg len) {u : Int64} {r : Int} {sg2 : Nat → Int} {len2 : Int} (hap : apQ sg len (lu u) r sg2 len2) (hp2 : pdQ sg2 len2) : jCtr l D b0 yX10_put cX10_put 5 (some .int) 2 0 0 [.ref m, .long (u)] n M (fun v9 n2 M2 => some (jI r) = v9 ∧ n = n2 ∧ moP M2 m x hl hk sl sg2 len2 ∧ jout M M2 m 9) := by
  refine jctr (lv := [some (.ref m), some (.long (u)), none, none, none]) RX10 "put" rfl rfl (by decide) (Nat.le_of_ble_eq_true rfl) rfl ?_
  intro X h hR hX
  obtain ⟨σ, τ, ps, sv, hd, pd, a9, od, on, lf, hM, hm, hQ, hh, hsl, hpd, hkp, hpQ⟩ := id hW
  obtain ⟨hmr, ⟨hm1, hm2, hm3⟩, hms, hmA, hmB, hmP⟩ := id hm
  obtain ⟨hse, htb, hr, hch, hOA, hOB, hOP⟩ := id hQ
  obtain ⟨hya, hyb, hys⟩ := id htb
  have hm0 := hmr.1
  have hk1 : σ (1 : Int).toNat = 1 ∨ σ (1 : Int).toNat = 0 := by { rw [hm1]; unfold mkn; split <;> simp }
  have hk2 : σ (1 : Int).toNat = 0 ↔ x.2.2.1.1 = 0 := by { rw [hm1]; unfold mkn; split <;> omega }
  have ho := jout.rf M m 9
  have hln := hpQ.2
  refine jk_lload_n (q := 1) h dX10_put_0 rfl rfl ?_
  refine jk_callS (q := 4) h hX (c_X10_toldBy) ms_X10_toldBy dX10_put_1 ml_X10_157 ⟨rfl, Nat.le_refl _⟩ rfl rfl (Nat.le_of_ble_eq_true rfl) (Nat.le_of_ble_eq_true rfl) rfl rfl (Nat.le_of_ble_eq_true rfl) rfl (fun v9 n9 M9 hp9 => ?_)
  obtain ⟨w9, rfl, rfl, rfl, htb9⟩ := hp9
  have hw9 : -2 ≤ w9 ∧ w9 ≤ 8 := by { rcases htb9 with z | z <;> omega }
  refine jk_istore_n (q := 5) h dX10_put_4 rfl (Nat.le_of_ble_eq_true rfl) rfl rfl ?_
  refine jk_iload_n (q := 6) h dX10_put_5 rfl rfl ?_
  refine jk_if_ge (q := 9) (tgt := 11) h dX10_put_6 (by decide) rfl ⟨by omega, by omega⟩ (fun c6 => ?_) (fun c6 => ?_)
  · refine jk_aload_n (q := 12) h dX10_put_11 rfl rfl ?_
    refine jk_get (q := 15) h fg_X10_148 dX10_put_12 (hM.at 0 rfl) rfl rfl ?_
    refine jk_iload_n (q := 16) h dX10_put_15 rfl rfl ?_
    refine jk_iadd (q := 17) h dX10_put_16 rfl ?_
    refine jk_bipush (q := 19) h dX10_put_17 (by decide) rfl ?_
    refine jk_icmp_le (q := 22) (tgt := 25) h dX10_put_19 (by decide) rfl ⟨by omega, by omega⟩ ⟨by omega, by omega⟩ (fun c19 => ?_) (fun c19 => ?_)
    · refine jk_iload_n (q := 26) h dX10_put_25 rfl rfl ?_
      refine jk_iconst (q := 27) h dX10_put_26 rfl ?_
      refine jk_isub (q := 28) h dX10_put_27 rfl ?_
      refine jk_istore (q := 30) h dX10_put_28 rfl (Nat.le_of_ble_eq_true rfl) rfl rfl ?_
      have lp30 : ∀ (k9 : Nat) (k : Int) (p9 : Int) (M9 : jM) (hk1 : -1 ≤ k) (hk2 : k ≤ w9 - 1) (hpe : p9 = len + (w9 - 1 - k)) (hM : jPic M9 m (mdL m σ τ ps hl sv hd (aq9 pd (lu u) len (len + w9) p9) p9 a9 od on lf)) (ho : jout M M9 m 9) (hk9 : (k + 1).toNat = k9), jJ X 30 [some (.ref (m)), some (.long (u)), none, some (jI (w9)), some (jI (k))] [] n M9 0 0 := by
        intro k9
        induction k9 using Nat.strongRecOn with
        | _ k9 ih30 =>
          intro k p9 M9 hk1 hk2 hpe hM ho hk9
          have hby := by9_bd (lu u) k.toNat
          refine jk_iload (q := 32) h dX10_put_30 rfl rfl ?_
          refine jk_if_lt (q := 35) (tgt := 66) h dX10_put_32 (by decide) rfl ⟨by omega, by omega⟩ (fun c32 => ?_) (fun c32 => ?_)
          · refine jk_aload_n (q := 67) h dX10_put_66 rfl rfl ?_
            refine jk_get (q := 70) h fg_X10_148 dX10_put_67 (hM.at 0 rfl) rfl rfl ?_
            exact jk_iret h hR dX10_put_70 (Nat.le_of_ble_eq_true rfl) (Nat.le_of_ble_eq_true rfl) (by
                  rcases htb9 with z | ⟨z1, z2, z3⟩
                  · omega
                  · rcases hap with ⟨-, hb, -, -⟩ | ⟨m9, q1, q2, q3, ⟨q4, -, -, -⟩ | ⟨q4, rfl, rfl, rfl⟩⟩
                    · exact absurd ⟨by omega, by omega, z3⟩ (hb w9.toNat)
                    · have := snG_u z3 q3; omega
                    · have e9 : m9 = w9 := by have := snG_u z3 q3; omega
                      subst e9
                      have e8 : p9 = len + m9 := by omega
                      subst e8
                      refine ⟨rfl, rfl, ⟨_, _, _, _, _, _, _, _, _, _, hM, hm, hQ, hh, hsl, ?_, hkp, hp2⟩, ho⟩
                      intro k8 hk8
                      show aq9 pd (lu u) len (len + m9) (len + m9) k8 = ap9 sg (lu u) (len + m9) (len - 1) k8
                      unfold aq9 ap9
                      by_cases h7 : len ≤ (k8 : Int) ∧ (k8 : Int) < len + m9
                      · rw [if_pos h7, if_pos (by omega)]
                      · rw [if_neg h7, if_neg (by omega)]
                        exact hpd k8 (by omega))
          · refine jk_aload_n (q := 36) h dX10_put_35 rfl rfl ?_
            refine jk_get (q := 39) h fg_X10_26 dX10_put_36 (hM.at 0 rfl) rfl rfl ?_
            refine jk_aload_n (q := 40) h dX10_put_39 rfl rfl ?_
            refine jk_get (q := 43) h fg_X10_148 dX10_put_40 (hM.at 0 rfl) rfl rfl ?_
            refine jk_lload_n (q := 44) h dX10_put_43 rfl rfl ?_
            refine jk_iload (q := 46) h dX10_put_44 rfl rfl ?_
            refine jk_callS (q := 49) h hX (c_X10_byteOf ⟨by omega, by omega⟩) ms_X10_byteOf dX10_put_46 ml_X10_153 ⟨rfl, Nat.le_refl _⟩ rfl rfl (Nat.le_of_ble_eq_true rfl) (Nat.le_of_ble_eq_true rfl) rfl rfl (Nat.le_of_ble_eq_true rfl) rfl (fun v9 n9 M9 hp9 => ?_)
            obtain ⟨rfl, rfl, rfl⟩ := hp9
            refine jk_iast (q := 50) h dX10_put_49 (hM.at 6 rfl) (by omega) (by omega) rfl rfl (fun M_1 s_1 => ?_)
            have hM := hM.put (i := 6) s_1 rfl
            have ho := ho.st (i := 6) s_1 (by omega)
            refine jk_aload_n (q := 51) h dX10_put_50 rfl rfl ?_
            refine jk_dup (q := 52) h dX10_put_51 rfl rfl ?_
            refine jk_get (q := 55) h fg_X10_148 dX10_put_52 (hM.at 0 rfl) rfl rfl ?_
            refine jk_iconst (q := 56) h dX10_put_55 rfl ?_
            refine jk_iadd (q := 57) h dX10_put_56 rfl ?_
            refine jk_put (q := 60) h (fp_X10_148 _) dX10_put_57 (hM.at 0 rfl) (Nat.le_of_ble_eq_true rfl) rfl (fun M_2 s_2 => ?_)
            have hM := hM.put (i := 0) s_2 rfl
            have ho := ho.st (i := 0) s_2 (by omega)
            refine jk_iinc (q := 63) h dX10_put_60 rfl rfl rfl rfl ?_
            refine jk_goto (q := 66) (tgt := 30) h dX10_put_63 (by decide) ?_
            exact jk_weak (jwk_s rfl (jwk_s rfl (jwk_n (jwk_s rfl (jwk_s rfl jwk_0))))) (ih30 _ (by omega) (k + -1) (p9 + 1) _ (by omega) (by omega) (by omega) (by rw [← aq9_s (len := len) (e := len + w9) (i := p9) (by omega) (by omega), show len + w9 - 1 - p9 = k by omega]; exact hM) ho rfl)
      exact jk_weak (jwk_s rfl (jwk_s rfl (jwk_n (jwk_s rfl (jwk_s rfl jwk_0))))) (lp30 _ (w9 - 1) len _ (by omega) (by omega) (by omega) (by rw [aq9_0]; exact hM) ho rfl)
    · refine jk_bipush (q := 24) h dX10_put_22 (by decide) rfl ?_
      exact jk_iret h hR dX10_put_24 (Nat.le_of_ble_eq_true rfl) (Nat.le_of_ble_eq_true rfl) (by
            rcases htb9 with z | ⟨z1, z2, z3⟩
            · omega
            · rcases hap with ⟨-, hb, -, -⟩ | ⟨m9, q1, q2, q3, ⟨-, rfl, rfl, rfl⟩ | ⟨q4, -, -, -⟩⟩
              · exact absurd ⟨by omega, by omega, z3⟩ (hb w9.toNat)
              · exact ⟨rfl, rfl, hW, ho⟩
              · have := snG_u z3 q3; omega)
  · refine jk_iload_n (q := 10) h dX10_put_9 rfl rfl ?_
    exact jk_iret h hR dX10_put_10 (Nat.le_of_ble_eq_true rfl) (Nat.le_of_ble_eq_true rfl) (by
          rcases htb9 with ⟨rfl, hb⟩ | z
          · rcases hap with ⟨rfl, -, rfl, rfl⟩ | ⟨m9, q1, q2, q3, -⟩
            · exact ⟨rfl, rfl, hW, ho⟩
            · exact absurd ⟨by omega, by omega, q3⟩ (hb m9.toNat)
          · omega)

set_option maxHeartbeats 4000000 in
set_option maxRecDepth 100000 in
theorem c_X10_wipe {l : Launch} {D : va_G} {b0 : Nat} {n : Nat} {M : jM} {m : Nat} {x : TS} {hl : Int} {hk : Nat → TS} {sl : Nat → Option TS} {sg : Nat → Int} {len : Int} (hW : moP M m x hl hk sl sg len) : jCtr l D b0 yX10_wipe cX10_wipe 2 (some .int) 0 0 0 [.ref m] n M (fun v9 n2 M2 => some (jI len) = v9 ∧ n = n2 ∧ moP M2 m x hl hk sl sg 0 ∧ jout M M2 m 9) := by
  refine jctr (lv := [some (.ref m), none]) RX10 "wipe" rfl rfl (by decide) (Nat.le_of_ble_eq_true rfl) rfl ?_
  intro X h hR hX
  obtain ⟨σ, τ, ps, sv, hd, pd, a9, od, on, lf, hM, hm, hQ, hh, hsl, hpd, hkp, hpQ⟩ := id hW
  obtain ⟨hmr, ⟨hm1, hm2, hm3⟩, hms, hmA, hmB, hmP⟩ := id hm
  obtain ⟨hse, htb, hr, hch, hOA, hOB, hOP⟩ := id hQ
  obtain ⟨hya, hyb, hys⟩ := id htb
  have hm0 := hmr.1
  have hk1 : σ (1 : Int).toNat = 1 ∨ σ (1 : Int).toNat = 0 := by { rw [hm1]; unfold mkn; split <;> simp }
  have hk2 : σ (1 : Int).toNat = 0 ↔ x.2.2.1.1 = 0 := by { rw [hm1]; unfold mkn; split <;> omega }
  have ho := jout.rf M m 9
  refine jk_aload_n (q := 1) h dX10_wipe_0 rfl rfl ?_
  refine jk_get (q := 4) h fg_X10_148 dX10_wipe_1 (hM.at 0 rfl) rfl rfl ?_
  refine jk_istore_n (q := 5) h dX10_wipe_4 rfl (Nat.le_of_ble_eq_true rfl) rfl rfl ?_
  refine jk_aload_n (q := 6) h dX10_wipe_5 rfl rfl ?_
  refine jk_iconst (q := 7) h dX10_wipe_6 rfl ?_
  refine jk_put (q := 10) h (fp_X10_148 _) dX10_wipe_7 (hM.at 0 rfl) (Nat.le_of_ble_eq_true rfl) rfl (fun M_1 s_1 => ?_)
  have hM := hM.put (i := 0) s_1 rfl
  have ho := ho.st (i := 0) s_1 (by omega)
  refine jk_iload_n (q := 11) h dX10_wipe_10 rfl rfl ?_
  exact jk_iret h hR dX10_wipe_11 (Nat.le_of_ble_eq_true rfl) (Nat.le_of_ble_eq_true rfl) ⟨rfl, rfl, ⟨_, _, _, _, _, _, _, _, _, _, hM, hm, hQ, hh, hsl, (fun k hk => absurd hk (by omega)), hkp, ⟨hpQ.1, by decide, by decide⟩⟩, ho⟩

set_option maxHeartbeats 4000000 in
set_option maxRecDepth 100000 in
theorem c_X10_isAt {l : Launch} {D : va_G} {b0 : Nat} {n : Nat} {M : jM} {m : Nat} {σ τ ps : Nat → Int} {kp : Int} {sv hd pd : Nat → Int} {pn a9 : Int} {od : Nat → Int} {on : Int} {lf : Nat → Int} (hM : jPic M m (mdL m σ τ ps kp sv hd pd pn a9 od on lf)) {sg : Nat → Int} (hpd : ∀ k : Nat, (k : Int) < pn → pd k = sg k) (hpQ : pdQ sg pn) (ha : 0 ≤ a9 ∧ a9 ≤ 80) (hon : 0 ≤ on ∧ on ≤ 40) {lo hi : Int} (hlo : 1 ≤ lo ∧ lo ≤ 127) (hhi : 1 ≤ hi ∧ hi ≤ 127) : jCtr l D b0 yX10_isAt cX10_isAt 3 (some .boolean) 1 0 0 [.ref m, jI lo, jI hi] n M (jrd n M (if lo ≤ sgA sg pn a9 ∧ sgA sg pn a9 ≤ hi then 1 else 0)) := by
  refine jctr (lv := [some (.ref m), some (jI lo), some (jI hi)]) RX10 "isAt" rfl rfl (by decide) (Nat.le_of_ble_eq_true rfl) rfl ?_
  intro X h hR hX
  have hsa : (a9 < pn → sgA sg pn a9 = pd a9.toNat) ∧ (¬ a9 < pn → sgA sg pn a9 = 0) := ⟨fun z => by { unfold sgA; rw [if_pos (by omega), hpd _ (by omega)] }, fun z => by { unfold sgA; rw [if_neg (by omega)] }⟩
  have hsb := sgA_bd (i := a9) hpQ
  have hln := hpQ.2
  have ho := jout.rf M m 9
  refine jk_aload_n (q := 1) h dX10_isAt_0 rfl rfl ?_
  refine jk_get (q := 4) h fg_X10_161 dX10_isAt_1 (hM.at 0 rfl) rfl rfl ?_
  refine jk_aload_n (q := 5) h dX10_isAt_4 rfl rfl ?_
  refine jk_get (q := 8) h fg_X10_148 dX10_isAt_5 (hM.at 0 rfl) rfl rfl ?_
  refine jk_icmp_ge (q := 11) (tgt := 32) h dX10_isAt_8 (by decide) rfl ⟨by omega, by omega⟩ ⟨by omega, by omega⟩ (fun c8 => ?_) (fun c8 => ?_)
  · refine jk_iconst (q := 33) h dX10_isAt_32 rfl ?_
    exact jk_zret h hR dX10_isAt_33 (Nat.le_of_ble_eq_true rfl) (Nat.le_of_ble_eq_true rfl) (by first | exact Or.inl rfl | exact Or.inr rfl | omega) (jrd_of (by first | exact if_pos (by omega) | exact if_neg (by omega)))
  · refine jk_aload_n (q := 12) h dX10_isAt_11 rfl rfl ?_
    refine jk_get (q := 15) h fg_X10_26 dX10_isAt_12 (hM.at 0 rfl) rfl rfl ?_
    refine jk_aload_n (q := 16) h dX10_isAt_15 rfl rfl ?_
    refine jk_get (q := 19) h fg_X10_161 dX10_isAt_16 (hM.at 0 rfl) rfl rfl ?_
    refine jk_ialdI (q := 20) h dX10_isAt_19 (hM.at 6 rfl) (by omega) (by omega) rfl rfl ?_
    refine jk_iload_n (q := 21) h dX10_isAt_20 rfl rfl ?_
    refine jk_iload_n (q := 22) h dX10_isAt_21 rfl rfl ?_
    refine jk_callS (q := 25) h hX (c_X10_in ⟨by omega, by omega⟩ ⟨by omega, by omega⟩ ⟨by omega, by omega⟩) ms_X10_in dX10_isAt_22 ml_X10_35 ⟨rfl, Nat.le_refl _⟩ rfl rfl (Nat.le_of_ble_eq_true rfl) (Nat.le_of_ble_eq_true rfl) rfl rfl (Nat.le_of_ble_eq_true rfl) rfl (fun v9 n9 M9 hp9 => ?_)
    obtain ⟨rfl, rfl, rfl⟩ := hp9
    refine jk_if_eqB (q := 28) (tgt := 32) h dX10_isAt_25 (by decide) rfl (fun c25 => ?_) (fun c25 => ?_)
    · refine jk_iconst (q := 33) h dX10_isAt_32 rfl ?_
      exact jk_zret h hR dX10_isAt_33 (Nat.le_of_ble_eq_true rfl) (Nat.le_of_ble_eq_true rfl) (by first | exact Or.inl rfl | exact Or.inr rfl | omega) (jrd_of (by first | exact if_pos (by omega) | exact if_neg (by omega)))
    · refine jk_iconst (q := 29) h dX10_isAt_28 rfl ?_
      refine jk_goto (q := 32) (tgt := 33) h dX10_isAt_29 (by decide) ?_
      exact jk_zret h hR dX10_isAt_33 (Nat.le_of_ble_eq_true rfl) (Nat.le_of_ble_eq_true rfl) (by first | exact Or.inl rfl | exact Or.inr rfl | omega) (jrd_of (by first | exact if_pos (by omega) | exact if_neg (by omega)))

set_option maxHeartbeats 4000000 in
set_option maxRecDepth 100000 in
theorem c_X10_isSign {l : Launch} {D : va_G} {b0 : Nat} {n : Nat} {M : jM} {m : Nat} {σ τ ps : Nat → Int} {kp : Int} {sv hd pd : Nat → Int} {pn a9 : Int} {od : Nat → Int} {on : Int} {lf : Nat → Int} (hM : jPic M m (mdL m σ τ ps kp sv hd pd pn a9 od on lf)) {sg : Nat → Int} (hpd : ∀ k : Nat, (k : Int) < pn → pd k = sg k) (hpQ : pdQ sg pn) (ha : 0 ≤ a9 ∧ a9 ≤ 80) (hon : 0 ≤ on ∧ on ≤ 40) {z : Int} (hz : 1 ≤ z ∧ z ≤ 127) : jCtr l D b0 yX10_isSign cX10_isSign 3 (some .boolean) 2 0 0 [.ref m, jI z] n M (fun v9 n2 M2 => some (jI (if sgA sg pn a9 = z then 1 else 0)) = v9 ∧ n = n2 ∧ jPic M2 m (mdL m σ τ ps kp sv hd pd pn (if sgA sg pn a9 = z then a9 + 1 else a9) od on lf) ∧ jout M M2 m 9) := by
  refine jctr (lv := [some (.ref m), some (jI z), none]) RX10 "isSign" rfl rfl (by decide) (Nat.le_of_ble_eq_true rfl) rfl ?_
  intro X h hR hX
  have hsa : (a9 < pn → sgA sg pn a9 = pd a9.toNat) ∧ (¬ a9 < pn → sgA sg pn a9 = 0) := ⟨fun z => by { unfold sgA; rw [if_pos (by omega), hpd _ (by omega)] }, fun z => by { unfold sgA; rw [if_neg (by omega)] }⟩
  have hsb := sgA_bd (i := a9) hpQ
  have hln := hpQ.2
  have ho := jout.rf M m 9
  refine jk_aload_n (q := 1) h dX10_isSign_0 rfl rfl ?_
  refine jk_iload_n (q := 2) h dX10_isSign_1 rfl rfl ?_
  refine jk_iload_n (q := 3) h dX10_isSign_2 rfl rfl ?_
  refine jk_callV (q := 6) h hX (c_X10_isAt hM hpd hpQ ⟨by omega, by omega⟩ hon ⟨by omega, by omega⟩ ⟨by omega, by omega⟩) mv_X10_isAt (hM.at 0 rfl) dX10_isSign_3 ml_X10_164 ⟨rfl, Nat.le_refl _⟩ rfl rfl (Nat.le_of_ble_eq_true rfl) (Nat.le_of_ble_eq_true rfl) rfl rfl (Nat.le_of_ble_eq_true rfl) rfl (fun v9 n9 M9 hp9 => ?_)
  obtain ⟨rfl, rfl, rfl⟩ := hp9
  refine jk_istore_n (q := 7) h dX10_isSign_6 rfl (Nat.le_of_ble_eq_true rfl) rfl rfl ?_
  refine jk_aload_n (q := 8) h dX10_isSign_7 rfl rfl ?_
  refine jk_dup (q := 9) h dX10_isSign_8 rfl rfl ?_
  refine jk_get (q := 12) h fg_X10_161 dX10_isSign_9 (hM.at 0 rfl) rfl rfl ?_
  refine jk_iload_n (q := 13) h dX10_isSign_12 rfl rfl ?_
  refine jk_if_eqB (q := 16) (tgt := 20) h dX10_isSign_13 (by decide) rfl (fun c13 => ?_) (fun c13 => ?_)
  · refine jk_iconst (q := 21) h dX10_isSign_20 rfl ?_
    refine jk_iadd (q := 22) h dX10_isSign_21 rfl ?_
    refine jk_put (q := 25) h (fp_X10_161 _) dX10_isSign_22 (hM.at 0 rfl) (Nat.le_of_ble_eq_true rfl) rfl (fun M_1 s_1 => ?_)
    have hM := hM.put (i := 0) s_1 rfl
    have ho := ho.st (i := 0) s_1 (by omega)
    refine jk_iload_n (q := 26) h dX10_isSign_25 rfl rfl ?_
    exact jk_zret h hR dX10_isSign_26 (Nat.le_of_ble_eq_true rfl) (Nat.le_of_ble_eq_true rfl) (by split <;> simp) ⟨by first | (rw [if_pos (by omega), if_pos (by omega)]; done) | (rw [if_neg (by omega), if_neg (by omega)]; done), rfl, by first | (rw [if_pos (by omega)]; exact hM) | (rw [if_neg (by omega)]; have hM2 : jPic _ m (mdL m σ τ ps kp sv hd pd pn (a9 + 0) od on lf) := hM; rw [Int.add_zero] at hM2; exact hM2), ho⟩
  · refine jk_iconst (q := 17) h dX10_isSign_16 rfl ?_
    refine jk_goto (q := 20) (tgt := 21) h dX10_isSign_17 (by decide) ?_
    refine jk_iadd (q := 22) h dX10_isSign_21 rfl ?_
    refine jk_put (q := 25) h (fp_X10_161 _) dX10_isSign_22 (hM.at 0 rfl) (Nat.le_of_ble_eq_true rfl) rfl (fun M_2 s_2 => ?_)
    have hM := hM.put (i := 0) s_2 rfl
    have ho := ho.st (i := 0) s_2 (by omega)
    refine jk_iload_n (q := 26) h dX10_isSign_25 rfl rfl ?_
    exact jk_zret h hR dX10_isSign_26 (Nat.le_of_ble_eq_true rfl) (Nat.le_of_ble_eq_true rfl) (by split <;> simp) ⟨by first | (rw [if_pos (by omega), if_pos (by omega)]; done) | (rw [if_neg (by omega), if_neg (by omega)]; done), rfl, by first | (rw [if_pos (by omega)]; exact hM) | (rw [if_neg (by omega)]; have hM2 : jPic _ m (mdL m σ τ ps kp sv hd pd pn (a9 + 0) od on lf) := hM; rw [Int.add_zero] at hM2; exact hM2), ho⟩

set_option maxHeartbeats 4000000 in
set_option maxRecDepth 100000 in
theorem c_X10_isNumber {l : Launch} {D : va_G} {b0 : Nat} {n : Nat} {M : jM} {m : Nat} {σ τ ps : Nat → Int} {kp : Int} {sv hd pd : Nat → Int} {pn a9 : Int} {od : Nat → Int} {on : Int} {lf : Nat → Int} (hM : jPic M m (mdL m σ τ ps kp sv hd pd pn a9 od on lf)) {sg : Nat → Int} (hpd : ∀ k : Nat, (k : Int) < pn → pd k = sg k) (hpQ : pdQ sg pn) (ha : 0 ≤ a9 ∧ a9 ≤ 80) (hon : 0 ≤ on ∧ on ≤ 40) {k : Int} (hk : 1 ≤ k ∧ k ≤ 2) : jCtr l D b0 yX10_isNumber cX10_isNumber 3 (some .boolean) 2 0 0 [.ref m, jI k] n M (fun v9 n2 M2 => some (jI (if 0 ≤ nmV sg pn a9 then 1 else 0)) = v9 ∧ n = n2 ∧ jPic M2 m (mdL m σ τ ps kp sv hd pd pn (nmE sg pn a9) (if 0 ≤ nmV sg pn a9 then jfup od (4 * on + k).toNat (nmV sg pn a9) else od) on lf) ∧ jout M M2 m 9) := by
  refine jctr (lv := [some (.ref m), some (jI k), none]) RX10 "isNumber" rfl rfl (by decide) (Nat.le_of_ble_eq_true rfl) rfl ?_
  intro X h hR hX
  have hsa : (a9 < pn → sgA sg pn a9 = pd a9.toNat) ∧ (¬ a9 < pn → sgA sg pn a9 = 0) := ⟨fun z => by { unfold sgA; rw [if_pos (by omega), hpd _ (by omega)] }, fun z => by { unfold sgA; rw [if_neg (by omega)] }⟩
  have hsb := sgA_bd (i := a9) hpQ
  have hln := hpQ.2
  have ho := jout.rf M m 9
  have hd1 : dgV sg pn a9 = if 48 ≤ sgA sg pn a9 ∧ sgA sg pn a9 ≤ 57 then sgA sg pn a9 - 48 else -1 := rfl
  have hd2 : dgV sg pn (a9 + 1) = if 48 ≤ sgA sg pn (a9 + 1) ∧ sgA sg pn (a9 + 1) ≤ 57 then sgA sg pn (a9 + 1) - 48 else -1 := rfl
  have he1 : dgE sg pn a9 = if 48 ≤ sgA sg pn a9 ∧ sgA sg pn a9 ≤ 57 then a9 + 1 else a9 := rfl
  have he2 : dgE sg pn (a9 + 1) = if 48 ≤ sgA sg pn (a9 + 1) ∧ sgA sg pn (a9 + 1) ≤ 57 then a9 + 1 + 1 else a9 + 1 := rfl
  have hsb2 := sgA_bd (i := a9 + 1) hpQ
  have hsa2 : (a9 + 1 < pn → sgA sg pn (a9 + 1) = pd (a9 + 1).toNat) ∧ (¬ a9 + 1 < pn → sgA sg pn (a9 + 1) = 0) := ⟨fun z => by { unfold sgA; rw [if_pos (by omega), hpd _ (by omega)] }, fun z => by { unfold sgA; rw [if_neg (by omega)] }⟩
  refine jk_aload_n (q := 1) h dX10_isNumber_0 rfl rfl ?_
  refine jk_bipush (q := 3) h dX10_isNumber_1 (by decide) rfl ?_
  refine jk_bipush (q := 5) h dX10_isNumber_3 (by decide) rfl ?_
  refine jk_callV (q := 8) h hX (c_X10_isAt hM hpd hpQ ha hon ⟨by omega, by omega⟩ ⟨by omega, by omega⟩) mv_X10_isAt (hM.at 0 rfl) dX10_isNumber_5 ml_X10_164 ⟨rfl, Nat.le_refl _⟩ rfl rfl (Nat.le_of_ble_eq_true rfl) (Nat.le_of_ble_eq_true rfl) rfl rfl (Nat.le_of_ble_eq_true rfl) rfl (fun v9 n9 M9 hp9 => ?_)
  obtain ⟨rfl, rfl, rfl⟩ := hp9
  refine jk_if_neB (q := 11) (tgt := 13) h dX10_isNumber_8 (by decide) rfl (fun c8 => ?_) (fun c8 => ?_)
  · have hal : a9 < pn := by omega
    have hdv : dgV sg pn a9 = sgA sg pn a9 - 48 := by { rw [hd1, if_pos c8] }
    have hde : dgE sg pn a9 = a9 + 1 := by { rw [he1, if_pos c8] }
    refine jk_aload_n (q := 14) h dX10_isNumber_13 rfl rfl ?_
    refine jk_get (q := 17) h fg_X10_26 dX10_isNumber_14 (hM.at 0 rfl) rfl rfl ?_
    refine jk_aload_n (q := 18) h dX10_isNumber_17 rfl rfl ?_
    refine jk_get (q := 21) h fg_X10_161 dX10_isNumber_18 (hM.at 0 rfl) rfl rfl ?_
    refine jk_ialdI (q := 22) h dX10_isNumber_21 (hM.at 6 rfl) (by omega) (by omega) rfl rfl ?_
    refine jk_bipush (q := 24) h dX10_isNumber_22 (by decide) rfl ?_
    refine jk_isub (q := 25) h dX10_isNumber_24 rfl ?_
    refine jk_istore_n (q := 26) h dX10_isNumber_25 rfl (Nat.le_of_ble_eq_true rfl) rfl rfl ?_
    refine jk_aload_n (q := 27) h dX10_isNumber_26 rfl rfl ?_
    refine jk_dup (q := 28) h dX10_isNumber_27 rfl rfl ?_
    refine jk_get (q := 31) h fg_X10_161 dX10_isNumber_28 (hM.at 0 rfl) rfl rfl ?_
    refine jk_iconst (q := 32) h dX10_isNumber_31 rfl ?_
    refine jk_iadd (q := 33) h dX10_isNumber_32 rfl ?_
    refine jk_put (q := 36) h (fp_X10_161 _) dX10_isNumber_33 (hM.at 0 rfl) (Nat.le_of_ble_eq_true rfl) rfl (fun M_1 s_1 => ?_)
    have hM := hM.put (i := 0) s_1 rfl
    have ho := ho.st (i := 0) s_1 (by omega)
    refine jk_iload_n (q := 37) h dX10_isNumber_36 rfl rfl ?_
    refine jk_if_le (q := 40) (tgt := 79) h dX10_isNumber_37 (by decide) rfl ⟨by omega, by omega⟩ (fun c37 => ?_) (fun c37 => ?_)
    · have hnv : nmV sg pn a9 = sgA sg pn a9 - 48 := by { unfold nmV; rw [if_pos (by omega), hdv] }
      have hne : nmE sg pn a9 = a9 + 1 := by { unfold nmE; rw [if_pos (by omega), hde] }
      refine jk_aload_n (q := 80) h dX10_isNumber_79 rfl rfl ?_
      refine jk_get (q := 83) h fg_X10_29 dX10_isNumber_80 (hM.at 0 rfl) rfl rfl ?_
      refine jk_iconst (q := 84) h dX10_isNumber_83 rfl ?_
      refine jk_aload_n (q := 85) h dX10_isNumber_84 rfl rfl ?_
      refine jk_get (q := 88) h fg_X10_167 dX10_isNumber_85 (hM.at 0 rfl) rfl rfl ?_
      refine jk_imul (q := 89) h dX10_isNumber_88 rfl ?_
      refine jk_iload_n (q := 90) h dX10_isNumber_89 rfl rfl ?_
      refine jk_iadd (q := 91) h dX10_isNumber_90 rfl ?_
      refine jk_iload_n (q := 92) h dX10_isNumber_91 rfl rfl ?_
      refine jk_iast (q := 93) h dX10_isNumber_92 (hM.at 7 rfl) (by omega) (by omega) rfl rfl (fun M_2 s_2 => ?_)
      have hM := hM.put (i := 7) s_2 rfl
      have ho := ho.st (i := 7) s_2 (by omega)
      refine jk_iconst (q := 94) h dX10_isNumber_93 rfl ?_
      exact jk_zret h hR dX10_isNumber_94 (Nat.le_of_ble_eq_true rfl) (Nat.le_of_ble_eq_true rfl) (by first | exact Or.inl rfl | exact Or.inr rfl | omega) ⟨by rw [if_pos (by omega)], rfl, by rw [if_pos (by omega), hne]; first | (rw [show nmV sg pn a9 = pd a9.toNat - 48 by omega]; exact hM) | (rw [show nmV sg pn a9 = 10 * (pd a9.toNat - 48) + pd (a9 + 1).toNat - 48 by omega]; exact hM), ho⟩
    · refine jk_aload_n (q := 41) h dX10_isNumber_40 rfl rfl ?_
      refine jk_bipush (q := 43) h dX10_isNumber_41 (by decide) rfl ?_
      refine jk_bipush (q := 45) h dX10_isNumber_43 (by decide) rfl ?_
      refine jk_callV (q := 48) h hX (c_X10_isAt hM hpd hpQ ⟨by omega, by omega⟩ hon ⟨by omega, by omega⟩ ⟨by omega, by omega⟩) mv_X10_isAt (hM.at 0 rfl) dX10_isNumber_45 ml_X10_164 ⟨rfl, Nat.le_refl _⟩ rfl rfl (Nat.le_of_ble_eq_true rfl) (Nat.le_of_ble_eq_true rfl) rfl rfl (Nat.le_of_ble_eq_true rfl) rfl (fun v9 n9 M9 hp9 => ?_)
      obtain ⟨rfl, rfl, rfl⟩ := hp9
      refine jk_if_eqB (q := 51) (tgt := 79) h dX10_isNumber_48 (by decide) rfl (fun c48 => ?_) (fun c48 => ?_)
      · have hdv2 : dgV sg pn (a9 + 1) = -1 := by { rw [hd2, if_neg c48] }
        have hde2 : dgE sg pn (a9 + 1) = a9 + 1 := by { rw [he2, if_neg c48] }
        have hnv : nmV sg pn a9 = sgA sg pn a9 - 48 := by { unfold nmV; rw [if_neg (by omega), if_pos (by omega), hdv] }
        have hne : nmE sg pn a9 = a9 + 1 := by { unfold nmE; rw [if_neg (by omega), hde2] }
        refine jk_aload_n (q := 80) h dX10_isNumber_79 rfl rfl ?_
        refine jk_get (q := 83) h fg_X10_29 dX10_isNumber_80 (hM.at 0 rfl) rfl rfl ?_
        refine jk_iconst (q := 84) h dX10_isNumber_83 rfl ?_
        refine jk_aload_n (q := 85) h dX10_isNumber_84 rfl rfl ?_
        refine jk_get (q := 88) h fg_X10_167 dX10_isNumber_85 (hM.at 0 rfl) rfl rfl ?_
        refine jk_imul (q := 89) h dX10_isNumber_88 rfl ?_
        refine jk_iload_n (q := 90) h dX10_isNumber_89 rfl rfl ?_
        refine jk_iadd (q := 91) h dX10_isNumber_90 rfl ?_
        refine jk_iload_n (q := 92) h dX10_isNumber_91 rfl rfl ?_
        refine jk_iast (q := 93) h dX10_isNumber_92 (hM.at 7 rfl) (by omega) (by omega) rfl rfl (fun M_3 s_3 => ?_)
        have hM := hM.put (i := 7) s_3 rfl
        have ho := ho.st (i := 7) s_3 (by omega)
        refine jk_iconst (q := 94) h dX10_isNumber_93 rfl ?_
        exact jk_zret h hR dX10_isNumber_94 (Nat.le_of_ble_eq_true rfl) (Nat.le_of_ble_eq_true rfl) (by first | exact Or.inl rfl | exact Or.inr rfl | omega) ⟨by rw [if_pos (by omega)], rfl, by rw [if_pos (by omega), hne]; first | (rw [show nmV sg pn a9 = pd a9.toNat - 48 by omega]; exact hM) | (rw [show nmV sg pn a9 = 10 * (pd a9.toNat - 48) + pd (a9 + 1).toNat - 48 by omega]; exact hM), ho⟩
      · have hal2 : a9 + 1 < pn := by omega
        have hdv2 : dgV sg pn (a9 + 1) = sgA sg pn (a9 + 1) - 48 := by { rw [hd2, if_pos c48] }
        have hde2 : dgE sg pn (a9 + 1) = a9 + 1 + 1 := by { rw [he2, if_pos c48] }
        have hnv : nmV sg pn a9 = (sgA sg pn a9 - 48) * 10 + (sgA sg pn (a9 + 1) - 48) := by { unfold nmV; rw [if_neg (by omega), if_neg (by omega), hdv, hdv2] }
        have hne : nmE sg pn a9 = a9 + 1 + 1 := by { unfold nmE; rw [if_neg (by omega), hde2] }
        refine jk_bipush (q := 53) h dX10_isNumber_51 (by decide) rfl ?_
        refine jk_iload_n (q := 54) h dX10_isNumber_53 rfl rfl ?_
        refine jk_imul (q := 55) h dX10_isNumber_54 rfl ?_
        refine jk_aload_n (q := 56) h dX10_isNumber_55 rfl rfl ?_
        refine jk_get (q := 59) h fg_X10_26 dX10_isNumber_56 (hM.at 0 rfl) rfl rfl ?_
        refine jk_aload_n (q := 60) h dX10_isNumber_59 rfl rfl ?_
        refine jk_get (q := 63) h fg_X10_161 dX10_isNumber_60 (hM.at 0 rfl) rfl rfl ?_
        refine jk_ialdI (q := 64) h dX10_isNumber_63 (hM.at 6 rfl) (by omega) (by omega) rfl rfl ?_
        refine jk_iadd (q := 65) h dX10_isNumber_64 rfl ?_
        refine jk_bipush (q := 67) h dX10_isNumber_65 (by decide) rfl ?_
        refine jk_isub (q := 68) h dX10_isNumber_67 rfl ?_
        refine jk_istore_n (q := 69) h dX10_isNumber_68 rfl (Nat.le_of_ble_eq_true rfl) rfl rfl ?_
        refine jk_aload_n (q := 70) h dX10_isNumber_69 rfl rfl ?_
        refine jk_dup (q := 71) h dX10_isNumber_70 rfl rfl ?_
        refine jk_get (q := 74) h fg_X10_161 dX10_isNumber_71 (hM.at 0 rfl) rfl rfl ?_
        refine jk_iconst (q := 75) h dX10_isNumber_74 rfl ?_
        refine jk_iadd (q := 76) h dX10_isNumber_75 rfl ?_
        refine jk_put (q := 79) h (fp_X10_161 _) dX10_isNumber_76 (hM.at 0 rfl) (Nat.le_of_ble_eq_true rfl) rfl (fun M_4 s_4 => ?_)
        have hM := hM.put (i := 0) s_4 rfl
        have ho := ho.st (i := 0) s_4 (by omega)
        refine jk_aload_n (q := 80) h dX10_isNumber_79 rfl rfl ?_
        refine jk_get (q := 83) h fg_X10_29 dX10_isNumber_80 (hM.at 0 rfl) rfl rfl ?_
        refine jk_iconst (q := 84) h dX10_isNumber_83 rfl ?_
        refine jk_aload_n (q := 85) h dX10_isNumber_84 rfl rfl ?_
        refine jk_get (q := 88) h fg_X10_167 dX10_isNumber_85 (hM.at 0 rfl) rfl rfl ?_
        refine jk_imul (q := 89) h dX10_isNumber_88 rfl ?_
        refine jk_iload_n (q := 90) h dX10_isNumber_89 rfl rfl ?_
        refine jk_iadd (q := 91) h dX10_isNumber_90 rfl ?_
        refine jk_iload_n (q := 92) h dX10_isNumber_91 rfl rfl ?_
        refine jk_iast (q := 93) h dX10_isNumber_92 (hM.at 7 rfl) (by omega) (by omega) rfl rfl (fun M_5 s_5 => ?_)
        have hM := hM.put (i := 7) s_5 rfl
        have ho := ho.st (i := 7) s_5 (by omega)
        refine jk_iconst (q := 94) h dX10_isNumber_93 rfl ?_
        exact jk_zret h hR dX10_isNumber_94 (Nat.le_of_ble_eq_true rfl) (Nat.le_of_ble_eq_true rfl) (by first | exact Or.inl rfl | exact Or.inr rfl | omega) ⟨by rw [if_pos (by omega)], rfl, by rw [if_pos (by omega), hne]; first | (rw [show nmV sg pn a9 = pd a9.toNat - 48 by omega]; exact hM) | (rw [show nmV sg pn a9 = 10 * (pd a9.toNat - 48) + pd (a9 + 1).toNat - 48 by omega]; exact hM), ho⟩
  · have hdv : dgV sg pn a9 = -1 := by { rw [hd1, if_neg c8] }
    have hde : dgE sg pn a9 = a9 := by { rw [he1, if_neg c8] }
    have hnv : nmV sg pn a9 = -1 := by { unfold nmV; rw [if_pos (by omega), hdv] }
    have hne : nmE sg pn a9 = a9 := by { unfold nmE; rw [if_pos (by omega), hde] }
    refine jk_iconst (q := 12) h dX10_isNumber_11 rfl ?_
    exact jk_zret h hR dX10_isNumber_12 (Nat.le_of_ble_eq_true rfl) (Nat.le_of_ble_eq_true rfl) (by first | exact Or.inl rfl | exact Or.inr rfl | omega) ⟨by rw [if_neg (by omega)], rfl, by rw [if_neg (by omega), hne]; exact hM, ho⟩
