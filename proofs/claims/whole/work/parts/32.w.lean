set_option maxHeartbeats 4000000 in
set_option maxRecDepth 100000 in
theorem c_X10_both {l : Launch} {D : va_G} {b0 : Nat} {n : Nat} {M : jM} {m : Nat} {σ τ ps : Nat → Int} {kp : Int} {sv hd pd : Nat → Int} {pn a9 : Int} {od : Nat → Int} {on : Int} {lf : Nat → Int} (hM : jPic M m (mdL m σ τ ps kp sv hd pd pn a9 od on lf)) {x : TS} (hm : mdT σ x) (hQ : stQ x) (hin : inQ x) {la : Int} {ha : Int} {lb : Int} {hb : Int} {w : Int} (h_la : jRng la) (h_ha : jRng ha) (h_lb : jRng lb) (h_hb : jRng hb) (h_w : jRng w) : jCtr l D b0 yX10_both cX10_both 8 (some .int) 3 0 0 [.ref m, jI la, jI ha, jI lb, jI hb, jI w] n M (jrd n M (botR x la ha lb hb w)) := by
  refine jctr (lv := [some (.ref m), some (jI la), some (jI ha), some (jI lb), some (jI hb), some (jI w), none, none]) RX10 "both" rfl rfl (by decide) (Nat.le_of_ble_eq_true rfl) rfl ?_
  intro X h hR hX
  obtain ⟨hmr, ⟨hm1, hm2, hm3⟩, hms, hmA, hmB, hmP⟩ := id hm
  obtain ⟨hse, htb, hr, hch, hOA, hOB, hOP⟩ := id hQ
  obtain ⟨hya, hyb, hys⟩ := id htb
  have hm0 := hmr.1
  have hk1 : σ (1 : Int).toNat = 1 ∨ σ (1 : Int).toNat = 0 := by { rw [hm1]; unfold mkn; split <;> simp }
  have hk2 : σ (1 : Int).toNat = 0 ↔ x.2.2.1.1 = 0 := by { rw [hm1]; unfold mkn; split <;> omega }
  have hgb := gbT_bd (rows := x.2.2.1.1) (la := la) (ha := ha) (lb := lb) (hb := hb) hOA hOB hOP
  refine jk_iload_n (q := 1) h dX10_both_0 rfl rfl ?_
  refine jk_iload_n (q := 2) h dX10_both_1 rfl rfl ?_
  refine jk_callS (q := 5) h hX (c_X10_areBounds ⟨by omega, by omega⟩ ⟨by omega, by omega⟩) ms_X10_areBounds dX10_both_2 ml_X10_82 ⟨rfl, Nat.le_refl _⟩ rfl rfl (Nat.le_of_ble_eq_true rfl) (Nat.le_of_ble_eq_true rfl) rfl rfl (Nat.le_of_ble_eq_true rfl) rfl (fun v9 n9 M9 hp9 => ?_)
  obtain ⟨rfl, rfl, rfl⟩ := hp9
  refine jk_if_eqB (q := 8) (tgt := 27) h dX10_both_5 (by decide) rfl (fun c5 => ?_) (fun c5 => ?_)
  · refine jk_bipush (q := 29) h dX10_both_27 (by decide) rfl ?_
    exact jk_iret h hR dX10_both_29 (Nat.le_of_ble_eq_true rfl) (Nat.le_of_ble_eq_true rfl) (jrd_of (by unfold botR; rw [if_neg (by omega)]))
  · refine jk_iload_n (q := 9) h dX10_both_8 rfl rfl ?_
    refine jk_iload (q := 11) h dX10_both_9 rfl rfl ?_
    refine jk_callS (q := 14) h hX (c_X10_areBounds ⟨by omega, by omega⟩ ⟨by omega, by omega⟩) ms_X10_areBounds dX10_both_11 ml_X10_82 ⟨rfl, Nat.le_refl _⟩ rfl rfl (Nat.le_of_ble_eq_true rfl) (Nat.le_of_ble_eq_true rfl) rfl rfl (Nat.le_of_ble_eq_true rfl) rfl (fun v9 n9 M9 hp9 => ?_)
    obtain ⟨rfl, rfl, rfl⟩ := hp9
    refine jk_if_eqB (q := 17) (tgt := 27) h dX10_both_14 (by decide) rfl (fun c14 => ?_) (fun c14 => ?_)
    · refine jk_bipush (q := 29) h dX10_both_27 (by decide) rfl ?_
      exact jk_iret h hR dX10_both_29 (Nat.le_of_ble_eq_true rfl) (Nat.le_of_ble_eq_true rfl) (jrd_of (by unfold botR; rw [if_neg (by omega)]))
    · refine jk_iload (q := 19) h dX10_both_17 rfl rfl ?_
      refine jk_iconst (q := 20) h dX10_both_19 rfl ?_
      refine jk_iconst (q := 21) h dX10_both_20 rfl ?_
      refine jk_callS (q := 24) h hX (c_X10_in ⟨by omega, by omega⟩ ⟨by omega, by omega⟩ ⟨by omega, by omega⟩) ms_X10_in dX10_both_21 ml_X10_35 ⟨rfl, Nat.le_refl _⟩ rfl rfl (Nat.le_of_ble_eq_true rfl) (Nat.le_of_ble_eq_true rfl) rfl rfl (Nat.le_of_ble_eq_true rfl) rfl (fun v9 n9 M9 hp9 => ?_)
      obtain ⟨rfl, rfl, rfl⟩ := hp9
      refine jk_if_neB (q := 27) (tgt := 30) h dX10_both_24 (by decide) rfl (fun c24 => ?_) (fun c24 => ?_)
      · refine jk_iload (q := 32) h dX10_both_30 rfl rfl ?_
        refine jk_iconst (q := 33) h dX10_both_32 rfl ?_
        refine jk_icmp_ne (q := 36) (tgt := 109) h dX10_both_33 (by decide) rfl ⟨by omega, by omega⟩ ⟨by omega, by omega⟩ (fun c33 => ?_) (fun c33 => ?_)
        · refine jk_aload_n (q := 110) h dX10_both_109 rfl rfl ?_
          refine jk_get (q := 113) h fg_X10_7 dX10_both_110 (hM.at 0 rfl) rfl rfl ?_
          refine jk_iconst (q := 114) h dX10_both_113 rfl ?_
          refine jk_ialdI (q := 115) h dX10_both_114 (hM.at 1 rfl) (by omega) (by omega) rfl rfl ?_
          refine jk_if_ne (q := 118) (tgt := 121) h dX10_both_115 (by decide) rfl ⟨by omega, by omega⟩ (fun c115 => ?_) (fun c115 => ?_)
          · refine jk_aload_n (q := 122) h dX10_both_121 rfl rfl ?_
            refine jk_iload_n (q := 123) h dX10_both_122 rfl rfl ?_
            refine jk_iload_n (q := 124) h dX10_both_123 rfl rfl ?_
            refine jk_iload_n (q := 125) h dX10_both_124 rfl rfl ?_
            refine jk_iload (q := 127) h dX10_both_125 rfl rfl ?_
            refine jk_callV (q := 130) h hX (c_X10_bothOf hM hm hQ hin (by omega) ⟨by omega, by omega, by omega⟩ ⟨by omega, by omega, by omega⟩) mv_X10_bothOf (hM.at 0 rfl) dX10_both_127 ml_X10_102 ⟨rfl, Nat.le_refl _⟩ rfl rfl (Nat.le_of_ble_eq_true rfl) (Nat.le_of_ble_eq_true rfl) rfl rfl (Nat.le_of_ble_eq_true rfl) rfl (fun v9 n9 M9 hp9 => ?_)
            obtain ⟨rfl, rfl, rfl⟩ := hp9
            refine jk_name (fun g9 hg9 => ?_)
            have hg9 : g9 = gbT x.2.2.1.1 x.2.2.2.1 x.2.2.2.2.1 x.2.2.2.2.2 la ha lb hb := hg9
            rw [← hg9] at hgb
            refine jk_istore (q := 132) h dX10_both_130 rfl (Nat.le_of_ble_eq_true rfl) rfl rfl ?_
            refine jk_iload (q := 134) h dX10_both_132 rfl rfl ?_
            refine jk_if_ne (q := 137) (tgt := 142) h dX10_both_134 (by decide) rfl ⟨by omega, by omega⟩ (fun c134 => ?_) (fun c134 => ?_)
            · refine jk_aload_n (q := 143) h dX10_both_142 rfl rfl ?_
              refine jk_iload (q := 145) h dX10_both_143 rfl rfl ?_
              refine jk_callV (q := 148) h hX (c_X10_scaled hM hm hQ hgb (by omega)) mv_X10_scaled (hM.at 0 rfl) dX10_both_145 ml_X10_94 ⟨rfl, Nat.le_refl _⟩ rfl rfl (Nat.le_of_ble_eq_true rfl) (Nat.le_of_ble_eq_true rfl) rfl rfl (Nat.le_of_ble_eq_true rfl) rfl (fun v9 n9 M9 hp9 => ?_)
              obtain ⟨rfl, rfl, rfl⟩ := hp9
              exact jk_iret h hR dX10_both_148 (Nat.le_of_ble_eq_true rfl) (Nat.le_of_ble_eq_true rfl) (jrd_of (by unfold botR; rw [← hg9]; first | (rw [if_pos ⟨by omega, by omega, by omega⟩, if_neg (by omega), if_pos (by omega), if_pos (by omega)]; done) | (rw [if_pos ⟨by omega, by omega, by omega⟩, if_neg (by omega), if_pos (by omega), if_neg (by omega)]; done)))
            · refine jk_iload (q := 139) h dX10_both_137 rfl rfl ?_
              refine jk_goto (q := 142) (tgt := 148) h dX10_both_139 (by decide) ?_
              exact jk_iret h hR dX10_both_148 (Nat.le_of_ble_eq_true rfl) (Nat.le_of_ble_eq_true rfl) (jrd_of (by unfold botR; rw [← hg9]; first | (rw [if_pos ⟨by omega, by omega, by omega⟩, if_neg (by omega), if_pos (by omega), if_pos (by omega)]; done) | (rw [if_pos ⟨by omega, by omega, by omega⟩, if_neg (by omega), if_pos (by omega), if_neg (by omega)]; done)))
          · refine jk_bipush (q := 120) h dX10_both_118 (by decide) rfl ?_
            exact jk_iret h hR dX10_both_120 (Nat.le_of_ble_eq_true rfl) (Nat.le_of_ble_eq_true rfl) (jrd_of (by unfold botR; rw [if_pos ⟨by omega, by omega, by omega⟩, if_neg (by omega), if_neg (by omega)]))
        · refine jk_iconst (q := 37) h dX10_both_36 rfl ?_
          refine jk_istore (q := 39) h dX10_both_37 rfl (Nat.le_of_ble_eq_true rfl) rfl rfl ?_
          refine jk_iconst (q := 40) h dX10_both_39 rfl ?_
          refine jk_istore (q := 42) h dX10_both_40 rfl (Nat.le_of_ble_eq_true rfl) rfl rfl ?_
          have lp42 : ∀ (k9 : Nat) (r : Int) (i : Int) (hi1 : 0 ≤ i) (hi2 : i ≤ x.2.1.2.2) (hr2 : r = smI (fun k => if (la ≤ x.2.1.1 k ∧ x.2.1.1 k ≤ ha) ∧ (lb ≤ x.2.1.2.1 k ∧ x.2.1.2.1 k ≤ hb) then 1 else 0) i) (hrb : 0 ≤ r ∧ r ≤ i) (hk9 : (x.2.1.2.2 - i).toNat = k9), jJ X 42 [some (.ref (m)), some (jI (la)), some (jI (ha)), some (jI (lb)), some (jI (hb)), some (jI (w)), some (jI (r)), some (jI (i))] [] n M 0 0 := by
            intro k9
            induction k9 using Nat.strongRecOn with
            | _ k9 ih42 =>
              intro r i hi1 hi2 hr2 hrb hk9
              have hai := hya i.toNat
              have hbi := hyb i.toNat
              refine jk_iload (q := 44) h dX10_both_42 rfl rfl ?_
              refine jk_aload_n (q := 45) h dX10_both_44 rfl rfl ?_
              refine jk_get (q := 48) h fg_X10_7 dX10_both_45 (hM.at 0 rfl) rfl rfl ?_
              refine jk_iconst (q := 49) h dX10_both_48 rfl ?_
              refine jk_ialdI (q := 50) h dX10_both_49 (hM.at 1 rfl) (by omega) (by omega) rfl rfl ?_
              refine jk_icmp_ge (q := 53) (tgt := 106) h dX10_both_50 (by decide) rfl ⟨by omega, by omega⟩ ⟨by omega, by omega⟩ (fun c50 => ?_) (fun c50 => ?_)
              · have hi3 : i = x.2.1.2.2 := by omega
                subst hi3
                refine jk_iload (q := 108) h dX10_both_106 rfl rfl ?_
                exact jk_iret h hR dX10_both_108 (Nat.le_of_ble_eq_true rfl) (Nat.le_of_ble_eq_true rfl) (jrd_of (by unfold botR; rw [if_pos ⟨by omega, by omega, by omega⟩, if_pos (by omega), hr2]; rfl))
              · refine jk_iload (q := 55) h dX10_both_53 rfl rfl ?_
                refine jk_aload_n (q := 56) h dX10_both_55 rfl rfl ?_
                refine jk_get (q := 59) h fg_X10_7 dX10_both_56 (hM.at 0 rfl) rfl rfl ?_
                refine jk_iload (q := 61) h dX10_both_59 rfl rfl ?_
                refine jk_iconst (q := 62) h dX10_both_61 rfl ?_
                refine jk_callS (q := 65) h hX (c_X10_of (jPic_c (hM.at 1 rfl)) (by omega) (by omega) (hmr.a hi1 (by omega))) ms_X10_of dX10_both_62 ml_X10_54 ⟨rfl, Nat.le_refl _⟩ rfl rfl (Nat.le_of_ble_eq_true rfl) (Nat.le_of_ble_eq_true rfl) rfl rfl (Nat.le_of_ble_eq_true rfl) rfl (fun v9 n9 M9 hp9 => ?_)
                obtain ⟨rfl, rfl, rfl⟩ := hp9
                refine jk_iload_n (q := 66) h dX10_both_65 rfl rfl ?_
                refine jk_iload_n (q := 67) h dX10_both_66 rfl rfl ?_
                refine jk_callS (q := 70) h hX (c_X10_in ⟨by omega, by omega⟩ ⟨by omega, by omega⟩ ⟨by omega, by omega⟩) ms_X10_in dX10_both_67 ml_X10_35 ⟨rfl, Nat.le_refl _⟩ rfl rfl (Nat.le_of_ble_eq_true rfl) (Nat.le_of_ble_eq_true rfl) rfl rfl (Nat.le_of_ble_eq_true rfl) rfl (fun v9 n9 M9 hp9 => ?_)
                obtain ⟨rfl, rfl, rfl⟩ := hp9
                refine jk_if_eqB (q := 73) (tgt := 96) h dX10_both_70 (by decide) rfl (fun c70 => ?_) (fun c70 => ?_)
                · refine jk_iconst (q := 97) h dX10_both_96 rfl ?_
                  refine jk_iadd (q := 98) h dX10_both_97 rfl ?_
                  refine jk_istore (q := 100) h dX10_both_98 rfl (Nat.le_of_ble_eq_true rfl) rfl rfl ?_
                  refine jk_iinc (q := 103) h dX10_both_100 rfl rfl rfl rfl ?_
                  refine jk_goto (q := 106) (tgt := 42) h dX10_both_103 (by decide) ?_
                  exact jk_weak (jwk_s rfl (jwk_s rfl (jwk_s rfl (jwk_s rfl (jwk_s rfl (jwk_s rfl (jwk_s rfl (jwk_s rfl jwk_0)))))))) (ih42 _ (by omega) _ _ (by omega) (by omega) (by first | exact smI_t hi1 hr2 (if_pos ⟨by omega, by omega⟩) | exact smI_t hi1 hr2 (if_neg (by omega))) (by omega) rfl)
                · refine jk_aload_n (q := 74) h dX10_both_73 rfl rfl ?_
                  refine jk_get (q := 77) h fg_X10_7 dX10_both_74 (hM.at 0 rfl) rfl rfl ?_
                  refine jk_iload (q := 79) h dX10_both_77 rfl rfl ?_
                  refine jk_iconst (q := 80) h dX10_both_79 rfl ?_
                  refine jk_callS (q := 83) h hX (c_X10_of (jPic_c (hM.at 1 rfl)) (by omega) (by omega) (hmr.b hi1 (by omega))) ms_X10_of dX10_both_80 ml_X10_54 ⟨rfl, Nat.le_refl _⟩ rfl rfl (Nat.le_of_ble_eq_true rfl) (Nat.le_of_ble_eq_true rfl) rfl rfl (Nat.le_of_ble_eq_true rfl) rfl (fun v9 n9 M9 hp9 => ?_)
                  obtain ⟨rfl, rfl, rfl⟩ := hp9
                  refine jk_iload_n (q := 84) h dX10_both_83 rfl rfl ?_
                  refine jk_iload (q := 86) h dX10_both_84 rfl rfl ?_
                  refine jk_callS (q := 89) h hX (c_X10_in ⟨by omega, by omega⟩ ⟨by omega, by omega⟩ ⟨by omega, by omega⟩) ms_X10_in dX10_both_86 ml_X10_35 ⟨rfl, Nat.le_refl _⟩ rfl rfl (Nat.le_of_ble_eq_true rfl) (Nat.le_of_ble_eq_true rfl) rfl rfl (Nat.le_of_ble_eq_true rfl) rfl (fun v9 n9 M9 hp9 => ?_)
                  obtain ⟨rfl, rfl, rfl⟩ := hp9
                  refine jk_if_eqB (q := 92) (tgt := 96) h dX10_both_89 (by decide) rfl (fun c89 => ?_) (fun c89 => ?_)
                  · refine jk_iconst (q := 97) h dX10_both_96 rfl ?_
                    refine jk_iadd (q := 98) h dX10_both_97 rfl ?_
                    refine jk_istore (q := 100) h dX10_both_98 rfl (Nat.le_of_ble_eq_true rfl) rfl rfl ?_
                    refine jk_iinc (q := 103) h dX10_both_100 rfl rfl rfl rfl ?_
                    refine jk_goto (q := 106) (tgt := 42) h dX10_both_103 (by decide) ?_
                    exact jk_weak (jwk_s rfl (jwk_s rfl (jwk_s rfl (jwk_s rfl (jwk_s rfl (jwk_s rfl (jwk_s rfl (jwk_s rfl jwk_0)))))))) (ih42 _ (by omega) _ _ (by omega) (by omega) (by first | exact smI_t hi1 hr2 (if_pos ⟨by omega, by omega⟩) | exact smI_t hi1 hr2 (if_neg (by omega))) (by omega) rfl)
                  · refine jk_iconst (q := 93) h dX10_both_92 rfl ?_
                    refine jk_goto (q := 96) (tgt := 97) h dX10_both_93 (by decide) ?_
                    refine jk_iadd (q := 98) h dX10_both_97 rfl ?_
                    refine jk_istore (q := 100) h dX10_both_98 rfl (Nat.le_of_ble_eq_true rfl) rfl rfl ?_
                    refine jk_iinc (q := 103) h dX10_both_100 rfl rfl rfl rfl ?_
                    refine jk_goto (q := 106) (tgt := 42) h dX10_both_103 (by decide) ?_
                    exact jk_weak (jwk_s rfl (jwk_s rfl (jwk_s rfl (jwk_s rfl (jwk_s rfl (jwk_s rfl (jwk_s rfl (jwk_s rfl jwk_0)))))))) (ih42 _ (by omega) _ _ (by omega) (by omega) (by first | exact smI_t hi1 hr2 (if_pos ⟨by omega, by omega⟩) | exact smI_t hi1 hr2 (if_neg (by omega))) (by omega) rfl)
          exact jk_weak (jwk_s rfl (jwk_s rfl (jwk_s rfl (jwk_s rfl (jwk_s rfl (jwk_s rfl (jwk_s rfl (jwk_s rfl jwk_0)))))))) (lp42 _ _ _ (by omega) (by omega) rfl (by omega) rfl)
      · refine jk_bipush (q := 29) h dX10_both_27 (by decide) rfl ?_
        exact jk_iret h hR dX10_both_29 (Nat.le_of_ble_eq_true rfl) (Nat.le_of_ble_eq_true rfl) (jrd_of (by unfold botR; rw [if_neg (by omega)]))

set_option maxHeartbeats 4000000 in
set_option maxRecDepth 100000 in
theorem c_X10_share {l : Launch} {D : va_G} {b0 : Nat} {n : Nat} {M : jM} {m : Nat} {σ τ ps : Nat → Int} {kp : Int} {sv hd pd : Nat → Int} {pn a9 : Int} {od : Nat → Int} {on : Int} {lf : Nat → Int} (hM : jPic M m (mdL m σ τ ps kp sv hd pd pn a9 od on lf)) {x : TS} (hm : mdT σ x) (hQ : stQ x) (hin : inQ x) {c : Int} {lo : Int} {hi : Int} (h_c : jRng c) (h_lo : jRng lo) (h_hi : jRng hi) : jCtr l D b0 yX10_share cX10_share 4 (some .int) 3 0 0 [.ref m, jI c, jI lo, jI hi] n M (jrd n M (shrR x c lo hi)) := by
  refine jctr (lv := [some (.ref m), some (jI c), some (jI lo), some (jI hi)]) RX10 "share" rfl rfl (by decide) (Nat.le_of_ble_eq_true rfl) rfl ?_
  intro X h hR hX
  obtain ⟨hmr, ⟨hm1, hm2, hm3⟩, hms, hmA, hmB, hmP⟩ := id hm
  obtain ⟨hse, htb, hr, hch, hOA, hOB, hOP⟩ := id hQ
  obtain ⟨hya, hyb, hys⟩ := id htb
  have hm0 := hmr.1
  have hk1 : σ (1 : Int).toNat = 1 ∨ σ (1 : Int).toNat = 0 := by { rw [hm1]; unfold mkn; split <;> simp }
  have hk2 : σ (1 : Int).toNat = 0 ↔ x.2.2.1.1 = 0 := by { rw [hm1]; unfold mkn; split <;> omega }
  refine jk_iload_n (q := 1) h dX10_share_0 rfl rfl ?_
  refine jk_callS (q := 4) h hX (c_X10_isColumn ⟨by omega, by omega⟩) ms_X10_isColumn dX10_share_1 ml_X10_79 ⟨rfl, Nat.le_refl _⟩ rfl rfl (Nat.le_of_ble_eq_true rfl) (Nat.le_of_ble_eq_true rfl) rfl rfl (Nat.le_of_ble_eq_true rfl) rfl (fun v9 n9 M9 hp9 => ?_)
  obtain ⟨rfl, rfl, rfl⟩ := hp9
  refine jk_if_eqB (q := 7) (tgt := 15) h dX10_share_4 (by decide) rfl (fun c4 => ?_) (fun c4 => ?_)
  · refine jk_bipush (q := 17) h dX10_share_15 (by decide) rfl ?_
    exact jk_iret h hR dX10_share_17 (Nat.le_of_ble_eq_true rfl) (Nat.le_of_ble_eq_true rfl) (jrd_of (by unfold shrR; rw [if_neg (by omega)]))
  · have hcc : c = 0 ∨ c = 1 := by omega
    have hmc := hm.col hcc
    have hOc := cfQ_col hQ c
    have hcs : smT (colA x c) = x.2.2.1.1 := by { rcases hcc with z | z <;> rw [z]; exact hin.1; exact hin.2.1 }
    have hgb := gsT_bd (low := lo) (high := hi) hOc
    have hgl := gsT_le (lo := lo) (hi := hi) hOc
    rw [hcs] at hgl
    refine jk_iload_n (q := 8) h dX10_share_7 rfl rfl ?_
    refine jk_iload_n (q := 9) h dX10_share_8 rfl rfl ?_
    refine jk_callS (q := 12) h hX (c_X10_areBounds ⟨by omega, by omega⟩ ⟨by omega, by omega⟩) ms_X10_areBounds dX10_share_9 ml_X10_82 ⟨rfl, Nat.le_refl _⟩ rfl rfl (Nat.le_of_ble_eq_true rfl) (Nat.le_of_ble_eq_true rfl) rfl rfl (Nat.le_of_ble_eq_true rfl) rfl (fun v9 n9 M9 hp9 => ?_)
    obtain ⟨rfl, rfl, rfl⟩ := hp9
    refine jk_if_neB (q := 15) (tgt := 18) h dX10_share_12 (by decide) rfl (fun c12 => ?_) (fun c12 => ?_)
    · refine jk_aload_n (q := 19) h dX10_share_18 rfl rfl ?_
      refine jk_get (q := 22) h fg_X10_7 dX10_share_19 (hM.at 0 rfl) rfl rfl ?_
      refine jk_iconst (q := 23) h dX10_share_22 rfl ?_
      refine jk_ialdI (q := 24) h dX10_share_23 (hM.at 1 rfl) (by omega) (by omega) rfl rfl ?_
      refine jk_if_ne (q := 27) (tgt := 32) h dX10_share_24 (by decide) rfl ⟨by omega, by omega⟩ (fun c24 => ?_) (fun c24 => ?_)
      · obtain ⟨hs1, hs2, hs3, hs4, hs5⟩ := shC_f (g := gsT (colA x c) lo hi) (r := x.2.2.1.1) hgb.1 hgl (by omega) hr.2
        refine jk_aload_n (q := 33) h dX10_share_32 rfl rfl ?_
        refine jk_get (q := 36) h fg_X10_7 dX10_share_33 (hM.at 0 rfl) rfl rfl ?_
        refine jk_iload_n (q := 37) h dX10_share_36 rfl rfl ?_
        refine jk_iload_n (q := 38) h dX10_share_37 rfl rfl ?_
        refine jk_iload_n (q := 39) h dX10_share_38 rfl rfl ?_
        refine jk_iconst (q := 40) h dX10_share_39 rfl ?_
        refine jk_callS (q := 43) h hX (c_X10_estimated (jPic_c (hM.at 1 rfl)) hcc hmc hOc ⟨by omega, by omega⟩ (by omega) ⟨by omega, by omega⟩) ms_X10_estimated dX10_share_40 ml_X10_90 ⟨rfl, Nat.le_refl _⟩ rfl rfl (Nat.le_of_ble_eq_true rfl) (Nat.le_of_ble_eq_true rfl) rfl rfl (Nat.le_of_ble_eq_true rfl) rfl (fun v9 n9 M9 hp9 => ?_)
        obtain ⟨rfl, rfl, rfl⟩ := hp9
        refine jk_i2d (q := 44) h dX10_share_43 rfl ?_
        refine jk_aload_n (q := 45) h dX10_share_44 rfl rfl ?_
        refine jk_get (q := 48) h fg_X10_7 dX10_share_45 (hM.at 0 rfl) rfl rfl ?_
        refine jk_iconst (q := 49) h dX10_share_48 rfl ?_
        refine jk_ialdI (q := 50) h dX10_share_49 (hM.at 1 rfl) (by omega) (by omega) rfl rfl ?_
        refine jk_i2d (q := 51) h dX10_share_50 rfl ?_
        refine jk_ddiv (q := 52) h dX10_share_51 (by rw [hm2]; exact hs1) rfl ?_
        refine jk_d2f (q := 53) h dX10_share_52 (by rw [hm2]; exact hs2) rfl ?_
        refine jk_callS (q := 56) h hX (c_Jxf58ca_floatToIntBits_5c35a (by rw [hm2]; exact hs4)) ms_Jxf58ca_floatToIntBits_5c35a dX10_share_53 ml_X10_105 ⟨rfl, Nat.le_refl _⟩ rfl rfl (Nat.le_of_ble_eq_true rfl) (Nat.le_of_ble_eq_true rfl) rfl rfl (Nat.le_of_ble_eq_true rfl) rfl (fun v9 n9 M9 hp9 => ?_)
        obtain ⟨rfl, rfl, rfl⟩ := hp9
        exact jk_iret h hR dX10_share_56 (Nat.le_of_ble_eq_true rfl) (Nat.le_of_ble_eq_true rfl) (jrd_of (by unfold shrR; rw [if_pos ⟨by omega, by omega⟩]; first | exact if_neg (by omega) | (rw [if_pos (by omega), hm2]; rfl)))
      · refine jk_bipush (q := 29) h dX10_share_27 (by decide) rfl ?_
        refine jk_goto (q := 32) (tgt := 56) h dX10_share_29 (by decide) ?_
        exact jk_iret h hR dX10_share_56 (Nat.le_of_ble_eq_true rfl) (Nat.le_of_ble_eq_true rfl) (jrd_of (by unfold shrR; rw [if_pos ⟨by omega, by omega⟩]; first | exact if_neg (by omega) | (rw [if_pos (by omega), hm2]; rfl)))
    · refine jk_bipush (q := 17) h dX10_share_15 (by decide) rfl ?_
      exact jk_iret h hR dX10_share_17 (Nat.le_of_ble_eq_true rfl) (Nat.le_of_ble_eq_true rfl) (jrd_of (by unfold shrR; rw [if_neg (by omega)]))

set_option maxHeartbeats 4000000 in
set_option maxRecDepth 100000 in
theorem c_X10_height {l : Launch} {D : va_G} {b0 : Nat} {n : Nat} {M : jM} {m : Nat} {σ τ ps : Nat → Int} {kp : Int} {sv hd pd : Nat → Int} {pn a9 : Int} {od : Nat → Int} {on : Int} {lf : Nat → Int} (hM : jPic M m (mdL m σ τ ps kp sv hd pd pn a9 od on lf)) {x : TS} (hm : mdT σ x) (hQ : stQ x) (hin : inQ x) {c : Int} (h_c : jRng c) : jCtr l D b0 yX10_height cX10_height 4 (some .long) 2 0 0 [.ref m, jI c] n M (fun v n2 M2 => some (.long (hgtR x c)) = v ∧ n = n2 ∧ M = M2) := by
  refine jctr (lv := [some (.ref m), some (jI c), none, none]) RX10 "height" rfl rfl (by decide) (Nat.le_of_ble_eq_true rfl) rfl ?_
  intro X h hR hX
  obtain ⟨hmr, ⟨hm1, hm2, hm3⟩, hms, hmA, hmB, hmP⟩ := id hm
  obtain ⟨hse, htb, hr, hch, hOA, hOB, hOP⟩ := id hQ
  obtain ⟨hya, hyb, hys⟩ := id htb
  have hm0 := hmr.1
  have hk1 : σ (1 : Int).toNat = 1 ∨ σ (1 : Int).toNat = 0 := by { rw [hm1]; unfold mkn; split <;> simp }
  have hk2 : σ (1 : Int).toNat = 0 ↔ x.2.2.1.1 = 0 := by { rw [hm1]; unfold mkn; split <;> omega }
  refine jk_iload_n (q := 1) h dX10_height_0 rfl rfl ?_
  refine jk_callS (q := 4) h hX (c_X10_isColumn ⟨by omega, by omega⟩) ms_X10_isColumn dX10_height_1 ml_X10_79 ⟨rfl, Nat.le_refl _⟩ rfl rfl (Nat.le_of_ble_eq_true rfl) (Nat.le_of_ble_eq_true rfl) rfl rfl (Nat.le_of_ble_eq_true rfl) rfl (fun v9 n9 M9 hp9 => ?_)
  obtain ⟨rfl, rfl, rfl⟩ := hp9
  refine jk_if_neB (q := 7) (tgt := 11) h dX10_height_4 (by decide) rfl (fun c4 => ?_) (fun c4 => ?_)
  · have hcc : c = 0 ∨ c = 1 := by omega
    have hmc := hm.col hcc
    have hOc := cfQ_col hQ c
    have hcs : smT (colA x c) = x.2.2.1.1 := by { rcases hcc with z | z <;> rw [z]; exact hin.1; exact hin.2.1 }
    have hsb := sbT_bd hQ hOc hcs
    have hmc4 := hmc.2.2.2.1
    have hbn := hOc.2.2.2.2.2.2.2.2.1
    have hbr := hOc.2.2.2.2.2.2.1
    refine jk_iconst (q := 12) h dX10_height_11 rfl ?_
    refine jk_istore_n (q := 13) h dX10_height_12 rfl (Nat.le_of_ble_eq_true rfl) rfl rfl ?_
    refine jk_iconst (q := 14) h dX10_height_13 rfl ?_
    refine jk_istore_n (q := 15) h dX10_height_14 rfl (Nat.le_of_ble_eq_true rfl) rfl rfl ?_
    have lp15 : ∀ (k9 : Nat) (r : Int) (i : Int) (hi1 : 0 ≤ i) (hi2 : i ≤ (colA x c).2.2.2.2.2.2.2.2) (hr2 : r = smI (colA x c).2.2.2.2.2.2.1 i) (hk9 : ((colA x c).2.2.2.2.2.2.2.2 - i).toNat = k9), jJ X 15 [some (.ref (m)), some (jI (c)), some (jI (r)), some (jI (i))] [] n M 0 0 := by
      intro k9
      induction k9 using Nat.strongRecOn with
      | _ k9 ih15 =>
        intro r i hi1 hi2 hr2 hk9
        refine jk_iload_n (q := 16) h dX10_height_15 rfl rfl ?_
        refine jk_aload_n (q := 17) h dX10_height_16 rfl rfl ?_
        refine jk_get (q := 20) h fg_X10_7 dX10_height_17 (hM.at 0 rfl) rfl rfl ?_
        refine jk_sipush (q := 23) h dX10_height_20 (by decide) rfl ?_
        refine jk_iload_n (q := 24) h dX10_height_23 rfl rfl ?_
        refine jk_iadd (q := 25) h dX10_height_24 rfl ?_
        refine jk_ialdI (q := 26) h dX10_height_25 (hM.at 1 rfl) (by omega) (by omega) rfl rfl ?_
        refine jk_icmp_ge (q := 29) (tgt := 57) h dX10_height_26 (by decide) rfl ⟨by omega, by omega⟩ ⟨by omega, by omega⟩ (fun c26 => ?_) (fun c26 => ?_)
        · have hi3 : i = (colA x c).2.2.2.2.2.2.2.2 := by omega
          subst hi3
          refine jk_aload_n (q := 58) h dX10_height_57 rfl rfl ?_
          refine jk_get (q := 61) h fg_X10_7 dX10_height_58 (hM.at 0 rfl) rfl rfl ?_
          refine jk_sipush (q := 64) h dX10_height_61 (by decide) rfl ?_
          refine jk_iload_n (q := 65) h dX10_height_64 rfl rfl ?_
          refine jk_iadd (q := 66) h dX10_height_65 rfl ?_
          refine jk_ialdI (q := 67) h dX10_height_66 (hM.at 1 rfl) (by omega) (by omega) rfl rfl ?_
          refine jk_if_ne (q := 70) (tgt := 74) h dX10_height_67 (by decide) rfl ⟨by omega, by omega⟩ (fun c67 => ?_) (fun c67 => ?_)
          · obtain ⟨hs1, hs2, hs3⟩ := heC_f hsb.1 hsb.2 (r := (colA x c).2.2.2.2.2.2.2.2) (by omega) hbn.2
            refine jk_iload_n (q := 75) h dX10_height_74 rfl rfl ?_
            refine jk_i2d (q := 76) h dX10_height_75 rfl ?_
            refine jk_aload_n (q := 77) h dX10_height_76 rfl rfl ?_
            refine jk_get (q := 80) h fg_X10_7 dX10_height_77 (hM.at 0 rfl) rfl rfl ?_
            refine jk_sipush (q := 83) h dX10_height_80 (by decide) rfl ?_
            refine jk_iload_n (q := 84) h dX10_height_83 rfl rfl ?_
            refine jk_iadd (q := 85) h dX10_height_84 rfl ?_
            refine jk_ialdI (q := 86) h dX10_height_85 (hM.at 1 rfl) (by omega) (by omega) rfl rfl ?_
            refine jk_i2d (q := 87) h dX10_height_86 rfl ?_
            refine jk_ddiv (q := 88) h dX10_height_87 (by rw [hr2, hmc4]; exact hs1) rfl ?_
            refine jk_callS (q := 91) h hX (c_Jxe99ae_doubleToLongBits_ccdee (by rw [hr2, hmc4]; exact hs2)) ms_Jxe99ae_doubleToLongBits_ccdee dX10_height_88 ml_X10_113 ⟨rfl, Nat.le_refl _⟩ rfl rfl (Nat.le_of_ble_eq_true rfl) (Nat.le_of_ble_eq_true rfl) rfl rfl (Nat.le_of_ble_eq_true rfl) rfl (fun v9 n9 M9 hp9 => ?_)
            obtain ⟨rfl, rfl, rfl⟩ := hp9
            exact jk_lret h hR dX10_height_91 (Nat.le_of_ble_eq_true rfl) (Nat.le_of_ble_eq_true rfl) ⟨by unfold hgtR; rw [if_pos (by omega)]; first | (rw [if_neg (by omega)]; rfl) | (rw [if_pos (by omega), hr2, hmc4]), rfl, rfl⟩
          · refine jk_lconst (q := 71) h dX10_height_70 rfl ?_
            refine jk_goto (q := 74) (tgt := 91) h dX10_height_71 (by decide) ?_
            exact jk_lret h hR dX10_height_91 (Nat.le_of_ble_eq_true rfl) (Nat.le_of_ble_eq_true rfl) ⟨by unfold hgtR; rw [if_pos (by omega)]; first | (rw [if_neg (by omega)]; rfl) | (rw [if_pos (by omega), hr2, hmc4]), rfl, rfl⟩
        · obtain ⟨hx1, hx2, hx3, hx4⟩ := hmc.2.2.2.2 i hi1 (by omega)
          refine jk_iload_n (q := 30) h dX10_height_29 rfl rfl ?_
          refine jk_aload_n (q := 31) h dX10_height_30 rfl rfl ?_
          refine jk_get (q := 34) h fg_X10_7 dX10_height_31 (hM.at 0 rfl) rfl rfl ?_
          refine jk_sipush (q := 37) h dX10_height_34 (by decide) rfl ?_
          refine jk_bipush (q := 39) h dX10_height_37 (by decide) rfl ?_
          refine jk_iload_n (q := 40) h dX10_height_39 rfl rfl ?_
          refine jk_imul (q := 41) h dX10_height_40 rfl ?_
          refine jk_iadd (q := 42) h dX10_height_41 rfl ?_
          refine jk_iconst (q := 43) h dX10_height_42 rfl ?_
          refine jk_iload_n (q := 44) h dX10_height_43 rfl rfl ?_
          refine jk_imul (q := 45) h dX10_height_44 rfl ?_
          refine jk_iadd (q := 46) h dX10_height_45 rfl ?_
          refine jk_iconst (q := 47) h dX10_height_46 rfl ?_
          refine jk_iadd (q := 48) h dX10_height_47 rfl ?_
          refine jk_ialdI (q := 49) h dX10_height_48 (hM.at 1 rfl) (by omega) (by omega) rfl rfl ?_
          refine jk_iadd (q := 50) h dX10_height_49 rfl ?_
          refine jk_istore_n (q := 51) h dX10_height_50 rfl (Nat.le_of_ble_eq_true rfl) rfl rfl ?_
          refine jk_iinc (q := 54) h dX10_height_51 rfl rfl rfl rfl ?_
          refine jk_goto (q := 57) (tgt := 15) h dX10_height_54 (by decide) ?_
          exact jk_weak (jwk_s rfl (jwk_s rfl (jwk_s rfl (jwk_s rfl jwk_0)))) (ih15 _ (by omega) _ _ (by omega) (by omega) (smI_t hi1 hr2 hx3.symm) rfl)
    exact jk_weak (jwk_s rfl (jwk_s rfl (jwk_s rfl (jwk_s rfl jwk_0)))) (lp15 _ _ _ (by omega) (by omega) rfl rfl)
  · refine jk_ldc2 (q := 10) h dX10_height_7 kc_X10_111 rfl ?_
    exact jk_lret h hR dX10_height_10 (Nat.le_of_ble_eq_true rfl) (Nat.le_of_ble_eq_true rfl) ⟨by unfold hgtR; rw [if_neg (by omega)], rfl, rfl⟩

set_option maxHeartbeats 4000000 in
set_option maxRecDepth 100000 in
theorem c_X10_worst {l : Launch} {D : va_G} {b0 : Nat} {n : Nat} {M : jM} {m : Nat} {σ τ ps : Nat → Int} {kp : Int} {sv hd pd : Nat → Int} {pn a9 : Int} {od : Nat → Int} {on : Int} {lf : Nat → Int} (hM : jPic M m (mdL m σ τ ps kp sv hd pd pn a9 od on lf)) {x : TS} (hm : mdT σ x) (hQ : stQ x) {c : Int} {w : Int} (h_c : jRng c) (h_w : jRng w) : jCtr l D b0 yX10_worst cX10_worst 4 (some .int) 4 0 0 [.ref m, jI c, jI w] n M (jrd n M (wrsR x c w)) := by
  refine jctr (lv := [some (.ref m), some (jI c), some (jI w), none]) RX10 "worst" rfl rfl (by decide) (Nat.le_of_ble_eq_true rfl) rfl ?_
  intro X h hR hX
  obtain ⟨hmr, ⟨hm1, hm2, hm3⟩, hms, hmA, hmB, hmP⟩ := id hm
  obtain ⟨hse, htb, hr, hch, hOA, hOB, hOP⟩ := id hQ
  obtain ⟨hya, hyb, hys⟩ := id htb
  have hm0 := hmr.1
  have hk1 : σ (1 : Int).toNat = 1 ∨ σ (1 : Int).toNat = 0 := by { rw [hm1]; unfold mkn; split <;> simp }
  have hk2 : σ (1 : Int).toNat = 0 ↔ x.2.2.1.1 = 0 := by { rw [hm1]; unfold mkn; split <;> omega }
  refine jk_iload_n (q := 1) h dX10_worst_0 rfl rfl ?_
  refine jk_callS (q := 4) h hX (c_X10_isColumn ⟨by omega, by omega⟩) ms_X10_isColumn dX10_worst_1 ml_X10_79 ⟨rfl, Nat.le_refl _⟩ rfl rfl (Nat.le_of_ble_eq_true rfl) (Nat.le_of_ble_eq_true rfl) rfl rfl (Nat.le_of_ble_eq_true rfl) rfl (fun v9 n9 M9 hp9 => ?_)
  obtain ⟨rfl, rfl, rfl⟩ := hp9
  refine jk_if_eqB (q := 7) (tgt := 16) h dX10_worst_4 (by decide) rfl (fun c4 => ?_) (fun c4 => ?_)
  · refine jk_bipush (q := 18) h dX10_worst_16 (by decide) rfl ?_
    exact jk_iret h hR dX10_worst_18 (Nat.le_of_ble_eq_true rfl) (Nat.le_of_ble_eq_true rfl) (jrd_of (by unfold wrsR; rw [if_neg (by omega)]))
  · have hcc : c = 0 ∨ c = 1 := by omega
    have hmc := hm.col hcc
    have hOc := cfQ_col hQ c
    have hwv := wvI_bd1 (miT (colA x c))
    refine jk_iload_n (q := 8) h dX10_worst_7 rfl rfl ?_
    refine jk_iconst (q := 9) h dX10_worst_8 rfl ?_
    refine jk_iconst (q := 10) h dX10_worst_9 rfl ?_
    refine jk_callS (q := 13) h hX (c_X10_in ⟨by omega, by omega⟩ ⟨by omega, by omega⟩ ⟨by omega, by omega⟩) ms_X10_in dX10_worst_10 ml_X10_35 ⟨rfl, Nat.le_refl _⟩ rfl rfl (Nat.le_of_ble_eq_true rfl) (Nat.le_of_ble_eq_true rfl) rfl rfl (Nat.le_of_ble_eq_true rfl) rfl (fun v9 n9 M9 hp9 => ?_)
    obtain ⟨rfl, rfl, rfl⟩ := hp9
    refine jk_if_neB (q := 16) (tgt := 19) h dX10_worst_13 (by decide) rfl (fun c13 => ?_) (fun c13 => ?_)
    · refine jk_aload_n (q := 20) h dX10_worst_19 rfl rfl ?_
      refine jk_get (q := 23) h fg_X10_7 dX10_worst_20 (hM.at 0 rfl) rfl rfl ?_
      refine jk_iconst (q := 24) h dX10_worst_23 rfl ?_
      refine jk_ialdI (q := 25) h dX10_worst_24 (hM.at 1 rfl) (by omega) (by omega) rfl rfl ?_
      refine jk_if_ne (q := 28) (tgt := 31) h dX10_worst_25 (by decide) rfl ⟨by omega, by omega⟩ (fun c25 => ?_) (fun c25 => ?_)
      · refine jk_aload_n (q := 32) h dX10_worst_31 rfl rfl ?_
        refine jk_get (q := 35) h fg_X10_7 dX10_worst_32 (hM.at 0 rfl) rfl rfl ?_
        refine jk_iload_n (q := 36) h dX10_worst_35 rfl rfl ?_
        refine jk_callS (q := 39) h hX (c_X10_worstOf (jPic_c (hM.at 1 rfl)) hcc hmc hOc) ms_X10_worstOf dX10_worst_36 ml_X10_122 ⟨rfl, Nat.le_refl _⟩ rfl rfl (Nat.le_of_ble_eq_true rfl) (Nat.le_of_ble_eq_true rfl) rfl rfl (Nat.le_of_ble_eq_true rfl) rfl (fun v9 n9 M9 hp9 => ?_)
        obtain ⟨rfl, rfl, rfl⟩ := hp9
        refine jk_istore_n (q := 40) h dX10_worst_39 rfl (Nat.le_of_ble_eq_true rfl) rfl rfl ?_
        refine jk_iload_n (q := 41) h dX10_worst_40 rfl rfl ?_
        refine jk_if_ne (q := 44) (tgt := 48) h dX10_worst_41 (by decide) rfl ⟨by omega, by omega⟩ (fun c41 => ?_) (fun c41 => ?_)
        · refine jk_aload_n (q := 49) h dX10_worst_48 rfl rfl ?_
          refine jk_get (q := 52) h fg_X10_7 dX10_worst_49 (hM.at 0 rfl) rfl rfl ?_
          refine jk_iload_n (q := 53) h dX10_worst_52 rfl rfl ?_
          refine jk_iload_n (q := 54) h dX10_worst_53 rfl rfl ?_
          refine jk_callS (q := 57) h hX (c_X10_off (jPic_c (hM.at 1 rfl)) hcc hmc hOc hwv) ms_X10_off dX10_worst_54 ml_X10_119 ⟨rfl, Nat.le_refl _⟩ rfl rfl (Nat.le_of_ble_eq_true rfl) (Nat.le_of_ble_eq_true rfl) rfl rfl (Nat.le_of_ble_eq_true rfl) rfl (fun v9 n9 M9 hp9 => ?_)
          obtain ⟨rfl, rfl, rfl⟩ := hp9
          exact jk_iret h hR dX10_worst_57 (Nat.le_of_ble_eq_true rfl) (Nat.le_of_ble_eq_true rfl) (jrd_of (by unfold wrsR; first | rw [if_pos ⟨by omega, by omega⟩, if_pos (by omega), if_pos (by omega)] | rw [if_pos ⟨by omega, by omega⟩, if_pos (by omega), if_neg (by omega)]))
        · refine jk_iload_n (q := 45) h dX10_worst_44 rfl rfl ?_
          refine jk_goto (q := 48) (tgt := 57) h dX10_worst_45 (by decide) ?_
          exact jk_iret h hR dX10_worst_57 (Nat.le_of_ble_eq_true rfl) (Nat.le_of_ble_eq_true rfl) (jrd_of (by unfold wrsR; first | rw [if_pos ⟨by omega, by omega⟩, if_pos (by omega), if_pos (by omega)] | rw [if_pos ⟨by omega, by omega⟩, if_pos (by omega), if_neg (by omega)]))
      · refine jk_bipush (q := 30) h dX10_worst_28 (by decide) rfl ?_
        exact jk_iret h hR dX10_worst_30 (Nat.le_of_ble_eq_true rfl) (Nat.le_of_ble_eq_true rfl) (jrd_of (by unfold wrsR; rw [if_pos ⟨by omega, by omega⟩, if_neg (by omega)]))
    · refine jk_bipush (q := 18) h dX10_worst_16 (by decide) rfl ?_
      exact jk_iret h hR dX10_worst_18 (Nat.le_of_ble_eq_true rfl) (Nat.le_of_ble_eq_true rfl) (jrd_of (by unfold wrsR; rw [if_neg (by omega)]))

set_option maxHeartbeats 4000000 in
set_option maxRecDepth 100000 in
theorem c_X10_isRow {l : Launch} {D : va_G} {b0 : Nat} {n : Nat} {M : jM} {m : Nat} {σ τ ps : Nat → Int} {kp : Int} {sv hd pd : Nat → Int} {pn a9 : Int} {od : Nat → Int} {on : Int} {lf : Nat → Int} (hM : jPic M m (mdL m σ τ ps kp sv hd pd pn a9 od on lf)) {x : TS} (hm : mdT σ x) (hQ : stQ x) {r : Int} (h_r : jRng r) : jCtr l D b0 yX10_isRow cX10_isRow 2 (some .boolean) 1 0 0 [.ref m, jI r] n M (jrd n M (if 0 ≤ r ∧ r < x.2.1.2.2 then 1 else 0)) := by
  refine jctr (lv := [some (.ref m), some (jI r)]) RX10 "isRow" rfl rfl (by decide) (Nat.le_of_ble_eq_true rfl) rfl ?_
  intro X h hR hX
  obtain ⟨hmr, ⟨hm1, hm2, hm3⟩, hms, hmA, hmB, hmP⟩ := id hm
  obtain ⟨hse, htb, hr, hch, hOA, hOB, hOP⟩ := id hQ
  obtain ⟨hya, hyb, hys⟩ := id htb
  have hm0 := hmr.1
  have hk1 : σ (1 : Int).toNat = 1 ∨ σ (1 : Int).toNat = 0 := by { rw [hm1]; unfold mkn; split <;> simp }
  have hk2 : σ (1 : Int).toNat = 0 ↔ x.2.2.1.1 = 0 := by { rw [hm1]; unfold mkn; split <;> omega }
  refine jk_iload_n (q := 1) h dX10_isRow_0 rfl rfl ?_
  refine jk_iconst (q := 2) h dX10_isRow_1 rfl ?_
  refine jk_aload_n (q := 3) h dX10_isRow_2 rfl rfl ?_
  refine jk_get (q := 6) h fg_X10_7 dX10_isRow_3 (hM.at 0 rfl) rfl rfl ?_
  refine jk_iconst (q := 7) h dX10_isRow_6 rfl ?_
  refine jk_ialdI (q := 8) h dX10_isRow_7 (hM.at 1 rfl) (by omega) (by omega) rfl rfl ?_
  refine jk_iconst (q := 9) h dX10_isRow_8 rfl ?_
  refine jk_isub (q := 10) h dX10_isRow_9 rfl ?_
  refine jk_callS (q := 13) h hX (c_X10_in ⟨by omega, by omega⟩ ⟨by omega, by omega⟩ ⟨by omega, by omega⟩) ms_X10_in dX10_isRow_10 ml_X10_35 ⟨rfl, Nat.le_refl _⟩ rfl rfl (Nat.le_of_ble_eq_true rfl) (Nat.le_of_ble_eq_true rfl) rfl rfl (Nat.le_of_ble_eq_true rfl) rfl (fun v9 n9 M9 hp9 => ?_)
  obtain ⟨rfl, rfl, rfl⟩ := hp9
  exact jk_zret h hR dX10_isRow_13 (Nat.le_of_ble_eq_true rfl) (Nat.le_of_ble_eq_true rfl) (by split <;> simp) (jrd_of (by first | (rw [if_pos (by omega), if_pos (by omega)]; done) | (rw [if_neg (by omega), if_neg (by omega)]; done) | (split <;> split <;> omega)))

set_option maxHeartbeats 4000000 in
set_option maxRecDepth 100000 in
theorem c_X10_row {l : Launch} {D : va_G} {b0 : Nat} {n : Nat} {M : jM} {m : Nat} {σ τ ps : Nat → Int} {kp : Int} {sv hd pd : Nat → Int} {pn a9 : Int} {od : Nat → Int} {on : Int} {lf : Nat → Int} (hM : jPic M m (mdL m σ τ ps kp sv hd pd pn a9 od on lf)) {x : TS} (hm : mdT σ x) (hQ : stQ x) {r : Int} {c : Int} (h_r : jRng r) (h_c : jRng c) : jCtr l D b0 yX10_row cX10_row 3 (some .int) 2 0 0 [.ref m, jI r, jI c] n M (jrd n M (rowR x r c)) := by
  refine jctr (lv := [some (.ref m), some (jI r), some (jI c)]) RX10 "row" rfl rfl (by decide) (Nat.le_of_ble_eq_true rfl) rfl ?_
  intro X h hR hX
  obtain ⟨hmr, ⟨hm1, hm2, hm3⟩, hms, hmA, hmB, hmP⟩ := id hm
  obtain ⟨hse, htb, hr, hch, hOA, hOB, hOP⟩ := id hQ
  obtain ⟨hya, hyb, hys⟩ := id htb
  have hm0 := hmr.1
  have hk1 : σ (1 : Int).toNat = 1 ∨ σ (1 : Int).toNat = 0 := by { rw [hm1]; unfold mkn; split <;> simp }
  have hk2 : σ (1 : Int).toNat = 0 ↔ x.2.2.1.1 = 0 := by { rw [hm1]; unfold mkn; split <;> omega }
  refine jk_aload_n (q := 1) h dX10_row_0 rfl rfl ?_
  refine jk_iload_n (q := 2) h dX10_row_1 rfl rfl ?_
  refine jk_callV (q := 5) h hX (c_X10_isRow hM hm hQ ⟨by omega, by omega⟩) mv_X10_isRow (hM.at 0 rfl) dX10_row_2 ml_X10_142 ⟨rfl, Nat.le_refl _⟩ rfl rfl (Nat.le_of_ble_eq_true rfl) (Nat.le_of_ble_eq_true rfl) rfl rfl (Nat.le_of_ble_eq_true rfl) rfl (fun v9 n9 M9 hp9 => ?_)
  obtain ⟨rfl, rfl, rfl⟩ := hp9
  refine jk_if_neB (q := 8) (tgt := 10) h dX10_row_5 (by decide) rfl (fun c5 => ?_) (fun c5 => ?_)
  · refine jk_iload_n (q := 11) h dX10_row_10 rfl rfl ?_
    refine jk_callS (q := 14) h hX (c_X10_isColumn ⟨by omega, by omega⟩) ms_X10_isColumn dX10_row_11 ml_X10_79 ⟨rfl, Nat.le_refl _⟩ rfl rfl (Nat.le_of_ble_eq_true rfl) (Nat.le_of_ble_eq_true rfl) rfl rfl (Nat.le_of_ble_eq_true rfl) rfl (fun v9 n9 M9 hp9 => ?_)
    obtain ⟨rfl, rfl, rfl⟩ := hp9
    refine jk_if_eqB (q := 17) (tgt := 29) h dX10_row_14 (by decide) rfl (fun c14 => ?_) (fun c14 => ?_)
    · refine jk_bipush (q := 31) h dX10_row_29 (by decide) rfl ?_
      exact jk_iret h hR dX10_row_31 (Nat.le_of_ble_eq_true rfl) (Nat.le_of_ble_eq_true rfl) (jrd_of (by unfold rowR; rw [if_pos (by omega)]; first | exact if_neg (by omega) | (rw [if_pos (by omega)]; by_cases hz : c = 0; rw [if_pos hz]; show _ = (if _ then _ else _ : Nat → Int) _; rw [if_pos hz]; rw [if_neg hz]; show _ = (if _ then _ else _ : Nat → Int) _; rw [if_neg hz])))
    · refine jk_aload_n (q := 18) h dX10_row_17 rfl rfl ?_
      refine jk_get (q := 21) h fg_X10_7 dX10_row_18 (hM.at 0 rfl) rfl rfl ?_
      refine jk_iload_n (q := 22) h dX10_row_21 rfl rfl ?_
      refine jk_iload_n (q := 23) h dX10_row_22 rfl rfl ?_
      refine jk_callS (q := 26) h hX (c_X10_of (jPic_c (hM.at 1 rfl)) (by omega) (by omega) (hmr.c (by omega) (by omega) (by omega))) ms_X10_of dX10_row_23 ml_X10_54 ⟨rfl, Nat.le_refl _⟩ rfl rfl (Nat.le_of_ble_eq_true rfl) (Nat.le_of_ble_eq_true rfl) rfl rfl (Nat.le_of_ble_eq_true rfl) rfl (fun v9 n9 M9 hp9 => ?_)
      obtain ⟨rfl, rfl, rfl⟩ := hp9
      refine jk_goto (q := 29) (tgt := 31) h dX10_row_26 (by decide) ?_
      exact jk_iret h hR dX10_row_31 (Nat.le_of_ble_eq_true rfl) (Nat.le_of_ble_eq_true rfl) (jrd_of (by unfold rowR; rw [if_pos (by omega)]; first | exact if_neg (by omega) | (rw [if_pos (by omega)]; by_cases hz : c = 0; rw [if_pos hz]; show _ = (if _ then _ else _ : Nat → Int) _; rw [if_pos hz]; rw [if_neg hz]; show _ = (if _ then _ else _ : Nat → Int) _; rw [if_neg hz])))
  · refine jk_iconst (q := 9) h dX10_row_8 rfl ?_
    exact jk_iret h hR dX10_row_9 (Nat.le_of_ble_eq_true rfl) (Nat.le_of_ble_eq_true rfl) (jrd_of (by unfold rowR; rw [if_neg (by omega)]))

set_option maxHeartbeats 4000000 in
set_option maxRecDepth 100000 in
theorem c_X10_bucket {l : Launch} {D : va_G} {b0 : Nat} {n : Nat} {M : jM} {m : Nat} {σ τ ps : Nat → Int} {kp : Int} {sv hd pd : Nat → Int} {pn a9 : Int} {od : Nat → Int} {on : Int} {lf : Nat → Int} (hM : jPic M m (mdL m σ τ ps kp sv hd pd pn a9 od on lf)) {x : TS} (hm : mdT σ x) (hQ : stQ x) {c : Int} {k : Int} {w : Int} (h_c : jRng c) (h_k : jRng k) (h_w : jRng w) : jCtr l D b0 yX10_bucket cX10_bucket 4 (some .int) 2 0 0 [.ref m, jI c, jI k, jI w] n M (jrd n M (bktR x c k w)) := by
  refine jctr (lv := [some (.ref m), some (jI c), some (jI k), some (jI w)]) RX10 "bucket" rfl rfl (by decide) (Nat.le_of_ble_eq_true rfl) rfl ?_
  intro X h hR hX
  obtain ⟨hmr, ⟨hm1, hm2, hm3⟩, hms, hmA, hmB, hmP⟩ := id hm
  obtain ⟨hse, htb, hr, hch, hOA, hOB, hOP⟩ := id hQ
  obtain ⟨hya, hyb, hys⟩ := id htb
  have hm0 := hmr.1
  have hk1 : σ (1 : Int).toNat = 1 ∨ σ (1 : Int).toNat = 0 := by { rw [hm1]; unfold mkn; split <;> simp }
  have hk2 : σ (1 : Int).toNat = 0 ↔ x.2.2.1.1 = 0 := by { rw [hm1]; unfold mkn; split <;> omega }
  refine jk_iload_n (q := 1) h dX10_bucket_0 rfl rfl ?_
  refine jk_callS (q := 4) h hX (c_X10_isColumn ⟨by omega, by omega⟩) ms_X10_isColumn dX10_bucket_1 ml_X10_79 ⟨rfl, Nat.le_refl _⟩ rfl rfl (Nat.le_of_ble_eq_true rfl) (Nat.le_of_ble_eq_true rfl) rfl rfl (Nat.le_of_ble_eq_true rfl) rfl (fun v9 n9 M9 hp9 => ?_)
  obtain ⟨rfl, rfl, rfl⟩ := hp9
  refine jk_if_eqB (q := 7) (tgt := 16) h dX10_bucket_4 (by decide) rfl (fun c4 => ?_) (fun c4 => ?_)
  · refine jk_bipush (q := 18) h dX10_bucket_16 (by decide) rfl ?_
    exact jk_iret h hR dX10_bucket_18 (Nat.le_of_ble_eq_true rfl) (Nat.le_of_ble_eq_true rfl) (jrd_of (by unfold bktR; rw [if_neg (by omega)]))
  · have hcc : c = 0 ∨ c = 1 := by omega
    have hmc := hm.col hcc
    have hOc := cfQ_col hQ c
    have hbn := hOc.2.2.2.2.2.2.2.2.1
    have hmc4 := hmc.2.2.2.1
    refine jk_iload_n (q := 8) h dX10_bucket_7 rfl rfl ?_
    refine jk_iconst (q := 9) h dX10_bucket_8 rfl ?_
    refine jk_iconst (q := 10) h dX10_bucket_9 rfl ?_
    refine jk_callS (q := 13) h hX (c_X10_in ⟨by omega, by omega⟩ ⟨by omega, by omega⟩ ⟨by omega, by omega⟩) ms_X10_in dX10_bucket_10 ml_X10_35 ⟨rfl, Nat.le_refl _⟩ rfl rfl (Nat.le_of_ble_eq_true rfl) (Nat.le_of_ble_eq_true rfl) rfl rfl (Nat.le_of_ble_eq_true rfl) rfl (fun v9 n9 M9 hp9 => ?_)
    obtain ⟨rfl, rfl, rfl⟩ := hp9
    refine jk_if_neB (q := 16) (tgt := 19) h dX10_bucket_13 (by decide) rfl (fun c13 => ?_) (fun c13 => ?_)
    · refine jk_iload_n (q := 20) h dX10_bucket_19 rfl rfl ?_
      refine jk_iconst (q := 21) h dX10_bucket_20 rfl ?_
      refine jk_aload_n (q := 22) h dX10_bucket_21 rfl rfl ?_
      refine jk_get (q := 25) h fg_X10_7 dX10_bucket_22 (hM.at 0 rfl) rfl rfl ?_
      refine jk_sipush (q := 28) h dX10_bucket_25 (by decide) rfl ?_
      refine jk_iload_n (q := 29) h dX10_bucket_28 rfl rfl ?_
      refine jk_iadd (q := 30) h dX10_bucket_29 rfl ?_
      refine jk_ialdI (q := 31) h dX10_bucket_30 (hM.at 1 rfl) (by omega) (by omega) rfl rfl ?_
      refine jk_iconst (q := 32) h dX10_bucket_31 rfl ?_
      refine jk_isub (q := 33) h dX10_bucket_32 rfl ?_
      refine jk_callS (q := 36) h hX (c_X10_in ⟨by omega, by omega⟩ ⟨by omega, by omega⟩ ⟨by omega, by omega⟩) ms_X10_in dX10_bucket_33 ml_X10_35 ⟨rfl, Nat.le_refl _⟩ rfl rfl (Nat.le_of_ble_eq_true rfl) (Nat.le_of_ble_eq_true rfl) rfl rfl (Nat.le_of_ble_eq_true rfl) rfl (fun v9 n9 M9 hp9 => ?_)
      obtain ⟨rfl, rfl, rfl⟩ := hp9
      refine jk_if_eqB (q := 39) (tgt := 61) h dX10_bucket_36 (by decide) rfl (fun c36 => ?_) (fun c36 => ?_)
      · refine jk_iconst (q := 62) h dX10_bucket_61 rfl ?_
        exact jk_iret h hR dX10_bucket_62 (Nat.le_of_ble_eq_true rfl) (Nat.le_of_ble_eq_true rfl) (jrd_of (by unfold bktR; rw [if_pos ⟨by omega, by omega⟩]; first | exact if_neg (by omega) | exact (if_pos (by omega)).trans (hmc.bk (by omega) (by omega) (by omega)).symm))
      · refine jk_aload_n (q := 40) h dX10_bucket_39 rfl rfl ?_
        refine jk_get (q := 43) h fg_X10_7 dX10_bucket_40 (hM.at 0 rfl) rfl rfl ?_
        refine jk_sipush (q := 46) h dX10_bucket_43 (by decide) rfl ?_
        refine jk_bipush (q := 48) h dX10_bucket_46 (by decide) rfl ?_
        refine jk_iload_n (q := 49) h dX10_bucket_48 rfl rfl ?_
        refine jk_imul (q := 50) h dX10_bucket_49 rfl ?_
        refine jk_iadd (q := 51) h dX10_bucket_50 rfl ?_
        refine jk_iconst (q := 52) h dX10_bucket_51 rfl ?_
        refine jk_iload_n (q := 53) h dX10_bucket_52 rfl rfl ?_
        refine jk_imul (q := 54) h dX10_bucket_53 rfl ?_
        refine jk_iadd (q := 55) h dX10_bucket_54 rfl ?_
        refine jk_iload_n (q := 56) h dX10_bucket_55 rfl rfl ?_
        refine jk_iadd (q := 57) h dX10_bucket_56 rfl ?_
        refine jk_ialdI (q := 58) h dX10_bucket_57 (hM.at 1 rfl) (by omega) (by omega) rfl rfl ?_
        refine jk_goto (q := 61) (tgt := 62) h dX10_bucket_58 (by decide) ?_
        exact jk_iret h hR dX10_bucket_62 (Nat.le_of_ble_eq_true rfl) (Nat.le_of_ble_eq_true rfl) (jrd_of (by unfold bktR; rw [if_pos ⟨by omega, by omega⟩]; first | exact if_neg (by omega) | exact (if_pos (by omega)).trans (hmc.bk (by omega) (by omega) (by omega)).symm))
    · refine jk_bipush (q := 18) h dX10_bucket_16 (by decide) rfl ?_
      exact jk_iret h hR dX10_bucket_18 (Nat.le_of_ble_eq_true rfl) (Nat.le_of_ble_eq_true rfl) (jrd_of (by unfold bktR; rw [if_neg (by omega)]))

set_option maxHeartbeats 4000000 in
set_option maxRecDepth 100000 in
theorem c_X10_common {l : Launch} {D : va_G} {b0 : Nat} {n : Nat} {M : jM} {m : Nat} {σ τ ps : Nat → Int} {kp : Int} {sv hd pd : Nat → Int} {pn a9 : Int} {od : Nat → Int} {on : Int} {lf : Nat → Int} (hM : jPic M m (mdL m σ τ ps kp sv hd pd pn a9 od on lf)) {x : TS} (hm : mdT σ x) (hQ : stQ x) {c : Int} {k : Int} {w : Int} (h_c : jRng c) (h_k : jRng k) (h_w : jRng w) : jCtr l D b0 yX10_common cX10_common 4 (some .int) 2 0 0 [.ref m, jI c, jI k, jI w] n M (jrd n M (cmnR x c k w)) := by
  refine jctr (lv := [some (.ref m), some (jI c), some (jI k), some (jI w)]) RX10 "common" rfl rfl (by decide) (Nat.le_of_ble_eq_true rfl) rfl ?_
  intro X h hR hX
  obtain ⟨hmr, ⟨hm1, hm2, hm3⟩, hms, hmA, hmB, hmP⟩ := id hm
  obtain ⟨hse, htb, hr, hch, hOA, hOB, hOP⟩ := id hQ
  obtain ⟨hya, hyb, hys⟩ := id htb
  have hm0 := hmr.1
  have hk1 : σ (1 : Int).toNat = 1 ∨ σ (1 : Int).toNat = 0 := by { rw [hm1]; unfold mkn; split <;> simp }
  have hk2 : σ (1 : Int).toNat = 0 ↔ x.2.2.1.1 = 0 := by { rw [hm1]; unfold mkn; split <;> omega }
  refine jk_iload_n (q := 1) h dX10_common_0 rfl rfl ?_
  refine jk_callS (q := 4) h hX (c_X10_isColumn ⟨by omega, by omega⟩) ms_X10_isColumn dX10_common_1 ml_X10_79 ⟨rfl, Nat.le_refl _⟩ rfl rfl (Nat.le_of_ble_eq_true rfl) (Nat.le_of_ble_eq_true rfl) rfl rfl (Nat.le_of_ble_eq_true rfl) rfl (fun v9 n9 M9 hp9 => ?_)
  obtain ⟨rfl, rfl, rfl⟩ := hp9
  refine jk_if_eqB (q := 7) (tgt := 16) h dX10_common_4 (by decide) rfl (fun c4 => ?_) (fun c4 => ?_)
  · refine jk_bipush (q := 18) h dX10_common_16 (by decide) rfl ?_
    exact jk_iret h hR dX10_common_18 (Nat.le_of_ble_eq_true rfl) (Nat.le_of_ble_eq_true rfl) (jrd_of (by unfold cmnR; rw [if_neg (by omega)]))
  · have hcc : c = 0 ∨ c = 1 := by omega
    have hmc := hm.col hcc
    have hOc := cfQ_col hQ c
    have hcn := hOc.2.2.2.1
    have hmc4 := hmc.2.1
    refine jk_iload_n (q := 8) h dX10_common_7 rfl rfl ?_
    refine jk_iconst (q := 9) h dX10_common_8 rfl ?_
    refine jk_iconst (q := 10) h dX10_common_9 rfl ?_
    refine jk_callS (q := 13) h hX (c_X10_in ⟨by omega, by omega⟩ ⟨by omega, by omega⟩ ⟨by omega, by omega⟩) ms_X10_in dX10_common_10 ml_X10_35 ⟨rfl, Nat.le_refl _⟩ rfl rfl (Nat.le_of_ble_eq_true rfl) (Nat.le_of_ble_eq_true rfl) rfl rfl (Nat.le_of_ble_eq_true rfl) rfl (fun v9 n9 M9 hp9 => ?_)
    obtain ⟨rfl, rfl, rfl⟩ := hp9
    refine jk_if_neB (q := 16) (tgt := 19) h dX10_common_13 (by decide) rfl (fun c13 => ?_) (fun c13 => ?_)
    · refine jk_iload_n (q := 20) h dX10_common_19 rfl rfl ?_
      refine jk_iconst (q := 21) h dX10_common_20 rfl ?_
      refine jk_aload_n (q := 22) h dX10_common_21 rfl rfl ?_
      refine jk_get (q := 25) h fg_X10_7 dX10_common_22 (hM.at 0 rfl) rfl rfl ?_
      refine jk_sipush (q := 28) h dX10_common_25 (by decide) rfl ?_
      refine jk_iload_n (q := 29) h dX10_common_28 rfl rfl ?_
      refine jk_iadd (q := 30) h dX10_common_29 rfl ?_
      refine jk_ialdI (q := 31) h dX10_common_30 (hM.at 1 rfl) (by omega) (by omega) rfl rfl ?_
      refine jk_iconst (q := 32) h dX10_common_31 rfl ?_
      refine jk_isub (q := 33) h dX10_common_32 rfl ?_
      refine jk_callS (q := 36) h hX (c_X10_in ⟨by omega, by omega⟩ ⟨by omega, by omega⟩ ⟨by omega, by omega⟩) ms_X10_in dX10_common_33 ml_X10_35 ⟨rfl, Nat.le_refl _⟩ rfl rfl (Nat.le_of_ble_eq_true rfl) (Nat.le_of_ble_eq_true rfl) rfl rfl (Nat.le_of_ble_eq_true rfl) rfl (fun v9 n9 M9 hp9 => ?_)
      obtain ⟨rfl, rfl, rfl⟩ := hp9
      refine jk_if_eqB (q := 39) (tgt := 61) h dX10_common_36 (by decide) rfl (fun c36 => ?_) (fun c36 => ?_)
      · refine jk_iconst (q := 62) h dX10_common_61 rfl ?_
        exact jk_iret h hR dX10_common_62 (Nat.le_of_ble_eq_true rfl) (Nat.le_of_ble_eq_true rfl) (jrd_of (by unfold cmnR; rw [if_pos ⟨by omega, by omega⟩]; first | exact if_neg (by omega) | exact (if_pos (by omega)).trans (hmc.cm (by omega) (by omega) (by omega)).symm))
      · refine jk_aload_n (q := 40) h dX10_common_39 rfl rfl ?_
        refine jk_get (q := 43) h fg_X10_7 dX10_common_40 (hM.at 0 rfl) rfl rfl ?_
        refine jk_sipush (q := 46) h dX10_common_43 (by decide) rfl ?_
        refine jk_bipush (q := 48) h dX10_common_46 (by decide) rfl ?_
        refine jk_iload_n (q := 49) h dX10_common_48 rfl rfl ?_
        refine jk_imul (q := 50) h dX10_common_49 rfl ?_
        refine jk_iadd (q := 51) h dX10_common_50 rfl ?_
        refine jk_iconst (q := 52) h dX10_common_51 rfl ?_
        refine jk_iload_n (q := 53) h dX10_common_52 rfl rfl ?_
        refine jk_imul (q := 54) h dX10_common_53 rfl ?_
        refine jk_iadd (q := 55) h dX10_common_54 rfl ?_
        refine jk_iload_n (q := 56) h dX10_common_55 rfl rfl ?_
        refine jk_iadd (q := 57) h dX10_common_56 rfl ?_
        refine jk_ialdI (q := 58) h dX10_common_57 (hM.at 1 rfl) (by omega) (by omega) rfl rfl ?_
        refine jk_goto (q := 61) (tgt := 62) h dX10_common_58 (by decide) ?_
        exact jk_iret h hR dX10_common_62 (Nat.le_of_ble_eq_true rfl) (Nat.le_of_ble_eq_true rfl) (jrd_of (by unfold cmnR; rw [if_pos ⟨by omega, by omega⟩]; first | exact if_neg (by omega) | exact (if_pos (by omega)).trans (hmc.cm (by omega) (by omega) (by omega)).symm))
    · refine jk_bipush (q := 18) h dX10_common_16 (by decide) rfl ?_
      exact jk_iret h hR dX10_common_18 (Nat.le_of_ble_eq_true rfl) (Nat.le_of_ble_eq_true rfl) (jrd_of (by unfold cmnR; rw [if_neg (by omega)]))

set_option maxHeartbeats 4000000 in
set_option maxRecDepth 100000 in
theorem c_X10_pair {l : Launch} {D : va_G} {b0 : Nat} {n : Nat} {M : jM} {m : Nat} {σ τ ps : Nat → Int} {kp : Int} {sv hd pd : Nat → Int} {pn a9 : Int} {od : Nat → Int} {on : Int} {lf : Nat → Int} (hM : jPic M m (mdL m σ τ ps kp sv hd pd pn a9 od on lf)) {x : TS} (hm : mdT σ x) (hQ : stQ x) {k : Int} {w : Int} (h_k : jRng k) (h_w : jRng w) : jCtr l D b0 yX10_pair cX10_pair 3 (some .int) 1 0 0 [.ref m, jI k, jI w] n M (jrd n M (parR x k w)) := by
  refine jctr (lv := [some (.ref m), some (jI k), some (jI w)]) RX10 "pair" rfl rfl (by decide) (Nat.le_of_ble_eq_true rfl) rfl ?_
  intro X h hR hX
  obtain ⟨hmr, ⟨hm1, hm2, hm3⟩, hms, hmA, hmB, hmP⟩ := id hm
  obtain ⟨hse, htb, hr, hch, hOA, hOB, hOP⟩ := id hQ
  obtain ⟨hya, hyb, hys⟩ := id htb
  have hm0 := hmr.1
  have hk1 : σ (1 : Int).toNat = 1 ∨ σ (1 : Int).toNat = 0 := by { rw [hm1]; unfold mkn; split <;> simp }
  have hk2 : σ (1 : Int).toNat = 0 ↔ x.2.2.1.1 = 0 := by { rw [hm1]; unfold mkn; split <;> omega }
  have hpn := hOP.2.2.2
  have hmc4 := hmP.1
  refine jk_iload_n (q := 1) h dX10_pair_0 rfl rfl ?_
  refine jk_iconst (q := 2) h dX10_pair_1 rfl ?_
  refine jk_iconst (q := 3) h dX10_pair_2 rfl ?_
  refine jk_callS (q := 6) h hX (c_X10_in ⟨by omega, by omega⟩ ⟨by omega, by omega⟩ ⟨by omega, by omega⟩) ms_X10_in dX10_pair_3 ml_X10_35 ⟨rfl, Nat.le_refl _⟩ rfl rfl (Nat.le_of_ble_eq_true rfl) (Nat.le_of_ble_eq_true rfl) rfl rfl (Nat.le_of_ble_eq_true rfl) rfl (fun v9 n9 M9 hp9 => ?_)
  obtain ⟨rfl, rfl, rfl⟩ := hp9
  refine jk_if_neB (q := 9) (tgt := 12) h dX10_pair_6 (by decide) rfl (fun c6 => ?_) (fun c6 => ?_)
  · refine jk_iload_n (q := 13) h dX10_pair_12 rfl rfl ?_
    refine jk_iconst (q := 14) h dX10_pair_13 rfl ?_
    refine jk_aload_n (q := 15) h dX10_pair_14 rfl rfl ?_
    refine jk_get (q := 18) h fg_X10_7 dX10_pair_15 (hM.at 0 rfl) rfl rfl ?_
    refine jk_sipush (q := 21) h dX10_pair_18 (by decide) rfl ?_
    refine jk_ialdI (q := 22) h dX10_pair_21 (hM.at 1 rfl) (by omega) (by omega) rfl rfl ?_
    refine jk_iconst (q := 23) h dX10_pair_22 rfl ?_
    refine jk_isub (q := 24) h dX10_pair_23 rfl ?_
    refine jk_callS (q := 27) h hX (c_X10_in ⟨by omega, by omega⟩ ⟨by omega, by omega⟩ ⟨by omega, by omega⟩) ms_X10_in dX10_pair_24 ml_X10_35 ⟨rfl, Nat.le_refl _⟩ rfl rfl (Nat.le_of_ble_eq_true rfl) (Nat.le_of_ble_eq_true rfl) rfl rfl (Nat.le_of_ble_eq_true rfl) rfl (fun v9 n9 M9 hp9 => ?_)
    obtain ⟨rfl, rfl, rfl⟩ := hp9
    refine jk_if_eqB (q := 30) (tgt := 47) h dX10_pair_27 (by decide) rfl (fun c27 => ?_) (fun c27 => ?_)
    · refine jk_iconst (q := 48) h dX10_pair_47 rfl ?_
      exact jk_iret h hR dX10_pair_48 (Nat.le_of_ble_eq_true rfl) (Nat.le_of_ble_eq_true rfl) (jrd_of (by unfold parR; rw [if_pos (by omega)]; first | exact if_neg (by omega) | (rw [if_pos (by omega)]; exact (hmP.pr (by omega) (by omega) (by omega)).symm)))
    · refine jk_aload_n (q := 31) h dX10_pair_30 rfl rfl ?_
      refine jk_get (q := 34) h fg_X10_7 dX10_pair_31 (hM.at 0 rfl) rfl rfl ?_
      refine jk_sipush (q := 37) h dX10_pair_34 (by decide) rfl ?_
      refine jk_iconst (q := 38) h dX10_pair_37 rfl ?_
      refine jk_iload_n (q := 39) h dX10_pair_38 rfl rfl ?_
      refine jk_imul (q := 40) h dX10_pair_39 rfl ?_
      refine jk_iadd (q := 41) h dX10_pair_40 rfl ?_
      refine jk_iload_n (q := 42) h dX10_pair_41 rfl rfl ?_
      refine jk_iadd (q := 43) h dX10_pair_42 rfl ?_
      refine jk_ialdI (q := 44) h dX10_pair_43 (hM.at 1 rfl) (by omega) (by omega) rfl rfl ?_
      refine jk_goto (q := 47) (tgt := 48) h dX10_pair_44 (by decide) ?_
      exact jk_iret h hR dX10_pair_48 (Nat.le_of_ble_eq_true rfl) (Nat.le_of_ble_eq_true rfl) (jrd_of (by unfold parR; rw [if_pos (by omega)]; first | exact if_neg (by omega) | (rw [if_pos (by omega)]; exact (hmP.pr (by omega) (by omega) (by omega)).symm)))
  · refine jk_bipush (q := 11) h dX10_pair_9 (by decide) rfl ?_
    exact jk_iret h hR dX10_pair_11 (Nat.le_of_ble_eq_true rfl) (Nat.le_of_ble_eq_true rfl) (jrd_of (by unfold parR; rw [if_neg (by omega)]))

set_option maxHeartbeats 4000000 in
set_option maxRecDepth 100000 in
theorem c_X10_count {l : Launch} {D : va_G} {b0 : Nat} {n : Nat} {M : jM} {m : Nat} {σ τ ps : Nat → Int} {kp : Int} {sv hd pd : Nat → Int} {pn a9 : Int} {od : Nat → Int} {on : Int} {lf : Nat → Int} (hM : jPic M m (mdL m σ τ ps kp sv hd pd pn a9 od on lf)) {x : TS} (hm : mdT σ x) (hQ : stQ x) {w : Int} (h_w : jRng w) (hkp : 0 ≤ kp ∧ kp ≤ 6) (hpn : 0 ≤ pn ∧ pn ≤ 80) : jCtr l D b0 yX10_count cX10_count 3 (some .int) 1 0 0 [.ref m, jI w] n M (fun v n2 M2 => ∃ r : Int, some (jI r) = v ∧ n = n2 ∧ M = M2 ∧ cnQ x pn kp w r) := by
  refine jctr (lv := [some (.ref m), some (jI w), none]) RX10 "count" rfl rfl (by decide) (Nat.le_of_ble_eq_true rfl) rfl ?_
  intro X h hR hX
  obtain ⟨hmr, ⟨hm1, hm2, hm3⟩, hms, hmA, hmB, hmP⟩ := id hm
  obtain ⟨hse, htb, hr, hch, hOA, hOB, hOP⟩ := id hQ
  obtain ⟨hya, hyb, hys⟩ := id htb
  have hm0 := hmr.1
  have hk1 : σ (1 : Int).toNat = 1 ∨ σ (1 : Int).toNat = 0 := by { rw [hm1]; unfold mkn; split <;> simp }
  have hk2 : σ (1 : Int).toNat = 0 ↔ x.2.2.1.1 = 0 := by { rw [hm1]; unfold mkn; split <;> omega }
  have hs3 : σ (7 : Int).toNat = x.1 3 := hms 3 (by decide) (by decide)
  have hqm := jmulb hse.2.2.2.1 hse.2.2.2.2 hr.1 hr.2
  have hqe : σ (7 : Int).toNat * σ (2 : Int).toNat = x.1 3 * x.2.2.1.1 := by rw [hs3, hm2]
  have hb0 := hmA.2.2.2.1
  have hb1 := hmB.2.2.2.1
  have hc0 := hmA.2.1
  have hc1 := hmB.2.1
  have hp0 := hmP.1
  refine jk_iload_n (q := 1) h dX10_count_0 rfl rfl ?_
  refine jk_iconst (q := 2) h dX10_count_1 rfl ?_
  refine jk_bipush (q := 4) h dX10_count_2 (by decide) rfl ?_
  refine jk_callS (q := 7) h hX (c_X10_in ⟨by omega, by omega⟩ ⟨by omega, by omega⟩ ⟨by omega, by omega⟩) ms_X10_in dX10_count_4 ml_X10_35 ⟨rfl, Nat.le_refl _⟩ rfl rfl (Nat.le_of_ble_eq_true rfl) (Nat.le_of_ble_eq_true rfl) rfl rfl (Nat.le_of_ble_eq_true rfl) rfl (fun v9 n9 M9 hp9 => ?_)
  obtain ⟨rfl, rfl, rfl⟩ := hp9
  refine jk_if_neB (q := 10) (tgt := 13) h dX10_count_7 (by decide) rfl (fun c7 => ?_) (fun c7 => ?_)
  · refine jk_iload_n (q := 14) h dX10_count_13 rfl rfl ?_
    refine jk_iconst (q := 15) h dX10_count_14 rfl ?_
    refine jk_icmp_ge (q := 18) (tgt := 42) h dX10_count_15 (by decide) rfl ⟨by omega, by omega⟩ ⟨by omega, by omega⟩ (fun c15 => ?_) (fun c15 => ?_)
    · refine jk_iload_n (q := 43) h dX10_count_42 rfl rfl ?_
      refine jk_bipush (q := 45) h dX10_count_43 (by decide) rfl ?_
      refine jk_icmp_ge (q := 48) (tgt := 155) h dX10_count_45 (by decide) rfl ⟨by omega, by omega⟩ ⟨by omega, by omega⟩ (fun c45 => ?_) (fun c45 => ?_)
      · refine jk_iload_n (q := 156) h dX10_count_155 rfl rfl ?_
        refine jk_bipush (q := 158) h dX10_count_156 (by decide) rfl ?_
        refine jk_icmp_ge (q := 161) (tgt := 175) h dX10_count_158 (by decide) rfl ⟨by omega, by omega⟩ ⟨by omega, by omega⟩ (fun c158 => ?_) (fun c158 => ?_)
        · refine jk_iload_n (q := 176) h dX10_count_175 rfl rfl ?_
          refine jk_bipush (q := 178) h dX10_count_176 (by decide) rfl ?_
          refine jk_icmp_ne (q := 181) (tgt := 188) h dX10_count_178 (by decide) rfl ⟨by omega, by omega⟩ ⟨by omega, by omega⟩ (fun c178 => ?_) (fun c178 => ?_)
          · refine jk_aload_n (q := 189) h dX10_count_188 rfl rfl ?_
            refine jk_get (q := 192) h fg_X10_39 dX10_count_189 (hM.at 0 rfl) rfl rfl ?_
            exact jk_iret h hR dX10_count_192 (Nat.le_of_ble_eq_true rfl) (Nat.le_of_ble_eq_true rfl) (⟨_, rfl, rfl, rfl, by refine ⟨fun z9 => ?_, fun z9 => ?_, fun z9 => ?_, fun z9 => ?_, fun z9 => ?_, fun z9 => ?_, fun z9 => ?_, fun z9 => ?_, fun z9 => ?_, fun z9 => ?_, fun z9 => ?_, fun z9 => ?_, fun z9 => ?_, fun z9 => ?_, fun z9 => ?_, fun z9 => ?_⟩ <;> first | (exfalso; omega) | exact hz | exact hm0 | exact hm2 | exact hm3 | rfl | exact hp0 | (subst z9; first | exact hb0 | exact hb1 | exact hc0 | exact hc1 | exact hms 0 (by decide) (by decide) | exact hms 1 (by decide) (by decide) | exact hms 2 (by decide) (by decide) | exact hms 3 (by decide) (by decide))⟩)
          · refine jk_aload_n (q := 182) h dX10_count_181 rfl rfl ?_
            refine jk_get (q := 185) h fg_X10_148 dX10_count_182 (hM.at 0 rfl) rfl rfl ?_
            refine jk_goto (q := 188) (tgt := 192) h dX10_count_185 (by decide) ?_
            exact jk_iret h hR dX10_count_192 (Nat.le_of_ble_eq_true rfl) (Nat.le_of_ble_eq_true rfl) (⟨_, rfl, rfl, rfl, by refine ⟨fun z9 => ?_, fun z9 => ?_, fun z9 => ?_, fun z9 => ?_, fun z9 => ?_, fun z9 => ?_, fun z9 => ?_, fun z9 => ?_, fun z9 => ?_, fun z9 => ?_, fun z9 => ?_, fun z9 => ?_, fun z9 => ?_, fun z9 => ?_, fun z9 => ?_, fun z9 => ?_⟩ <;> first | (exfalso; omega) | exact hz | exact hm0 | exact hm2 | exact hm3 | rfl | exact hp0 | (subst z9; first | exact hb0 | exact hb1 | exact hc0 | exact hc1 | exact hms 0 (by decide) (by decide) | exact hms 1 (by decide) (by decide) | exact hms 2 (by decide) (by decide) | exact hms 3 (by decide) (by decide))⟩)
        · refine jk_aload_n (q := 162) h dX10_count_161 rfl rfl ?_
          refine jk_get (q := 165) h fg_X10_7 dX10_count_162 (hM.at 0 rfl) rfl rfl ?_
          refine jk_iconst (q := 166) h dX10_count_165 rfl ?_
          refine jk_iload_n (q := 167) h dX10_count_166 rfl rfl ?_
          refine jk_iadd (q := 168) h dX10_count_167 rfl ?_
          refine jk_bipush (q := 170) h dX10_count_168 (by decide) rfl ?_
          refine jk_isub (q := 171) h dX10_count_170 rfl ?_
          refine jk_ialdI (q := 172) h dX10_count_171 (hM.at 1 rfl) (by omega) (by omega) rfl rfl ?_
          refine jk_goto (q := 175) (tgt := 192) h dX10_count_172 (by decide) ?_
          exact jk_iret h hR dX10_count_192 (Nat.le_of_ble_eq_true rfl) (Nat.le_of_ble_eq_true rfl) (⟨_, rfl, rfl, rfl, by refine ⟨fun z9 => ?_, fun z9 => ?_, fun z9 => ?_, fun z9 => ?_, fun z9 => ?_, fun z9 => ?_, fun z9 => ?_, fun z9 => ?_, fun z9 => ?_, fun z9 => ?_, fun z9 => ?_, fun z9 => ?_, fun z9 => ?_, fun z9 => ?_, fun z9 => ?_, fun z9 => ?_⟩ <;> first | (exfalso; omega) | exact hz | exact hm0 | exact hm2 | exact hm3 | rfl | exact hp0 | (subst z9; first | exact hb0 | exact hb1 | exact hc0 | exact hc1 | exact hms 0 (by decide) (by decide) | exact hms 1 (by decide) (by decide) | exact hms 2 (by decide) (by decide) | exact hms 3 (by decide) (by decide))⟩)
      · have jn93 : ∀ (z : Int) (hz : z = stlR x), jJ X 93 [some (.ref (m)), some (jI (w)), none] [jI z] n M 0 0 := by
          intro z hz
          have hzb : -6 ≤ z ∧ z ≤ 1 := by { rw [hz]; unfold stlR; split; split <;> omega; omega }
          refine jk_istore_n (q := 94) h dX10_count_93 rfl (Nat.le_of_ble_eq_true rfl) rfl rfl ?_
          refine jk_iload_n (q := 95) h dX10_count_94 rfl rfl ?_
          refine jk_iconst (q := 96) h dX10_count_95 rfl ?_
          refine jk_icmp_ne (q := 99) (tgt := 103) h dX10_count_96 (by decide) rfl ⟨by omega, by omega⟩ ⟨by omega, by omega⟩ (fun c96 => ?_) (fun c96 => ?_)
          · refine jk_iload_n (q := 104) h dX10_count_103 rfl rfl ?_
            refine jk_bipush (q := 106) h dX10_count_104 (by decide) rfl ?_
            refine jk_icmp_ge (q := 109) (tgt := 124) h dX10_count_106 (by decide) rfl ⟨by omega, by omega⟩ ⟨by omega, by omega⟩ (fun c106 => ?_) (fun c106 => ?_)
            · refine jk_iload_n (q := 125) h dX10_count_124 rfl rfl ?_
              refine jk_bipush (q := 127) h dX10_count_125 (by decide) rfl ?_
              refine jk_icmp_ge (q := 130) (tgt := 146) h dX10_count_127 (by decide) rfl ⟨by omega, by omega⟩ ⟨by omega, by omega⟩ (fun c127 => ?_) (fun c127 => ?_)
              · refine jk_aload_n (q := 147) h dX10_count_146 rfl rfl ?_
                refine jk_get (q := 150) h fg_X10_7 dX10_count_147 (hM.at 0 rfl) rfl rfl ?_
                refine jk_sipush (q := 153) h dX10_count_150 (by decide) rfl ?_
                refine jk_ialdI (q := 154) h dX10_count_153 (hM.at 1 rfl) (by omega) (by omega) rfl rfl ?_
                exact jk_iret h hR dX10_count_154 (Nat.le_of_ble_eq_true rfl) (Nat.le_of_ble_eq_true rfl) (⟨_, rfl, rfl, rfl, by refine ⟨fun z9 => ?_, fun z9 => ?_, fun z9 => ?_, fun z9 => ?_, fun z9 => ?_, fun z9 => ?_, fun z9 => ?_, fun z9 => ?_, fun z9 => ?_, fun z9 => ?_, fun z9 => ?_, fun z9 => ?_, fun z9 => ?_, fun z9 => ?_, fun z9 => ?_, fun z9 => ?_⟩ <;> first | (exfalso; omega) | exact hz | exact hm0 | exact hm2 | exact hm3 | rfl | exact hp0 | (subst z9; first | exact hb0 | exact hb1 | exact hc0 | exact hc1 | exact hms 0 (by decide) (by decide) | exact hms 1 (by decide) (by decide) | exact hms 2 (by decide) (by decide) | exact hms 3 (by decide) (by decide))⟩)
              · refine jk_aload_n (q := 131) h dX10_count_130 rfl rfl ?_
                refine jk_get (q := 134) h fg_X10_7 dX10_count_131 (hM.at 0 rfl) rfl rfl ?_
                refine jk_sipush (q := 137) h dX10_count_134 (by decide) rfl ?_
                refine jk_iload_n (q := 138) h dX10_count_137 rfl rfl ?_
                refine jk_iadd (q := 139) h dX10_count_138 rfl ?_
                refine jk_bipush (q := 141) h dX10_count_139 (by decide) rfl ?_
                refine jk_isub (q := 142) h dX10_count_141 rfl ?_
                refine jk_ialdI (q := 143) h dX10_count_142 (hM.at 1 rfl) (by omega) (by omega) rfl rfl ?_
                refine jk_goto (q := 146) (tgt := 154) h dX10_count_143 (by decide) ?_
                exact jk_iret h hR dX10_count_154 (Nat.le_of_ble_eq_true rfl) (Nat.le_of_ble_eq_true rfl) (⟨_, rfl, rfl, rfl, by refine ⟨fun z9 => ?_, fun z9 => ?_, fun z9 => ?_, fun z9 => ?_, fun z9 => ?_, fun z9 => ?_, fun z9 => ?_, fun z9 => ?_, fun z9 => ?_, fun z9 => ?_, fun z9 => ?_, fun z9 => ?_, fun z9 => ?_, fun z9 => ?_, fun z9 => ?_, fun z9 => ?_⟩ <;> first | (exfalso; omega) | exact hz | exact hm0 | exact hm2 | exact hm3 | rfl | exact hp0 | (subst z9; first | exact hb0 | exact hb1 | exact hc0 | exact hc1 | exact hms 0 (by decide) (by decide) | exact hms 1 (by decide) (by decide) | exact hms 2 (by decide) (by decide) | exact hms 3 (by decide) (by decide))⟩)
            · refine jk_aload_n (q := 110) h dX10_count_109 rfl rfl ?_
              refine jk_get (q := 113) h fg_X10_7 dX10_count_110 (hM.at 0 rfl) rfl rfl ?_
              refine jk_sipush (q := 116) h dX10_count_113 (by decide) rfl ?_
              refine jk_iload_n (q := 117) h dX10_count_116 rfl rfl ?_
              refine jk_iadd (q := 118) h dX10_count_117 rfl ?_
              refine jk_iconst (q := 119) h dX10_count_118 rfl ?_
              refine jk_isub (q := 120) h dX10_count_119 rfl ?_
              refine jk_ialdI (q := 121) h dX10_count_120 (hM.at 1 rfl) (by omega) (by omega) rfl rfl ?_
              refine jk_goto (q := 124) (tgt := 154) h dX10_count_121 (by decide) ?_
              exact jk_iret h hR dX10_count_154 (Nat.le_of_ble_eq_true rfl) (Nat.le_of_ble_eq_true rfl) (⟨_, rfl, rfl, rfl, by refine ⟨fun z9 => ?_, fun z9 => ?_, fun z9 => ?_, fun z9 => ?_, fun z9 => ?_, fun z9 => ?_, fun z9 => ?_, fun z9 => ?_, fun z9 => ?_, fun z9 => ?_, fun z9 => ?_, fun z9 => ?_, fun z9 => ?_, fun z9 => ?_, fun z9 => ?_, fun z9 => ?_⟩ <;> first | (exfalso; omega) | exact hz | exact hm0 | exact hm2 | exact hm3 | rfl | exact hp0 | (subst z9; first | exact hb0 | exact hb1 | exact hc0 | exact hc1 | exact hms 0 (by decide) (by decide) | exact hms 1 (by decide) (by decide) | exact hms 2 (by decide) (by decide) | exact hms 3 (by decide) (by decide))⟩)
          · refine jk_iload_n (q := 100) h dX10_count_99 rfl rfl ?_
            refine jk_goto (q := 103) (tgt := 154) h dX10_count_100 (by decide) ?_
            exact jk_iret h hR dX10_count_154 (Nat.le_of_ble_eq_true rfl) (Nat.le_of_ble_eq_true rfl) (⟨_, rfl, rfl, rfl, by refine ⟨fun z9 => ?_, fun z9 => ?_, fun z9 => ?_, fun z9 => ?_, fun z9 => ?_, fun z9 => ?_, fun z9 => ?_, fun z9 => ?_, fun z9 => ?_, fun z9 => ?_, fun z9 => ?_, fun z9 => ?_, fun z9 => ?_, fun z9 => ?_, fun z9 => ?_, fun z9 => ?_⟩ <;> first | (exfalso; omega) | exact hz | exact hm0 | exact hm2 | exact hm3 | rfl | exact hp0 | (subst z9; first | exact hb0 | exact hb1 | exact hc0 | exact hc1 | exact hms 0 (by decide) (by decide) | exact hms 1 (by decide) (by decide) | exact hms 2 (by decide) (by decide) | exact hms 3 (by decide) (by decide))⟩)
        refine jk_aload_n (q := 49) h dX10_count_48 rfl rfl ?_
        refine jk_get (q := 52) h fg_X10_7 dX10_count_49 (hM.at 0 rfl) rfl rfl ?_
        refine jk_iconst (q := 53) h dX10_count_52 rfl ?_
        refine jk_ialdI (q := 54) h dX10_count_53 (hM.at 1 rfl) (by omega) (by omega) rfl rfl ?_
        refine jk_if_ne (q := 57) (tgt := 62) h dX10_count_54 (by decide) rfl ⟨by omega, by omega⟩ (fun c54 => ?_) (fun c54 => ?_)
        · refine jk_bipush (q := 64) h dX10_count_62 (by decide) rfl ?_
          refine jk_aload_n (q := 65) h dX10_count_64 rfl rfl ?_
          refine jk_get (q := 68) h fg_X10_7 dX10_count_65 (hM.at 0 rfl) rfl rfl ?_
          refine jk_iconst (q := 69) h dX10_count_68 rfl ?_
          refine jk_ialdI (q := 70) h dX10_count_69 (hM.at 1 rfl) (by omega) (by omega) rfl rfl ?_
          refine jk_imul (q := 71) h dX10_count_70 rfl ?_
          refine jk_aload_n (q := 72) h dX10_count_71 rfl rfl ?_
          refine jk_get (q := 75) h fg_X10_7 dX10_count_72 (hM.at 0 rfl) rfl rfl ?_
          refine jk_bipush (q := 77) h dX10_count_75 (by decide) rfl ?_
          refine jk_ialdI (q := 78) h dX10_count_77 (hM.at 1 rfl) (by omega) (by omega) rfl rfl ?_
          refine jk_aload_n (q := 79) h dX10_count_78 rfl rfl ?_
          refine jk_get (q := 82) h fg_X10_7 dX10_count_79 (hM.at 0 rfl) rfl rfl ?_
          refine jk_iconst (q := 83) h dX10_count_82 rfl ?_
          refine jk_ialdI (q := 84) h dX10_count_83 (hM.at 1 rfl) (by omega) (by omega) rfl rfl ?_
          refine jk_imul (q := 85) h dX10_count_84 rfl ?_
          refine jk_icmp_le (q := 88) (tgt := 92) h dX10_count_85 (by decide) rfl ⟨by omega, by omega⟩ ⟨by omega, by omega⟩ (fun c85 => ?_) (fun c85 => ?_)
          · refine jk_iconst (q := 93) h dX10_count_92 rfl ?_
            exact jk_weak (jwk_s rfl (jwk_s rfl (jwk_n jwk_0))) (jn93 _ (by unfold stlR; first | (rw [if_neg (by omega)]; done) | (rw [if_pos (by omega), if_pos (by omega)]; done) | (rw [if_pos (by omega), if_neg (by omega)]; done)))
          · refine jk_iconst (q := 89) h dX10_count_88 rfl ?_
            refine jk_goto (q := 92) (tgt := 93) h dX10_count_89 (by decide) ?_
            exact jk_weak (jwk_s rfl (jwk_s rfl (jwk_n jwk_0))) (jn93 _ (by unfold stlR; first | (rw [if_neg (by omega)]; done) | (rw [if_pos (by omega), if_pos (by omega)]; done) | (rw [if_pos (by omega), if_neg (by omega)]; done)))
        · refine jk_bipush (q := 59) h dX10_count_57 (by decide) rfl ?_
          refine jk_goto (q := 62) (tgt := 93) h dX10_count_59 (by decide) ?_
          exact jk_weak (jwk_s rfl (jwk_s rfl (jwk_n jwk_0))) (jn93 _ (by unfold stlR; first | (rw [if_neg (by omega)]; done) | (rw [if_pos (by omega), if_pos (by omega)]; done) | (rw [if_pos (by omega), if_neg (by omega)]; done)))
    · refine jk_aload_n (q := 19) h dX10_count_18 rfl rfl ?_
      refine jk_get (q := 22) h fg_X10_7 dX10_count_19 (hM.at 0 rfl) rfl rfl ?_
      refine jk_iload_n (q := 23) h dX10_count_22 rfl rfl ?_
      refine jk_if_ne (q := 26) (tgt := 30) h dX10_count_23 (by decide) rfl ⟨by omega, by omega⟩ (fun c23 => ?_) (fun c23 => ?_)
      · refine jk_iload_n (q := 31) h dX10_count_30 rfl rfl ?_
        refine jk_iconst (q := 32) h dX10_count_31 rfl ?_
        refine jk_icmp_ne (q := 35) (tgt := 39) h dX10_count_32 (by decide) rfl ⟨by omega, by omega⟩ ⟨by omega, by omega⟩ (fun c32 => ?_) (fun c32 => ?_)
        · refine jk_iconst (q := 40) h dX10_count_39 rfl ?_
          refine jk_ialdI (q := 41) h dX10_count_40 (hM.at 1 rfl) (by omega) (by omega) rfl rfl ?_
          exact jk_iret h hR dX10_count_41 (Nat.le_of_ble_eq_true rfl) (Nat.le_of_ble_eq_true rfl) (⟨_, rfl, rfl, rfl, by refine ⟨fun z9 => ?_, fun z9 => ?_, fun z9 => ?_, fun z9 => ?_, fun z9 => ?_, fun z9 => ?_, fun z9 => ?_, fun z9 => ?_, fun z9 => ?_, fun z9 => ?_, fun z9 => ?_, fun z9 => ?_, fun z9 => ?_, fun z9 => ?_, fun z9 => ?_, fun z9 => ?_⟩ <;> first | (exfalso; omega) | exact hz | exact hm0 | exact hm2 | exact hm3 | rfl | exact hp0 | (subst z9; first | exact hb0 | exact hb1 | exact hc0 | exact hc1 | exact hms 0 (by decide) (by decide) | exact hms 1 (by decide) (by decide) | exact hms 2 (by decide) (by decide) | exact hms 3 (by decide) (by decide))⟩)
        · refine jk_iconst (q := 36) h dX10_count_35 rfl ?_
          refine jk_goto (q := 39) (tgt := 40) h dX10_count_36 (by decide) ?_
          refine jk_ialdI (q := 41) h dX10_count_40 (hM.at 1 rfl) (by omega) (by omega) rfl rfl ?_
          exact jk_iret h hR dX10_count_41 (Nat.le_of_ble_eq_true rfl) (Nat.le_of_ble_eq_true rfl) (⟨_, rfl, rfl, rfl, by refine ⟨fun z9 => ?_, fun z9 => ?_, fun z9 => ?_, fun z9 => ?_, fun z9 => ?_, fun z9 => ?_, fun z9 => ?_, fun z9 => ?_, fun z9 => ?_, fun z9 => ?_, fun z9 => ?_, fun z9 => ?_, fun z9 => ?_, fun z9 => ?_, fun z9 => ?_, fun z9 => ?_⟩ <;> first | (exfalso; omega) | exact hz | exact hm0 | exact hm2 | exact hm3 | rfl | exact hp0 | (subst z9; first | exact hb0 | exact hb1 | exact hc0 | exact hc1 | exact hms 0 (by decide) (by decide) | exact hms 1 (by decide) (by decide) | exact hms 2 (by decide) (by decide) | exact hms 3 (by decide) (by decide))⟩)
      · refine jk_iconst (q := 27) h dX10_count_26 rfl ?_
        refine jk_goto (q := 30) (tgt := 40) h dX10_count_27 (by decide) ?_
        refine jk_ialdI (q := 41) h dX10_count_40 (hM.at 1 rfl) (by omega) (by omega) rfl rfl ?_
        exact jk_iret h hR dX10_count_41 (Nat.le_of_ble_eq_true rfl) (Nat.le_of_ble_eq_true rfl) (⟨_, rfl, rfl, rfl, by refine ⟨fun z9 => ?_, fun z9 => ?_, fun z9 => ?_, fun z9 => ?_, fun z9 => ?_, fun z9 => ?_, fun z9 => ?_, fun z9 => ?_, fun z9 => ?_, fun z9 => ?_, fun z9 => ?_, fun z9 => ?_, fun z9 => ?_, fun z9 => ?_, fun z9 => ?_, fun z9 => ?_⟩ <;> first | (exfalso; omega) | exact hz | exact hm0 | exact hm2 | exact hm3 | rfl | exact hp0 | (subst z9; first | exact hb0 | exact hb1 | exact hc0 | exact hc1 | exact hms 0 (by decide) (by decide) | exact hms 1 (by decide) (by decide) | exact hms 2 (by decide) (by decide) | exact hms 3 (by decide) (by decide))⟩)
  · refine jk_bipush (q := 12) h dX10_count_10 (by decide) rfl ?_
    exact jk_iret h hR dX10_count_12 (Nat.le_of_ble_eq_true rfl) (Nat.le_of_ble_eq_true rfl) (⟨_, rfl, rfl, rfl, by refine ⟨fun z9 => ?_, fun z9 => ?_, fun z9 => ?_, fun z9 => ?_, fun z9 => ?_, fun z9 => ?_, fun z9 => ?_, fun z9 => ?_, fun z9 => ?_, fun z9 => ?_, fun z9 => ?_, fun z9 => ?_, fun z9 => ?_, fun z9 => ?_, fun z9 => ?_, fun z9 => ?_⟩ <;> first | (exfalso; omega) | exact hz | exact hm0 | exact hm2 | exact hm3 | rfl | exact hp0 | (subst z9; first | exact hb0 | exact hb1 | exact hc0 | exact hc1 | exact hms 0 (by decide) (by decide) | exact hms 1 (by decide) (by decide) | exact hms 2 (by decide) (by decide) | exact hms 3 (by decide) (by decide))⟩)
