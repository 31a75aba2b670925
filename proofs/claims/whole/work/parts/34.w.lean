/-! the reference: undo, saved states, the pad -/
abbrev win (ps : Nat → Int) (i : Nat) : Nat → Int := fun k => ps (455 * i + k)
def hkT (ps : Nat → Int) (kp : Int) (hk : Nat → TS) : Prop := ∀ j : Nat, (j : Int) < kp → mdT (win ps (kp - 1 - j).toNat) (hk j) ∧ stQ (hk j)
def slT (sv hd : Nat → Int) (sl : Nat → Option TS) : Prop := ∀ i : Nat, i < 2 → (sl i = none → hd i = 0) ∧ ∀ y, sl i = some y → hd i = 1 ∧ mdT (win sv i) y ∧ stQ y
def shS (ps : Nat → Int) (i : Int) : Nat → Int := fun k => if (k : Int) < i then ps (k + 455) else ps k
theorem shS_0 (ps : Nat → Int) : shS ps 0 = ps := by
  funext k
  unfold shS
  rw [if_neg (by omega)]
theorem shS_s {ps : Nat → Int} {i : Int} (h : 0 ≤ i) : jfup (shS ps i) i.toNat (shS ps i (i + 455).toNat) = shS ps (i + 1) := by
  funext k
  unfold jfup shS
  by_cases hk : k = i.toNat
  · subst hk
    rw [if_pos rfl, if_neg (by omega), if_pos (by omega), show (i + 455).toNat = i.toNat + 455 by omega]
  · rw [if_neg hk]
    by_cases h2 : (k : Int) < i
    · rw [if_pos h2, if_pos (by omega)]
    · rw [if_neg h2, if_neg (by omega)]
theorem hkT_sh {ps : Nat → Int} {hk : Nat → TS} (h : hkT ps 6 hk) : hkT (shS ps 2275) 5 hk := fun j hj => by
  obtain ⟨h1, h2⟩ := h j (by omega)
  refine ⟨h1.cong h2 (fun k hk => ?_), h2⟩
  show shS ps 2275 _ = ps _
  unfold shS
  rw [if_pos (by omega)]
  congr 1
  omega
theorem hkT_add {σ ps : Nat → Int} {x : TS} {kp : Int} {hk : Nat → TS} (h : hkT ps kp hk) (hb : 0 ≤ kp ∧ kp ≤ 5) (hm : mdT σ x) (hQ : stQ x) : hkT (lyS σ ps 0 (455 * kp) 455) (kp + 1) (fun j => if j = 0 then x else hk (j - 1)) := fun j hj => by
  cases j with
  | zero =>
    refine ⟨hm.cong hQ (fun k hk => ?_), hQ⟩
    show lyS σ ps 0 (455 * kp) 455 _ = σ k
    unfold lyS
    rw [if_pos (by omega)]
    congr 1
    omega
  | succ j =>
    obtain ⟨h1, h2⟩ := h j (by omega)
    refine ⟨h1.cong h2 (fun k hk => ?_), h2⟩
    show lyS σ ps 0 (455 * kp) 455 _ = ps _
    unfold lyS
    rw [if_neg (by omega)]
    congr 1
    omega
theorem ly_win {F G : Nat → Int} {i : Int} {y : TS} (hi : 0 ≤ i) (h : mdT (win F i.toNat) y) (hQ : stQ y) : mdT (lyS F G (455 * i) 0 455) y := h.cong hQ (fun k hk => by
  show lyS F G (455 * i) 0 455 k = F _
  unfold lyS
  rw [if_pos (by omega)]
  congr 1
  omega)
theorem slT_up {sv hd σ : Nat → Int} {sl : Nat → Option TS} {x : TS} {s : Int} (h : slT sv hd sl) (hs : 0 ≤ s ∧ s < 2) (hm : mdT σ x) (hQ : stQ x) : slT (lyS σ sv 0 (455 * s) 455) (jfup hd s.toNat 1) (fun k => if k = s.toNat then some x else sl k) := fun i hi => by
  by_cases e : i = s.toNat
  · subst e
    refine ⟨fun z => absurd z (by simp), fun y hy => ?_⟩
    simp only [if_true, Option.some.injEq] at hy
    subst hy
    refine ⟨jfup_s _ _ _, hm.cong hQ (fun k hk => ?_), hQ⟩
    show lyS σ sv 0 (455 * s) 455 _ = σ k
    unfold lyS
    rw [if_pos (by omega)]
    congr 1
    omega
  · obtain ⟨a, b⟩ := h i hi
    simp only [if_neg e]
    rw [jfup_n _ _ e]
    refine ⟨a, fun y hy => ?_⟩
    obtain ⟨b1, b2, b3⟩ := b y hy
    refine ⟨b1, b2.cong b3 (fun k hk => ?_), b3⟩
    show lyS σ sv 0 (455 * s) 455 _ = sv _
    unfold lyS
    rw [if_neg (by omega)]
def moP (M : jM) (m : Nat) (x : TS) (hl : Int) (hk : Nat → TS) (sl : Nat → Option TS) (sg : Nat → Int) (len : Int) : Prop := ∃ (σ τ ps sv hd pd : Nat → Int) (a9 : Int) (od : Nat → Int) (on : Int) (lf : Nat → Int), jPic M m (mdL m σ τ ps hl sv hd pd len a9 od on lf) ∧ mdT σ x ∧ stQ x ∧ hkT ps hl hk ∧ slT sv hd sl ∧ (∀ k : Nat, (k : Int) < len → pd k = sg k) ∧ (0 ≤ hl ∧ hl ≤ 6) ∧ pdQ sg len
theorem moP.keep {M M2 : jM} {m b k : Nat} {x : TS} {hl : Int} {hk : Nat → TS} {sl : Nat → Option TS} {sg : Nat → Int} {len : Int} (h : moP M m x hl hk sl sg len) (ho : jout M M2 b k) (hd : m + 9 ≤ b ∨ b + k ≤ m) : moP M2 m x hl hk sl sg len := by
  obtain ⟨σ, τ, ps, sv, hd9, pd, a9, od, on, lf, h1, h2⟩ := h
  exact ⟨σ, τ, ps, sv, hd9, pd, a9, od, on, lf, h1.keep ho 9 rfl (by omega), h2⟩
theorem moP.lo {M M2 : jM} {m lo e k : Nat} {x : TS} {hl : Int} {hk : Nat → TS} {sl : Nat → Option TS} {sg : Nat → Int} {len : Int} (h : moP M m x hl hk sl sg len) (ho : jlo M M2 lo e k) (h1 : m + 9 ≤ lo) (h2 : e + k ≤ m) : moP M2 m x hl hk sl sg len := by
  obtain ⟨σ, τ, ps, sv, hd9, pd, a9, od, on, lf, h3, h4⟩ := h
  exact ⟨σ, τ, ps, sv, hd9, pd, a9, od, on, lf, h3.keepl ho 9 rfl h1 (Or.inr h2), h4⟩

set_option maxHeartbeats 4000000 in
set_option maxRecDepth 100000 in
theorem c_X10_records {l : Launch} {D : va_G} {b0 : Nat} {n : Nat} {M : jM} {m : Nat} {σ τ ps : Nat → Int} {kp : Int} {sv hd pd : Nat → Int} {pn a9 : Int} {od : Nat → Int} {on : Int} {lf : Nat → Int} (hM : jPic M m (mdL m σ τ ps kp sv hd pd pn a9 od on lf)) {x : TS} (hm : mdT σ x) (hQ : stQ x) {hk : Nat → TS} (hkp : 0 ≤ kp ∧ kp ≤ 6) (hh : hkT ps kp hk) : jCtr l D b0 yX10_records cX10_records 2 none 1 0 0 [.ref m] n M (fun v n2 M2 => none = v ∧ n = n2 ∧ (∃ ps2, jPic M2 m (mdL m σ τ ps2 (jmn (kp + 1) 6) sv hd pd pn a9 od on lf) ∧ hkT ps2 (jmn (kp + 1) 6) (fun j => if j = 0 then x else hk (j - 1))) ∧ jout M M2 m 9) := by
  refine jctr (lv := [some (.ref m), none]) RX10 "records" rfl rfl (by decide) (Nat.le_of_ble_eq_true rfl) rfl ?_
  intro X h hR hX
  have ho := jout.rf M m 9
  have jn50 : ∀ (k9 : Int) (p9 : Nat → Int) (M9 : jM) (hkb : 0 ≤ k9 ∧ k9 ≤ 5) (hke : k9 + 1 = jmn (kp + 1) 6) (hh9 : hkT p9 k9 hk) (hM : jPic M9 m (mdL m σ τ p9 k9 sv hd pd pn a9 od on lf)) (ho : jout M M9 m 9), jJ X 50 [some (.ref (m)), none] [] n M9 0 0 := by
    intro k9 p9 M9 hkb hke hh9 hM ho
    refine jk_aload_n (q := 51) h dX10_records_50 rfl rfl ?_
    refine jk_get (q := 54) h fg_X10_7 dX10_records_51 (hM.at 0 rfl) rfl rfl ?_
    refine jk_iconst (q := 55) h dX10_records_54 rfl ?_
    refine jk_aload_n (q := 56) h dX10_records_55 rfl rfl ?_
    refine jk_get (q := 59) h fg_X10_16 dX10_records_56 (hM.at 0 rfl) rfl rfl ?_
    refine jk_sipush (q := 62) h dX10_records_59 (by decide) rfl ?_
    refine jk_aload_n (q := 63) h dX10_records_62 rfl rfl ?_
    refine jk_get (q := 66) h fg_X10_39 dX10_records_63 (hM.at 0 rfl) rfl rfl ?_
    refine jk_imul (q := 67) h dX10_records_66 rfl ?_
    refine jk_callS (q := 70) h hX (c_X10_lays (jPic_c (hM.at 1 rfl)) (jPic_c (hM.at 3 rfl)) (by omega) ⟨by omega, by omega⟩ ⟨by omega, by omega⟩ rfl rfl) ms_X10_lays dX10_records_67 ml_X10_43 ⟨rfl, Nat.le_refl _⟩ rfl rfl (Nat.le_of_ble_eq_true rfl) (Nat.le_of_ble_eq_true rfl) rfl rfl (Nat.le_of_ble_eq_true rfl) rfl (fun v9 n9 M_1 hp9 => ?_)
    obtain ⟨rfl, rfl, s_1⟩ := hp9
    have hM := hM.put (i := 3) s_1 rfl
    have ho := ho.st (i := 3) s_1 (by omega)
    refine jk_aload_n (q := 71) h dX10_records_70 rfl rfl ?_
    refine jk_dup (q := 72) h dX10_records_71 rfl rfl ?_
    refine jk_get (q := 75) h fg_X10_39 dX10_records_72 (hM.at 0 rfl) rfl rfl ?_
    refine jk_iconst (q := 76) h dX10_records_75 rfl ?_
    refine jk_iadd (q := 77) h dX10_records_76 rfl ?_
    refine jk_put (q := 80) h (fp_X10_39 _) dX10_records_77 (hM.at 0 rfl) (Nat.le_of_ble_eq_true rfl) rfl (fun M_2 s_2 => ?_)
    have hM := hM.put (i := 0) s_2 rfl
    have ho := ho.st (i := 0) s_2 (by omega)
    exact jk_vret h hR dX10_records_80 (Nat.le_of_ble_eq_true rfl) (Nat.le_of_ble_eq_true rfl) ⟨rfl, rfl, ⟨_, by rw [← hke]; exact hM, by rw [← hke]; exact hkT_add hh9 hkb hm hQ⟩, ho⟩
  refine jk_aload_n (q := 1) h dX10_records_0 rfl rfl ?_
  refine jk_get (q := 4) h fg_X10_39 dX10_records_1 (hM.at 0 rfl) rfl rfl ?_
  refine jk_bipush (q := 6) h dX10_records_4 (by decide) rfl ?_
  refine jk_icmp_ne (q := 9) (tgt := 50) h dX10_records_6 (by decide) rfl ⟨by omega, by omega⟩ ⟨by omega, by omega⟩ (fun c6 => ?_) (fun c6 => ?_)
  · exact jk_weak (jwk_s rfl (jwk_n jwk_0)) (jn50 _ _ _ (by omega) (by unfold jmn; split <;> omega) (by first | exact hh | exact hh5) hM ho)
  · have hk6 : kp = 6 := by omega
    refine jk_iconst (q := 10) h dX10_records_9 rfl ?_
    refine jk_istore_n (q := 11) h dX10_records_10 rfl (Nat.le_of_ble_eq_true rfl) rfl rfl ?_
    have lp11 : ∀ (k9 : Nat) (i : Int) (M9 : jM) (hi1 : 0 ≤ i) (hi2 : i ≤ 2275) (hM : jPic M9 m (mdL m σ τ (shS ps i) kp sv hd pd pn a9 od on lf)) (ho : jout M M9 m 9) (hk9 : (2275 - i).toNat = k9), jJ X 11 [some (.ref (m)), some (jI (i))] [] n M9 0 0 := by
      intro k9
      induction k9 using Nat.strongRecOn with
      | _ k9 ih11 =>
        intro i M9 hi1 hi2 hM ho hk9
        refine jk_iload_n (q := 12) h dX10_records_11 rfl rfl ?_
        refine jk_sipush (q := 15) h dX10_records_12 (by decide) rfl ?_
        refine jk_icmp_ge (q := 18) (tgt := 40) h dX10_records_15 (by decide) rfl ⟨by omega, by omega⟩ ⟨by omega, by omega⟩ (fun c15 => ?_) (fun c15 => ?_)
        · have hi3 : i = 2275 := by omega
          subst hi3
          have hh5 : hkT (shS ps 2275) (kp - 1) hk := by { rw [show kp - 1 = 5 by omega]; rw [hk6] at hh; exact hkT_sh hh }
          refine jk_aload_n (q := 41) h dX10_records_40 rfl rfl ?_
          refine jk_dup (q := 42) h dX10_records_41 rfl rfl ?_
          refine jk_get (q := 45) h fg_X10_39 dX10_records_42 (hM.at 0 rfl) rfl rfl ?_
          refine jk_iconst (q := 46) h dX10_records_45 rfl ?_
          refine jk_isub (q := 47) h dX10_records_46 rfl ?_
          refine jk_put (q := 50) h (fp_X10_39 _) dX10_records_47 (hM.at 0 rfl) (Nat.le_of_ble_eq_true rfl) rfl (fun M_3 s_3 => ?_)
          have hM := hM.put (i := 0) s_3 rfl
          have ho := ho.st (i := 0) s_3 (by omega)
          exact jk_weak (jwk_s rfl (jwk_n jwk_0)) (jn50 _ _ _ (by omega) (by unfold jmn; split <;> omega) (by first | exact hh | exact hh5) hM ho)
        · refine jk_aload_n (q := 19) h dX10_records_18 rfl rfl ?_
          refine jk_get (q := 22) h fg_X10_16 dX10_records_19 (hM.at 0 rfl) rfl rfl ?_
          refine jk_iload_n (q := 23) h dX10_records_22 rfl rfl ?_
          refine jk_aload_n (q := 24) h dX10_records_23 rfl rfl ?_
          refine jk_get (q := 27) h fg_X10_16 dX10_records_24 (hM.at 0 rfl) rfl rfl ?_
          refine jk_iload_n (q := 28) h dX10_records_27 rfl rfl ?_
          refine jk_sipush (q := 31) h dX10_records_28 (by decide) rfl ?_
          refine jk_iadd (q := 32) h dX10_records_31 rfl ?_
          refine jk_ialdI (q := 33) h dX10_records_32 (hM.at 3 rfl) (by omega) (by omega) rfl rfl ?_
          refine jk_iast (q := 34) h dX10_records_33 (hM.at 3 rfl) (by omega) (by omega) rfl rfl (fun M_4 s_4 => ?_)
          have hM := hM.put (i := 3) s_4 rfl
          have ho := ho.st (i := 3) s_4 (by omega)
          refine jk_iinc (q := 37) h dX10_records_34 rfl rfl rfl rfl ?_
          refine jk_goto (q := 40) (tgt := 11) h dX10_records_37 (by decide) ?_
          exact jk_weak (jwk_s rfl (jwk_s rfl jwk_0)) (ih11 _ (by omega) _ _ (by omega) (by omega) (by rw [← shS_s hi1]; exact hM) ho rfl)
    exact jk_weak (jwk_s rfl (jwk_s rfl jwk_0)) (lp11 _ _ _ (by omega) (by omega) (by rw [shS_0]; exact hM) ho rfl)

theorem jmn_b {hl : Int} (h : 0 ≤ hl ∧ hl ≤ 6) : 0 ≤ jmn (hl + 1) 6 ∧ jmn (hl + 1) 6 ≤ 6 := by unfold jmn; split <;> omega

set_option maxHeartbeats 4000000 in
set_option maxRecDepth 100000 in
theorem c_X10_undo {l : Launch} {D : va_G} {b0 : Nat} {n : Nat} {M : jM} {m : Nat} {x : TS} {hl : Int} {hk : Nat → TS} {sl : Nat → Option TS} {sg : Nat → Int} {len : Int} (hW : moP M m x hl hk sl sg len) : jCtr l D b0 yX10_undo cX10_undo 1 (some .int) 2 0 0 [.ref m] n M (fun v9 n2 M2 => ∃ r : Int, some (jI r) = v9 ∧ n = n2 ∧ ((hl = 0 ∧ r = -5 ∧ moP M2 m x hl hk sl sg len) ∨ (0 < hl ∧ r = hl - 1 ∧ moP M2 m (hk 0) (hl - 1) (fun j => hk (j + 1)) sl sg len)) ∧ jout M M2 m 9) := by
  refine jctr (lv := [some (.ref m)]) RX10 "undo" rfl rfl (by decide) (Nat.le_of_ble_eq_true rfl) rfl ?_
  intro X h hR hX
  obtain ⟨σ, τ, ps, sv, hd, pd, a9, od, on, lf, hM, hm, hQ, hh, hsl, hpd, hkp, hpQ⟩ := id hW
  obtain ⟨hmr, ⟨hm1, hm2, hm3⟩, hms, hmA, hmB, hmP⟩ := id hm
  obtain ⟨hse, htb, hr, hch, hOA, hOB, hOP⟩ := id hQ
  obtain ⟨hya, hyb, hys⟩ := id htb
  have hm0 := hmr.1
  have hk1 : σ (1 : Int).toNat = 1 ∨ σ (1 : Int).toNat = 0 := by { rw [hm1]; unfold mkn; split <;> simp }
  have hk2 : σ (1 : Int).toNat = 0 ↔ x.2.2.1.1 = 0 := by { rw [hm1]; unfold mkn; split <;> omega }
  have ho := jout.rf M m 9
  refine jk_aload_n (q := 1) h dX10_undo_0 rfl rfl ?_
  refine jk_get (q := 4) h fg_X10_39 dX10_undo_1 (hM.at 0 rfl) rfl rfl ?_
  refine jk_if_ne (q := 7) (tgt := 10) h dX10_undo_4 (by decide) rfl ⟨by omega, by omega⟩ (fun c4 => ?_) (fun c4 => ?_)
  · obtain ⟨hh1, hh2⟩ := hh 0 (by omega)
    refine jk_aload_n (q := 11) h dX10_undo_10 rfl rfl ?_
    refine jk_dup (q := 12) h dX10_undo_11 rfl rfl ?_
    refine jk_get (q := 15) h fg_X10_39 dX10_undo_12 (hM.at 0 rfl) rfl rfl ?_
    refine jk_iconst (q := 16) h dX10_undo_15 rfl ?_
    refine jk_isub (q := 17) h dX10_undo_16 rfl ?_
    refine jk_put (q := 20) h (fp_X10_39 _) dX10_undo_17 (hM.at 0 rfl) (Nat.le_of_ble_eq_true rfl) rfl (fun M_1 s_1 => ?_)
    have hM := hM.put (i := 0) s_1 rfl
    have ho := ho.st (i := 0) s_1 (by omega)
    refine jk_aload_n (q := 21) h dX10_undo_20 rfl rfl ?_
    refine jk_get (q := 24) h fg_X10_16 dX10_undo_21 (hM.at 0 rfl) rfl rfl ?_
    refine jk_sipush (q := 27) h dX10_undo_24 (by decide) rfl ?_
    refine jk_aload_n (q := 28) h dX10_undo_27 rfl rfl ?_
    refine jk_get (q := 31) h fg_X10_39 dX10_undo_28 (hM.at 0 rfl) rfl rfl ?_
    refine jk_imul (q := 32) h dX10_undo_31 rfl ?_
    refine jk_aload_n (q := 33) h dX10_undo_32 rfl rfl ?_
    refine jk_get (q := 36) h fg_X10_7 dX10_undo_33 (hM.at 0 rfl) rfl rfl ?_
    refine jk_iconst (q := 37) h dX10_undo_36 rfl ?_
    refine jk_callS (q := 40) h hX (c_X10_lays (jPic_c (hM.at 3 rfl)) (jPic_c (hM.at 1 rfl)) (by omega) ⟨by omega, by omega⟩ ⟨by omega, by omega⟩ rfl rfl) ms_X10_lays dX10_undo_37 ml_X10_43 ⟨rfl, Nat.le_refl _⟩ rfl rfl (Nat.le_of_ble_eq_true rfl) (Nat.le_of_ble_eq_true rfl) rfl rfl (Nat.le_of_ble_eq_true rfl) rfl (fun v9 n9 M_2 hp9 => ?_)
    obtain ⟨rfl, rfl, s_2⟩ := hp9
    have hM := hM.put (i := 1) s_2 rfl
    have ho := ho.st (i := 1) s_2 (by omega)
    refine jk_aload_n (q := 41) h dX10_undo_40 rfl rfl ?_
    refine jk_get (q := 44) h fg_X10_39 dX10_undo_41 (hM.at 0 rfl) rfl rfl ?_
    exact jk_iret h hR dX10_undo_44 (Nat.le_of_ble_eq_true rfl) (Nat.le_of_ble_eq_true rfl) ⟨_, rfl, rfl, Or.inr ⟨by omega, rfl, ⟨_, _, _, _, _, _, _, _, _, _, hM, ly_win (by omega) (by rw [show (hl - 1 - ((0 : Nat) : Int)) = hl - 1 by omega] at hh1; exact hh1) hh2, hh2, (fun j hj => by have := hh (j + 1) (by omega); rw [show hl - 1 - ((j + 1 : Nat) : Int) = hl - 1 - 1 - (j : Int) by omega] at this; exact this), hsl, hpd, ⟨by omega, by omega⟩, hpQ⟩⟩, ho⟩
  · refine jk_bipush (q := 9) h dX10_undo_7 (by decide) rfl ?_
    exact jk_iret h hR dX10_undo_9 (Nat.le_of_ble_eq_true rfl) (Nat.le_of_ble_eq_true rfl) ⟨-5, rfl, rfl, Or.inl ⟨by omega, rfl, hW⟩, ho⟩

set_option maxHeartbeats 4000000 in
set_option maxRecDepth 100000 in
theorem c_X10_save {l : Launch} {D : va_G} {b0 : Nat} {n : Nat} {M : jM} {m : Nat} {x : TS} {hl : Int} {hk : Nat → TS} {sl : Nat → Option TS} {sg : Nat → Int} {len : Int} (hW : moP M m x hl hk sl sg len) {s : Int} (h_s : jRng s) : jCtr l D b0 yX10_save cX10_save 2 (some .int) 1 0 0 [.ref m, jI s] n M (fun v9 n2 M2 => ∃ r : Int, some (jI r) = v9 ∧ n = n2 ∧ ((¬ (0 ≤ s ∧ s < 2) ∧ r = -2 ∧ moP M2 m x hl hk sl sg len) ∨ ((0 ≤ s ∧ s < 2) ∧ r = x.2.1.2.2 ∧ moP M2 m x hl hk (fun k => if k = s.toNat then some x else sl k) sg len)) ∧ jout M M2 m 9) := by
  refine jctr (lv := [some (.ref m), some (jI s)]) RX10 "save" rfl rfl (by decide) (Nat.le_of_ble_eq_true rfl) rfl ?_
  intro X h hR hX
  obtain ⟨σ, τ, ps, sv, hd, pd, a9, od, on, lf, hM, hm, hQ, hh, hsl, hpd, hkp, hpQ⟩ := id hW
  obtain ⟨hmr, ⟨hm1, hm2, hm3⟩, hms, hmA, hmB, hmP⟩ := id hm
  obtain ⟨hse, htb, hr, hch, hOA, hOB, hOP⟩ := id hQ
  obtain ⟨hya, hyb, hys⟩ := id htb
  have hm0 := hmr.1
  have hk1 : σ (1 : Int).toNat = 1 ∨ σ (1 : Int).toNat = 0 := by { rw [hm1]; unfold mkn; split <;> simp }
  have hk2 : σ (1 : Int).toNat = 0 ↔ x.2.2.1.1 = 0 := by { rw [hm1]; unfold mkn; split <;> omega }
  have ho := jout.rf M m 9
  refine jk_iload_n (q := 1) h dX10_save_0 rfl rfl ?_
  refine jk_iconst (q := 2) h dX10_save_1 rfl ?_
  refine jk_iconst (q := 3) h dX10_save_2 rfl ?_
  refine jk_callS (q := 6) h hX (c_X10_in ⟨by omega, by omega⟩ ⟨by omega, by omega⟩ ⟨by omega, by omega⟩) ms_X10_in dX10_save_3 ml_X10_35 ⟨rfl, Nat.le_refl _⟩ rfl rfl (Nat.le_of_ble_eq_true rfl) (Nat.le_of_ble_eq_true rfl) rfl rfl (Nat.le_of_ble_eq_true rfl) rfl (fun v9 n9 M9 hp9 => ?_)
  obtain ⟨rfl, rfl, rfl⟩ := hp9
  refine jk_if_neB (q := 9) (tgt := 12) h dX10_save_6 (by decide) rfl (fun c6 => ?_) (fun c6 => ?_)
  · refine jk_aload_n (q := 13) h dX10_save_12 rfl rfl ?_
    refine jk_get (q := 16) h fg_X10_7 dX10_save_13 (hM.at 0 rfl) rfl rfl ?_
    refine jk_iconst (q := 17) h dX10_save_16 rfl ?_
    refine jk_aload_n (q := 18) h dX10_save_17 rfl rfl ?_
    refine jk_get (q := 21) h fg_X10_19 dX10_save_18 (hM.at 0 rfl) rfl rfl ?_
    refine jk_sipush (q := 24) h dX10_save_21 (by decide) rfl ?_
    refine jk_iload_n (q := 25) h dX10_save_24 rfl rfl ?_
    refine jk_imul (q := 26) h dX10_save_25 rfl ?_
    refine jk_callS (q := 29) h hX (c_X10_lays (jPic_c (hM.at 1 rfl)) (jPic_c (hM.at 4 rfl)) (by omega) ⟨by omega, by omega⟩ ⟨by omega, by omega⟩ rfl rfl) ms_X10_lays dX10_save_26 ml_X10_43 ⟨rfl, Nat.le_refl _⟩ rfl rfl (Nat.le_of_ble_eq_true rfl) (Nat.le_of_ble_eq_true rfl) rfl rfl (Nat.le_of_ble_eq_true rfl) rfl (fun v9 n9 M_1 hp9 => ?_)
    obtain ⟨rfl, rfl, s_1⟩ := hp9
    have hM := hM.put (i := 4) s_1 rfl
    have ho := ho.st (i := 4) s_1 (by omega)
    refine jk_aload_n (q := 30) h dX10_save_29 rfl rfl ?_
    refine jk_get (q := 33) h fg_X10_22 dX10_save_30 (hM.at 0 rfl) rfl rfl ?_
    refine jk_iload_n (q := 34) h dX10_save_33 rfl rfl ?_
    refine jk_iconst (q := 35) h dX10_save_34 rfl ?_
    refine jk_zast (q := 36) h dX10_save_35 (hM.at 5 rfl) (by omega) (by omega) rfl (by omega) rfl (fun M_2 s_2 => ?_)
    have hM := hM.put (i := 5) s_2 rfl
    have ho := ho.st (i := 5) s_2 (by omega)
    refine jk_aload_n (q := 37) h dX10_save_36 rfl rfl ?_
    refine jk_get (q := 40) h fg_X10_7 dX10_save_37 (hM.at 0 rfl) rfl rfl ?_
    refine jk_iconst (q := 41) h dX10_save_40 rfl ?_
    refine jk_ialdI (q := 42) h dX10_save_41 (hM.at 1 rfl) (by omega) (by omega) rfl rfl ?_
    exact jk_iret h hR dX10_save_42 (Nat.le_of_ble_eq_true rfl) (Nat.le_of_ble_eq_true rfl) ⟨_, rfl, rfl, Or.inr ⟨by omega, hm0, ⟨_, _, _, _, _, _, _, _, _, _, hM, hm, hQ, hh, slT_up hsl ⟨by omega, by omega⟩ hm hQ, hpd, hkp, hpQ⟩⟩, ho⟩
  · refine jk_bipush (q := 11) h dX10_save_9 (by decide) rfl ?_
    exact jk_iret h hR dX10_save_11 (Nat.le_of_ble_eq_true rfl) (Nat.le_of_ble_eq_true rfl) ⟨-2, rfl, rfl, Or.inl ⟨by omega, rfl, hW⟩, ho⟩

set_option maxHeartbeats 4000000 in
set_option maxRecDepth 100000 in
theorem c_X10_restore {l : Launch} {D : va_G} {b0 : Nat} {n : Nat} {M : jM} {m : Nat} {x : TS} {hl : Int} {hk : Nat → TS} {sl : Nat → Option TS} {sg : Nat → Int} {len : Int} (hW : moP M m x hl hk sl sg len) {s : Int} (h_s : jRng s) : jCtr l D b0 yX10_restore cX10_restore 2 (some .int) 2 0 0 [.ref m, jI s] n M (fun v9 n2 M2 => ∃ r : Int, some (jI r) = v9 ∧ n = n2 ∧ ((¬ (0 ≤ s ∧ s < 2) ∧ r = -2 ∧ moP M2 m x hl hk sl sg len) ∨ ((0 ≤ s ∧ s < 2) ∧ sl s.toNat = none ∧ r = -5 ∧ moP M2 m x hl hk sl sg len) ∨ ((0 ≤ s ∧ s < 2) ∧ ∃ y, sl s.toNat = some y ∧ r = y.2.1.2.2 ∧ moP M2 m y (rcH r hl) (rcK r x hk) sl sg len)) ∧ jout M M2 m 9) := by
  refine jctr (lv := [some (.ref m), some (jI s)]) RX10 "restore" rfl rfl (by decide) (Nat.le_of_ble_eq_true rfl) rfl ?_
  intro X h hR hX
  obtain ⟨σ, τ, ps, sv, hd, pd, a9, od, on, lf, hM, hm, hQ, hh, hsl, hpd, hkp, hpQ⟩ := id hW
  obtain ⟨hmr, ⟨hm1, hm2, hm3⟩, hms, hmA, hmB, hmP⟩ := id hm
  obtain ⟨hse, htb, hr, hch, hOA, hOB, hOP⟩ := id hQ
  obtain ⟨hya, hyb, hys⟩ := id htb
  have hm0 := hmr.1
  have hk1 : σ (1 : Int).toNat = 1 ∨ σ (1 : Int).toNat = 0 := by { rw [hm1]; unfold mkn; split <;> simp }
  have hk2 : σ (1 : Int).toNat = 0 ↔ x.2.2.1.1 = 0 := by { rw [hm1]; unfold mkn; split <;> omega }
  have ho := jout.rf M m 9
  refine jk_iload_n (q := 1) h dX10_restore_0 rfl rfl ?_
  refine jk_iconst (q := 2) h dX10_restore_1 rfl ?_
  refine jk_iconst (q := 3) h dX10_restore_2 rfl ?_
  refine jk_callS (q := 6) h hX (c_X10_in ⟨by omega, by omega⟩ ⟨by omega, by omega⟩ ⟨by omega, by omega⟩) ms_X10_in dX10_restore_3 ml_X10_35 ⟨rfl, Nat.le_refl _⟩ rfl rfl (Nat.le_of_ble_eq_true rfl) (Nat.le_of_ble_eq_true rfl) rfl rfl (Nat.le_of_ble_eq_true rfl) rfl (fun v9 n9 M9 hp9 => ?_)
  obtain ⟨rfl, rfl, rfl⟩ := hp9
  refine jk_if_neB (q := 9) (tgt := 12) h dX10_restore_6 (by decide) rfl (fun c6 => ?_) (fun c6 => ?_)
  · have hs2 := hsl s.toNat (by omega)
    have hsb : hd s.toNat = 0 ∨ hd s.toNat = 1 := by
      cases hz : sl s.toNat with
      | none => exact Or.inl (hs2.1 hz)
      | some y => exact Or.inr (hs2.2 y hz).1
    refine jk_aload_n (q := 13) h dX10_restore_12 rfl rfl ?_
    refine jk_get (q := 16) h fg_X10_22 dX10_restore_13 (hM.at 0 rfl) rfl rfl ?_
    refine jk_iload_n (q := 17) h dX10_restore_16 rfl rfl ?_
    refine jk_zaldI (q := 18) h dX10_restore_17 (hM.at 5 rfl) (by omega) (by omega) rfl rfl ?_
    refine jk_if_ne (q := 21) (tgt := 24) h dX10_restore_18 (by decide) rfl ⟨by omega, by omega⟩ (fun c18 => ?_) (fun c18 => ?_)
    · obtain ⟨y, hy⟩ : ∃ y, sl s.toNat = some y := by
        cases hz : sl s.toNat with
        | none => have := hs2.1 hz; omega
        | some y => exact ⟨y, rfl⟩
      obtain ⟨hy1, hy2, hy3⟩ := hs2.2 y hy
      have hyz := hy3.2.1.2.2
      refine jk_aload_n (q := 25) h dX10_restore_24 rfl rfl ?_
      refine jk_callV (q := 28) h hX (c_X10_records hM hm hQ hkp hh) mv_X10_records (hM.at 0 rfl) dX10_restore_25 ml_X10_47 ⟨rfl, Nat.le_refl _⟩ rfl rfl (Nat.le_of_ble_eq_true rfl) (Nat.le_of_ble_eq_true rfl) rfl rfl (Nat.le_of_ble_eq_true rfl) rfl (fun v9 n9 M_1 hp9 => ?_)
      obtain ⟨rfl, rfl, ⟨ps2, hM, hh⟩, o_1⟩ := hp9
      have ho := ho.tr o_1 (by omega) (by omega)
      refine jk_aload_n (q := 29) h dX10_restore_28 rfl rfl ?_
      refine jk_get (q := 32) h fg_X10_19 dX10_restore_29 (hM.at 0 rfl) rfl rfl ?_
      refine jk_sipush (q := 35) h dX10_restore_32 (by decide) rfl ?_
      refine jk_iload_n (q := 36) h dX10_restore_35 rfl rfl ?_
      refine jk_imul (q := 37) h dX10_restore_36 rfl ?_
      refine jk_aload_n (q := 38) h dX10_restore_37 rfl rfl ?_
      refine jk_get (q := 41) h fg_X10_7 dX10_restore_38 (hM.at 0 rfl) rfl rfl ?_
      refine jk_iconst (q := 42) h dX10_restore_41 rfl ?_
      refine jk_callS (q := 45) h hX (c_X10_lays (jPic_c (hM.at 4 rfl)) (jPic_c (hM.at 1 rfl)) (by omega) ⟨by omega, by omega⟩ ⟨by omega, by omega⟩ rfl rfl) ms_X10_lays dX10_restore_42 ml_X10_43 ⟨rfl, Nat.le_refl _⟩ rfl rfl (Nat.le_of_ble_eq_true rfl) (Nat.le_of_ble_eq_true rfl) rfl rfl (Nat.le_of_ble_eq_true rfl) rfl (fun v9 n9 M_2 hp9 => ?_)
      obtain ⟨rfl, rfl, s_2⟩ := hp9
      have hM := hM.put (i := 1) s_2 rfl
      have ho := ho.st (i := 1) s_2 (by omega)
      refine jk_aload_n (q := 46) h dX10_restore_45 rfl rfl ?_
      refine jk_get (q := 49) h fg_X10_7 dX10_restore_46 (hM.at 0 rfl) rfl rfl ?_
      refine jk_iconst (q := 50) h dX10_restore_49 rfl ?_
      refine jk_ialdI (q := 51) h dX10_restore_50 (hM.at 1 rfl) (by omega) (by omega) rfl rfl ?_
      have hly : mdT (lyS sv σ (455 * s) 0 455) y := ly_win (by omega) hy2 hy3
      exact jk_iret h hR dX10_restore_51 (Nat.le_of_ble_eq_true rfl) (Nat.le_of_ble_eq_true rfl) ⟨y.2.1.2.2, by rw [hly.1.1], rfl, Or.inr (Or.inr ⟨by omega, y, hy, rfl, by unfold rcH rcK; rw [if_pos hyz.1, if_pos hyz.1]; exact ⟨_, _, _, _, _, _, _, _, _, _, hM, hly, hy3, hh, hsl, hpd, jmn_b hkp, hpQ⟩⟩), ho⟩
    · have hsn : sl s.toNat = none := by
        cases hz : sl s.toNat with
        | none => rfl
        | some y => have := (hs2.2 y hz).1; omega
      refine jk_bipush (q := 23) h dX10_restore_21 (by decide) rfl ?_
      exact jk_iret h hR dX10_restore_23 (Nat.le_of_ble_eq_true rfl) (Nat.le_of_ble_eq_true rfl) ⟨-5, rfl, rfl, Or.inr (Or.inl ⟨by omega, hsn, rfl, hW⟩), ho⟩
  · refine jk_bipush (q := 11) h dX10_restore_9 (by decide) rfl ?_
    exact jk_iret h hR dX10_restore_11 (Nat.le_of_ble_eq_true rfl) (Nat.le_of_ble_eq_true rfl) ⟨-2, rfl, rfl, Or.inl ⟨by omega, rfl, hW⟩, ho⟩
