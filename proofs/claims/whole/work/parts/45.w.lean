/-! the reference: a new object -/
abbrev md0 : Nat → Int := jfup (jfup (jfup (jfup jz (4 : Int).toNat 4) (5 : Int).toNat 2) (6 : Int).toNat 2) (7 : Int).toNat 20
theorem mdT_0 : mdT md0 ts0 := by
  refine ⟨⟨rfl, fun r h0 h1 => absurd h1 (by show ¬ r < (0 : Int); omega)⟩, ⟨rfl, rfl, rfl⟩, fun k h0 h1 => ?_, ⟨fun v h0 h1 => ?_, rfl, fun k h0 h1 => absurd h1 (by show ¬ k < (0 : Int); omega), rfl, fun k h0 h1 => absurd h1 (by show ¬ k < (0 : Int); omega)⟩, ⟨fun v h0 h1 => ?_, rfl, fun k h0 h1 => absurd h1 (by show ¬ k < (0 : Int); omega), rfl, fun k h0 h1 => absurd h1 (by show ¬ k < (0 : Int); omega)⟩, rfl, fun k h0 h1 => absurd h1 (by show ¬ k < (0 : Int); omega)⟩
  · have hk : k = 0 ∨ k = 1 ∨ k = 2 ∨ k = 3 := by omega
    rcases hk with rfl | rfl | rfl | rfl <;> rfl
  · show md0 _ = 0
    unfold md0 jfup
    rw [if_neg (by omega), if_neg (by omega), if_neg (by omega), if_neg (by omega)]
  · show md0 _ = 0
    unfold md0 jfup
    rw [if_neg (by omega), if_neg (by omega), if_neg (by omega), if_neg (by omega)]

set_option maxHeartbeats 4000000 in
set_option maxRecDepth 100000 in
theorem c_X10_init {l : Launch} {D : va_G} {b0 : Nat} {M : jM} {m : Nat} {hk : Nat → TS} (hM : jPic M m [oB 9 [.null, .null, .null, jI 0, .null, .null, .null, jI 0, jI 0, .null, jI 0, .null]]) : jCtr l D b0 yX10_init cX10_init 1 none 1 8 4896 [.ref m] (m + 1) M (fun v n2 M2 => none = v ∧ m + 9 = n2 ∧ moP M2 m ts0 0 hk (fun _ => none) jz 0 ∧ jout M M2 m 9) := by
  refine jctr (lv := [some (.ref m)]) RX10 "<init>" rfl rfl (by decide) (Nat.le_of_ble_eq_true rfl) rfl ?_
  intro X h hR hX
  have ho := jout.rf M m 9
  refine jk_aload_n (q := 1) h dX10_init_0 rfl rfl ?_
  refine jk_objInit (q := 4) h dX10_init_1 ml_X10_1 ko_i ko_c (Nat.le_of_ble_eq_true rfl) (Nat.le_of_ble_eq_true rfl) rfl ?_
  refine jk_aload_n (q := 5) h dX10_init_4 rfl rfl ?_
  refine jk_sipush (q := 8) h dX10_init_5 (by decide) rfl ?_
  refine jk_newa (q := 10) h dX10_init_8 rfl ka_int rfl (Nat.le_of_ble_eq_true rfl) (Nat.le_of_ble_eq_true rfl) rfl (fun M_1 s_1 => ?_)
  have s_1 : jst _ _ _ (aI 455 jz) := s_1
  have hM := hM.snoc s_1
  have ho := ho.st (i := 1) s_1 (by omega)
  refine jk_putF (q := 13) h (fp_X10_7 _) dX10_init_10 rfl fd_X10_0 (hM.at 0 rfl) (Nat.le_of_ble_eq_true rfl) rfl (fun M_2 s_2 => ?_)
  have hM := hM.put (i := 0) s_2 rfl
  have ho := ho.st (i := 0) s_2 (by omega)
  have hM : jPic _ m [oB 9 [.ref (m + 1), .null, .null, jI 0, .null, .null, .null, jI 0, jI 0, .null, jI 0, .null], aI 455 jz] := hM
  refine jk_aload_n (q := 14) h dX10_init_13 rfl rfl ?_
  refine jk_sipush (q := 17) h dX10_init_14 (by decide) rfl ?_
  refine jk_newa (q := 19) h dX10_init_17 rfl ka_int rfl (Nat.le_of_ble_eq_true rfl) (Nat.le_of_ble_eq_true rfl) rfl (fun M_3 s_3 => ?_)
  have s_3 : jst _ _ _ (aI 455 jz) := s_3
  have hM := hM.snoc s_3
  have ho := ho.st (i := 2) s_3 (by omega)
  refine jk_putF (q := 22) h (fp_X10_13 _) dX10_init_19 rfl fd_X10_1 (hM.at 0 rfl) (Nat.le_of_ble_eq_true rfl) rfl (fun M_4 s_4 => ?_)
  have hM := hM.put (i := 0) s_4 rfl
  have ho := ho.st (i := 0) s_4 (by omega)
  have hM : jPic _ m [oB 9 [.ref (m + 1), .ref (m + 2), .null, jI 0, .null, .null, .null, jI 0, jI 0, .null, jI 0, .null], aI 455 jz, aI 455 jz] := hM
  refine jk_aload_n (q := 23) h dX10_init_22 rfl rfl ?_
  refine jk_sipush (q := 26) h dX10_init_23 (by decide) rfl ?_
  refine jk_newa (q := 28) h dX10_init_26 rfl ka_int rfl (Nat.le_of_ble_eq_true rfl) (Nat.le_of_ble_eq_true rfl) rfl (fun M_5 s_5 => ?_)
  have s_5 : jst _ _ _ (aI 2730 jz) := s_5
  have hM := hM.snoc s_5
  have ho := ho.st (i := 3) s_5 (by omega)
  refine jk_putF (q := 31) h (fp_X10_16 _) dX10_init_28 rfl fd_X10_2 (hM.at 0 rfl) (Nat.le_of_ble_eq_true rfl) rfl (fun M_6 s_6 => ?_)
  have hM := hM.put (i := 0) s_6 rfl
  have ho := ho.st (i := 0) s_6 (by omega)
  have hM : jPic _ m [oB 9 [.ref (m + 1), .ref (m + 2), .ref (m + 3), jI 0, .null, .null, .null, jI 0, jI 0, .null, jI 0, .null], aI 455 jz, aI 455 jz, aI 2730 jz] := hM
  refine jk_aload_n (q := 32) h dX10_init_31 rfl rfl ?_
  refine jk_sipush (q := 35) h dX10_init_32 (by decide) rfl ?_
  refine jk_newa (q := 37) h dX10_init_35 rfl ka_int rfl (Nat.le_of_ble_eq_true rfl) (Nat.le_of_ble_eq_true rfl) rfl (fun M_7 s_7 => ?_)
  have s_7 : jst _ _ _ (aI 910 jz) := s_7
  have hM := hM.snoc s_7
  have ho := ho.st (i := 4) s_7 (by omega)
  refine jk_putF (q := 40) h (fp_X10_19 _) dX10_init_37 rfl fd_X10_4 (hM.at 0 rfl) (Nat.le_of_ble_eq_true rfl) rfl (fun M_8 s_8 => ?_)
  have hM := hM.put (i := 0) s_8 rfl
  have ho := ho.st (i := 0) s_8 (by omega)
  have hM : jPic _ m [oB 9 [.ref (m + 1), .ref (m + 2), .ref (m + 3), jI 0, .ref (m + 4), .null, .null, jI 0, jI 0, .null, jI 0, .null], aI 455 jz, aI 455 jz, aI 2730 jz, aI 910 jz] := hM
  refine jk_aload_n (q := 41) h dX10_init_40 rfl rfl ?_
  refine jk_iconst (q := 42) h dX10_init_41 rfl ?_
  refine jk_newa (q := 44) h dX10_init_42 rfl ka_boolean rfl (Nat.le_of_ble_eq_true rfl) (Nat.le_of_ble_eq_true rfl) rfl (fun M_9 s_9 => ?_)
  have s_9 : jst _ _ _ (aZ 2 jz) := s_9
  have hM := hM.snoc s_9
  have ho := ho.st (i := 5) s_9 (by omega)
  refine jk_putF (q := 47) h (fp_X10_22 _) dX10_init_44 rfl fd_X10_5 (hM.at 0 rfl) (Nat.le_of_ble_eq_true rfl) rfl (fun M_10 s_10 => ?_)
  have hM := hM.put (i := 0) s_10 rfl
  have ho := ho.st (i := 0) s_10 (by omega)
  have hM : jPic _ m [oB 9 [.ref (m + 1), .ref (m + 2), .ref (m + 3), jI 0, .ref (m + 4), .ref (m + 5), .null, jI 0, jI 0, .null, jI 0, .null], aI 455 jz, aI 455 jz, aI 2730 jz, aI 910 jz, aZ 2 jz] := hM
  refine jk_aload_n (q := 48) h dX10_init_47 rfl rfl ?_
  refine jk_bipush (q := 50) h dX10_init_48 (by decide) rfl ?_
  refine jk_newa (q := 52) h dX10_init_50 rfl ka_int rfl (Nat.le_of_ble_eq_true rfl) (Nat.le_of_ble_eq_true rfl) rfl (fun M_11 s_11 => ?_)
  have s_11 : jst _ _ _ (aI 80 jz) := s_11
  have hM := hM.snoc s_11
  have ho := ho.st (i := 6) s_11 (by omega)
  refine jk_putF (q := 55) h (fp_X10_26 _) dX10_init_52 rfl fd_X10_6 (hM.at 0 rfl) (Nat.le_of_ble_eq_true rfl) rfl (fun M_12 s_12 => ?_)
  have hM := hM.put (i := 0) s_12 rfl
  have ho := ho.st (i := 0) s_12 (by omega)
  have hM : jPic _ m [oB 9 [.ref (m + 1), .ref (m + 2), .ref (m + 3), jI 0, .ref (m + 4), .ref (m + 5), .ref (m + 6), jI 0, jI 0, .null, jI 0, .null], aI 455 jz, aI 455 jz, aI 2730 jz, aI 910 jz, aZ 2 jz, aI 80 jz] := hM
  refine jk_aload_n (q := 56) h dX10_init_55 rfl rfl ?_
  refine jk_sipush (q := 59) h dX10_init_56 (by decide) rfl ?_
  refine jk_newa (q := 61) h dX10_init_59 rfl ka_int rfl (Nat.le_of_ble_eq_true rfl) (Nat.le_of_ble_eq_true rfl) rfl (fun M_13 s_13 => ?_)
  have s_13 : jst _ _ _ (aI 164 jz) := s_13
  have hM := hM.snoc s_13
  have ho := ho.st (i := 7) s_13 (by omega)
  refine jk_putF (q := 64) h (fp_X10_29 _) dX10_init_61 rfl fd_X10_9 (hM.at 0 rfl) (Nat.le_of_ble_eq_true rfl) rfl (fun M_14 s_14 => ?_)
  have hM := hM.put (i := 0) s_14 rfl
  have ho := ho.st (i := 0) s_14 (by omega)
  have hM : jPic _ m [oB 9 [.ref (m + 1), .ref (m + 2), .ref (m + 3), jI 0, .ref (m + 4), .ref (m + 5), .ref (m + 6), jI 0, jI 0, .ref (m + 7), jI 0, .null], aI 455 jz, aI 455 jz, aI 2730 jz, aI 910 jz, aZ 2 jz, aI 80 jz, aI 164 jz] := hM
  refine jk_aload_n (q := 65) h dX10_init_64 rfl rfl ?_
  refine jk_bipush (q := 67) h dX10_init_65 (by decide) rfl ?_
  refine jk_newa (q := 69) h dX10_init_67 rfl ka_int rfl (Nat.le_of_ble_eq_true rfl) (Nat.le_of_ble_eq_true rfl) rfl (fun M_15 s_15 => ?_)
  have s_15 : jst _ _ _ (aI 100 jz) := s_15
  have hM := hM.snoc s_15
  have ho := ho.st (i := 8) s_15 (by omega)
  refine jk_putF (q := 72) h (fp_X10_32 _) dX10_init_69 rfl fd_X10_11 (hM.at 0 rfl) (Nat.le_of_ble_eq_true rfl) rfl (fun M_16 s_16 => ?_)
  have hM := hM.put (i := 0) s_16 rfl
  have ho := ho.st (i := 0) s_16 (by omega)
  have hM : jPic _ m [oB 9 [.ref (m + 1), .ref (m + 2), .ref (m + 3), jI 0, .ref (m + 4), .ref (m + 5), .ref (m + 6), jI 0, jI 0, .ref (m + 7), jI 0, .ref (m + 8)], aI 455 jz, aI 455 jz, aI 2730 jz, aI 910 jz, aZ 2 jz, aI 80 jz, aI 164 jz, aI 100 jz] := hM
  refine jk_aload_n (q := 73) h dX10_init_72 rfl rfl ?_
  refine jk_get (q := 76) h fg_X10_7 dX10_init_73 (hM.at 0 rfl) rfl rfl ?_
  refine jk_iconst (q := 77) h dX10_init_76 rfl ?_
  refine jk_iconst (q := 78) h dX10_init_77 rfl ?_
  refine jk_iast (q := 79) h dX10_init_78 (hM.at 1 rfl) (by omega) (by omega) rfl rfl (fun M_17 s_17 => ?_)
  have hM := hM.put (i := 1) s_17 rfl
  have ho := ho.st (i := 1) s_17 (by omega)
  refine jk_aload_n (q := 80) h dX10_init_79 rfl rfl ?_
  refine jk_get (q := 83) h fg_X10_7 dX10_init_80 (hM.at 0 rfl) rfl rfl ?_
  refine jk_iconst (q := 84) h dX10_init_83 rfl ?_
  refine jk_iconst (q := 85) h dX10_init_84 rfl ?_
  refine jk_iast (q := 86) h dX10_init_85 (hM.at 1 rfl) (by omega) (by omega) rfl rfl (fun M_18 s_18 => ?_)
  have hM := hM.put (i := 1) s_18 rfl
  have ho := ho.st (i := 1) s_18 (by omega)
  refine jk_aload_n (q := 87) h dX10_init_86 rfl rfl ?_
  refine jk_get (q := 90) h fg_X10_7 dX10_init_87 (hM.at 0 rfl) rfl rfl ?_
  refine jk_bipush (q := 92) h dX10_init_90 (by decide) rfl ?_
  refine jk_iconst (q := 93) h dX10_init_92 rfl ?_
  refine jk_iast (q := 94) h dX10_init_93 (hM.at 1 rfl) (by omega) (by omega) rfl rfl (fun M_19 s_19 => ?_)
  have hM := hM.put (i := 1) s_19 rfl
  have ho := ho.st (i := 1) s_19 (by omega)
  refine jk_aload_n (q := 95) h dX10_init_94 rfl rfl ?_
  refine jk_get (q := 98) h fg_X10_7 dX10_init_95 (hM.at 0 rfl) rfl rfl ?_
  refine jk_bipush (q := 100) h dX10_init_98 (by decide) rfl ?_
  refine jk_bipush (q := 102) h dX10_init_100 (by decide) rfl ?_
  refine jk_iast (q := 103) h dX10_init_102 (hM.at 1 rfl) (by omega) (by omega) rfl rfl (fun M_20 s_20 => ?_)
  have hM := hM.put (i := 1) s_20 rfl
  have ho := ho.st (i := 1) s_20 (by omega)
  exact jk_vret h hR dX10_init_103 (Nat.le_of_ble_eq_true rfl) (Nat.le_of_ble_eq_true rfl) ⟨rfl, rfl, ⟨md0, jz, jz, jz, jz, jz, 0, jz, 0, jz, hM, mdT_0, ts0_Q, fun j hj => absurd hj (by omega), fun i hi => ⟨fun _ => rfl, fun y hy => absurd hy (by simp)⟩, fun k hk9 => absurd hk9 (by omega), by decide, jz_pd⟩, ho⟩
