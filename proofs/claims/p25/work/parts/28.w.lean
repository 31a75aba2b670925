def fwQ (x : TS) (c far : Int) : Nat → Int → Int → Prop
  | 0, _, r => r = -6
  | f + 1, k, r => ∃ y : TC, cfQ y ∧ lrQ (colT x.2.1 c) x.2.1.2.2 (x.1 1) k y ∧ ((miT y (wvI (miT y) 100) ≤ far ∧ r = k) ∨ (far < miT y (wvI (miT y) 100) ∧ fwQ x c far f (k + 1) r))
theorem fwQ_0 {x : TS} {c far k : Int} (h : 10 < k) : fwQ x c far (11 - k).toNat k (-6) := by
  rw [show (11 - k).toNat = 0 by omega]
  rfl
theorem fwQ_1 {x : TS} {c far k : Int} {y : TC} (h : k ≤ 10) (h1 : cfQ y) (h2 : lrQ (colT x.2.1 c) x.2.1.2.2 (x.1 1) k y) (h3 : miT y (wvI (miT y) 100) ≤ far) : fwQ x c far (11 - k).toNat k k := by
  rw [show (11 - k).toNat = (11 - (k + 1)).toNat + 1 by omega]
  exact ⟨y, h1, h2, Or.inl ⟨h3, rfl⟩⟩
theorem fwQ_s {x : TS} {c far k r : Int} {y : TC} (h : k ≤ 10) (h1 : cfQ y) (h2 : lrQ (colT x.2.1 c) x.2.1.2.2 (x.1 1) k y) (h3 : far < miT y (wvI (miT y) 100)) (h4 : fwQ x c far (11 - (k + 1)).toNat (k + 1) r) : fwQ x c far (11 - k).toNat k r := by
  rw [show (11 - k).toNat = (11 - (k + 1)).toNat + 1 by omega]
  exact ⟨y, h1, h2, Or.inr ⟨h3, h4⟩⟩
theorem jPic.mv {M2 M3 : jM} {e b : Nat} {L : List jC} (h : jPic M2 b L) (ho : ∀ q, e ≤ q → q < e + 41 → M3 q = M2 q) (m : Nat) (hm : L.length = m) (h1 : e ≤ b) (h2 : b + m ≤ e + 41) : jPic M3 b L := fun j x hx => by
  have hl := (List.getElem?_eq_some_iff.mp hx).1
  rw [ho _ (by omega) (by omega)]
  exact h j x hx
theorem rsQ_0 (nx : Int) (hk : Nat → TS) (f : Nat → TS) : rsQ (fun _ => none) (fun _ => none) nx 0 hk (fun _ => none) none [] f :=
  ⟨fun k a hk ha => (by cases ha), fun j k a hj hk h1 h2 => (by cases h1), fun j hj => absurd hj (by omega), fun i hi => Or.inl ⟨rfl, rfl⟩, fun i k a hi hk h1 h2 => (by cases h1), fun y hy => (by cases hy)⟩
theorem jz_pd : pdQ jz 0 := ⟨jz_F (by decide) (by decide), by decide, by decide⟩

theorem ehP_new {M2 : jM} {e : Nat} {hk : Nat → TS} (hE : jPic M2 e (ehL e)) (h1 : stP M2 (e + 1) ts0) (hL : jPic M2 (e + 27) [aS 2 (fun _ => none)]) (hH : jPic M2 (e + 28) (hsL (e + 28) (fun _ => none) 0 0)) (hD : jPic M2 (e + 30) (pdL (e + 30) jz 0)) (hR9 : jPic M2 (e + 32) (rdL (e + 30) 0 0 0 0 0)) (hC : jPic M2 (e + 33) (cfP (e + 33) cf0)) : ∀ (M3 : jM) (n3 lo : Nat), e + 41 ≤ lo → lo ≤ n3 → (∀ q, e ≤ q → q < e + 41 → M3 q = M2 q) → ehP M3 n3 e lo ts0 0 hk (fun _ => none) jz 0 none := fun M3 n3 lo a b ho =>
  ⟨fun _ => none, fun _ => none, 0, 0, 0, 0, 0, 0, cf0, [], fun _ => ts0, hE.mv ho 1 rfl (by omega) (by omega), ⟨h1.1.mv ho 2 rfl (by omega) (by omega), h1.2.1.mv ho 3 rfl (by omega) (by omega), h1.2.2.1.mv ho 1 rfl (by omega) (by omega), h1.2.2.2.1.mv ho 8 rfl (by omega) (by omega), h1.2.2.2.2.1.mv ho 8 rfl (by omega) (by omega), h1.2.2.2.2.2.mv ho 4 rfl (by omega) (by omega)⟩, hL.mv ho 1 rfl (by omega) (by omega), hH.mv ho 2 rfl (by omega) (by omega), hD.mv ho 2 rfl (by omega) (by omega), hR9.mv ho 1 rfl (by omega) (by omega), hC.mv ho 8 rfl (by omega) (by omega), ⟨fun z hz => absurd hz (by simp), fun z hz => absurd hz (by simp)⟩, rsQ_0 _ _ _, ts0_Q, jz_pd, cf0_Q, by decide, by decide, a, b⟩

set_option maxHeartbeats 4000000 in
set_option maxRecDepth 100000 in
theorem c_X9_init {l : Launch} {D : va_G} {b0 : Nat} {M : jM} {e : Nat} {hk : Nat → TS} (hE : jPic M e [oB 8 [.null, .null, .null, .null, .null, .null]]) : jCtr l D b0 yX9_init cX9_init 1 none 4 40 748 [.ref e] (e + 1) M (fun v n2 M2 => none = v ∧ e + 41 = n2 ∧ (∀ (M3 : jM) (n3 lo : Nat), e + 41 ≤ lo → lo ≤ n3 → (∀ q, e ≤ q → q < e + 41 → M3 q = M2 q) → ehP M3 n3 e lo ts0 0 hk (fun _ => none) jz 0 none) ∧ jout M M2 e 41) := by
  refine jctr (lv := [some (.ref e)]) RX9 "<init>" rfl rfl (by decide) (Nat.le_of_ble_eq_true rfl) rfl ?_
  intro X h hR hX
  have ho := jout.rf M e 41
  refine jk_aload_n (q := 1) h dX9_init_0 rfl rfl ?_
  refine jk_objInit (q := 4) h dX9_init_1 ml_X9_3 ko_i ko_c (Nat.le_of_ble_eq_true rfl) (Nat.le_of_ble_eq_true rfl) rfl ?_
  refine jk_aload_n (q := 5) h dX9_init_4 rfl rfl ?_
  refine jk_new (q := 8) h nw_X9_9 dX9_init_5 (Nat.le_of_ble_eq_true rfl) (Nat.le_of_ble_eq_true rfl) rfl (fun M_1 s_1 => ?_)
  have hE := hE.other s_1 1 rfl (by omega)
  have hS := jPic.one s_1
  have ho := ho.tr (jst.out s_1) (by omega) (by omega)
  refine jk_dup (q := 9) h dX9_init_8 rfl rfl ?_
  refine jk_callIN (q := 12) h hX (c_X7_init hS) mi_X7_init dX9_init_9 ml_X9_11 ⟨rfl, Nat.le_refl _⟩ rfl rfl (Nat.le_of_ble_eq_true rfl) (Nat.le_of_ble_eq_true rfl) rfl rfl (Nat.le_of_ble_eq_true rfl) rfl (fun v9 n9 M_2 hp9 => ?_)
  obtain ⟨rfl, rfl, hst9, o_2⟩ := hp9
  have hE := hE.keep o_2 1 rfl (by omega)
  have ho := ho.tr o_2 (by omega) (by omega)
  obtain ⟨hS, hT, hN, hA, hB, hP⟩ := hst9
  refine jk_putF (q := 15) h (fp_X9_12 _) dX9_init_12 rfl fd_X9_0 (hE.at 0 rfl) (Nat.le_of_ble_eq_true rfl) rfl (fun M_3 s_3 => ?_)
  have hE := hE.put (i := 0) s_3 rfl
  have hS := hS.other s_3 2 rfl (by omega)
  have hT := hT.other s_3 3 rfl (by omega)
  have hN := hN.other s_3 1 rfl (by omega)
  have hA := hA.other s_3 8 rfl (by omega)
  have hB := hB.other s_3 8 rfl (by omega)
  have hP := hP.other s_3 4 rfl (by omega)
  have ho := ho.st (i := 0) s_3 (by omega)
  refine jk_aload_n (q := 16) h dX9_init_15 rfl rfl ?_
  refine jk_iconst (q := 17) h dX9_init_16 rfl ?_
  refine jk_newq (q := 20) h dX9_init_17 kq_X9_9 rfl (Nat.le_of_ble_eq_true rfl) (Nat.le_of_ble_eq_true rfl) rfl (fun M_4 s_4 => ?_)
  have s_4 : jst _ _ _ (aS 2 (fun _ => none)) := s_4
  have hE := hE.other s_4 1 rfl (by omega)
  have hS := hS.other s_4 2 rfl (by omega)
  have hT := hT.other s_4 3 rfl (by omega)
  have hN := hN.other s_4 1 rfl (by omega)
  have hA := hA.other s_4 8 rfl (by omega)
  have hB := hB.other s_4 8 rfl (by omega)
  have hP := hP.other s_4 4 rfl (by omega)
  have hL := jPic.one s_4
  have ho := ho.tr (jst.out s_4) (by omega) (by omega)
  refine jk_putF (q := 23) h (fp_X9_16 _) dX9_init_20 rfl fd_X9_1 (hE.at 0 rfl) (Nat.le_of_ble_eq_true rfl) rfl (fun M_5 s_5 => ?_)
  have hE := hE.put (i := 0) s_5 rfl
  have hS := hS.other s_5 2 rfl (by omega)
  have hT := hT.other s_5 3 rfl (by omega)
  have hN := hN.other s_5 1 rfl (by omega)
  have hA := hA.other s_5 8 rfl (by omega)
  have hB := hB.other s_5 8 rfl (by omega)
  have hP := hP.other s_5 4 rfl (by omega)
  have hL := hL.other s_5 1 rfl (by omega)
  have ho := ho.st (i := 0) s_5 (by omega)
  refine jk_aload_n (q := 24) h dX9_init_23 rfl rfl ?_
  refine jk_new (q := 27) h nw_X9_20 dX9_init_24 (Nat.le_of_ble_eq_true rfl) (Nat.le_of_ble_eq_true rfl) rfl (fun M_6 s_6 => ?_)
  have hE := hE.other s_6 1 rfl (by omega)
  have hS := hS.other s_6 2 rfl (by omega)
  have hT := hT.other s_6 3 rfl (by omega)
  have hN := hN.other s_6 1 rfl (by omega)
  have hA := hA.other s_6 8 rfl (by omega)
  have hB := hB.other s_6 8 rfl (by omega)
  have hP := hP.other s_6 4 rfl (by omega)
  have hL := hL.other s_6 1 rfl (by omega)
  have hH := jPic.one s_6
  have ho := ho.tr (jst.out s_6) (by omega) (by omega)
  refine jk_dup (q := 28) h dX9_init_27 rfl rfl ?_
  refine jk_callIN (q := 31) h hX (c_X3_init hH) mi_X3_init dX9_init_28 ml_X9_22 ⟨rfl, Nat.le_refl _⟩ rfl rfl (Nat.le_of_ble_eq_true rfl) (Nat.le_of_ble_eq_true rfl) rfl rfl (Nat.le_of_ble_eq_true rfl) rfl (fun v9 n9 M_7 hp9 => ?_)
  obtain ⟨rfl, rfl, hH, o_7⟩ := hp9
  have hE := hE.keep o_7 1 rfl (by omega)
  have hS := hS.keep o_7 2 rfl (by omega)
  have hT := hT.keep o_7 3 rfl (by omega)
  have hN := hN.keep o_7 1 rfl (by omega)
  have hA := hA.keep o_7 8 rfl (by omega)
  have hB := hB.keep o_7 8 rfl (by omega)
  have hP := hP.keep o_7 4 rfl (by omega)
  have hL := hL.keep o_7 1 rfl (by omega)
  have ho := ho.tr o_7 (by omega) (by omega)
  refine jk_putF (q := 34) h (fp_X9_23 _) dX9_init_31 rfl fd_X9_2 (hE.at 0 rfl) (Nat.le_of_ble_eq_true rfl) rfl (fun M_8 s_8 => ?_)
  have hE := hE.put (i := 0) s_8 rfl
  have hS := hS.other s_8 2 rfl (by omega)
  have hT := hT.other s_8 3 rfl (by omega)
  have hN := hN.other s_8 1 rfl (by omega)
  have hA := hA.other s_8 8 rfl (by omega)
  have hB := hB.other s_8 8 rfl (by omega)
  have hP := hP.other s_8 4 rfl (by omega)
  have hL := hL.other s_8 1 rfl (by omega)
  have hH := hH.other s_8 2 rfl (by omega)
  have ho := ho.st (i := 0) s_8 (by omega)
  refine jk_aload_n (q := 35) h dX9_init_34 rfl rfl ?_
  refine jk_new (q := 38) h nw_X9_27 dX9_init_35 (Nat.le_of_ble_eq_true rfl) (Nat.le_of_ble_eq_true rfl) rfl (fun M_9 s_9 => ?_)
  have hE := hE.other s_9 1 rfl (by omega)
  have hS := hS.other s_9 2 rfl (by omega)
  have hT := hT.other s_9 3 rfl (by omega)
  have hN := hN.other s_9 1 rfl (by omega)
  have hA := hA.other s_9 8 rfl (by omega)
  have hB := hB.other s_9 8 rfl (by omega)
  have hP := hP.other s_9 4 rfl (by omega)
  have hL := hL.other s_9 1 rfl (by omega)
  have hH := hH.other s_9 2 rfl (by omega)
  have hD := jPic.one s_9
  have ho := ho.tr (jst.out s_9) (by omega) (by omega)
  refine jk_dup (q := 39) h dX9_init_38 rfl rfl ?_
  refine jk_callIN (q := 42) h hX (c_X4_init hD) mi_X4_init dX9_init_39 ml_X9_29 ⟨rfl, Nat.le_refl _⟩ rfl rfl (Nat.le_of_ble_eq_true rfl) (Nat.le_of_ble_eq_true rfl) rfl rfl (Nat.le_of_ble_eq_true rfl) rfl (fun v9 n9 M_10 hp9 => ?_)
  obtain ⟨rfl, rfl, hD, o_10⟩ := hp9
  have hE := hE.keep o_10 1 rfl (by omega)
  have hS := hS.keep o_10 2 rfl (by omega)
  have hT := hT.keep o_10 3 rfl (by omega)
  have hN := hN.keep o_10 1 rfl (by omega)
  have hA := hA.keep o_10 8 rfl (by omega)
  have hB := hB.keep o_10 8 rfl (by omega)
  have hP := hP.keep o_10 4 rfl (by omega)
  have hL := hL.keep o_10 1 rfl (by omega)
  have hH := hH.keep o_10 2 rfl (by omega)
  have ho := ho.tr o_10 (by omega) (by omega)
  refine jk_putF (q := 45) h (fp_X9_30 _) dX9_init_42 rfl fd_X9_3 (hE.at 0 rfl) (Nat.le_of_ble_eq_true rfl) rfl (fun M_11 s_11 => ?_)
  have hE := hE.put (i := 0) s_11 rfl
  have hS := hS.other s_11 2 rfl (by omega)
  have hT := hT.other s_11 3 rfl (by omega)
  have hN := hN.other s_11 1 rfl (by omega)
  have hA := hA.other s_11 8 rfl (by omega)
  have hB := hB.other s_11 8 rfl (by omega)
  have hP := hP.other s_11 4 rfl (by omega)
  have hL := hL.other s_11 1 rfl (by omega)
  have hH := hH.other s_11 2 rfl (by omega)
  have hD := hD.other s_11 2 rfl (by omega)
  have ho := ho.st (i := 0) s_11 (by omega)
  refine jk_aload_n (q := 46) h dX9_init_45 rfl rfl ?_
  refine jk_new (q := 49) h nw_X9_34 dX9_init_46 (Nat.le_of_ble_eq_true rfl) (Nat.le_of_ble_eq_true rfl) rfl (fun M_12 s_12 => ?_)
  have hE := hE.other s_12 1 rfl (by omega)
  have hS := hS.other s_12 2 rfl (by omega)
  have hT := hT.other s_12 3 rfl (by omega)
  have hN := hN.other s_12 1 rfl (by omega)
  have hA := hA.other s_12 8 rfl (by omega)
  have hB := hB.other s_12 8 rfl (by omega)
  have hP := hP.other s_12 4 rfl (by omega)
  have hL := hL.other s_12 1 rfl (by omega)
  have hH := hH.other s_12 2 rfl (by omega)
  have hD := hD.other s_12 2 rfl (by omega)
  have hR9 := jPic.one s_12
  have ho := ho.tr (jst.out s_12) (by omega) (by omega)
  refine jk_dup (q := 50) h dX9_init_49 rfl rfl ?_
  refine jk_aload_n (q := 51) h dX9_init_50 rfl rfl ?_
  refine jk_get (q := 54) h fg_X9_30 dX9_init_51 (hE.at 0 rfl) rfl rfl ?_
  refine jk_callI (q := 57) h hX (c_X6_init hR9 hD (by omega)) mi_X6_init dX9_init_54 ml_X9_36 ⟨rfl, Nat.le_refl _⟩ rfl rfl (Nat.le_of_ble_eq_true rfl) (Nat.le_of_ble_eq_true rfl) rfl rfl (Nat.le_of_ble_eq_true rfl) rfl (fun v9 n9 M_13 hp9 => ?_)
  obtain ⟨rfl, rfl, hR9, o_13⟩ := hp9
  have hE := hE.keep o_13 1 rfl (by omega)
  have hS := hS.keep o_13 2 rfl (by omega)
  have hT := hT.keep o_13 3 rfl (by omega)
  have hN := hN.keep o_13 1 rfl (by omega)
  have hA := hA.keep o_13 8 rfl (by omega)
  have hB := hB.keep o_13 8 rfl (by omega)
  have hP := hP.keep o_13 4 rfl (by omega)
  have hL := hL.keep o_13 1 rfl (by omega)
  have hH := hH.keep o_13 2 rfl (by omega)
  have hD := hD.keep o_13 2 rfl (by omega)
  have ho := ho.tr o_13 (by omega) (by omega)
  refine jk_putF (q := 60) h (fp_X9_39 _) dX9_init_57 rfl fd_X9_4 (hE.at 0 rfl) (Nat.le_of_ble_eq_true rfl) rfl (fun M_14 s_14 => ?_)
  have hE := hE.put (i := 0) s_14 rfl
  have hS := hS.other s_14 2 rfl (by omega)
  have hT := hT.other s_14 3 rfl (by omega)
  have hN := hN.other s_14 1 rfl (by omega)
  have hA := hA.other s_14 8 rfl (by omega)
  have hB := hB.other s_14 8 rfl (by omega)
  have hP := hP.other s_14 4 rfl (by omega)
  have hL := hL.other s_14 1 rfl (by omega)
  have hH := hH.other s_14 2 rfl (by omega)
  have hD := hD.other s_14 2 rfl (by omega)
  have hR9 := hR9.other s_14 1 rfl (by omega)
  have ho := ho.st (i := 0) s_14 (by omega)
  refine jk_aload_n (q := 61) h dX9_init_60 rfl rfl ?_
  refine jk_new (q := 64) h nw_X9_43 dX9_init_61 (Nat.le_of_ble_eq_true rfl) (Nat.le_of_ble_eq_true rfl) rfl (fun M_15 s_15 => ?_)
  have hE := hE.other s_15 1 rfl (by omega)
  have hS := hS.other s_15 2 rfl (by omega)
  have hT := hT.other s_15 3 rfl (by omega)
  have hN := hN.other s_15 1 rfl (by omega)
  have hA := hA.other s_15 8 rfl (by omega)
  have hB := hB.other s_15 8 rfl (by omega)
  have hP := hP.other s_15 4 rfl (by omega)
  have hL := hL.other s_15 1 rfl (by omega)
  have hH := hH.other s_15 2 rfl (by omega)
  have hD := hD.other s_15 2 rfl (by omega)
  have hR9 := hR9.other s_15 1 rfl (by omega)
  have hC := jPic.one s_15
  have ho := ho.tr (jst.out s_15) (by omega) (by omega)
  refine jk_dup (q := 65) h dX9_init_64 rfl rfl ?_
  refine jk_callIN (q := 68) h hX (c_X2_init hC) mi_X2_init dX9_init_65 ml_X9_45 ⟨rfl, Nat.le_refl _⟩ rfl rfl (Nat.le_of_ble_eq_true rfl) (Nat.le_of_ble_eq_true rfl) rfl rfl (Nat.le_of_ble_eq_true rfl) rfl (fun v9 n9 M_16 hp9 => ?_)
  obtain ⟨rfl, rfl, hC, o_16⟩ := hp9
  have hE := hE.keep o_16 1 rfl (by omega)
  have hS := hS.keep o_16 2 rfl (by omega)
  have hT := hT.keep o_16 3 rfl (by omega)
  have hN := hN.keep o_16 1 rfl (by omega)
  have hA := hA.keep o_16 8 rfl (by omega)
  have hB := hB.keep o_16 8 rfl (by omega)
  have hP := hP.keep o_16 4 rfl (by omega)
  have hL := hL.keep o_16 1 rfl (by omega)
  have hH := hH.keep o_16 2 rfl (by omega)
  have hD := hD.keep o_16 2 rfl (by omega)
  have hR9 := hR9.keep o_16 1 rfl (by omega)
  have ho := ho.tr o_16 (by omega) (by omega)
  refine jk_putF (q := 71) h (fp_X9_46 _) dX9_init_68 rfl fd_X9_5 (hE.at 0 rfl) (Nat.le_of_ble_eq_true rfl) rfl (fun M_17 s_17 => ?_)
  have hE := hE.put (i := 0) s_17 rfl
  have hS := hS.other s_17 2 rfl (by omega)
  have hT := hT.other s_17 3 rfl (by omega)
  have hN := hN.other s_17 1 rfl (by omega)
  have hA := hA.other s_17 8 rfl (by omega)
  have hB := hB.other s_17 8 rfl (by omega)
  have hP := hP.other s_17 4 rfl (by omega)
  have hL := hL.other s_17 1 rfl (by omega)
  have hH := hH.other s_17 2 rfl (by omega)
  have hD := hD.other s_17 2 rfl (by omega)
  have hR9 := hR9.other s_17 1 rfl (by omega)
  have hC := hC.other s_17 8 rfl (by omega)
  have ho := ho.st (i := 0) s_17 (by omega)
  exact jk_vret h hR dX9_init_71 (Nat.le_of_ble_eq_true rfl) (Nat.le_of_ble_eq_true rfl) ⟨rfl, rfl, ehP_new hE ⟨hS, hT, hN, hA, hB, hP⟩ hL hH hD hR9 hC, ho⟩
