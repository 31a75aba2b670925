def fwQ (x : TS) (c far : Int) : Nat → Int → Int → Prop
  | 0, _, r => r = -6
  | f + 1, k, r => ∃ y : TC, cfQ y ∧ lrQ (colT x.2.1 c) x.2.1.2.2 (x.1 1) k y ∧ ((miT y (wvI (miT y) 100) ≤ far ∧ r = k) ∨ (far < miT y (wvI (miT y) 100) ∧ fwQ x c far f (k + 1) r))
theorem fwQ_0 {x : TS} {c far k : Int} (h : 10 < k) : fwQ x c far (11 - k).toNat k (-6) := by
  rw [show (11 - k).toNat = 0 by omega]
  rfl
theorem fwQ_1 {x : TS} {c far k : Int} {y : TC} (h : k ≤ 10) (h1 : cfQ y) (h2 : lrQ (colT x.2.1 c) x.2.1.2.2 (x.1 1) k y) (h3 : miT y (wvI (miT y) 100) ≤ far) : fwQ x c far (11 - k).toNat k k := by
  rw [show (11 - k).toNat = (11 - (k + 1)).toNat + 1 by omega]
  exact ⟨y, h1, h2, Or.inl ⟨h3, rfl⟩⟩
theorem fwQ_s {x : TS} {c far k r : Int} {y : TC} (h : k ≤ 10) (h1 : cfQ y) (h2 : lrQ (colT x.2.1 c) x.2.1.2.2 (x.1 1) k y) (h3 : far < miT y (wvI (miT y) 100)) (h4 : fwQ x c far (11 - (k + 1)).toNat (k + 1) r) : fwQ x c far (11 - k).toNat k r := by
  rw [show (11 - k).toNat = (11 - (k + 1)).toNat + 1 by omega]
  exact ⟨y, h1, h2, Or.inr ⟨h3, h4⟩⟩
theorem jPic.mv {M2 M3 : jM} {e b : Nat} {L : List jC} (h : jPic M2 b L) (ho : ∀ q, e ≤ q → q < e + 41 → M3 q = M2 q) (m : Nat) (hm : L.length = m) (h1 : e ≤ b) (h2 : b + m ≤ e + 41) : jPic M3 b L := fun j x hx => by
  have hl := (List.getElem?_eq_some_iff.mp hx).1
  rw [ho _ (by omega) (by omega)]
  exact h j x hx
theorem rsQ_0 (nx : Int) (hk : Nat → TS) (f : Nat → TS) : rsQ (fun _ => none) (fun _ => none) nx 0 hk (fun _ => none) none [] f :=
  ⟨fun k a hk ha => (by cases ha), fun j k a hj hk h1 h2 => (by cases h1), fun j hj => absurd hj (by omega), fun i hi => Or.inl ⟨rfl, rfl⟩, fun i k a hi hk h1 h2 => (by cases h1), fun y hy => (by cases hy)⟩
theorem jz_pd : pdQ jz 0 := ⟨jz_F (by decide) (by decide), by decide, by decide⟩

theorem ehP_new {M2 : jM} {e : Nat} {hk : Nat → TS} (hE : jPic M2 e (ehL e)) (h1 : stP M2 (e + 1) ts0) (hL : jPic M2 (e + 27) [aS 2 (fun _ => none)]) (hH : jPic M2 (e + 28) (hsL (e + 28) (fun _ => none) 0 0)) (hD : jPic M2 (e + 30) (pdL (e + 30) jz 0)) (hR9 : jPic M2 (e + 32) (rdL (e + 30) 0 0 0 0 0)) (hC : jPic M2 (e + 33) (cfP (e + 33) cf0)) : ∀ (M3 : jM) (n3 lo : Nat), e + 41 ≤ lo → lo ≤ n3 → (∀ q, e ≤ q → q < e + 41 → M3 q = M2 q) → ehP M3 n3 e lo ts0 0 hk (fun _ => none) jz 0 none := fun M3 n3 lo a b ho =>
  ⟨fun _ => none, fun _ => none, 0, 0, 0, 0, 0, 0, cf0, [], fun _ => ts0, hE.mv ho 1 rfl (by omega) (by omega), ⟨h1.1.mv ho 2 rfl (by omega) (by omega), h1.2.1.mv ho 3 rfl (by omega) (by omega), h1.2.2.1.mv ho 1 rfl (by omega) (by omega), h1.2.2.2.1.mv ho 8 rfl (by omega) (by omega), h1.2.2.2.2.1.mv ho 8 rfl (by omega) (by omega), h1.2.2.2.2.2.mv ho 4 rfl (by omega) (by omega)⟩, hL.mv ho 1 rfl (by omega) (by omega), hH.mv ho 2 rfl (by omega) (by omega), hD.mv ho 2 rfl (by omega) (by omega), hR9.mv ho 1 rfl (by omega) (by omega), hC.mv ho 8 rfl (by omega) (by omega), ⟨fun z hz => absurd hz (by simp), fun z hz => absurd hz (by simp)⟩, rsQ_0 _ _ _, ts0_Q, jz_pd, cf0_Q, by decide, by decide, a, b⟩

set_option maxHeartbeats 4000000 in
set_option maxRecDepth 100000 in
theorem c_X9_init {l : Launch} {D : va_G} {b0 : Nat} {M : jM} {e : Nat} {hk : Nat → TS} (hE : jPic M e [oB 8 [.null, .null, .null, .null, .null, .null]]) : jCtr l D b0 yX9_init cX9_init 1 none 4 40 748 [.ref e] (e + 1) M (fun v n2 M2 => none = v ∧ e + 41 = n2 ∧ (∀ (M3 : jM) (n3 lo : Nat), e + 41 ≤ lo → lo ≤ n3 → (∀ q, e ≤ q → q < e + 41 → M3 q = M2 q) → ehP M3 n3 e lo ts0 0 hk (fun _ => none) jz 0 none) ∧ jout M M2 e 41) := by
  refine jctr (lv := [some (.ref e)]) RX9 "<init>" rfl rfl (by decide) (Nat.le_of_ble_eq_true rfl) rfl ?_
  intro X h hR hX
  have ho := jout.rf M e 41
  refine jk_aload_n (q := 1) h dX9_init_0 rfl rfl ?_
  refine jk_objInit (q := 4) h dX9_init_1 ml_X9_3 ko_i ko_c (Nat.le_of_ble_eq_true rfl) (Nat.le_of_ble_eq_true rfl) rfl ?_
  refine jk_aload_n (q := 5) h dX9_init_4 rfl rfl ?_
  refine jk_new (q := 8) h nw_X9_9 dX9_init_5 (Nat.le_of_ble_eq_true rfl) (Nat.le_of_ble_eq_true rfl) rfl (fun M_1 s_1 => ?_)
  have hE := hE.other s_1 1 rfl (by omega)
  have hS := jPic.one s_1
  have ho := ho.tr (jst.out s_1) (by omega) (by omega)
  refine jk_dup (q := 9) h dX9_init_8 rfl rfl ?_
  refine jk_callIN (q := 12) h hX (c_X7_init hS) mi_X7_init dX9_init_9 ml_X9_11 ⟨rfl, Nat.le_refl _⟩ rfl rfl (Nat.le_of_ble_eq_true rfl) (Nat.le_of_ble_eq_true rfl) rfl rfl (Nat.le_of_ble_eq_true rfl) rfl (fun v9 n9 M_2 hp9 => ?_)
  obtain ⟨rfl, rfl, hst9, o_2⟩ := hp9
  have hE := hE.keep o_2 1 rfl (by omega)
  have ho := ho.tr o_2 (by omega) (by omega)
  obtain ⟨hS, hT, hN, hA, hB, hP⟩ := hst9
  refine jk_putF (q := 15) h (fp_X9_12 _) dX9_init_12 rfl fd_X9_0 (hE.at 0 rfl) (Nat.le_of_ble_eq_true rfl) rfl (fun M_3 s_3 => ?_)
  have hE := hE.put (i := 0) s_3 rfl
  have hS := hS.other s_3 2 rfl (by omega)
  have hT := hT.other s_3 3 rfl (by omega)
  have hN := hN.other s_3 1 rfl (by omega)
  have hA := hA.other s_3 8 rfl (by omega)
  have hB := hB.other s_3 8 rfl (by omega)
  have hP := hP.other s_3 4 rfl (by omega)
  have ho := ho.st (i := 0) s_3 (by omega)
  refine jk_aload_n (q := 16) h dX9_init_15 rfl rfl ?_
  refine jk_iconst (q := 17) h dX9_init_16 rfl ?_
  refine jk_newq (q := 20) h dX9_init_17 kq_X9_9 rfl (Nat.le_of_ble_eq_true rfl) (Nat.le_of_ble_eq_true rfl) rfl (fun M_4 s_4 => ?_)
  have s_4 : jst _ _ _ (aS 2 (fun _ => none)) := s_4
  have hE := hE.other s_4 1 rfl (by omega)
  have hS := hS.other s_4 2 rfl (by omega)
  have hT := hT.other s_4 3 rfl (by omega)
  have hN := hN.other s_4 1 rfl (by omega)
  have hA := hA.other s_4 8 rfl (by omega)
  have hB := hB.other s_4 8 rfl (by omega)
  have hP := hP.other s_4 4 rfl (by omega)
  have hL := jPic.one s_4
  have ho := ho.tr (jst.out s_4) (by omega) (by omega)
  refine jk_putF (q := 23) h (fp_X9_16 _) dX9_init_20 rfl fd_X9_1 (hE.at 0 rfl) (Nat.le_of_ble_eq_true rfl) rfl (fun M_5 s_5 => ?_)
  have hE := hE.put (i := 0) s_5 rfl
  have hS := hS.other s_5 2 rfl (by omega)
  have hT := hT.other s_5 3 rfl (by omega)
  have hN := hN.other s_5 1 rfl (by omega)
  have hA := hA.other s_5 8 rfl (by omega)
  have hB := hB.other s_5 8 rfl (by omega)
  have hP := hP.other s_5 4 rfl (by omega)
  have hL := hL.other s_5 1 rfl (by omega)
  have ho := ho.st (i := 0) s_5 (by omega)
  refine jk_aload_n (q := 24) h dX9_init_23 rfl rfl ?_
  refine jk_new (q := 27) h nw_X9_20 dX9_init_24 (Nat.le_of_ble_eq_true rfl) (Nat.le_of_ble_eq_true rfl) rfl (fun M_6 s_6 => ?_)
  have hE := hE.other s_6 1 rfl (by omega)
  have hS := hS.other s_6 2 rfl (by omega)
  have hT := hT.other s_6 3 rfl (by omega)
  have hN := hN.other s_6 1 rfl (by omega)
  have hA := hA.other s_6 8 rfl (by omega)
  have hB := hB.other s_6 8 rfl (by omega)
  have hP := hP.other s_6 4 rfl (by omega)
  have hL := hL.other s_6 1 rfl (by omega)
  have hH := jPic.one s_6
  have ho := ho.tr (jst.out s_6) (by omega) (by omega)
  refine jk_dup (q := 28) h dX9_init_27 rfl rfl ?_
  refine jk_callIN (q := 31) h hX (c_X3_init hH) mi_X3_init dX9_init_28 ml_X9_22 ⟨rfl, Nat.le_refl _⟩ rfl rfl (Nat.le_of_ble_eq_true rfl) (Nat.le_of_ble_eq_true rfl) rfl rfl (Nat.le_of_ble_eq_true rfl) rfl (fun v9 n9 M_7 hp9 => ?_)
  obtain ⟨rfl, rfl, hH, o_7⟩ := hp9
  have hE := hE.keep o_7 1 rfl (by omega)
  have hS := hS.keep o_7 2 rfl (by omega)
  have hT := hT.keep o_7 3 rfl (by omega)
  have hN := hN.keep o_7 1 rfl (by omega)
  have hA := hA.keep o_7 8 rfl (by omega)
  have hB := hB.keep o_7 8 rfl (by omega)
  have hP := hP.keep o_7 4 rfl (by omega)
  have hL := hL.keep o_7 1 rfl (by omega)
  have ho := ho.tr o_7 (by omega) (by omega)
  refine jk_putF (q := 34) h (fp_X9_23 _) dX9_init_31 rfl fd_X9_2 (hE.at 0 rfl) (Nat.le_of_ble_eq_true rfl) rfl (fun M_8 s_8 => ?_)
  have hE := hE.put (i := 0) s_8 rfl
  have hS := hS.other s_8 2 rfl (by omega)
  have hT := hT.other s_8 3 rfl (by omega)
  have hN := hN.other s_8 1 rfl (by omega)
  have hA := hA.other s_8 8 rfl (by omega)
  have hB := hB.other s_8 8 rfl (by omega)
  have hP := hP.other s_8 4 rfl (by omega)
  have hL := hL.other s_8 1 rfl (by omega)
  have hH := hH.other s_8 2 rfl (by omega)
  have ho := ho.st (i := 0) s_8 (by omega)
  refine jk_aload_n (q := 35) h dX9_init_34 rfl rfl ?_
  refine jk_new (q := 38) h nw_X9_27 dX9_init_35 (Nat.le_of_ble_eq_true rfl) (Nat.le_of_ble_eq_true rfl) rfl (fun M_9 s_9 => ?_)
  have hE := hE.other s_9 1 rfl (by omega)
  have hS := hS.other s_9 2 rfl (by omega)
  have hT := hT.other s_9 3 rfl (by omega)
  have hN := hN.other s_9 1 rfl (by omega)
  have hA := hA.other s_9 8 rfl (by omega)
  have hB := hB.other s_9 8 rfl (by omega)
  have hP := hP.other s_9 4 rfl (by omega)
  have hL := hL.other s_9 1 rfl (by omega)
  have hH := hH.other s_9 2 rfl (by omega)
  have hD := jPic.one s_9
  have ho := ho.tr (jst.out s_9) (by omega) (by omega)
  refine jk_dup (q := 39) h dX9_init_38 rfl rfl ?_
  refine jk_callIN (q := 42) h hX (c_X4_init hD) mi_X4_init dX9_init_39 ml_X9_29 ⟨rfl, Nat.le_refl _⟩ rfl rfl (Nat.le_of_ble_eq_true rfl) (Nat.le_of_ble_eq_true rfl) rfl rfl (Nat.le_of_ble_eq_true rfl) rfl (fun v9 n9 M_10 hp9 => ?_)
  obtain ⟨rfl, rfl, hD, o_10⟩ := hp9
  have hE := hE.keep o_10 1 rfl (by omega)
  have hS := hS.keep o_10 2 rfl (by omega)
  have hT := hT.keep o_10 3 rfl (by omega)
  have hN := hN.keep o_10 1 rfl (by omega)
  have hA := hA.keep o_10 8 rfl (by omega)
  have hB := hB.keep o_10 8 rfl (by omega)
  have hP := hP.keep o_10 4 rfl (by omega)
  have hL := hL.keep o_10 1 rfl (by omega)
  have hH := hH.keep o_10 2 rfl (by omega)
  have ho := ho.tr o_10 (by omega) (by omega)
  refine jk_putF (q := 45) h (fp_X9_30 _) dX9_init_42 rfl fd_X9_3 (hE.at 0 rfl) (Nat.le_of_ble_eq_true rfl) rfl (fun M_11 s_11 => ?_)
  have hE := hE.put (i := 0) s_11 rfl
  have hS := hS.other s_11 2 rfl (by omega)
  have hT := hT.other s_11 3 rfl (by omega)
  have hN := hN.other s_11 1 rfl (by omega)
  have hA := hA.other s_11 8 rfl (by omega)
  have hB := hB.other s_11 8 rfl (by omega)
  have hP := hP.other s_11 4 rfl (by omega)
  have hL := hL.other s_11 1 rfl (by omega)
  have hH := hH.other s_11 2 rfl (by omega)
  have hD := hD.other s_11 2 rfl (by omega)
  have ho := ho.st (i := 0) s_11 (by omega)
  refine jk_aload_n (q := 46) h dX9_init_45 rfl rfl ?_
  refine jk_new (q := 49) h nw_X9_34 dX9_init_46 (Nat.le_of_ble_eq_true rfl) (Nat.le_of_ble_eq_true rfl) rfl (fun M_12 s_12 => ?_)
  have hE := hE.other s_12 1 rfl (by omega)
  have hS := hS.other s_12 2 rfl (by omega)
  have hT := hT.other s_12 3 rfl (by omega)
  have hN := hN.other s_12 1 rfl (by omega)
  have hA := hA.other s_12 8 rfl (by omega)
  have hB := hB.other s_12 8 rfl (by omega)
  have hP := hP.other s_12 4 rfl (by omega)
  have hL := hL.other s_12 1 rfl (by omega)
  have hH := hH.other s_12 2 rfl (by omega)
  have hD := hD.other s_12 2 rfl (by omega)
  have hR9 := jPic.one s_12
  have ho := ho.tr (jst.out s_12) (by omega) (by omega)
  refine jk_dup (q := 50) h dX9_init_49 rfl rfl ?_
  refine jk_aload_n (q := 51) h dX9_init_50 rfl rfl ?_
  refine jk_get (q := 54) h fg_X9_30 dX9_init_51 (hE.at 0 rfl) rfl rfl ?_
  refine jk_callI (q := 57) h hX (c_X6_init hR9 hD (by omega)) mi_X6_init dX9_init_54 ml_X9_36 ⟨rfl, Nat.le_refl _⟩ rfl rfl (Nat.le_of_ble_eq_true rfl) (Nat.le_of_ble_eq_true rfl) rfl rfl (Nat.le_of_ble_eq_true rfl) rfl (fun v9 n9 M_13 hp9 => ?_)
  obtain ⟨rfl, rfl, hR9, o_13⟩ := hp9
  have hE := hE.keep o_13 1 rfl (by omega)
  have hS := hS.keep o_13 2 rfl (by omega)
  have hT := hT.keep o_13 3 rfl (by omega)
  have hN := hN.keep o_13 1 rfl (by omega)
  have hA := hA.keep o_13 8 rfl (by omega)
  have hB := hB.keep o_13 8 rfl (by omega)
  have hP := hP.keep o_13 4 rfl (by omega)
  have hL := hL.keep o_13 1 rfl (by omega)
  have hH := hH.keep o_13 2 rfl (by omega)
  have hD := hD.keep o_13 2 rfl (by omega)
  have ho := ho.tr o_13 (by omega) (by omega)
  refine jk_putF (q := 60) h (fp_X9_39 _) dX9_init_57 rfl fd_X9_4 (hE.at 0 rfl) (Nat.le_of_ble_eq_true rfl) rfl (fun M_14 s_14 => ?_)
  have hE := hE.put (i := 0) s_14 rfl
  have hS := hS.other s_14 2 rfl (by omega)
  have hT := hT.other s_14 3 rfl (by omega)
  have hN := hN.other s_14 1 rfl (by omega)
  have hA := hA.other s_14 8 rfl (by omega)
  have hB := hB.other s_14 8 rfl (by omega)
  have hP := hP.other s_14 4 rfl (by omega)
  have hL := hL.other s_14 1 rfl (by omega)
  have hH := hH.other s_14 2 rfl (by omega)
  have hD := hD.other s_14 2 rfl (by omega)
  have hR9 := hR9.other s_14 1 rfl (by omega)
  have ho := ho.st (i := 0) s_14 (by omega)
  refine jk_aload_n (q := 61) h dX9_init_60 rfl rfl ?_
  refine jk_new (q := 64) h nw_X9_43 dX9_init_61 (Nat.le_of_ble_eq_true rfl) (Nat.le_of_ble_eq_true rfl) rfl (fun M_15 s_15 => ?_)
  have hE := hE.other s_15 1 rfl (by omega)
  have hS := hS.other s_15 2 rfl (by omega)
  have hT := hT.other s_15 3 rfl (by omega)
  have hN := hN.other s_15 1 rfl (by omega)
  have hA := hA.other s_15 8 rfl (by omega)
  have hB := hB.other s_15 8 rfl (by omega)
  have hP := hP.other s_15 4 rfl (by omega)
  have hL := hL.other s_15 1 rfl (by omega)
  have hH := hH.other s_15 2 rfl (by omega)
  have hD := hD.other s_15 2 rfl (by omega)
  have hR9 := hR9.other s_15 1 rfl (by omega)
  have hC := jPic.one s_15
  have ho := ho.tr (jst.out s_15) (by omega) (by omega)
  refine jk_dup (q := 65) h dX9_init_64 rfl rfl ?_
  refine jk_callIN (q := 68) h hX (c_X2_init hC) mi_X2_init dX9_init_65 ml_X9_45 ⟨rfl, Nat.le_refl _⟩ rfl rfl (Nat.le_of_ble_eq_true rfl) (Nat.le_of_ble_eq_true rfl) rfl rfl (Nat.le_of_ble_eq_true rfl) rfl (fun v9 n9 M_16 hp9 => ?_)
  obtain ⟨rfl, rfl, hC, o_16⟩ := hp9
  have hE := hE.keep o_16 1 rfl (by omega)
  have hS := hS.keep o_16 2 rfl (by omega)
  have hT := hT.keep o_16 3 rfl (by omega)
  have hN := hN.keep o_16 1 rfl (by omega)
  have hA := hA.keep o_16 8 rfl (by omega)
  have hB := hB.keep o_16 8 rfl (by omega)
  have hP := hP.keep o_16 4 rfl (by omega)
  have hL := hL.keep o_16 1 rfl (by omega)
  have hH := hH.keep o_16 2 rfl (by omega)
  have hD := hD.keep o_16 2 rfl (by omega)
  have hR9 := hR9.keep o_16 1 rfl (by omega)
  have ho := ho.tr o_16 (by omega) (by omega)
  refine jk_putF (q := 71) h (fp_X9_46 _) dX9_init_68 rfl fd_X9_5 (hE.at 0 rfl) (Nat.le_of_ble_eq_true rfl) rfl (fun M_17 s_17 => ?_)
  have hE := hE.put (i := 0) s_17 rfl
  have hS := hS.other s_17 2 rfl (by omega)
  have hT := hT.other s_17 3 rfl (by omega)
  have hN := hN.other s_17 1 rfl (by omega)
  have hA := hA.other s_17 8 rfl (by omega)
  have hB := hB.other s_17 8 rfl (by omega)
  have hP := hP.other s_17 4 rfl (by omega)
  have hL := hL.other s_17 1 rfl (by omega)
  have hH := hH.other s_17 2 rfl (by omega)
  have hD := hD.other s_17 2 rfl (by omega)
  have hR9 := hR9.other s_17 1 rfl (by omega)
  have hC := hC.other s_17 8 rfl (by omega)
  have ho := ho.st (i := 0) s_17 (by omega)
  exact jk_vret h hR dX9_init_71 (Nat.le_of_ble_eq_true rfl) (Nat.le_of_ble_eq_true rfl) ⟨rfl, rfl, ehP_new hE ⟨hS, hT, hN, hA, hB, hP⟩ hL hH hD hR9 hC, ho⟩

set_option maxHeartbeats 4000000 in
set_option maxRecDepth 100000 in
theorem c_X9_save {l : Launch} {D : va_G} {b0 : Nat} {n : Nat} {M : jM} {e lo : Nat} {x : TS} {hl : Int} {hk : Nat → TS} {sl : Nat → Option TS} {sg : Nat → Int} {len : Int} (hW : ehP M n e lo x hl hk sl sg len none) {s : Int} (hs9 : jRng s) : jCtr l D b0 yX9_save cX9_save 3 (some .int) 4 26 479 [.ref e, jI s] n M (fun v n2 M2 => ∃ r : Int, some (jI r) = v ∧ n ≤ n2 ∧ n2 ≤ n + 26 ∧ ((¬ (0 ≤ s ∧ s < 2) ∧ r = -2 ∧ ehP M2 n2 e lo x hl hk sl sg len none) ∨ ((0 ≤ s ∧ s < 2) ∧ r = x.2.1.2.2 ∧ ehP M2 n2 e lo x hl hk (fun k => if k = s.toNat then some x else sl k) sg len none)) ∧ jlo M M2 lo e 41) := by
  refine jctr (lv := [some (.ref e), some (jI s), none]) RX9 "save" rfl rfl (by decide) (Nat.le_of_ble_eq_true rfl) rfl ?_
  intro X h hR hX
  obtain ⟨g, gs, nx, at9, kd, fi, se, ti, tr, L, f, hE, hNw, hL, hH, hD, hR9, hC, hdy, hrs, hsQ, hpQ, hcQ, hnx, hhl, hlo1, hlo2⟩ := id hW
  obtain ⟨hS, hT, hN, hA, hB, hP⟩ := hNw
  have hj := jlo.rf M lo e 41
  have hi := jin.rf M lo n
  refine jk_iload_n (q := 1) h dX9_save_0 rfl rfl ?_
  refine jk_if_lt (q := 4) (tgt := 13) h dX9_save_1 (by decide) rfl ⟨by omega, by omega⟩ (fun c1 => ?_) (fun c1 => ?_)
  · refine jk_bipush (q := 15) h dX9_save_13 (by decide) rfl ?_
    exact jk_iret h hR dX9_save_15 (Nat.le_of_ble_eq_true rfl) (Nat.le_of_ble_eq_true rfl) ⟨-2, rfl, Nat.le_refl _, by omega, Or.inl ⟨by omega, rfl, hW⟩, hj⟩
  · refine jk_iload_n (q := 5) h dX9_save_4 rfl rfl ?_
    refine jk_aload_n (q := 6) h dX9_save_5 rfl rfl ?_
    refine jk_get (q := 9) h fg_X9_16 dX9_save_6 (hE.at 0 rfl) rfl rfl ?_
    refine jk_alen (q := 10) h dX9_save_9 (hL.at 0 rfl) rfl ?_
    refine jk_icmp_lt (q := 13) (tgt := 16) h dX9_save_10 (by decide) rfl ⟨by omega, by omega⟩ ⟨by omega, by omega⟩ (fun c10 => ?_) (fun c10 => ?_)
    · refine jk_aload_n (q := 17) h dX9_save_16 rfl rfl ?_
      refine jk_get (q := 20) h fg_X9_16 dX9_save_17 (hE.at 0 rfl) rfl rfl ?_
      refine jk_iload_n (q := 21) h dX9_save_20 rfl rfl ?_
      rcases hg9 : gs s.toNat with _ | a9
      · refine jk_aald (q := 22) h dX9_save_21 (hL.at 0 rfl) (by omega) (by omega) rfl (v := .null) (by show va_rf (gs _) = _; rw [hg9]; rfl) rfl ?_
        refine jk_astore_nN (q := 23) h dX9_save_22 rfl (Nat.le_of_ble_eq_true rfl) rfl rfl ?_
        refine jk_aload_nN (q := 24) h dX9_save_23 rfl rfl ?_
        refine jk_nonnullN (q := 27) h dX9_save_24 rfl ?_
        refine jk_new (q := 30) h nw_X9_9 dX9_save_27 (Nat.le_of_ble_eq_true rfl) (Nat.le_of_ble_eq_true rfl) rfl (fun M_1 s_1 => ?_)
        have hE := hE.other s_1 1 rfl (by omega)
        have hS := hS.other s_1 2 rfl (by omega)
        have hT := hT.other s_1 3 rfl (by omega)
        have hN := hN.other s_1 1 rfl (by omega)
        have hA := hA.other s_1 8 rfl (by omega)
        have hB := hB.other s_1 8 rfl (by omega)
        have hP := hP.other s_1 4 rfl (by omega)
        have hL := hL.other s_1 1 rfl (by omega)
        have hH := hH.other s_1 2 rfl (by omega)
        have hD := hD.other s_1 2 rfl (by omega)
        have hR9 := hR9.other s_1 1 rfl (by omega)
        have hC := hC.other s_1 8 rfl (by omega)
        have hZ := jPic.one s_1
        have hj := hj.stq s_1 (by omega)
        have hi := hi.stq s_1 (by omega)
        refine jk_dup (q := 31) h dX9_save_30 rfl rfl ?_
        refine jk_callIN (q := 34) h hX (c_X7_init hZ) mi_X7_init dX9_save_31 ml_X9_11 ⟨rfl, Nat.le_refl _⟩ rfl rfl (Nat.le_of_ble_eq_true rfl) (Nat.le_of_ble_eq_true rfl) rfl rfl (Nat.le_of_ble_eq_true rfl) rfl (fun v9 n9 M_2 hp9 => ?_)
        obtain ⟨rfl, rfl, hst9, o_2⟩ := hp9
        have hE := hE.keep o_2 1 rfl (by omega)
        have hS := hS.keep o_2 2 rfl (by omega)
        have hT := hT.keep o_2 3 rfl (by omega)
        have hN := hN.keep o_2 1 rfl (by omega)
        have hA := hA.keep o_2 8 rfl (by omega)
        have hB := hB.keep o_2 8 rfl (by omega)
        have hP := hP.keep o_2 4 rfl (by omega)
        have hL := hL.keep o_2 1 rfl (by omega)
        have hH := hH.keep o_2 2 rfl (by omega)
        have hD := hD.keep o_2 2 rfl (by omega)
        have hR9 := hR9.keep o_2 1 rfl (by omega)
        have hC := hC.keep o_2 8 rfl (by omega)
        have hj := hj.trq o_2 (by omega)
        have hi := hi.trq o_2 (by omega)
        have hZ := hst9.1
        refine jk_astore_n (q := 35) h dX9_save_34 rfl (Nat.le_of_ble_eq_true rfl) rfl rfl ?_
        refine jk_aload_n (q := 36) h dX9_save_35 rfl rfl ?_
        refine jk_get (q := 39) h fg_X9_16 dX9_save_36 (hE.at 0 rfl) rfl rfl ?_
        refine jk_iload_n (q := 40) h dX9_save_39 rfl rfl ?_
        refine jk_aload_n (q := 41) h dX9_save_40 rfl rfl ?_
        refine jk_aast (q := 42) (ci := 6) (r := (RX7, TX7, 3)) h dX9_save_41 rfl (hL.at 0 rfl) (hZ.at 0 rfl) (by omega) (by omega) rfl rfl (fun M_3 s_3 => ?_)
        have hE := hE.other s_3 1 rfl (by omega)
        have hS := hS.other s_3 2 rfl (by omega)
        have hT := hT.other s_3 3 rfl (by omega)
        have hN := hN.other s_3 1 rfl (by omega)
        have hA := hA.other s_3 8 rfl (by omega)
        have hB := hB.other s_3 8 rfl (by omega)
        have hP := hP.other s_3 4 rfl (by omega)
        have hL := hL.put (i := 0) s_3 rfl
        have hH := hH.other s_3 2 rfl (by omega)
        have hD := hD.other s_3 2 rfl (by omega)
        have hR9 := hR9.other s_3 1 rfl (by omega)
        have hC := hC.other s_3 8 rfl (by omega)
        have hZ := hZ.other s_3 2 rfl (by omega)
        have hj := hj.stq s_3 (by omega)
        have hi := hi.stq s_3 (by omega)
        have hst9 := hst9.keep (jst.out s_3) (by omega)
        refine jk_aload_n (q := 43) h dX9_save_42 rfl rfl ?_
        refine jk_aload_n (q := 44) h dX9_save_43 rfl rfl ?_
        refine jk_get (q := 47) h fg_X9_12 dX9_save_44 (hE.at 0 rfl) rfl rfl ?_
        refine jk_callV (q := 50) h hX (c_X7_copyFrom hst9 ⟨hS, hT, hN, hA, hB, hP⟩ (by omega)) mv_X7_copyFrom (hZ.at 0 rfl) dX9_save_47 ml_X9_248 ⟨rfl, Nat.le_refl _⟩ rfl rfl (Nat.le_of_ble_eq_true rfl) (Nat.le_of_ble_eq_true rfl) rfl rfl (Nat.le_of_ble_eq_true rfl) rfl (fun v9 n9 M_4 hp9 => ?_)
        obtain ⟨rfl, rfl, hst9, o_4⟩ := hp9
        have hE := hE.keep o_4 1 rfl (by omega)
        have hS := hS.keep o_4 2 rfl (by omega)
        have hT := hT.keep o_4 3 rfl (by omega)
        have hN := hN.keep o_4 1 rfl (by omega)
        have hA := hA.keep o_4 8 rfl (by omega)
        have hB := hB.keep o_4 8 rfl (by omega)
        have hP := hP.keep o_4 4 rfl (by omega)
        have hL := hL.keep o_4 1 rfl (by omega)
        have hH := hH.keep o_4 2 rfl (by omega)
        have hD := hD.keep o_4 2 rfl (by omega)
        have hR9 := hR9.keep o_4 1 rfl (by omega)
        have hC := hC.keep o_4 8 rfl (by omega)
        have hj := hj.trq o_4 (by omega)
        have hi := hi.trq o_4 (by omega)
        have hoc := o_4
        refine jk_aload_n (q := 51) h dX9_save_50 rfl rfl ?_
        refine jk_get (q := 54) h fg_X9_12 dX9_save_51 (hE.at 0 rfl) rfl rfl ?_
        refine jk_getN (q := 57) h fg_X9_72 dX9_save_54 (hS.at 0 rfl) rfl rfl ?_
        refine jk_getN (q := 60) h fg_X9_117 dX9_save_57 (hT.at 0 rfl) rfl rfl ?_
        exact jk_iret h hR dX9_save_60 (Nat.le_of_ble_eq_true rfl) (Nat.le_of_ble_eq_true rfl) (by first | exact ⟨_, rfl, Nat.le_refl _, by omega, Or.inr ⟨by omega, rfl, ⟨g, gs, nx, at9, kd, fi, se, ti, tr, L, fup9 f a9 x, hE, ⟨hS, hT, hN, hA, hB, hP⟩, hL, hH, hD, hR9, hC, hdy.put haL hoc hst9 hsQ, rsQ_sOld (i := s.toNat) hrs (by omega) hg9, hsQ, hpQ, hcQ, hnx, hhl, hlo1, hlo2⟩⟩, hj⟩ | exact ⟨_, rfl, by omega, Nat.le_refl _, Or.inr ⟨by omega, rfl, ⟨g, _, nx, at9, kd, fi, se, ti, tr, _, fup9 f n x, hE, ⟨hS, hT, hN, hA, hB, hP⟩, hL, hH, hD, hR9, hC, hdy.new2 hlo2 hi hst9 hsQ, rsQ_sNew (i := s.toNat) hrs (by omega) hdy.nin, hsQ, hpQ, hcQ, hnx, hhl, hlo1, (by omega)⟩⟩, hj⟩)
      · refine jk_aald (q := 22) h dX9_save_21 (hL.at 0 rfl) (by omega) (by omega) rfl (v := .ref a9) (by show va_rf (gs _) = _; rw [hg9]; rfl) rfl ?_
        obtain ⟨haL, hsl9⟩ : a9 ∈ L ∧ sl s.toNat = some (f a9) := by
          rcases hrs.2.2.2.1 s.toNat (by omega) with z | ⟨b, h1, h2, h3, -⟩
          · rw [z.1] at hg9; exact absurd hg9 (by simp)
          · rw [hg9] at h1; cases h1; exact ⟨h2, h3⟩
        obtain ⟨ha1, ha2, hst9, haq⟩ := hdy.1 a9 haL
        have hZ := hst9.1
        have hi := jin.rf M lo lo
        refine jk_astore_n (q := 23) h dX9_save_22 rfl (Nat.le_of_ble_eq_true rfl) rfl rfl ?_
        refine jk_aload_n (q := 24) h dX9_save_23 rfl rfl ?_
        refine jk_nonnull (q := 27) (tgt := 42) h dX9_save_24 (by decide) ?_
        refine jk_aload_n (q := 43) h dX9_save_42 rfl rfl ?_
        refine jk_aload_n (q := 44) h dX9_save_43 rfl rfl ?_
        refine jk_get (q := 47) h fg_X9_12 dX9_save_44 (hE.at 0 rfl) rfl rfl ?_
        refine jk_callV (q := 50) h hX (c_X7_copyFrom hst9 ⟨hS, hT, hN, hA, hB, hP⟩ (by omega)) mv_X7_copyFrom (hZ.at 0 rfl) dX9_save_47 ml_X9_248 ⟨rfl, Nat.le_refl _⟩ rfl rfl (Nat.le_of_ble_eq_true rfl) (Nat.le_of_ble_eq_true rfl) rfl rfl (Nat.le_of_ble_eq_true rfl) rfl (fun v9 n9 M_5 hp9 => ?_)
        obtain ⟨rfl, rfl, hst9, o_5⟩ := hp9
        have hE := hE.keep o_5 1 rfl (by omega)
        have hS := hS.keep o_5 2 rfl (by omega)
        have hT := hT.keep o_5 3 rfl (by omega)
        have hN := hN.keep o_5 1 rfl (by omega)
        have hA := hA.keep o_5 8 rfl (by omega)
        have hB := hB.keep o_5 8 rfl (by omega)
        have hP := hP.keep o_5 4 rfl (by omega)
        have hL := hL.keep o_5 1 rfl (by omega)
        have hH := hH.keep o_5 2 rfl (by omega)
        have hD := hD.keep o_5 2 rfl (by omega)
        have hR9 := hR9.keep o_5 1 rfl (by omega)
        have hC := hC.keep o_5 8 rfl (by omega)
        have hj := hj.trq o_5 (by omega)
        have hi := hi.trq o_5 (by omega)
        have hoc := o_5
        refine jk_aload_n (q := 51) h dX9_save_50 rfl rfl ?_
        refine jk_get (q := 54) h fg_X9_12 dX9_save_51 (hE.at 0 rfl) rfl rfl ?_
        refine jk_getN (q := 57) h fg_X9_72 dX9_save_54 (hS.at 0 rfl) rfl rfl ?_
        refine jk_getN (q := 60) h fg_X9_117 dX9_save_57 (hT.at 0 rfl) rfl rfl ?_
        exact jk_iret h hR dX9_save_60 (Nat.le_of_ble_eq_true rfl) (Nat.le_of_ble_eq_true rfl) (by first | exact ⟨_, rfl, Nat.le_refl _, by omega, Or.inr ⟨by omega, rfl, ⟨g, gs, nx, at9, kd, fi, se, ti, tr, L, fup9 f a9 x, hE, ⟨hS, hT, hN, hA, hB, hP⟩, hL, hH, hD, hR9, hC, hdy.put haL hoc hst9 hsQ, rsQ_sOld (i := s.toNat) hrs (by omega) hg9, hsQ, hpQ, hcQ, hnx, hhl, hlo1, hlo2⟩⟩, hj⟩ | exact ⟨_, rfl, by omega, Nat.le_refl _, Or.inr ⟨by omega, rfl, ⟨g, _, nx, at9, kd, fi, se, ti, tr, _, fup9 f n x, hE, ⟨hS, hT, hN, hA, hB, hP⟩, hL, hH, hD, hR9, hC, hdy.new2 hlo2 hi hst9 hsQ, rsQ_sNew (i := s.toNat) hrs (by omega) hdy.nin, hsQ, hpQ, hcQ, hnx, hhl, hlo1, (by omega)⟩⟩, hj⟩)
    · refine jk_bipush (q := 15) h dX9_save_13 (by decide) rfl ?_
      exact jk_iret h hR dX9_save_15 (Nat.le_of_ble_eq_true rfl) (Nat.le_of_ble_eq_true rfl) ⟨-2, rfl, Nat.le_refl _, by omega, Or.inl ⟨by omega, rfl, hW⟩, hj⟩

set_option maxHeartbeats 4000000 in
set_option maxRecDepth 100000 in
theorem c_X9_restore {l : Launch} {D : va_G} {b0 : Nat} {n : Nat} {M : jM} {e lo : Nat} {x : TS} {hl : Int} {hk : Nat → TS} {sl : Nat → Option TS} {sg : Nat → Int} {len : Int} (hW : ehP M n e lo x hl hk sl sg len none) {s : Int} (hs9 : jRng s) : jCtr l D b0 yX9_restore cX9_restore 3 (some .int) 5 26 479 [.ref e, jI s] n M (fun v n2 M2 => ∃ r : Int, some (jI r) = v ∧ n ≤ n2 ∧ n2 ≤ n + 26 ∧ ((¬ (0 ≤ s ∧ s < 2) ∧ r = -2 ∧ ehP M2 n2 e lo x hl hk sl sg len none) ∨ ((0 ≤ s ∧ s < 2) ∧ sl s.toNat = none ∧ r = -5 ∧ ehP M2 n2 e lo x hl hk sl sg len none) ∨ ((0 ≤ s ∧ s < 2) ∧ ∃ y, sl s.toNat = some y ∧ r = y.2.1.2.2 ∧ ehP M2 n2 e lo y (rcH r hl) (rcK r x hk) sl sg len none)) ∧ jlo M M2 lo e 41) := by
  refine jctr (lv := [some (.ref e), some (jI s), none]) RX9 "restore" rfl rfl (by decide) (Nat.le_of_ble_eq_true rfl) rfl ?_
  intro X h hR hX
  obtain ⟨g, gs, nx, at9, kd, fi, se, ti, tr, L, f, hE, hNw, hL, hH, hD, hR9, hC, hdy, hrs, hsQ, hpQ, hcQ, hnx, hhl, hlo1, hlo2⟩ := id hW
  obtain ⟨hS, hT, hN, hA, hB, hP⟩ := hNw
  have hj := jlo.rf M lo e 41
  refine jk_iload_n (q := 1) h dX9_restore_0 rfl rfl ?_
  refine jk_if_lt (q := 4) (tgt := 13) h dX9_restore_1 (by decide) rfl ⟨by omega, by omega⟩ (fun c1 => ?_) (fun c1 => ?_)
  · refine jk_bipush (q := 15) h dX9_restore_13 (by decide) rfl ?_
    exact jk_iret h hR dX9_restore_15 (Nat.le_of_ble_eq_true rfl) (Nat.le_of_ble_eq_true rfl) ⟨-2, rfl, Nat.le_refl _, by omega, Or.inl ⟨by omega, rfl, hW⟩, hj⟩
  · refine jk_iload_n (q := 5) h dX9_restore_4 rfl rfl ?_
    refine jk_aload_n (q := 6) h dX9_restore_5 rfl rfl ?_
    refine jk_get (q := 9) h fg_X9_16 dX9_restore_6 (hE.at 0 rfl) rfl rfl ?_
    refine jk_alen (q := 10) h dX9_restore_9 (hL.at 0 rfl) rfl ?_
    refine jk_icmp_lt (q := 13) (tgt := 16) h dX9_restore_10 (by decide) rfl ⟨by omega, by omega⟩ ⟨by omega, by omega⟩ (fun c10 => ?_) (fun c10 => ?_)
    · refine jk_aload_n (q := 17) h dX9_restore_16 rfl rfl ?_
      refine jk_get (q := 20) h fg_X9_16 dX9_restore_17 (hE.at 0 rfl) rfl rfl ?_
      refine jk_iload_n (q := 21) h dX9_restore_20 rfl rfl ?_
      rcases hg9 : gs s.toNat with _ | a9
      · refine jk_aald (q := 22) h dX9_restore_21 (hL.at 0 rfl) (by omega) (by omega) rfl (v := .null) (by show va_rf (gs _) = _; rw [hg9]; rfl) rfl ?_
        have hsn : sl s.toNat = none := by
          rcases hrs.2.2.2.1 s.toNat (by omega) with z | ⟨b, h1, -⟩
          · exact z.2
          · rw [hg9] at h1; exact absurd h1 (by simp)
        refine jk_astore_nN (q := 23) h dX9_restore_22 rfl (Nat.le_of_ble_eq_true rfl) rfl rfl ?_
        refine jk_aload_nN (q := 24) h dX9_restore_23 rfl rfl ?_
        refine jk_nonnullN (q := 27) h dX9_restore_24 rfl ?_
        refine jk_bipush (q := 29) h dX9_restore_27 (by decide) rfl ?_
        exact jk_iret h hR dX9_restore_29 (Nat.le_of_ble_eq_true rfl) (Nat.le_of_ble_eq_true rfl) ⟨-5, rfl, Nat.le_refl _, by omega, Or.inr (Or.inl ⟨by omega, hsn, rfl, hW⟩), hj⟩
      · refine jk_aald (q := 22) h dX9_restore_21 (hL.at 0 rfl) (by omega) (by omega) rfl (v := .ref a9) (by show va_rf (gs _) = _; rw [hg9]; rfl) rfl ?_
        refine jk_astore_n (q := 23) h dX9_restore_22 rfl (Nat.le_of_ble_eq_true rfl) rfl rfl ?_
        refine jk_aload_n (q := 24) h dX9_restore_23 rfl rfl ?_
        refine jk_nonnull (q := 27) (tgt := 30) h dX9_restore_24 (by decide) ?_
        refine jk_aload_n (q := 31) h dX9_restore_30 rfl rfl ?_
        refine jk_get (q := 34) h fg_X9_23 dX9_restore_31 (hE.at 0 rfl) rfl rfl ?_
        refine jk_aload_n (q := 35) h dX9_restore_34 rfl rfl ?_
        refine jk_get (q := 38) h fg_X9_12 dX9_restore_35 (hE.at 0 rfl) rfl rfl ?_
        refine jk_callV (q := 41) h hX (c_X3_prepare hW) mv_X3_prepare (hH.at 0 rfl) dX9_restore_38 ml_X9_50 ⟨rfl, Nat.le_refl _⟩ rfl rfl (Nat.le_of_ble_eq_true rfl) (Nat.le_of_ble_eq_true rfl) rfl rfl (Nat.le_of_ble_eq_true rfl) rfl (fun v9 n9 M_1 hp9 => ?_)
        obtain ⟨rfl, hn1, hn2, hW, o_1, hL27⟩ := hp9
        have hj := hj.tr o_1
        have hLo := hL
        obtain ⟨g, gs, nx, at9, kd, fi, se, ti, tr, L, f, hE, hNw, hL, hH, hD, hR9, hC, hdy, hrs, hsQ, hpQ, hcQ, hnx, hhl, hlo1, hlo2⟩ := id hW
        obtain ⟨hS, hT, hN, hA, hB, hP⟩ := hNw
        have hge := aS_inj (Option.some.inj (((hLo.at 0 rfl).symm.trans hL27.symm).trans (hL.at 0 rfl)))
        rw [hge] at hg9
        obtain ⟨haL, hsl9⟩ : a9 ∈ L ∧ sl s.toNat = some (f a9) := by
          rcases hrs.2.2.2.1 s.toNat (by omega) with z | ⟨b, h1, h2, h3, -⟩
          · rw [z.1] at hg9; exact absurd hg9 (by simp)
          · rw [hg9] at h1; cases h1; exact ⟨h2, h3⟩
        obtain ⟨ha1, ha2, hst9, haq⟩ := hdy.1 a9 haL
        refine jk_aload_n (q := 42) h dX9_restore_41 rfl rfl ?_
        refine jk_get (q := 45) h fg_X9_12 dX9_restore_42 (hE.at 0 rfl) rfl rfl ?_
        refine jk_aload_n (q := 46) h dX9_restore_45 rfl rfl ?_
        refine jk_callV (q := 49) h hX (c_X7_copyFrom ⟨hS, hT, hN, hA, hB, hP⟩ hst9 (by omega)) mv_X7_copyFrom (hS.at 0 rfl) dX9_restore_46 ml_X9_248 ⟨rfl, Nat.le_refl _⟩ rfl rfl (Nat.le_of_ble_eq_true rfl) (Nat.le_of_ble_eq_true rfl) rfl rfl (Nat.le_of_ble_eq_true rfl) rfl (fun v9 n9 M_2 hp9 => ?_)
        obtain ⟨rfl, rfl, hst8, o_2⟩ := hp9
        have hz9 := haq.2.1.2.2
        generalize hfy : f a9 = y at *
        have hW := hW.now hst8 haq o_2
        have hj := hj.trq o_2 (by omega)
        obtain ⟨g, gs, nx, at9, kd, fi, se, ti, tr, L, f, hE, hNw, hL, hH, hD, hR9, hC, hdy, hrs, hsQ, hpQ, hcQ, hnx, hhl, hlo1, hlo2⟩ := id hW
        obtain ⟨hS, hT, hN, hA, hB, hP⟩ := hNw
        refine jk_aload_n (q := 50) h dX9_restore_49 rfl rfl ?_
        refine jk_aload_n (q := 51) h dX9_restore_50 rfl rfl ?_
        refine jk_get (q := 54) h fg_X9_12 dX9_restore_51 (hE.at 0 rfl) rfl rfl ?_
        refine jk_getN (q := 57) h fg_X9_72 dX9_restore_54 (hS.at 0 rfl) rfl rfl ?_
        refine jk_getN (q := 60) h fg_X9_117 dX9_restore_57 (hT.at 0 rfl) rfl rfl ?_
        refine jk_callV (q := 63) h hX (c_X9_recorded hW ⟨by omega, by omega⟩) mv_X9_recorded (hE.at 0 rfl) dX9_restore_60 ml_X9_58 ⟨rfl, Nat.le_refl _⟩ rfl rfl (Nat.le_of_ble_eq_true rfl) (Nat.le_of_ble_eq_true rfl) rfl rfl (Nat.le_of_ble_eq_true rfl) rfl (fun v9 n9 M_3 hp9 => ?_)
        obtain ⟨rfl, rfl, hW, o_3⟩ := hp9
        have hj := hj.tr o_3
        exact jk_iret h hR dX9_restore_63 (Nat.le_of_ble_eq_true rfl) (Nat.le_of_ble_eq_true rfl) ⟨_, rfl, hn1, hn2, Or.inr (Or.inr ⟨by omega, y, hsl9, rfl, hW⟩), hj⟩
    · refine jk_bipush (q := 15) h dX9_restore_13 (by decide) rfl ?_
      exact jk_iret h hR dX9_restore_15 (Nat.le_of_ble_eq_true rfl) (Nat.le_of_ble_eq_true rfl) ⟨-2, rfl, Nat.le_refl _, by omega, Or.inl ⟨by omega, rfl, hW⟩, hj⟩

set_option maxHeartbeats 4000000 in
set_option maxRecDepth 100000 in
theorem c_X9_fewest {l : Launch} {D : va_G} {b0 : Nat} {n : Nat} {M : jM} {e lo : Nat} {x : TS} {hl : Int} {hk : Nat → TS} {sl : Nat → Option TS} {sg : Nat → Int} {len : Int} (hW : ehP M n e lo x hl hk sl sg len none) {c far : Int} (h_c : jRng c) (h_far : jRng far) : jCtr l D b0 yX9_fewest cX9_fewest 4 (some .int) 5 0 0 [.ref e, jI c, jI far] n M (fun v n2 M2 => ∃ r : Int, some (jI r) = v ∧ n = n2 ∧ ((¬ ((c = 0 ∨ c = 1) ∧ 0 ≤ far ∧ far ≤ 60) ∧ r = -2) ∨ (((c = 0 ∨ c = 1) ∧ 0 ≤ far ∧ far ≤ 60) ∧ x.2.1.2.2 = 0 ∧ r = -5) ∨ (((c = 0 ∨ c = 1) ∧ 0 ≤ far ∧ far ≤ 60) ∧ 0 < x.2.1.2.2 ∧ fwQ x c far 10 1 r)) ∧ ehP M2 n e lo x hl hk sl sg len none ∧ jlo M M2 lo e 41) := by
  refine jctr (lv := [some (.ref e), some (jI c), some (jI far), none]) RX9 "fewest" rfl rfl (by decide) (Nat.le_of_ble_eq_true rfl) rfl ?_
  intro X h hR hX
  obtain ⟨g, gs, nx, at9, kd, fi, se, ti, tr, L, f, hE, hNw, hL, hH, hD, hR9, hC, hdy, hrs, hsQ, hpQ, hcQ, hnx, hhl, hlo1, hlo2⟩ := id hW
  obtain ⟨hS, hT, hN, hA, hB, hP⟩ := hNw
  obtain ⟨hse, htb, hr, hch, hOA, hOB, hOP⟩ := id hsQ
  obtain ⟨hya, hyb, hys⟩ := id htb
  have hj := jlo.rf M lo e 41
  refine jk_iload_n (q := 1) h dX9_fewest_0 rfl rfl ?_
  refine jk_callS (q := 4) h hX (c_X9_isColumn ⟨by omega, by omega⟩) ms_X9_isColumn dX9_fewest_1 ml_X9_82 ⟨rfl, Nat.le_refl _⟩ rfl rfl (Nat.le_of_ble_eq_true rfl) (Nat.le_of_ble_eq_true rfl) rfl rfl (Nat.le_of_ble_eq_true rfl) rfl (fun v9 n9 M9 hp9 => ?_)
  obtain ⟨rfl, rfl, rfl⟩ := hp9
  refine jk_if_eqB (q := 7) (tgt := 17) h dX9_fewest_4 (by decide) rfl (fun c4 => ?_) (fun c4 => ?_)
  · refine jk_bipush (q := 19) h dX9_fewest_17 (by decide) rfl ?_
    exact jk_iret h hR dX9_fewest_19 (Nat.le_of_ble_eq_true rfl) (Nat.le_of_ble_eq_true rfl) ⟨-2, rfl, rfl, Or.inl ⟨by omega, rfl⟩, hW, hj⟩
  · refine jk_iload_n (q := 8) h dX9_fewest_7 rfl rfl ?_
    refine jk_iconst (q := 9) h dX9_fewest_8 rfl ?_
    refine jk_bipush (q := 11) h dX9_fewest_9 (by decide) rfl ?_
    refine jk_callS (q := 14) h hX (c_X9_isBetween ⟨by omega, by omega⟩ ⟨by omega, by omega⟩ ⟨by omega, by omega⟩) ms_X9_isBetween dX9_fewest_11 ml_X9_88 ⟨rfl, Nat.le_refl _⟩ rfl rfl (Nat.le_of_ble_eq_true rfl) (Nat.le_of_ble_eq_true rfl) rfl rfl (Nat.le_of_ble_eq_true rfl) rfl (fun v9 n9 M9 hp9 => ?_)
    obtain ⟨rfl, rfl, rfl⟩ := hp9
    refine jk_if_neB (q := 17) (tgt := 20) h dX9_fewest_14 (by decide) rfl (fun c14 => ?_) (fun c14 => ?_)
    · refine jk_aload_n (q := 21) h dX9_fewest_20 rfl rfl ?_
      refine jk_get (q := 24) h fg_X9_12 dX9_fewest_21 (hE.at 0 rfl) rfl rfl ?_
      refine jk_getN (q := 27) h fg_X9_72 dX9_fewest_24 (hS.at 0 rfl) rfl rfl ?_
      refine jk_getN (q := 30) h fg_X9_117 dX9_fewest_27 (hT.at 0 rfl) rfl rfl ?_
      refine jk_if_ne (q := 33) (tgt := 36) h dX9_fewest_30 (by decide) rfl ⟨by omega, by omega⟩ (fun c30 => ?_) (fun c30 => ?_)
      · refine jk_iconst (q := 37) h dX9_fewest_36 rfl ?_
        refine jk_istore_n (q := 38) h dX9_fewest_37 rfl (Nat.le_of_ble_eq_true rfl) rfl rfl ?_
        have lp38 : ∀ (k9 : Nat) (k : Int) (M9 : jM) (hW : ehP M9 n e lo x hl hk sl sg len none) (hk1 : 1 ≤ k) (hk2 : k ≤ 11) (hfw : ∀ r : Int, fwQ x c far (11 - k).toNat k r → fwQ x c far 10 1 r) (hj : jlo M M9 lo e 41) (hk9 : (11 - k).toNat = k9), jJ X 38 [some (.ref (e)), some (jI (c)), some (jI (far)), some (jI (k))] [] n M9 0 0 := by
          intro k9
          induction k9 using Nat.strongRecOn with
          | _ k9 ih38 =>
            intro k M9 hW hk1 hk2 hfw hj hk9
            obtain ⟨g, gs, nx, at9, kd, fi, se, ti, tr, L, f, hE, hNw, hL, hH, hD, hR9, hC, hdy, hrs, hsQ, hpQ, hcQ, hnx, hhl, hlo1, hlo2⟩ := id hW
            obtain ⟨hS, hT, hN, hA, hB, hP⟩ := hNw
            obtain ⟨hse, htb, hr, hch, hOA, hOB, hOP⟩ := id hsQ
            obtain ⟨hya, hyb, hys⟩ := id htb
            refine jk_iload_n (q := 39) h dX9_fewest_38 rfl rfl ?_
            refine jk_bipush (q := 41) h dX9_fewest_39 (by decide) rfl ?_
            refine jk_icmp_gt (q := 44) (tgt := 94) h dX9_fewest_41 (by decide) rfl ⟨by omega, by omega⟩ ⟨by omega, by omega⟩ (fun c41 => ?_) (fun c41 => ?_)
            · refine jk_bipush (q := 96) h dX9_fewest_94 (by decide) rfl ?_
              exact jk_iret h hR dX9_fewest_96 (Nat.le_of_ble_eq_true rfl) (Nat.le_of_ble_eq_true rfl) ⟨-6, rfl, rfl, Or.inr (Or.inr ⟨by omega, by omega, hfw _ (fwQ_0 (by omega))⟩), hW, hj⟩
            · refine jk_aload_n (q := 45) h dX9_fewest_44 rfl rfl ?_
              refine jk_get (q := 48) h fg_X9_46 dX9_fewest_45 (hE.at 0 rfl) rfl rfl ?_
              refine jk_aload_n (q := 49) h dX9_fewest_48 rfl rfl ?_
              refine jk_get (q := 52) h fg_X9_12 dX9_fewest_49 (hE.at 0 rfl) rfl rfl ?_
              refine jk_getN (q := 55) h fg_X9_72 dX9_fewest_52 (hS.at 0 rfl) rfl rfl ?_
              refine jk_iload_n (q := 56) h dX9_fewest_55 rfl rfl ?_
              refine jk_aload_n (q := 57) h dX9_fewest_56 rfl rfl ?_
              refine jk_get (q := 60) h fg_X9_12 dX9_fewest_57 (hE.at 0 rfl) rfl rfl ?_
              refine jk_iconst (q := 61) h dX9_fewest_60 rfl ?_
              refine jk_callV (q := 64) h hX (c_X7_setting ⟨hS, hT, hN, hA, hB, hP⟩ hsQ ⟨by omega, by omega⟩) mv_X7_setting (hS.at 0 rfl) dX9_fewest_61 ml_X9_138 ⟨rfl, Nat.le_refl _⟩ rfl rfl (Nat.le_of_ble_eq_true rfl) (Nat.le_of_ble_eq_true rfl) rfl rfl (Nat.le_of_ble_eq_true rfl) rfl (fun v9 n9 M9 hp9 => ?_)
              obtain ⟨rfl, rfl, rfl⟩ := hp9
              refine jk_iload_n (q := 65) h dX9_fewest_64 rfl rfl ?_
              refine jk_callV (q := 68) h hX (c_X2_learn hC hcQ hT hsQ.2.1 (by omega) (by omega) hse.2.1 ⟨by omega, by omega⟩) mv_X2_learn (hC.at 0 rfl) dX9_fewest_65 ml_X9_202 ⟨rfl, Nat.le_refl _⟩ rfl rfl (Nat.le_of_ble_eq_true rfl) (Nat.le_of_ble_eq_true rfl) rfl rfl (Nat.le_of_ble_eq_true rfl) rfl (fun v9 n9 M_1 hp9 => ?_)
              obtain ⟨rfl, rfl, y9, hC9, hcy, hly, o_1⟩ := hp9
              have hW := hW.trl hC9 hcy o_1
              have hj := hj.trq o_1 (by omega)
              obtain ⟨g, gs, nx, at9, kd, fi, se, ti, tr, L, f, hE, hNw, hL, hH, hD, hR9, hC, hdy, hrs, hsQ, hpQ, hcQ, hnx, hhl, hlo1, hlo2⟩ := id hW
              obtain ⟨hS, hT, hN, hA, hB, hP⟩ := hNw
              obtain ⟨hse, htb, hr, hch, hOA, hOB, hOP⟩ := id hsQ
              obtain ⟨hya, hyb, hys⟩ := id htb
              have hC := hC9
              have hO := hcy
              have hmb := miT_bd (v := wvI (miT y9) 100) hcy
              have hwv := wvI_bd1 (miT y9)
              refine jk_aload_n (q := 69) h dX9_fewest_68 rfl rfl ?_
              refine jk_get (q := 72) h fg_X9_46 dX9_fewest_69 (hE.at 0 rfl) rfl rfl ?_
              refine jk_aload_n (q := 73) h dX9_fewest_72 rfl rfl ?_
              refine jk_get (q := 76) h fg_X9_46 dX9_fewest_73 (hE.at 0 rfl) rfl rfl ?_
              refine jk_callV (q := 79) h hX (c_X2_worstValue hC hO) mv_X2_worstValue (hC.at 0 rfl) dX9_fewest_76 ml_X9_196 ⟨rfl, Nat.le_refl _⟩ rfl rfl (Nat.le_of_ble_eq_true rfl) (Nat.le_of_ble_eq_true rfl) rfl rfl (Nat.le_of_ble_eq_true rfl) rfl (fun v9 n9 M9 hp9 => ?_)
              obtain ⟨rfl, rfl, rfl⟩ := hp9
              refine jk_callV (q := 82) h hX (c_X2_miss hC hO hwv) mv_X2_miss (hC.at 0 rfl) dX9_fewest_79 ml_X9_199 ⟨rfl, Nat.le_refl _⟩ rfl rfl (Nat.le_of_ble_eq_true rfl) (Nat.le_of_ble_eq_true rfl) rfl rfl (Nat.le_of_ble_eq_true rfl) rfl (fun v9 n9 M9 hp9 => ?_)
              obtain ⟨rfl, rfl, rfl⟩ := hp9
              refine jk_name (fun mv hmv => ?_)
              have hmv2 : mv = miT y9 (wvI (miT y9) 100) := hmv
              rw [← hmv2] at hmb
              refine jk_iload_n (q := 83) h dX9_fewest_82 rfl rfl ?_
              refine jk_icmp_gt (q := 86) (tgt := 88) h dX9_fewest_83 (by decide) rfl ⟨by omega, by omega⟩ ⟨by omega, by omega⟩ (fun c83 => ?_) (fun c83 => ?_)
              · refine jk_iinc (q := 91) h dX9_fewest_88 rfl rfl rfl rfl ?_
                refine jk_goto (q := 94) (tgt := 38) h dX9_fewest_91 (by decide) ?_
                exact jk_weak (jwk_s rfl (jwk_s rfl (jwk_s rfl (jwk_s rfl jwk_0)))) (ih38 _ (by omega) _ _ hW (by omega) (by omega) (fun r h9 => hfw r (fwQ_s (by omega) hcy hly (by rw [← hmv2]; omega) h9)) hj rfl)
              · refine jk_iload_n (q := 87) h dX9_fewest_86 rfl rfl ?_
                exact jk_iret h hR dX9_fewest_87 (Nat.le_of_ble_eq_true rfl) (Nat.le_of_ble_eq_true rfl) ⟨k, rfl, rfl, Or.inr (Or.inr ⟨by omega, by omega, hfw _ (fwQ_1 (by omega) hcy hly (by rw [← hmv2]; omega))⟩), hW, hj⟩
        exact jk_weak (jwk_s rfl (jwk_s rfl (jwk_s rfl (jwk_s rfl jwk_0)))) (lp38 _ 1 _ hW (by omega) (by omega) (by exact fun r h9 => h9) hj rfl)
      · refine jk_bipush (q := 35) h dX9_fewest_33 (by decide) rfl ?_
        exact jk_iret h hR dX9_fewest_35 (Nat.le_of_ble_eq_true rfl) (Nat.le_of_ble_eq_true rfl) ⟨-5, rfl, rfl, Or.inr (Or.inl ⟨by omega, by omega, rfl⟩), hW, hj⟩
    · refine jk_bipush (q := 19) h dX9_fewest_17 (by decide) rfl ?_
      exact jk_iret h hR dX9_fewest_19 (Nat.le_of_ble_eq_true rfl) (Nat.le_of_ble_eq_true rfl) ⟨-2, rfl, rfl, Or.inl ⟨by omega, rfl⟩, hW, hj⟩
