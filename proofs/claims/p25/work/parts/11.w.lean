theorem jPic_c {M : jM} {b : Nat} {e : jC} (h : M b = some e) : jPic M b [e] := fun j x hx => by
  have hz : j < 1 := (List.getElem?_eq_some_iff.mp hx).1
  rw [show j = 0 by omega] at hx ⊢
  cases hx
  exact h
/-- rows from row on have moved up, as far as i -/
def jdr (a : Nat → Int) (row i : Int) : Nat → Int := fun k => if row ≤ (k : Int) ∧ (k : Int) < i then a (k + 1) else a k
theorem jdr_0 (a : Nat → Int) (row : Int) : jdr a row row = a := by
  funext k
  simp only [jdr]
  rw [if_neg (by omega)]
theorem jdr_up {a : Nat → Int} {row i : Int} (h0 : 0 ≤ row) (h : row ≤ i) : jfup (jdr a row i) i.toNat (jdr a row i (i + 1).toNat) = jdr a row (i + 1) := by
  funext k
  by_cases hk : k = i.toNat
  · subst hk
    simp only [jfup, jdr, if_true]
    rw [if_neg (by omega), if_pos (by omega), show (i + 1).toNat = i.toNat + 1 by omega]
  · simp only [jfup, jdr, if_neg hk]
    by_cases h2 : row ≤ (k : Int) ∧ (k : Int) < i
    · rw [if_pos h2, if_pos (by omega)]
    · rw [if_neg h2, if_neg (by omega)]
def rib (a b : Nat → Int) (sz la ha lb hb : Int) : Int := smI (fun k => if (la ≤ a k ∧ a k ≤ ha) ∧ (lb ≤ b k ∧ b k ≤ hb) then 1 else 0) sz
def rlk (a b : Nat → Int) (sz : Int) (x y : Int) : Int := smI (fun k => if a k = x ∧ b k = y then 1 else 0) sz
theorem smI_01 {p : Nat → Prop} [DecidablePred p] {z : Int} (h0 : 0 ≤ z) : 0 ≤ smI (fun k => if p k then 1 else 0) z ∧ smI (fun k => if p k then 1 else 0) z ≤ z := by
  have h := smI_bd (f := fun k => if p k then (1 : Int) else 0) (c := 1) (z := z) (N := z.toNat) h0 (by omega) (by omega) (fun k _ => by
    by_cases hp : p k
    · simp [hp]
    · simp [hp])
  omega

set_option maxHeartbeats 4000000 in
set_option maxRecDepth 100000 in
theorem c_X8_init {l : Launch} {D : va_G} {b0 : Nat} {M : jM} {t : Nat} (hT : jPic M t [oB 7 [.null, .null, jI 0]]) : jCtr l D b0 yX8_init cX8_init 1 none 1 2 120 [.ref t] (t + 1) M (fun v n2 M2 => none = v ∧ t + 3 = n2 ∧ jPic M2 t (tbL t jz jz 0) ∧ jout M M2 t 3) := by
  refine jctr (lv := [some (.ref t)]) RX8 "<init>" rfl rfl (by decide) (Nat.le_of_ble_eq_true rfl) rfl ?_
  intro X h hR hX
  have ho := jout.rf M t 3
  refine jk_aload_n (q := 1) h dX8_init_0 rfl rfl ?_
  refine jk_objInit (q := 4) h dX8_init_1 ml_X8_3 ko_i ko_c (Nat.le_of_ble_eq_true rfl) (Nat.le_of_ble_eq_true rfl) rfl ?_
  refine jk_aload_n (q := 5) h dX8_init_4 rfl rfl ?_
  refine jk_bipush (q := 7) h dX8_init_5 (by decide) rfl ?_
  refine jk_newa (q := 9) h dX8_init_7 rfl ka_int rfl (Nat.le_of_ble_eq_true rfl) (Nat.le_of_ble_eq_true rfl) rfl (fun M_1 s_1 => ?_)
  have s_1 : jst _ _ _ (aI 60 jz) := s_1
  have hT := hT.snoc s_1
  have ho := ho.st (i := 1) s_1 (by omega)
  refine jk_putF (q := 12) h (fp_X8_9 _) dX8_init_9 rfl fd_X8_0 (hT.at 0 rfl) (Nat.le_of_ble_eq_true rfl) rfl (fun M_2 s_2 => ?_)
  have hT := hT.put (i := 0) s_2 rfl
  have ho := ho.st (i := 0) s_2 (by omega)
  refine jk_aload_n (q := 13) h dX8_init_12 rfl rfl ?_
  refine jk_bipush (q := 15) h dX8_init_13 (by decide) rfl ?_
  refine jk_newa (q := 17) h dX8_init_15 rfl ka_int rfl (Nat.le_of_ble_eq_true rfl) (Nat.le_of_ble_eq_true rfl) rfl (fun M_3 s_3 => ?_)
  have s_3 : jst _ _ _ (aI 60 jz) := s_3
  have hT := hT.snoc s_3
  have ho := ho.st (i := 2) s_3 (by omega)
  refine jk_putF (q := 20) h (fp_X8_15 _) dX8_init_17 rfl fd_X8_1 (hT.at 0 rfl) (Nat.le_of_ble_eq_true rfl) rfl (fun M_4 s_4 => ?_)
  have hT := hT.put (i := 0) s_4 rfl
  have ho := ho.st (i := 0) s_4 (by omega)
  exact jk_vret h hR dX8_init_20 (Nat.le_of_ble_eq_true rfl) (Nat.le_of_ble_eq_true rfl) ⟨rfl, rfl, hT, ho⟩

set_option maxHeartbeats 4000000 in
set_option maxRecDepth 100000 in
theorem c_X8_isFull {l : Launch} {D : va_G} {b0 : Nat} {n : Nat} {M : jM} {t : Nat} {a b : Nat → Int} {sz : Int} (hT : jPic M t (tbL t a b sz)) (hs : 0 ≤ sz ∧ sz ≤ 60) : jCtr l D b0 yX8_isFull cX8_isFull 1 (some .boolean) 0 0 0 [.ref t] n M (jrd n M (if 60 ≤ sz then 1 else 0)) := by
  refine jctr (lv := [some (.ref t)]) RX8 "isFull" rfl rfl (by decide) (Nat.le_of_ble_eq_true rfl) rfl ?_
  intro X h hR hX
  refine jk_aload_n (q := 1) h dX8_isFull_0 rfl rfl ?_
  refine jk_get (q := 4) h fg_X8_18 dX8_isFull_1 (hT.at 0 rfl) rfl rfl ?_
  refine jk_bipush (q := 6) h dX8_isFull_4 (by decide) rfl ?_
  refine jk_icmp_lt (q := 9) (tgt := 13) h dX8_isFull_6 (by decide) rfl ⟨by omega, by omega⟩ ⟨by omega, by omega⟩ (fun c6 => ?_) (fun c6 => ?_)
  · refine jk_iconst (q := 14) h dX8_isFull_13 rfl ?_
    exact jk_zret h hR dX8_isFull_14 (Nat.le_of_ble_eq_true rfl) (Nat.le_of_ble_eq_true rfl) (by first | exact Or.inl rfl | exact Or.inr rfl | omega) (jrd_of (by first | rfl | exact (if_pos (by omega)).symm | exact if_pos (by omega) | exact if_neg (by omega)))
  · refine jk_iconst (q := 10) h dX8_isFull_9 rfl ?_
    refine jk_goto (q := 13) (tgt := 14) h dX8_isFull_10 (by decide) ?_
    exact jk_zret h hR dX8_isFull_14 (Nat.le_of_ble_eq_true rfl) (Nat.le_of_ble_eq_true rfl) (by first | exact Or.inl rfl | exact Or.inr rfl | omega) (jrd_of (by first | rfl | exact (if_pos (by omega)).symm | exact if_pos (by omega) | exact if_neg (by omega)))

set_option maxHeartbeats 4000000 in
set_option maxRecDepth 100000 in
theorem c_X8_hasRow {l : Launch} {D : va_G} {b0 : Nat} {n : Nat} {M : jM} {t : Nat} {a b : Nat → Int} {sz : Int} (hT : jPic M t (tbL t a b sz)) (hs : 0 ≤ sz ∧ sz ≤ 60) {r : Int} (hr : jRng r) : jCtr l D b0 yX8_hasRow cX8_hasRow 2 (some .boolean) 0 0 0 [.ref t, jI r] n M (jrd n M (if 0 ≤ r ∧ r < sz then 1 else 0)) := by
  refine jctr (lv := [some (.ref t), some (jI r)]) RX8 "hasRow" rfl rfl (by decide) (Nat.le_of_ble_eq_true rfl) rfl ?_
  intro X h hR hX
  refine jk_iload_n (q := 1) h dX8_hasRow_0 rfl rfl ?_
  refine jk_if_lt (q := 4) (tgt := 16) h dX8_hasRow_1 (by decide) rfl ⟨by omega, by omega⟩ (fun c1 => ?_) (fun c1 => ?_)
  · refine jk_iconst (q := 17) h dX8_hasRow_16 rfl ?_
    exact jk_zret h hR dX8_hasRow_17 (Nat.le_of_ble_eq_true rfl) (Nat.le_of_ble_eq_true rfl) (by first | exact Or.inl rfl | exact Or.inr rfl | omega) (jrd_of (by first | rfl | exact (if_pos (by omega)).symm | exact if_pos (by omega) | exact if_neg (by omega)))
  · refine jk_iload_n (q := 5) h dX8_hasRow_4 rfl rfl ?_
    refine jk_aload_n (q := 6) h dX8_hasRow_5 rfl rfl ?_
    refine jk_get (q := 9) h fg_X8_18 dX8_hasRow_6 (hT.at 0 rfl) rfl rfl ?_
    refine jk_icmp_ge (q := 12) (tgt := 16) h dX8_hasRow_9 (by decide) rfl ⟨by omega, by omega⟩ ⟨by omega, by omega⟩ (fun c9 => ?_) (fun c9 => ?_)
    · refine jk_iconst (q := 17) h dX8_hasRow_16 rfl ?_
      exact jk_zret h hR dX8_hasRow_17 (Nat.le_of_ble_eq_true rfl) (Nat.le_of_ble_eq_true rfl) (by first | exact Or.inl rfl | exact Or.inr rfl | omega) (jrd_of (by first | rfl | exact (if_pos (by omega)).symm | exact if_pos (by omega) | exact if_neg (by omega)))
    · refine jk_iconst (q := 13) h dX8_hasRow_12 rfl ?_
      refine jk_goto (q := 16) (tgt := 17) h dX8_hasRow_13 (by decide) ?_
      exact jk_zret h hR dX8_hasRow_17 (Nat.le_of_ble_eq_true rfl) (Nat.le_of_ble_eq_true rfl) (by first | exact Or.inl rfl | exact Or.inr rfl | omega) (jrd_of (by first | rfl | exact (if_pos (by omega)).symm | exact if_pos (by omega) | exact if_neg (by omega)))

set_option maxHeartbeats 4000000 in
set_option maxRecDepth 100000 in
theorem c_X8_value {l : Launch} {D : va_G} {b0 : Nat} {n : Nat} {M : jM} {t : Nat} {a b : Nat → Int} {sz : Int} (hT : jPic M t (tbL t a b sz)) (hs : 0 ≤ sz ∧ sz ≤ 60) {r q : Int} (hr : jRng r) (hq : jRng q) : jCtr l D b0 yX8_value cX8_value 3 (some .int) 0 0 0 [.ref t, jI r, jI q] n M (jrd n M (if 0 ≤ r ∧ r < sz then (if q = 0 then a r.toNat else b r.toNat) else 0)) := by
  refine jctr (lv := [some (.ref t), some (jI r), some (jI q)]) RX8 "value" rfl rfl (by decide) (Nat.le_of_ble_eq_true rfl) rfl ?_
  intro X h hR hX
  refine jk_iload_n (q := 1) h dX8_value_0 rfl rfl ?_
  refine jk_if_lt (q := 4) (tgt := 12) h dX8_value_1 (by decide) rfl ⟨by omega, by omega⟩ (fun c1 => ?_) (fun c1 => ?_)
  · refine jk_iconst (q := 13) h dX8_value_12 rfl ?_
    exact jk_iret h hR dX8_value_13 (Nat.le_of_ble_eq_true rfl) (Nat.le_of_ble_eq_true rfl) (jrd_of (by first | (rw [if_neg (by omega)]; done) | (rw [if_pos (by omega), if_pos (by omega)]; done) | (rw [if_pos (by omega), if_neg (by omega)]; done)))
  · refine jk_iload_n (q := 5) h dX8_value_4 rfl rfl ?_
    refine jk_aload_n (q := 6) h dX8_value_5 rfl rfl ?_
    refine jk_get (q := 9) h fg_X8_18 dX8_value_6 (hT.at 0 rfl) rfl rfl ?_
    refine jk_icmp_lt (q := 12) (tgt := 14) h dX8_value_9 (by decide) rfl ⟨by omega, by omega⟩ ⟨by omega, by omega⟩ (fun c9 => ?_) (fun c9 => ?_)
    · refine jk_iload_n (q := 15) h dX8_value_14 rfl rfl ?_
      refine jk_if_ne (q := 18) (tgt := 27) h dX8_value_15 (by decide) rfl ⟨by omega, by omega⟩ (fun c15 => ?_) (fun c15 => ?_)
      · refine jk_aload_n (q := 28) h dX8_value_27 rfl rfl ?_
        refine jk_get (q := 31) h fg_X8_15 dX8_value_28 (hT.at 0 rfl) rfl rfl ?_
        refine jk_iload_n (q := 32) h dX8_value_31 rfl rfl ?_
        refine jk_ialdI (q := 33) h dX8_value_32 (hT.at 2 rfl) (by omega) (by omega) rfl rfl ?_
        exact jk_iret h hR dX8_value_33 (Nat.le_of_ble_eq_true rfl) (Nat.le_of_ble_eq_true rfl) (jrd_of (by first | (rw [if_neg (by omega)]; done) | (rw [if_pos (by omega), if_pos (by omega)]; done) | (rw [if_pos (by omega), if_neg (by omega)]; done)))
      · refine jk_aload_n (q := 19) h dX8_value_18 rfl rfl ?_
        refine jk_get (q := 22) h fg_X8_9 dX8_value_19 (hT.at 0 rfl) rfl rfl ?_
        refine jk_iload_n (q := 23) h dX8_value_22 rfl rfl ?_
        refine jk_ialdI (q := 24) h dX8_value_23 (hT.at 1 rfl) (by omega) (by omega) rfl rfl ?_
        refine jk_goto (q := 27) (tgt := 33) h dX8_value_24 (by decide) ?_
        exact jk_iret h hR dX8_value_33 (Nat.le_of_ble_eq_true rfl) (Nat.le_of_ble_eq_true rfl) (jrd_of (by first | (rw [if_neg (by omega)]; done) | (rw [if_pos (by omega), if_pos (by omega)]; done) | (rw [if_pos (by omega), if_neg (by omega)]; done)))
    · refine jk_iconst (q := 13) h dX8_value_12 rfl ?_
      exact jk_iret h hR dX8_value_13 (Nat.le_of_ble_eq_true rfl) (Nat.le_of_ble_eq_true rfl) (jrd_of (by first | (rw [if_neg (by omega)]; done) | (rw [if_pos (by omega), if_pos (by omega)]; done) | (rw [if_pos (by omega), if_neg (by omega)]; done)))

set_option maxHeartbeats 4000000 in
set_option maxRecDepth 100000 in
theorem c_X8_add {l : Launch} {D : va_G} {b0 : Nat} {n : Nat} {M : jM} {t : Nat} {a b : Nat → Int} {sz : Int} (hT : jPic M t (tbL t a b sz)) (hs : 0 ≤ sz ∧ sz ≤ 60) (hs2 : sz < 60) {x y : Int} : jCtr l D b0 yX8_add cX8_add 3 none 1 0 0 [.ref t, jI x, jI y] n M (fun v n2 M2 => none = v ∧ n = n2 ∧ jPic M2 t (tbL t (jfup a sz.toNat x) (jfup b sz.toNat y) (sz + 1)) ∧ jout M M2 t 3) := by
  refine jctr (lv := [some (.ref t), some (jI x), some (jI y)]) RX8 "add" rfl rfl (by decide) (Nat.le_of_ble_eq_true rfl) rfl ?_
  intro X h hR hX
  have ho := jout.rf M t 3
  refine jk_aload_n (q := 1) h dX8_add_0 rfl rfl ?_
  refine jk_get (q := 4) h fg_X8_18 dX8_add_1 (hT.at 0 rfl) rfl rfl ?_
  refine jk_if_lt (q := 7) (tgt := 14) h dX8_add_4 (by decide) rfl ⟨by omega, by omega⟩ (fun c4 => ?_) (fun c4 => ?_)
  · omega
  · refine jk_aload_n (q := 8) h dX8_add_7 rfl rfl ?_
    refine jk_callV (q := 11) h hX (c_X8_isFull hT ⟨by omega, by omega⟩) mv_X8_isFull (hT.at 0 rfl) dX8_add_8 ml_X8_22 ⟨rfl, Nat.le_refl _⟩ rfl rfl (Nat.le_of_ble_eq_true rfl) (Nat.le_of_ble_eq_true rfl) rfl rfl (Nat.le_of_ble_eq_true rfl) rfl (fun v9 n9 M9 hp9 => ?_)
    obtain ⟨rfl, rfl, rfl⟩ := hp9
    refine jk_if_eqB (q := 14) (tgt := 15) h dX8_add_11 (by decide) rfl (fun c11 => ?_) (fun c11 => ?_)
    · refine jk_aload_n (q := 16) h dX8_add_15 rfl rfl ?_
      refine jk_get (q := 19) h fg_X8_9 dX8_add_16 (hT.at 0 rfl) rfl rfl ?_
      refine jk_aload_n (q := 20) h dX8_add_19 rfl rfl ?_
      refine jk_get (q := 23) h fg_X8_18 dX8_add_20 (hT.at 0 rfl) rfl rfl ?_
      refine jk_iload_n (q := 24) h dX8_add_23 rfl rfl ?_
      refine jk_iast (q := 25) h dX8_add_24 (hT.at 1 rfl) (by omega) (by omega) rfl rfl (fun M_1 s_1 => ?_)
      have hT := hT.put (i := 1) s_1 rfl
      have ho := ho.st (i := 1) s_1 (by omega)
      refine jk_aload_n (q := 26) h dX8_add_25 rfl rfl ?_
      refine jk_get (q := 29) h fg_X8_15 dX8_add_26 (hT.at 0 rfl) rfl rfl ?_
      refine jk_aload_n (q := 30) h dX8_add_29 rfl rfl ?_
      refine jk_get (q := 33) h fg_X8_18 dX8_add_30 (hT.at 0 rfl) rfl rfl ?_
      refine jk_iload_n (q := 34) h dX8_add_33 rfl rfl ?_
      refine jk_iast (q := 35) h dX8_add_34 (hT.at 2 rfl) (by omega) (by omega) rfl rfl (fun M_2 s_2 => ?_)
      have hT := hT.put (i := 2) s_2 rfl
      have ho := ho.st (i := 2) s_2 (by omega)
      refine jk_aload_n (q := 36) h dX8_add_35 rfl rfl ?_
      refine jk_dup (q := 37) h dX8_add_36 rfl rfl ?_
      refine jk_get (q := 40) h fg_X8_18 dX8_add_37 (hT.at 0 rfl) rfl rfl ?_
      refine jk_iconst (q := 41) h dX8_add_40 rfl ?_
      refine jk_iadd (q := 42) h dX8_add_41 rfl ?_
      refine jk_put (q := 45) h (fp_X8_18 _) dX8_add_42 (hT.at 0 rfl) (Nat.le_of_ble_eq_true rfl) rfl (fun M_3 s_3 => ?_)
      have hT := hT.put (i := 0) s_3 rfl
      have ho := ho.st (i := 0) s_3 (by omega)
      exact jk_vret h hR dX8_add_45 (Nat.le_of_ble_eq_true rfl) (Nat.le_of_ble_eq_true rfl) ⟨rfl, rfl, hT, ho⟩
    · omega

set_option maxHeartbeats 4000000 in
set_option maxRecDepth 100000 in
theorem c_X8_drop {l : Launch} {D : va_G} {b0 : Nat} {n : Nat} {M : jM} {t : Nat} {a b : Nat → Int} {sz : Int} (hT : jPic M t (tbL t a b sz)) (hs : 0 ≤ sz ∧ sz ≤ 60) {r : Int} (hr : 0 ≤ r ∧ r < sz) : jCtr l D b0 yX8_drop cX8_drop 3 none 1 0 0 [.ref t, jI r] n M (fun v n2 M2 => none = v ∧ n = n2 ∧ jPic M2 t (tbL t (jdr a r (sz - 1)) (jdr b r (sz - 1)) (sz - 1)) ∧ jout M M2 t 3) := by
  refine jctr (lv := [some (.ref t), some (jI r), none]) RX8 "drop" rfl rfl (by decide) (Nat.le_of_ble_eq_true rfl) rfl ?_
  intro X h hR hX
  have ho := jout.rf M t 3
  refine jk_aload_n (q := 1) h dX8_drop_0 rfl rfl ?_
  refine jk_iload_n (q := 2) h dX8_drop_1 rfl rfl ?_
  refine jk_callV (q := 5) h hX (c_X8_hasRow hT ⟨by omega, by omega⟩ ⟨by omega, by omega⟩) mv_X8_hasRow (hT.at 0 rfl) dX8_drop_2 ml_X8_26 ⟨rfl, Nat.le_refl _⟩ rfl rfl (Nat.le_of_ble_eq_true rfl) (Nat.le_of_ble_eq_true rfl) rfl rfl (Nat.le_of_ble_eq_true rfl) rfl (fun v9 n9 M9 hp9 => ?_)
  obtain ⟨rfl, rfl, rfl⟩ := hp9
  refine jk_if_neB (q := 8) (tgt := 9) h dX8_drop_5 (by decide) rfl (fun c5 => ?_) (fun c5 => ?_)
  · refine jk_iload_n (q := 10) h dX8_drop_9 rfl rfl ?_
    refine jk_istore_n (q := 11) h dX8_drop_10 rfl (Nat.le_of_ble_eq_true rfl) rfl rfl ?_
    have lp11 : ∀ (k9 : Nat) (i : Int) (M9 : jM) (hi : r ≤ i) (hi2 : i ≤ sz - 1) (hT : jPic M9 t (tbL t (jdr a r i) (jdr b r i) sz)) (ho : jout M M9 t 3) (hk9 : (sz - i).toNat = k9), jJ X 11 [some (.ref (t)), some (jI (r)), some (jI (i))] [] n M9 0 0 := by
      intro k9
      induction k9 using Nat.strongRecOn with
      | _ k9 ih11 =>
        intro i M9 hi hi2 hT ho hk9
        refine jk_iload_n (q := 12) h dX8_drop_11 rfl rfl ?_
        refine jk_iconst (q := 13) h dX8_drop_12 rfl ?_
        refine jk_iadd (q := 14) h dX8_drop_13 rfl ?_
        refine jk_aload_n (q := 15) h dX8_drop_14 rfl rfl ?_
        refine jk_get (q := 18) h fg_X8_18 dX8_drop_15 (hT.at 0 rfl) rfl rfl ?_
        refine jk_icmp_ge (q := 21) (tgt := 55) h dX8_drop_18 (by decide) rfl ⟨by omega, by omega⟩ ⟨by omega, by omega⟩ (fun c18 => ?_) (fun c18 => ?_)
        · have hi3 : i = sz - 1 := by omega
          subst hi3
          refine jk_aload_n (q := 56) h dX8_drop_55 rfl rfl ?_
          refine jk_dup (q := 57) h dX8_drop_56 rfl rfl ?_
          refine jk_get (q := 60) h fg_X8_18 dX8_drop_57 (hT.at 0 rfl) rfl rfl ?_
          refine jk_iconst (q := 61) h dX8_drop_60 rfl ?_
          refine jk_isub (q := 62) h dX8_drop_61 rfl ?_
          refine jk_put (q := 65) h (fp_X8_18 _) dX8_drop_62 (hT.at 0 rfl) (Nat.le_of_ble_eq_true rfl) rfl (fun M_1 s_1 => ?_)
          have hT := hT.put (i := 0) s_1 rfl
          have ho := ho.st (i := 0) s_1 (by omega)
          exact jk_vret h hR dX8_drop_65 (Nat.le_of_ble_eq_true rfl) (Nat.le_of_ble_eq_true rfl) ⟨rfl, rfl, hT, ho⟩
        · refine jk_aload_n (q := 22) h dX8_drop_21 rfl rfl ?_
          refine jk_get (q := 25) h fg_X8_9 dX8_drop_22 (hT.at 0 rfl) rfl rfl ?_
          refine jk_iload_n (q := 26) h dX8_drop_25 rfl rfl ?_
          refine jk_aload_n (q := 27) h dX8_drop_26 rfl rfl ?_
          refine jk_get (q := 30) h fg_X8_9 dX8_drop_27 (hT.at 0 rfl) rfl rfl ?_
          refine jk_iload_n (q := 31) h dX8_drop_30 rfl rfl ?_
          refine jk_iconst (q := 32) h dX8_drop_31 rfl ?_
          refine jk_iadd (q := 33) h dX8_drop_32 rfl ?_
          refine jk_ialdI (q := 34) h dX8_drop_33 (hT.at 1 rfl) (by omega) (by omega) rfl rfl ?_
          refine jk_iast (q := 35) h dX8_drop_34 (hT.at 1 rfl) (by omega) (by omega) rfl rfl (fun M_2 s_2 => ?_)
          have hT := hT.put (i := 1) s_2 rfl
          have ho := ho.st (i := 1) s_2 (by omega)
          refine jk_aload_n (q := 36) h dX8_drop_35 rfl rfl ?_
          refine jk_get (q := 39) h fg_X8_15 dX8_drop_36 (hT.at 0 rfl) rfl rfl ?_
          refine jk_iload_n (q := 40) h dX8_drop_39 rfl rfl ?_
          refine jk_aload_n (q := 41) h dX8_drop_40 rfl rfl ?_
          refine jk_get (q := 44) h fg_X8_15 dX8_drop_41 (hT.at 0 rfl) rfl rfl ?_
          refine jk_iload_n (q := 45) h dX8_drop_44 rfl rfl ?_
          refine jk_iconst (q := 46) h dX8_drop_45 rfl ?_
          refine jk_iadd (q := 47) h dX8_drop_46 rfl ?_
          refine jk_ialdI (q := 48) h dX8_drop_47 (hT.at 2 rfl) (by omega) (by omega) rfl rfl ?_
          refine jk_iast (q := 49) h dX8_drop_48 (hT.at 2 rfl) (by omega) (by omega) rfl rfl (fun M_3 s_3 => ?_)
          have hT := hT.put (i := 2) s_3 rfl
          have ho := ho.st (i := 2) s_3 (by omega)
          refine jk_iinc (q := 52) h dX8_drop_49 rfl rfl rfl rfl ?_
          refine jk_goto (q := 55) (tgt := 11) h dX8_drop_52 (by decide) ?_
          exact jk_weak (jwk_s rfl (jwk_s rfl (jwk_s rfl jwk_0))) (ih11 _ (by omega) _ _ (by omega) (by omega) (by rw [← jdr_up hr.1 hi, ← jdr_up hr.1 hi]; exact hT) ho rfl)
    exact jk_weak (jwk_s rfl (jwk_s rfl (jwk_s rfl jwk_0))) (lp11 _ _ _ (by omega) (by omega) (by rw [jdr_0, jdr_0]; exact hT) ho rfl)
  · omega

set_option maxHeartbeats 4000000 in
set_option maxRecDepth 100000 in
theorem c_X8_rowsInsideBoth {l : Launch} {D : va_G} {b0 : Nat} {n : Nat} {M : jM} {t : Nat} {a b : Nat → Int} {sz : Int} (hT : jPic M t (tbL t a b sz)) (hs : 0 ≤ sz ∧ sz ≤ 60) (ha : jrF a 0 99) (hb : jrF b 0 99) {la ha9 lb hb9 : Int} (h1 : jRng la) (h2 : jRng ha9) (h3 : jRng lb) (h4 : jRng hb9) : jCtr l D b0 yX8_rowsInsideBoth cX8_rowsInsideBoth 7 (some .int) 1 0 0 [.ref t, jI la, jI ha9, jI lb, jI hb9] n M (jrd n M (rib a b sz la ha9 lb hb9)) := by
  refine jctr (lv := [some (.ref t), some (jI la), some (jI ha9), some (jI lb), some (jI hb9), none, none]) RX8 "rowsInsideBoth" rfl rfl (by decide) (Nat.le_of_ble_eq_true rfl) rfl ?_
  intro X h hR hX
  refine jk_iconst (q := 1) h dX8_rowsInsideBoth_0 rfl ?_
  refine jk_istore (q := 3) h dX8_rowsInsideBoth_1 rfl (Nat.le_of_ble_eq_true rfl) rfl rfl ?_
  refine jk_iconst (q := 4) h dX8_rowsInsideBoth_3 rfl ?_
  refine jk_istore (q := 6) h dX8_rowsInsideBoth_4 rfl (Nat.le_of_ble_eq_true rfl) rfl rfl ?_
  have lp6 : ∀ (k9 : Nat) (c : Int) (i : Int) (hi : 0 ≤ i) (hi2 : i ≤ sz) (hc : c = rib a b i la ha9 lb hb9) (hc0 : 0 ≤ c ∧ c ≤ i) (hk9 : (sz - i).toNat = k9), jJ X 6 [some (.ref (t)), some (jI (la)), some (jI (ha9)), some (jI (lb)), some (jI (hb9)), some (jI (c)), some (jI (i))] [] n M 0 0 := by
    intro k9
    induction k9 using Nat.strongRecOn with
    | _ k9 ih6 =>
      intro c i hi hi2 hc hc0 hk9
      have hai := ha i.toNat
      have hbi := hb i.toNat
      refine jk_iload (q := 8) h dX8_rowsInsideBoth_6 rfl rfl ?_
      refine jk_aload_n (q := 9) h dX8_rowsInsideBoth_8 rfl rfl ?_
      refine jk_get (q := 12) h fg_X8_18 dX8_rowsInsideBoth_9 (hT.at 0 rfl) rfl rfl ?_
      refine jk_icmp_ge (q := 15) (tgt := 55) h dX8_rowsInsideBoth_12 (by decide) rfl ⟨by omega, by omega⟩ ⟨by omega, by omega⟩ (fun c12 => ?_) (fun c12 => ?_)
      · have hi3 : i = sz := by omega
        subst hi3
        refine jk_iload (q := 57) h dX8_rowsInsideBoth_55 rfl rfl ?_
        exact jk_iret h hR dX8_rowsInsideBoth_57 (Nat.le_of_ble_eq_true rfl) (Nat.le_of_ble_eq_true rfl) (jrd_of hc.symm)
      · refine jk_aload_n (q := 16) h dX8_rowsInsideBoth_15 rfl rfl ?_
        refine jk_get (q := 19) h fg_X8_9 dX8_rowsInsideBoth_16 (hT.at 0 rfl) rfl rfl ?_
        refine jk_iload (q := 21) h dX8_rowsInsideBoth_19 rfl rfl ?_
        refine jk_ialdI (q := 22) h dX8_rowsInsideBoth_21 (hT.at 1 rfl) (by omega) (by omega) rfl rfl ?_
        refine jk_iload_n (q := 23) h dX8_rowsInsideBoth_22 rfl rfl ?_
        refine jk_iload_n (q := 24) h dX8_rowsInsideBoth_23 rfl rfl ?_
        refine jk_callSN (q := 27) h hX (c_X9_isBetween ⟨by omega, by omega⟩ ⟨by omega, by omega⟩ ⟨by omega, by omega⟩) ms_X9_isBetween dX8_rowsInsideBoth_24 ml_X8_34 ⟨rfl, Nat.le_refl _⟩ rfl rfl (Nat.le_of_ble_eq_true rfl) (Nat.le_of_ble_eq_true rfl) rfl rfl (Nat.le_of_ble_eq_true rfl) rfl (fun v9 n9 M9 hp9 => ?_)
        obtain ⟨rfl, rfl, rfl⟩ := hp9
        refine jk_if_eqB (q := 30) (tgt := 49) h dX8_rowsInsideBoth_27 (by decide) rfl (fun c27 => ?_) (fun c27 => ?_)
        · refine jk_iinc (q := 52) h dX8_rowsInsideBoth_49 rfl rfl rfl rfl ?_
          refine jk_goto (q := 55) (tgt := 6) h dX8_rowsInsideBoth_52 (by decide) ?_
          exact jk_weak (jwk_s rfl (jwk_s rfl (jwk_s rfl (jwk_s rfl (jwk_s rfl (jwk_s rfl (jwk_s rfl jwk_0))))))) (ih6 _ (by omega) _ _ (by omega) (by omega) (by first | exact smI_t hi hc (if_pos ⟨by omega, by omega⟩) | exact smI_t0 hi hc (if_neg (by omega))) (by omega) rfl)
        · refine jk_aload_n (q := 31) h dX8_rowsInsideBoth_30 rfl rfl ?_
          refine jk_get (q := 34) h fg_X8_15 dX8_rowsInsideBoth_31 (hT.at 0 rfl) rfl rfl ?_
          refine jk_iload (q := 36) h dX8_rowsInsideBoth_34 rfl rfl ?_
          refine jk_ialdI (q := 37) h dX8_rowsInsideBoth_36 (hT.at 2 rfl) (by omega) (by omega) rfl rfl ?_
          refine jk_iload_n (q := 38) h dX8_rowsInsideBoth_37 rfl rfl ?_
          refine jk_iload (q := 40) h dX8_rowsInsideBoth_38 rfl rfl ?_
          refine jk_callSN (q := 43) h hX (c_X9_isBetween ⟨by omega, by omega⟩ ⟨by omega, by omega⟩ ⟨by omega, by omega⟩) ms_X9_isBetween dX8_rowsInsideBoth_40 ml_X8_34 ⟨rfl, Nat.le_refl _⟩ rfl rfl (Nat.le_of_ble_eq_true rfl) (Nat.le_of_ble_eq_true rfl) rfl rfl (Nat.le_of_ble_eq_true rfl) rfl (fun v9 n9 M9 hp9 => ?_)
          obtain ⟨rfl, rfl, rfl⟩ := hp9
          refine jk_if_eqB (q := 46) (tgt := 49) h dX8_rowsInsideBoth_43 (by decide) rfl (fun c43 => ?_) (fun c43 => ?_)
          · refine jk_iinc (q := 52) h dX8_rowsInsideBoth_49 rfl rfl rfl rfl ?_
            refine jk_goto (q := 55) (tgt := 6) h dX8_rowsInsideBoth_52 (by decide) ?_
            exact jk_weak (jwk_s rfl (jwk_s rfl (jwk_s rfl (jwk_s rfl (jwk_s rfl (jwk_s rfl (jwk_s rfl jwk_0))))))) (ih6 _ (by omega) _ _ (by omega) (by omega) (by first | exact smI_t hi hc (if_pos ⟨by omega, by omega⟩) | exact smI_t0 hi hc (if_neg (by omega))) (by omega) rfl)
          · refine jk_iinc (q := 49) h dX8_rowsInsideBoth_46 rfl rfl rfl rfl ?_
            refine jk_iinc (q := 52) h dX8_rowsInsideBoth_49 rfl rfl rfl rfl ?_
            refine jk_goto (q := 55) (tgt := 6) h dX8_rowsInsideBoth_52 (by decide) ?_
            exact jk_weak (jwk_s rfl (jwk_s rfl (jwk_s rfl (jwk_s rfl (jwk_s rfl (jwk_s rfl (jwk_s rfl jwk_0))))))) (ih6 _ (by omega) _ _ (by omega) (by omega) (by first | exact smI_t hi hc (if_pos ⟨by omega, by omega⟩) | exact smI_t0 hi hc (if_neg (by omega))) (by omega) rfl)
  exact jk_weak (jwk_s rfl (jwk_s rfl (jwk_s rfl (jwk_s rfl (jwk_s rfl (jwk_s rfl (jwk_s rfl jwk_0))))))) (lp6 _ _ _ (by omega) (by omega) rfl (by omega) rfl)

set_option maxHeartbeats 4000000 in
set_option maxRecDepth 100000 in
theorem c_X8_rowsInside {l : Launch} {D : va_G} {b0 : Nat} {n : Nat} {M : jM} {t : Nat} {a b : Nat → Int} {sz : Int} (hT : jPic M t (tbL t a b sz)) (hs : 0 ≤ sz ∧ sz ≤ 60) (ha : jrF a 0 99) (hb : jrF b 0 99) {q lo hi : Int} (hq : jRng q) (h1 : jRng lo) (h2 : jRng hi) : jCtr l D b0 yX8_rowsInside cX8_rowsInside 4 (some .int) 2 0 0 [.ref t, jI q, jI lo, jI hi] n M (jrd n M (if q = 0 then rib a b sz lo hi 0 99 else rib a b sz 0 99 lo hi)) := by
  refine jctr (lv := [some (.ref t), some (jI q), some (jI lo), some (jI hi)]) RX8 "rowsInside" rfl rfl (by decide) (Nat.le_of_ble_eq_true rfl) rfl ?_
  intro X h hR hX
  refine jk_iload_n (q := 1) h dX8_rowsInside_0 rfl rfl ?_
  refine jk_if_ne (q := 4) (tgt := 16) h dX8_rowsInside_1 (by decide) rfl ⟨by omega, by omega⟩ (fun c1 => ?_) (fun c1 => ?_)
  · refine jk_aload_n (q := 17) h dX8_rowsInside_16 rfl rfl ?_
    refine jk_iconst (q := 18) h dX8_rowsInside_17 rfl ?_
    refine jk_bipush (q := 20) h dX8_rowsInside_18 (by decide) rfl ?_
    refine jk_iload_n (q := 21) h dX8_rowsInside_20 rfl rfl ?_
    refine jk_iload_n (q := 22) h dX8_rowsInside_21 rfl rfl ?_
    refine jk_callV (q := 25) h hX (c_X8_rowsInsideBoth hT ⟨by omega, by omega⟩ ha hb ⟨by omega, by omega⟩ ⟨by omega, by omega⟩ ⟨by omega, by omega⟩ ⟨by omega, by omega⟩) mv_X8_rowsInsideBoth (hT.at 0 rfl) dX8_rowsInside_22 ml_X8_30 ⟨rfl, Nat.le_refl _⟩ rfl rfl (Nat.le_of_ble_eq_true rfl) (Nat.le_of_ble_eq_true rfl) rfl rfl (Nat.le_of_ble_eq_true rfl) rfl (fun v9 n9 M9 hp9 => ?_)
    obtain ⟨rfl, rfl, rfl⟩ := hp9
    exact jk_iret h hR dX8_rowsInside_25 (Nat.le_of_ble_eq_true rfl) (Nat.le_of_ble_eq_true rfl) (jrd_of (by first | exact if_pos (by omega) | exact if_neg (by omega)))
  · refine jk_aload_n (q := 5) h dX8_rowsInside_4 rfl rfl ?_
    refine jk_iload_n (q := 6) h dX8_rowsInside_5 rfl rfl ?_
    refine jk_iload_n (q := 7) h dX8_rowsInside_6 rfl rfl ?_
    refine jk_iconst (q := 8) h dX8_rowsInside_7 rfl ?_
    refine jk_bipush (q := 10) h dX8_rowsInside_8 (by decide) rfl ?_
    refine jk_callV (q := 13) h hX (c_X8_rowsInsideBoth hT ⟨by omega, by omega⟩ ha hb ⟨by omega, by omega⟩ ⟨by omega, by omega⟩ ⟨by omega, by omega⟩ ⟨by omega, by omega⟩) mv_X8_rowsInsideBoth (hT.at 0 rfl) dX8_rowsInside_10 ml_X8_30 ⟨rfl, Nat.le_refl _⟩ rfl rfl (Nat.le_of_ble_eq_true rfl) (Nat.le_of_ble_eq_true rfl) rfl rfl (Nat.le_of_ble_eq_true rfl) rfl (fun v9 n9 M9 hp9 => ?_)
    obtain ⟨rfl, rfl, rfl⟩ := hp9
    refine jk_goto (q := 16) (tgt := 25) h dX8_rowsInside_13 (by decide) ?_
    exact jk_iret h hR dX8_rowsInside_25 (Nat.le_of_ble_eq_true rfl) (Nat.le_of_ble_eq_true rfl) (jrd_of (by first | exact if_pos (by omega) | exact if_neg (by omega)))

set_option maxHeartbeats 4000000 in
set_option maxRecDepth 100000 in
theorem c_X8_rowsLike {l : Launch} {D : va_G} {b0 : Nat} {n : Nat} {M : jM} {t : Nat} {a b : Nat → Int} {sz : Int} (hT : jPic M t (tbL t a b sz)) (hs : 0 ≤ sz ∧ sz ≤ 60) (ha : jrF a 0 99) (hb : jrF b 0 99) {r : Int} (hr : 0 ≤ r ∧ r < sz) : jCtr l D b0 yX8_rowsLike cX8_rowsLike 4 (some .int) 0 0 0 [.ref t, jI r] n M (jrd n M (rlk a b sz (a r.toNat) (b r.toNat))) := by
  refine jctr (lv := [some (.ref t), some (jI r), none, none]) RX8 "rowsLike" rfl rfl (by decide) (Nat.le_of_ble_eq_true rfl) rfl ?_
  intro X h hR hX
  refine jk_iload_n (q := 1) h dX8_rowsLike_0 rfl rfl ?_
  refine jk_if_lt (q := 4) (tgt := 12) h dX8_rowsLike_1 (by decide) rfl ⟨by omega, by omega⟩ (fun c1 => ?_) (fun c1 => ?_)
  · omega
  · refine jk_iload_n (q := 5) h dX8_rowsLike_4 rfl rfl ?_
    refine jk_aload_n (q := 6) h dX8_rowsLike_5 rfl rfl ?_
    refine jk_get (q := 9) h fg_X8_18 dX8_rowsLike_6 (hT.at 0 rfl) rfl rfl ?_
    refine jk_icmp_lt (q := 12) (tgt := 14) h dX8_rowsLike_9 (by decide) rfl ⟨by omega, by omega⟩ ⟨by omega, by omega⟩ (fun c9 => ?_) (fun c9 => ?_)
    · refine jk_iconst (q := 15) h dX8_rowsLike_14 rfl ?_
      refine jk_istore_n (q := 16) h dX8_rowsLike_15 rfl (Nat.le_of_ble_eq_true rfl) rfl rfl ?_
      refine jk_iconst (q := 17) h dX8_rowsLike_16 rfl ?_
      refine jk_istore_n (q := 18) h dX8_rowsLike_17 rfl (Nat.le_of_ble_eq_true rfl) rfl rfl ?_
      have lp18 : ∀ (k9 : Nat) (c : Int) (i : Int) (hi : 0 ≤ i) (hi2 : i ≤ sz) (hc : c = rlk a b i (a r.toNat) (b r.toNat)) (hc0 : 0 ≤ c ∧ c ≤ i) (hk9 : (sz - i).toNat = k9), jJ X 18 [some (.ref (t)), some (jI (r)), some (jI (c)), some (jI (i))] [] n M 0 0 := by
        intro k9
        induction k9 using Nat.strongRecOn with
        | _ k9 ih18 =>
          intro c i hi hi2 hc hc0 hk9
          have hai := ha i.toNat
          have hbi := hb i.toNat
          have har := ha r.toNat
          have hbr := hb r.toNat
          refine jk_iload_n (q := 19) h dX8_rowsLike_18 rfl rfl ?_
          refine jk_aload_n (q := 20) h dX8_rowsLike_19 rfl rfl ?_
          refine jk_get (q := 23) h fg_X8_18 dX8_rowsLike_20 (hT.at 0 rfl) rfl rfl ?_
          refine jk_icmp_ge (q := 26) (tgt := 65) h dX8_rowsLike_23 (by decide) rfl ⟨by omega, by omega⟩ ⟨by omega, by omega⟩ (fun c23 => ?_) (fun c23 => ?_)
          · have hi3 : i = sz := by omega
            subst hi3
            refine jk_iload_n (q := 66) h dX8_rowsLike_65 rfl rfl ?_
            exact jk_iret h hR dX8_rowsLike_66 (Nat.le_of_ble_eq_true rfl) (Nat.le_of_ble_eq_true rfl) (jrd_of hc.symm)
          · refine jk_aload_n (q := 27) h dX8_rowsLike_26 rfl rfl ?_
            refine jk_get (q := 30) h fg_X8_9 dX8_rowsLike_27 (hT.at 0 rfl) rfl rfl ?_
            refine jk_iload_n (q := 31) h dX8_rowsLike_30 rfl rfl ?_
            refine jk_ialdI (q := 32) h dX8_rowsLike_31 (hT.at 1 rfl) (by omega) (by omega) rfl rfl ?_
            refine jk_aload_n (q := 33) h dX8_rowsLike_32 rfl rfl ?_
            refine jk_get (q := 36) h fg_X8_9 dX8_rowsLike_33 (hT.at 0 rfl) rfl rfl ?_
            refine jk_iload_n (q := 37) h dX8_rowsLike_36 rfl rfl ?_
            refine jk_ialdI (q := 38) h dX8_rowsLike_37 (hT.at 1 rfl) (by omega) (by omega) rfl rfl ?_
            refine jk_icmp_ne (q := 41) (tgt := 59) h dX8_rowsLike_38 (by decide) rfl ⟨by omega, by omega⟩ ⟨by omega, by omega⟩ (fun c38 => ?_) (fun c38 => ?_)
            · refine jk_iinc (q := 62) h dX8_rowsLike_59 rfl rfl rfl rfl ?_
              refine jk_goto (q := 65) (tgt := 18) h dX8_rowsLike_62 (by decide) ?_
              exact jk_weak (jwk_s rfl (jwk_s rfl (jwk_s rfl (jwk_s rfl jwk_0)))) (ih18 _ (by omega) _ _ (by omega) (by omega) (by first | exact smI_t hi hc (if_pos ⟨by omega, by omega⟩) | exact smI_t0 hi hc (if_neg (by omega))) (by omega) rfl)
            · refine jk_aload_n (q := 42) h dX8_rowsLike_41 rfl rfl ?_
              refine jk_get (q := 45) h fg_X8_15 dX8_rowsLike_42 (hT.at 0 rfl) rfl rfl ?_
              refine jk_iload_n (q := 46) h dX8_rowsLike_45 rfl rfl ?_
              refine jk_ialdI (q := 47) h dX8_rowsLike_46 (hT.at 2 rfl) (by omega) (by omega) rfl rfl ?_
              refine jk_aload_n (q := 48) h dX8_rowsLike_47 rfl rfl ?_
              refine jk_get (q := 51) h fg_X8_15 dX8_rowsLike_48 (hT.at 0 rfl) rfl rfl ?_
              refine jk_iload_n (q := 52) h dX8_rowsLike_51 rfl rfl ?_
              refine jk_ialdI (q := 53) h dX8_rowsLike_52 (hT.at 2 rfl) (by omega) (by omega) rfl rfl ?_
              refine jk_icmp_ne (q := 56) (tgt := 59) h dX8_rowsLike_53 (by decide) rfl ⟨by omega, by omega⟩ ⟨by omega, by omega⟩ (fun c53 => ?_) (fun c53 => ?_)
              · refine jk_iinc (q := 62) h dX8_rowsLike_59 rfl rfl rfl rfl ?_
                refine jk_goto (q := 65) (tgt := 18) h dX8_rowsLike_62 (by decide) ?_
                exact jk_weak (jwk_s rfl (jwk_s rfl (jwk_s rfl (jwk_s rfl jwk_0)))) (ih18 _ (by omega) _ _ (by omega) (by omega) (by first | exact smI_t hi hc (if_pos ⟨by omega, by omega⟩) | exact smI_t0 hi hc (if_neg (by omega))) (by omega) rfl)
              · refine jk_iinc (q := 59) h dX8_rowsLike_56 rfl rfl rfl rfl ?_
                refine jk_iinc (q := 62) h dX8_rowsLike_59 rfl rfl rfl rfl ?_
                refine jk_goto (q := 65) (tgt := 18) h dX8_rowsLike_62 (by decide) ?_
                exact jk_weak (jwk_s rfl (jwk_s rfl (jwk_s rfl (jwk_s rfl jwk_0)))) (ih18 _ (by omega) _ _ (by omega) (by omega) (by first | exact smI_t hi hc (if_pos ⟨by omega, by omega⟩) | exact smI_t0 hi hc (if_neg (by omega))) (by omega) rfl)
      exact jk_weak (jwk_s rfl (jwk_s rfl (jwk_s rfl (jwk_s rfl jwk_0)))) (lp18 _ _ _ (by omega) (by omega) rfl (by omega) rfl)
    · omega

set_option maxHeartbeats 4000000 in
set_option maxRecDepth 100000 in
theorem c_X8_copyFrom {l : Launch} {D : va_G} {b0 : Nat} {n : Nat} {M : jM} {t t2 : Nat} {a b a2 b2 : Nat → Int} {sz sz2 : Int} (hT : jPic M t (tbL t a b sz)) (hU : jPic M t2 (tbL t2 a2 b2 sz2)) (hd : t + 3 ≤ t2 ∨ t2 + 3 ≤ t) : jCtr l D b0 yX8_copyFrom cX8_copyFrom 2 none 1 0 0 [.ref t, .ref t2] n M (fun v n2 M2 => none = v ∧ n = n2 ∧ jPic M2 t (tbL t a2 b2 sz2) ∧ jout M M2 t 3) := by
  refine jctr (lv := [some (.ref t), some (.ref t2)]) RX8 "copyFrom" rfl rfl (by decide) (Nat.le_of_ble_eq_true rfl) rfl ?_
  intro X h hR hX
  have ho := jout.rf M t 3
  refine jk_aload_n (q := 1) h dX8_copyFrom_0 rfl rfl ?_
  refine jk_get (q := 4) h fg_X8_9 dX8_copyFrom_1 (hU.at 0 rfl) rfl rfl ?_
  refine jk_aload_n (q := 5) h dX8_copyFrom_4 rfl rfl ?_
  refine jk_get (q := 8) h fg_X8_9 dX8_copyFrom_5 (hT.at 0 rfl) rfl rfl ?_
  refine jk_callSN (q := 11) h hX (c_X9_copyNumbers rfl (jPic_c (hU.at 1 rfl)) (jPic_c (hT.at 1 rfl)) (by omega)) ms_X9_copyNumbers dX8_copyFrom_8 ml_X8_38 ⟨rfl, Nat.le_refl _⟩ rfl rfl (Nat.le_of_ble_eq_true rfl) (Nat.le_of_ble_eq_true rfl) rfl rfl (Nat.le_of_ble_eq_true rfl) rfl (fun v9 n9 M_1 hp9 => ?_)
  obtain ⟨rfl, rfl, s_1⟩ := hp9
  have hT := hT.put (i := 1) s_1 rfl
  have hU := hU.other s_1 3 rfl (by omega)
  have ho := ho.st (i := 1) s_1 (by omega)
  refine jk_aload_n (q := 12) h dX8_copyFrom_11 rfl rfl ?_
  refine jk_get (q := 15) h fg_X8_15 dX8_copyFrom_12 (hU.at 0 rfl) rfl rfl ?_
  refine jk_aload_n (q := 16) h dX8_copyFrom_15 rfl rfl ?_
  refine jk_get (q := 19) h fg_X8_15 dX8_copyFrom_16 (hT.at 0 rfl) rfl rfl ?_
  refine jk_callSN (q := 22) h hX (c_X9_copyNumbers rfl (jPic_c (hU.at 2 rfl)) (jPic_c (hT.at 2 rfl)) (by omega)) ms_X9_copyNumbers dX8_copyFrom_19 ml_X8_38 ⟨rfl, Nat.le_refl _⟩ rfl rfl (Nat.le_of_ble_eq_true rfl) (Nat.le_of_ble_eq_true rfl) rfl rfl (Nat.le_of_ble_eq_true rfl) rfl (fun v9 n9 M_2 hp9 => ?_)
  obtain ⟨rfl, rfl, s_2⟩ := hp9
  have hT := hT.put (i := 2) s_2 rfl
  have hU := hU.other s_2 3 rfl (by omega)
  have ho := ho.st (i := 2) s_2 (by omega)
  refine jk_aload_n (q := 23) h dX8_copyFrom_22 rfl rfl ?_
  refine jk_aload_n (q := 24) h dX8_copyFrom_23 rfl rfl ?_
  refine jk_get (q := 27) h fg_X8_18 dX8_copyFrom_24 (hU.at 0 rfl) rfl rfl ?_
  refine jk_put (q := 30) h (fp_X8_18 _) dX8_copyFrom_27 (hT.at 0 rfl) (Nat.le_of_ble_eq_true rfl) rfl (fun M_3 s_3 => ?_)
  have hT := hT.put (i := 0) s_3 rfl
  have hU := hU.other s_3 3 rfl (by omega)
  have ho := ho.st (i := 0) s_3 (by omega)
  exact jk_vret h hR dX8_copyFrom_30 (Nat.le_of_ble_eq_true rfl) (Nat.le_of_ble_eq_true rfl) ⟨rfl, rfl, hT, ho⟩
