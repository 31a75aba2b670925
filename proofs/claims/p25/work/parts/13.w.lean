abbrev TC : Type := (Nat → Int) × (Nat → Int) × (Nat → Int) × Int × (Nat → Int) × (Nat → Int) × (Nat → Int) × (Nat → Int) × Int
abbrev cfP (c : Nat) (x : TC) : List jC := cfL c x.1 x.2.1 x.2.2.1 x.2.2.2.1 x.2.2.2.2.1 x.2.2.2.2.2.1 x.2.2.2.2.2.2.1 x.2.2.2.2.2.2.2.1 x.2.2.2.2.2.2.2.2
abbrev cfQ (x : TC) : Prop := cfO x.1 x.2.1 x.2.2.1 x.2.2.2.1 x.2.2.2.2.1 x.2.2.2.2.2.1 x.2.2.2.2.2.2.1 x.2.2.2.2.2.2.2.1 x.2.2.2.2.2.2.2.2
abbrev gsT (x : TC) (low high : Int) : Int := gsS x.2.1 x.2.2.1 x.2.2.2.1 x.2.2.2.2.1 x.2.2.2.2.2.1 x.2.2.2.2.2.2.1 x.2.2.2.2.2.2.2.2 low high
abbrev lsT (x : TC) (low high : Int) : Int := lsS x.2.1 x.2.2.1 x.2.2.2.1 x.2.2.2.2.1 x.2.2.2.2.2.1 x.2.2.2.2.2.2.1 x.2.2.2.2.2.2.2.2 low high
abbrev msT (x : TC) (low high : Int) : Int := msS x.2.1 x.2.2.1 x.2.2.2.1 x.2.2.2.2.1 x.2.2.2.2.2.1 x.2.2.2.2.2.2.1 x.2.2.2.2.2.2.2.2 low high
abbrev miT (x : TC) (v : Int) : Int := miS x.1 x.2.1 x.2.2.1 x.2.2.2.1 x.2.2.2.2.1 x.2.2.2.2.2.1 x.2.2.2.2.2.2.1 x.2.2.2.2.2.2.2.2 v
abbrev TP : Type := (Nat → Int) × (Nat → Int) × (Nat → Int) × Int
abbrev pfP (c : Nat) (x : TP) : List jC := pfL c x.1 x.2.1 x.2.2.1 x.2.2.2
abbrev pfQ (x : TP) : Prop := jrF x.1 0 99 ∧ jrF x.2.1 0 99 ∧ jrF x.2.2.1 0 60 ∧ (0 ≤ x.2.2.2 ∧ x.2.2.2 ≤ 6)
abbrev TT : Type := (Nat → Int) × (Nat → Int) × Int
abbrev tbP (c : Nat) (x : TT) : List jC := tbL c x.1 x.2.1 x.2.2
abbrev tbQ (x : TT) : Prop := jrF x.1 0 99 ∧ jrF x.2.1 0 99 ∧ (0 ≤ x.2.2 ∧ x.2.2 ≤ 60)
abbrev TS : Type := (Nat → Int) × TT × (Int × Int) × TC × TC × TP
def stP (M : jM) (b : Nat) (x : TS) : Prop := jPic M b (stL b x.1) ∧ jPic M (b + 2) (tbP (b + 2) x.2.1) ∧ jPic M (b + 5) (anL (b + 5) x.2.2.1.1 x.2.2.1.2) ∧ jPic M (b + 6) (cfP (b + 6) x.2.2.2.1) ∧ jPic M (b + 14) (cfP (b + 14) x.2.2.2.2.1) ∧ jPic M (b + 22) (pfP (b + 22) x.2.2.2.2.2)
abbrev seQ (f : Nat → Int) : Prop := (1 ≤ f 0 ∧ f 0 ≤ 10) ∧ (0 ≤ f 1 ∧ f 1 ≤ 6) ∧ (0 ≤ f 2 ∧ f 2 ≤ 6) ∧ (0 ≤ f 3 ∧ f 3 ≤ 100)
def stQ (x : TS) : Prop := seQ x.1 ∧ tbQ x.2.1 ∧ (0 ≤ x.2.2.1.1 ∧ x.2.2.1.1 ≤ 60) ∧ (0 ≤ x.2.2.1.2 ∧ x.2.2.1.2 ≤ 10000000) ∧ cfQ x.2.2.2.1 ∧ cfQ x.2.2.2.2.1 ∧ pfQ x.2.2.2.2.2
theorem stP.keep {M M2 : jM} {b c k : Nat} {x : TS} (h : stP M b x) (ho : jout M M2 c k) (hd : b + 26 ≤ c ∨ c + k ≤ b) : stP M2 b x := ⟨h.1.keep ho 2 rfl (by omega), h.2.1.keep ho 3 rfl (by omega), h.2.2.1.keep ho 1 rfl (by omega), h.2.2.2.1.keep ho 8 rfl (by omega), h.2.2.2.2.1.keep ho 8 rfl (by omega), h.2.2.2.2.2.keep ho 4 rfl (by omega)⟩
def prS (x : TP) (la ha lb hb : Int) : Int := smI (fun k => if (la ≤ x.1 k ∧ x.1 k ≤ ha) ∧ (lb ≤ x.2.1 k ∧ x.2.1 k ≤ hb) then x.2.2.1 k else 0) x.2.2.2
theorem prS_bd {x : TP} {la ha lb hb : Int} (h : pfQ x) : 0 ≤ prS x la ha lb hb ∧ prS x la ha lb hb ≤ 360 := by
  have h1 := smI_bd (f := fun k => if (la ≤ x.1 k ∧ x.1 k ≤ ha) ∧ (lb ≤ x.2.1 k ∧ x.2.1 k ≤ hb) then x.2.2.1 k else 0) (c := 60) (z := x.2.2.2) (N := 6) h.2.2.2.1 h.2.2.2.2 (by omega) (fun k _ => by
    have := h.2.2.1 k
    by_cases hp : (la ≤ x.1 k ∧ x.1 k ≤ ha) ∧ (lb ≤ x.2.1 k ∧ x.2.1 k ≤ hb)
    · simp only [if_pos hp]; exact this
    · simp only [if_neg hp]; omega)
  exact ⟨h1.1, by have := h1.2; unfold prS; omega⟩
theorem gsT_bd {x : TC} {low high : Int} (h : cfQ x) : 0 ≤ gsT x low high ∧ gsT x low high ≤ 960 := gsS_bd h
theorem miT_bd {x : TC} {v : Int} (h : cfQ x) : 0 ≤ miT x v ∧ miT x v ≤ 2000 := miS_bd h
def gbT (rows : Int) (A B : TC) (p : TP) (la ha lb hb : Int) : Int := if 0 < rows - prS p 0 99 0 99 then prS p la ha lb hb + jmx (gsT A la ha - prS p la ha 0 99) 0 * jmx (gsT B lb hb - prS p 0 99 lb hb) 0 / (rows - prS p 0 99 0 99) else prS p la ha lb hb
theorem gbT_bd {rows : Int} {A B : TC} {p : TP} {la ha lb hb : Int} (hA : cfQ A) (hB : cfQ B) (hp : pfQ p) : 0 ≤ gbT rows A B p la ha lb hb ∧ gbT rows A B p la ha lb hb ≤ 1000000 := by
  have h1 := gsT_bd (low := la) (high := ha) hA
  have h2 := gsT_bd (low := lb) (high := hb) hB
  have h3 := prS_bd (la := la) (ha := ha) (lb := lb) (hb := hb) hp
  have h4 := prS_bd (la := la) (ha := ha) (lb := 0) (hb := 99) hp
  have h5 := prS_bd (la := 0) (ha := 99) (lb := lb) (hb := hb) hp
  unfold gbT
  by_cases h : 0 < rows - prS p 0 99 0 99
  · rw [if_pos h]
    have h6 : 0 ≤ jmx (gsT A la ha - prS p la ha 0 99) 0 ∧ jmx (gsT A la ha - prS p la ha 0 99) 0 ≤ 960 := by unfold jmx; split <;> omega
    have h7 : 0 ≤ jmx (gsT B lb hb - prS p 0 99 lb hb) 0 ∧ jmx (gsT B lb hb - prS p 0 99 lb hb) 0 ≤ 960 := by unfold jmx; split <;> omega
    have h8 := jmulb h6.1 h6.2 h7.1 h7.2
    have h9 := jdivb h8.1 h8.2 h
    omega
  · rw [if_neg h]
    omega

set_option maxHeartbeats 4000000 in
set_option maxRecDepth 100000 in
theorem c_X5_init {l : Launch} {D : va_G} {b0 : Nat} {M : jM} {c : Nat} (hP : jPic M c [oB 4 [.null, .null, .null, jI 0]]) : jCtr l D b0 yX5_init cX5_init 1 none 1 3 18 [.ref c] (c + 1) M (fun v n2 M2 => none = v ∧ c + 4 = n2 ∧ jPic M2 c (pfL c jz jz jz 0) ∧ jout M M2 c 4) := by
  refine jctr (lv := [some (.ref c)]) RX5 "<init>" rfl rfl (by decide) (Nat.le_of_ble_eq_true rfl) rfl ?_
  intro X h hR hX
  have ho := jout.rf M c 4
  refine jk_aload_n (q := 1) h dX5_init_0 rfl rfl ?_
  refine jk_objInit (q := 4) h dX5_init_1 ml_X5_3 ko_i ko_c (Nat.le_of_ble_eq_true rfl) (Nat.le_of_ble_eq_true rfl) rfl ?_
  refine jk_aload_n (q := 5) h dX5_init_4 rfl rfl ?_
  refine jk_bipush (q := 7) h dX5_init_5 (by decide) rfl ?_
  refine jk_newa (q := 9) h dX5_init_7 rfl ka_int rfl (Nat.le_of_ble_eq_true rfl) (Nat.le_of_ble_eq_true rfl) rfl (fun M_1 s_1 => ?_)
  have s_1 : jst _ _ _ (aI 6 jz) := s_1
  have hP := hP.snoc s_1
  have ho := ho.st (i := 1) s_1 (by omega)
  refine jk_putF (q := 12) h (fp_X5_9 _) dX5_init_9 rfl fd_X5_0 (hP.at 0 rfl) (Nat.le_of_ble_eq_true rfl) rfl (fun M_2 s_2 => ?_)
  have hP := hP.put (i := 0) s_2 rfl
  have ho := ho.st (i := 0) s_2 (by omega)
  refine jk_aload_n (q := 13) h dX5_init_12 rfl rfl ?_
  refine jk_bipush (q := 15) h dX5_init_13 (by decide) rfl ?_
  refine jk_newa (q := 17) h dX5_init_15 rfl ka_int rfl (Nat.le_of_ble_eq_true rfl) (Nat.le_of_ble_eq_true rfl) rfl (fun M_3 s_3 => ?_)
  have s_3 : jst _ _ _ (aI 6 jz) := s_3
  have hP := hP.snoc s_3
  have ho := ho.st (i := 2) s_3 (by omega)
  refine jk_putF (q := 20) h (fp_X5_15 _) dX5_init_17 rfl fd_X5_1 (hP.at 0 rfl) (Nat.le_of_ble_eq_true rfl) rfl (fun M_4 s_4 => ?_)
  have hP := hP.put (i := 0) s_4 rfl
  have ho := ho.st (i := 0) s_4 (by omega)
  refine jk_aload_n (q := 21) h dX5_init_20 rfl rfl ?_
  refine jk_bipush (q := 23) h dX5_init_21 (by decide) rfl ?_
  refine jk_newa (q := 25) h dX5_init_23 rfl ka_int rfl (Nat.le_of_ble_eq_true rfl) (Nat.le_of_ble_eq_true rfl) rfl (fun M_5 s_5 => ?_)
  have s_5 : jst _ _ _ (aI 6 jz) := s_5
  have hP := hP.snoc s_5
  have ho := ho.st (i := 3) s_5 (by omega)
  refine jk_putF (q := 28) h (fp_X5_18 _) dX5_init_25 rfl fd_X5_2 (hP.at 0 rfl) (Nat.le_of_ble_eq_true rfl) rfl (fun M_6 s_6 => ?_)
  have hP := hP.put (i := 0) s_6 rfl
  have ho := ho.st (i := 0) s_6 (by omega)
  exact jk_vret h hR dX5_init_28 (Nat.le_of_ble_eq_true rfl) (Nat.le_of_ble_eq_true rfl) ⟨rfl, rfl, hP, ho⟩

set_option maxHeartbeats 4000000 in
set_option maxRecDepth 100000 in
theorem c_X5_rowsInside {l : Launch} {D : va_G} {b0 : Nat} {n : Nat} {M : jM} {c : Nat} {x : TP} (hP : jPic M c (pfP c x)) (hO : pfQ x) {la ha9 lb hb9 : Int} (h1 : jRng la) (h2 : jRng ha9) (h3 : jRng lb) (h4 : jRng hb9) : jCtr l D b0 yX5_rowsInside cX5_rowsInside 7 (some .int) 1 0 0 [.ref c, jI la, jI ha9, jI lb, jI hb9] n M (jrd n M (prS x la ha9 lb hb9)) := by
  refine jctr (lv := [some (.ref c), some (jI la), some (jI ha9), some (jI lb), some (jI hb9), none, none]) RX5 "rowsInside" rfl rfl (by decide) (Nat.le_of_ble_eq_true rfl) rfl ?_
  intro X h hR hX
  obtain ⟨hpa, hpb, hpr, hpn⟩ := id hO
  refine jk_iconst (q := 1) h dX5_rowsInside_0 rfl ?_
  refine jk_istore (q := 3) h dX5_rowsInside_1 rfl (Nat.le_of_ble_eq_true rfl) rfl rfl ?_
  refine jk_iconst (q := 4) h dX5_rowsInside_3 rfl ?_
  refine jk_istore (q := 6) h dX5_rowsInside_4 rfl (Nat.le_of_ble_eq_true rfl) rfl rfl ?_
  have lp6 : ∀ (k9 : Nat) (r : Int) (i : Int) (hi : 0 ≤ i) (hi2 : i ≤ x.2.2.2) (hc : r = smI (fun k => if (la ≤ x.1 k ∧ x.1 k ≤ ha9) ∧ (lb ≤ x.2.1 k ∧ x.2.1 k ≤ hb9) then x.2.2.1 k else 0) i) (hk9 : (x.2.2.2 - i).toNat = k9), jJ X 6 [some (.ref (c)), some (jI (la)), some (jI (ha9)), some (jI (lb)), some (jI (hb9)), some (jI (r)), some (jI (i))] [] n M 0 0 := by
    intro k9
    induction k9 using Nat.strongRecOn with
    | _ k9 ih6 =>
      intro r i hi hi2 hc hk9
      have hai := hpa i.toNat
      have hbi := hpb i.toNat
      refine jk_iload (q := 8) h dX5_rowsInside_6 rfl rfl ?_
      refine jk_aload_n (q := 9) h dX5_rowsInside_8 rfl rfl ?_
      refine jk_get (q := 12) h fg_X5_21 dX5_rowsInside_9 (hP.at 0 rfl) rfl rfl ?_
      refine jk_icmp_ge (q := 15) (tgt := 64) h dX5_rowsInside_12 (by decide) rfl ⟨by omega, by omega⟩ ⟨by omega, by omega⟩ (fun c12 => ?_) (fun c12 => ?_)
      · have hi3 : i = x.2.2.2 := by omega
        subst hi3
        refine jk_iload (q := 66) h dX5_rowsInside_64 rfl rfl ?_
        exact jk_iret h hR dX5_rowsInside_66 (Nat.le_of_ble_eq_true rfl) (Nat.le_of_ble_eq_true rfl) (jrd_of hc.symm)
      · refine jk_aload_n (q := 16) h dX5_rowsInside_15 rfl rfl ?_
        refine jk_get (q := 19) h fg_X5_9 dX5_rowsInside_16 (hP.at 0 rfl) rfl rfl ?_
        refine jk_iload (q := 21) h dX5_rowsInside_19 rfl rfl ?_
        refine jk_ialdI (q := 22) h dX5_rowsInside_21 (hP.at 1 rfl) (by omega) (by omega) rfl rfl ?_
        refine jk_iload_n (q := 23) h dX5_rowsInside_22 rfl rfl ?_
        refine jk_iload_n (q := 24) h dX5_rowsInside_23 rfl rfl ?_
        refine jk_callSN (q := 27) h hX (c_X9_isBetween ⟨by omega, by omega⟩ ⟨by omega, by omega⟩ ⟨by omega, by omega⟩) ms_X9_isBetween dX5_rowsInside_24 ml_X5_43 ⟨rfl, Nat.le_refl _⟩ rfl rfl (Nat.le_of_ble_eq_true rfl) (Nat.le_of_ble_eq_true rfl) rfl rfl (Nat.le_of_ble_eq_true rfl) rfl (fun v9 n9 M9 hp9 => ?_)
        obtain ⟨rfl, rfl, rfl⟩ := hp9
        refine jk_if_eqB (q := 30) (tgt := 58) h dX5_rowsInside_27 (by decide) rfl (fun c27 => ?_) (fun c27 => ?_)
        · refine jk_iinc (q := 61) h dX5_rowsInside_58 rfl rfl rfl rfl ?_
          refine jk_goto (q := 64) (tgt := 6) h dX5_rowsInside_61 (by decide) ?_
          exact jk_weak (jwk_s rfl (jwk_s rfl (jwk_s rfl (jwk_s rfl (jwk_s rfl (jwk_s rfl (jwk_s rfl jwk_0))))))) (ih6 _ (by omega) _ _ (by omega) (by omega) (by first | exact smI_t hi hc (if_pos ⟨by omega, by omega⟩) | exact smI_t0 hi hc (if_neg (by omega))) rfl)
        · refine jk_aload_n (q := 31) h dX5_rowsInside_30 rfl rfl ?_
          refine jk_get (q := 34) h fg_X5_15 dX5_rowsInside_31 (hP.at 0 rfl) rfl rfl ?_
          refine jk_iload (q := 36) h dX5_rowsInside_34 rfl rfl ?_
          refine jk_ialdI (q := 37) h dX5_rowsInside_36 (hP.at 2 rfl) (by omega) (by omega) rfl rfl ?_
          refine jk_iload_n (q := 38) h dX5_rowsInside_37 rfl rfl ?_
          refine jk_iload (q := 40) h dX5_rowsInside_38 rfl rfl ?_
          refine jk_callSN (q := 43) h hX (c_X9_isBetween ⟨by omega, by omega⟩ ⟨by omega, by omega⟩ ⟨by omega, by omega⟩) ms_X9_isBetween dX5_rowsInside_40 ml_X5_43 ⟨rfl, Nat.le_refl _⟩ rfl rfl (Nat.le_of_ble_eq_true rfl) (Nat.le_of_ble_eq_true rfl) rfl rfl (Nat.le_of_ble_eq_true rfl) rfl (fun v9 n9 M9 hp9 => ?_)
          obtain ⟨rfl, rfl, rfl⟩ := hp9
          refine jk_if_eqB (q := 46) (tgt := 58) h dX5_rowsInside_43 (by decide) rfl (fun c43 => ?_) (fun c43 => ?_)
          · refine jk_iinc (q := 61) h dX5_rowsInside_58 rfl rfl rfl rfl ?_
            refine jk_goto (q := 64) (tgt := 6) h dX5_rowsInside_61 (by decide) ?_
            exact jk_weak (jwk_s rfl (jwk_s rfl (jwk_s rfl (jwk_s rfl (jwk_s rfl (jwk_s rfl (jwk_s rfl jwk_0))))))) (ih6 _ (by omega) _ _ (by omega) (by omega) (by first | exact smI_t hi hc (if_pos ⟨by omega, by omega⟩) | exact smI_t0 hi hc (if_neg (by omega))) rfl)
          · refine jk_iload (q := 48) h dX5_rowsInside_46 rfl rfl ?_
            refine jk_aload_n (q := 49) h dX5_rowsInside_48 rfl rfl ?_
            refine jk_get (q := 52) h fg_X5_18 dX5_rowsInside_49 (hP.at 0 rfl) rfl rfl ?_
            refine jk_iload (q := 54) h dX5_rowsInside_52 rfl rfl ?_
            refine jk_ialdI (q := 55) h dX5_rowsInside_54 (hP.at 3 rfl) (by omega) (by omega) rfl rfl ?_
            refine jk_iadd (q := 56) h dX5_rowsInside_55 rfl ?_
            refine jk_istore (q := 58) h dX5_rowsInside_56 rfl (Nat.le_of_ble_eq_true rfl) rfl rfl ?_
            refine jk_iinc (q := 61) h dX5_rowsInside_58 rfl rfl rfl rfl ?_
            refine jk_goto (q := 64) (tgt := 6) h dX5_rowsInside_61 (by decide) ?_
            exact jk_weak (jwk_s rfl (jwk_s rfl (jwk_s rfl (jwk_s rfl (jwk_s rfl (jwk_s rfl (jwk_s rfl jwk_0))))))) (ih6 _ (by omega) _ _ (by omega) (by omega) (by first | exact smI_t hi hc (if_pos ⟨by omega, by omega⟩) | exact smI_t0 hi hc (if_neg (by omega))) rfl)
  exact jk_weak (jwk_s rfl (jwk_s rfl (jwk_s rfl (jwk_s rfl (jwk_s rfl (jwk_s rfl (jwk_s rfl jwk_0))))))) (lp6 _ _ _ (by omega) (by omega) rfl rfl)

set_option maxHeartbeats 4000000 in
set_option maxRecDepth 100000 in
theorem c_X5_copyFrom {l : Launch} {D : va_G} {b0 : Nat} {n : Nat} {M : jM} {c c2 : Nat} {x y : TP} (hP : jPic M c (pfP c x)) (hE : jPic M c2 (pfP c2 y)) (hd : c + 4 ≤ c2 ∨ c2 + 4 ≤ c) : jCtr l D b0 yX5_copyFrom cX5_copyFrom 2 none 1 0 0 [.ref c, .ref c2] n M (fun v n2 M2 => none = v ∧ n = n2 ∧ jPic M2 c (pfP c y) ∧ jout M M2 c 4) := by
  refine jctr (lv := [some (.ref c), some (.ref c2)]) RX5 "copyFrom" rfl rfl (by decide) (Nat.le_of_ble_eq_true rfl) rfl ?_
  intro X h hR hX
  have ho := jout.rf M c 4
  refine jk_aload_n (q := 1) h dX5_copyFrom_0 rfl rfl ?_
  refine jk_get (q := 4) h fg_X5_9 dX5_copyFrom_1 (hE.at 0 rfl) rfl rfl ?_
  refine jk_aload_n (q := 5) h dX5_copyFrom_4 rfl rfl ?_
  refine jk_get (q := 8) h fg_X5_9 dX5_copyFrom_5 (hP.at 0 rfl) rfl rfl ?_
  refine jk_callSN (q := 11) h hX (c_X9_copyNumbers rfl (jPic_c (hE.at 1 rfl)) (jPic_c (hP.at 1 rfl)) (by omega)) ms_X9_copyNumbers dX5_copyFrom_8 ml_X5_47 ⟨rfl, Nat.le_refl _⟩ rfl rfl (Nat.le_of_ble_eq_true rfl) (Nat.le_of_ble_eq_true rfl) rfl rfl (Nat.le_of_ble_eq_true rfl) rfl (fun v9 n9 M_1 hp9 => ?_)
  obtain ⟨rfl, rfl, s_1⟩ := hp9
  have hP := hP.put (i := 1) s_1 rfl
  have hE := hE.other s_1 4 rfl (by omega)
  have ho := ho.st (i := 1) s_1 (by omega)
  refine jk_aload_n (q := 12) h dX5_copyFrom_11 rfl rfl ?_
  refine jk_get (q := 15) h fg_X5_15 dX5_copyFrom_12 (hE.at 0 rfl) rfl rfl ?_
  refine jk_aload_n (q := 16) h dX5_copyFrom_15 rfl rfl ?_
  refine jk_get (q := 19) h fg_X5_15 dX5_copyFrom_16 (hP.at 0 rfl) rfl rfl ?_
  refine jk_callSN (q := 22) h hX (c_X9_copyNumbers rfl (jPic_c (hE.at 2 rfl)) (jPic_c (hP.at 2 rfl)) (by omega)) ms_X9_copyNumbers dX5_copyFrom_19 ml_X5_47 ⟨rfl, Nat.le_refl _⟩ rfl rfl (Nat.le_of_ble_eq_true rfl) (Nat.le_of_ble_eq_true rfl) rfl rfl (Nat.le_of_ble_eq_true rfl) rfl (fun v9 n9 M_2 hp9 => ?_)
  obtain ⟨rfl, rfl, s_2⟩ := hp9
  have hP := hP.put (i := 2) s_2 rfl
  have hE := hE.other s_2 4 rfl (by omega)
  have ho := ho.st (i := 2) s_2 (by omega)
  refine jk_aload_n (q := 23) h dX5_copyFrom_22 rfl rfl ?_
  refine jk_get (q := 26) h fg_X5_18 dX5_copyFrom_23 (hE.at 0 rfl) rfl rfl ?_
  refine jk_aload_n (q := 27) h dX5_copyFrom_26 rfl rfl ?_
  refine jk_get (q := 30) h fg_X5_18 dX5_copyFrom_27 (hP.at 0 rfl) rfl rfl ?_
  refine jk_callSN (q := 33) h hX (c_X9_copyNumbers rfl (jPic_c (hE.at 3 rfl)) (jPic_c (hP.at 3 rfl)) (by omega)) ms_X9_copyNumbers dX5_copyFrom_30 ml_X5_47 ⟨rfl, Nat.le_refl _⟩ rfl rfl (Nat.le_of_ble_eq_true rfl) (Nat.le_of_ble_eq_true rfl) rfl rfl (Nat.le_of_ble_eq_true rfl) rfl (fun v9 n9 M_3 hp9 => ?_)
  obtain ⟨rfl, rfl, s_3⟩ := hp9
  have hP := hP.put (i := 3) s_3 rfl
  have hE := hE.other s_3 4 rfl (by omega)
  have ho := ho.st (i := 3) s_3 (by omega)
  refine jk_aload_n (q := 34) h dX5_copyFrom_33 rfl rfl ?_
  refine jk_aload_n (q := 35) h dX5_copyFrom_34 rfl rfl ?_
  refine jk_get (q := 38) h fg_X5_21 dX5_copyFrom_35 (hE.at 0 rfl) rfl rfl ?_
  refine jk_put (q := 41) h (fp_X5_21 _) dX5_copyFrom_38 (hP.at 0 rfl) (Nat.le_of_ble_eq_true rfl) rfl (fun M_4 s_4 => ?_)
  have hP := hP.put (i := 0) s_4 rfl
  have hE := hE.other s_4 4 rfl (by omega)
  have ho := ho.st (i := 0) s_4 (by omega)
  exact jk_vret h hR dX5_copyFrom_41 (Nat.le_of_ble_eq_true rfl) (Nat.le_of_ble_eq_true rfl) ⟨rfl, rfl, hP, ho⟩

abbrev cf0 : TC := (jz, jz, jz, 0, jz, jz, jz, jz, 0)
abbrev pf0 : TP := (jz, jz, jz, 0)

set_option maxHeartbeats 4000000 in
set_option maxRecDepth 100000 in
theorem c_X0_init {l : Launch} {D : va_G} {b0 : Nat} {M : jM} {a : Nat} (hN : jPic M a [oB 0 [.null, .null, .null, jI 0, jI 0]]) : jCtr l D b0 yX0_init cX0_init 1 none 2 20 344 [.ref a] (a + 1) M (fun v n2 M2 => none = v ∧ a + 21 = n2 ∧ jPic M2 a (anL a 0 0) ∧ jPic M2 (a + 1) (cfP (a + 1) cf0) ∧ jPic M2 (a + 9) (cfP (a + 9) cf0) ∧ jPic M2 (a + 17) (pfP (a + 17) pf0) ∧ jout M M2 a 21) := by
  refine jctr (lv := [some (.ref a)]) RX0 "<init>" rfl rfl (by decide) (Nat.le_of_ble_eq_true rfl) rfl ?_
  intro X h hR hX
  have ho := jout.rf M a 21
  refine jk_aload_n (q := 1) h dX0_init_0 rfl rfl ?_
  refine jk_objInit (q := 4) h dX0_init_1 ml_X0_3 ko_i ko_c (Nat.le_of_ble_eq_true rfl) (Nat.le_of_ble_eq_true rfl) rfl ?_
  refine jk_aload_n (q := 5) h dX0_init_4 rfl rfl ?_
  refine jk_new (q := 8) h nw_X0_9 dX0_init_5 (Nat.le_of_ble_eq_true rfl) (Nat.le_of_ble_eq_true rfl) rfl (fun M_1 s_1 => ?_)
  have hN := hN.other s_1 1 rfl (by omega)
  have hA := jPic.one s_1
  have ho := ho.tr (jst.out s_1) (by omega) (by omega)
  refine jk_dup (q := 9) h dX0_init_8 rfl rfl ?_
  refine jk_callIN (q := 12) h hX (c_X2_init hA) mi_X2_init dX0_init_9 ml_X0_11 ⟨rfl, Nat.le_refl _⟩ rfl rfl (Nat.le_of_ble_eq_true rfl) (Nat.le_of_ble_eq_true rfl) rfl rfl (Nat.le_of_ble_eq_true rfl) rfl (fun v9 n9 M_2 hp9 => ?_)
  obtain ⟨rfl, rfl, hA, o_2⟩ := hp9
  have hN := hN.keep o_2 1 rfl (by omega)
  have ho := ho.tr o_2 (by omega) (by omega)
  refine jk_putF (q := 15) h (fp_X0_12 _) dX0_init_12 rfl fd_X0_0 (hN.at 0 rfl) (Nat.le_of_ble_eq_true rfl) rfl (fun M_3 s_3 => ?_)
  have hN := hN.put (i := 0) s_3 rfl
  have hA := hA.other s_3 8 rfl (by omega)
  have ho := ho.st (i := 0) s_3 (by omega)
  refine jk_aload_n (q := 16) h dX0_init_15 rfl rfl ?_
  refine jk_new (q := 19) h nw_X0_9 dX0_init_16 (Nat.le_of_ble_eq_true rfl) (Nat.le_of_ble_eq_true rfl) rfl (fun M_4 s_4 => ?_)
  have hN := hN.other s_4 1 rfl (by omega)
  have hA := hA.other s_4 8 rfl (by omega)
  have hB := jPic.one s_4
  have ho := ho.tr (jst.out s_4) (by omega) (by omega)
  refine jk_dup (q := 20) h dX0_init_19 rfl rfl ?_
  refine jk_callIN (q := 23) h hX (c_X2_init hB) mi_X2_init dX0_init_20 ml_X0_11 ⟨rfl, Nat.le_refl _⟩ rfl rfl (Nat.le_of_ble_eq_true rfl) (Nat.le_of_ble_eq_true rfl) rfl rfl (Nat.le_of_ble_eq_true rfl) rfl (fun v9 n9 M_5 hp9 => ?_)
  obtain ⟨rfl, rfl, hB, o_5⟩ := hp9
  have hN := hN.keep o_5 1 rfl (by omega)
  have hA := hA.keep o_5 8 rfl (by omega)
  have ho := ho.tr o_5 (by omega) (by omega)
  refine jk_putF (q := 26) h (fp_X0_18 _) dX0_init_23 rfl fd_X0_1 (hN.at 0 rfl) (Nat.le_of_ble_eq_true rfl) rfl (fun M_6 s_6 => ?_)
  have hN := hN.put (i := 0) s_6 rfl
  have hA := hA.other s_6 8 rfl (by omega)
  have hB := hB.other s_6 8 rfl (by omega)
  have ho := ho.st (i := 0) s_6 (by omega)
  refine jk_aload_n (q := 27) h dX0_init_26 rfl rfl ?_
  refine jk_new (q := 30) h nw_X0_21 dX0_init_27 (Nat.le_of_ble_eq_true rfl) (Nat.le_of_ble_eq_true rfl) rfl (fun M_7 s_7 => ?_)
  have hN := hN.other s_7 1 rfl (by omega)
  have hA := hA.other s_7 8 rfl (by omega)
  have hB := hB.other s_7 8 rfl (by omega)
  have hP := jPic.one s_7
  have ho := ho.tr (jst.out s_7) (by omega) (by omega)
  refine jk_dup (q := 31) h dX0_init_30 rfl rfl ?_
  refine jk_callIN (q := 34) h hX (c_X5_init hP) mi_X5_init dX0_init_31 ml_X0_23 ⟨rfl, Nat.le_refl _⟩ rfl rfl (Nat.le_of_ble_eq_true rfl) (Nat.le_of_ble_eq_true rfl) rfl rfl (Nat.le_of_ble_eq_true rfl) rfl (fun v9 n9 M_8 hp9 => ?_)
  obtain ⟨rfl, rfl, hP, o_8⟩ := hp9
  have hN := hN.keep o_8 1 rfl (by omega)
  have hA := hA.keep o_8 8 rfl (by omega)
  have hB := hB.keep o_8 8 rfl (by omega)
  have ho := ho.tr o_8 (by omega) (by omega)
  refine jk_putF (q := 37) h (fp_X0_24 _) dX0_init_34 rfl fd_X0_2 (hN.at 0 rfl) (Nat.le_of_ble_eq_true rfl) rfl (fun M_9 s_9 => ?_)
  have hN := hN.put (i := 0) s_9 rfl
  have hA := hA.other s_9 8 rfl (by omega)
  have hB := hB.other s_9 8 rfl (by omega)
  have hP := hP.other s_9 4 rfl (by omega)
  have ho := ho.st (i := 0) s_9 (by omega)
  exact jk_vret h hR dX0_init_37 (Nat.le_of_ble_eq_true rfl) (Nat.le_of_ble_eq_true rfl) ⟨rfl, rfl, hN, hA, hB, hP, ho⟩

set_option maxHeartbeats 4000000 in
set_option maxRecDepth 100000 in
theorem c_X0_isMade {l : Launch} {D : va_G} {b0 : Nat} {n : Nat} {M : jM} {a : Nat} {rows ch : Int} (hN : jPic M a (anL a rows ch)) (hr : 0 ≤ rows ∧ rows ≤ 60) (hch : 0 ≤ ch ∧ ch ≤ 10000000) : jCtr l D b0 yX0_isMade cX0_isMade 1 (some .boolean) 0 0 0 [.ref a] n M (jrd n M (if 0 < rows then 1 else 0)) := by
  refine jctr (lv := [some (.ref a)]) RX0 "isMade" rfl rfl (by decide) (Nat.le_of_ble_eq_true rfl) rfl ?_
  intro X h hR hX
  refine jk_aload_n (q := 1) h dX0_isMade_0 rfl rfl ?_
  refine jk_get (q := 4) h fg_X0_28 dX0_isMade_1 (hN.at 0 rfl) rfl rfl ?_
  refine jk_if_le (q := 7) (tgt := 11) h dX0_isMade_4 (by decide) rfl ⟨by omega, by omega⟩ (fun c4 => ?_) (fun c4 => ?_)
  · refine jk_iconst (q := 12) h dX0_isMade_11 rfl ?_
    exact jk_zret h hR dX0_isMade_12 (Nat.le_of_ble_eq_true rfl) (Nat.le_of_ble_eq_true rfl) (by first | exact Or.inl rfl | exact Or.inr rfl | omega) (jrd_of (by first | rfl | exact (if_pos (by omega)).symm | exact if_pos (by omega) | exact if_neg (by omega)))
  · refine jk_iconst (q := 8) h dX0_isMade_7 rfl ?_
    refine jk_goto (q := 11) (tgt := 12) h dX0_isMade_8 (by decide) ?_
    exact jk_zret h hR dX0_isMade_12 (Nat.le_of_ble_eq_true rfl) (Nat.le_of_ble_eq_true rfl) (by first | exact Or.inl rfl | exact Or.inr rfl | omega) (jrd_of (by first | rfl | exact (if_pos (by omega)).symm | exact if_pos (by omega) | exact if_neg (by omega)))

set_option maxHeartbeats 4000000 in
set_option maxRecDepth 100000 in
theorem c_X0_facts {l : Launch} {D : va_G} {b0 : Nat} {n : Nat} {M : jM} {a : Nat} {rows ch q : Int} (hN : jPic M a (anL a rows ch)) (hq : jRng q) : jCtr l D b0 yX0_facts cX0_facts 2 (some (.object "EqualHeights$ColumnFacts")) 0 0 0 [.ref a, jI q] n M (fun v n2 M2 => some (.ref (if q = 0 then a + 1 else a + 9)) = v ∧ n = n2 ∧ M = M2) := by
  refine jctr (lv := [some (.ref a), some (jI q)]) RX0 "facts" rfl rfl (by decide) (Nat.le_of_ble_eq_true rfl) rfl ?_
  intro X h hR hX
  refine jk_iload_n (q := 1) h dX0_facts_0 rfl rfl ?_
  refine jk_if_ne (q := 4) (tgt := 11) h dX0_facts_1 (by decide) rfl ⟨by omega, by omega⟩ (fun c1 => ?_) (fun c1 => ?_)
  · refine jk_aload_n (q := 12) h dX0_facts_11 rfl rfl ?_
    refine jk_get (q := 15) h fg_X0_18 dX0_facts_12 (hN.at 0 rfl) rfl rfl ?_
    exact jk_aret h hR dX0_facts_15 (Nat.le_of_ble_eq_true rfl) (Nat.le_of_ble_eq_true rfl) ⟨by first | rw [if_pos (by omega)] | rw [if_neg (by omega)], rfl, rfl⟩
  · refine jk_aload_n (q := 5) h dX0_facts_4 rfl rfl ?_
    refine jk_get (q := 8) h fg_X0_12 dX0_facts_5 (hN.at 0 rfl) rfl rfl ?_
    refine jk_goto (q := 11) (tgt := 15) h dX0_facts_8 (by decide) ?_
    exact jk_aret h hR dX0_facts_15 (Nat.le_of_ble_eq_true rfl) (Nat.le_of_ble_eq_true rfl) ⟨by first | rw [if_pos (by omega)] | rw [if_neg (by omega)], rfl, rfl⟩

set_option maxHeartbeats 4000000 in
set_option maxRecDepth 100000 in
theorem c_X0_noteChange {l : Launch} {D : va_G} {b0 : Nat} {n : Nat} {M : jM} {a : Nat} {rows ch : Int} (hN : jPic M a (anL a rows ch)) (hr : 0 ≤ rows ∧ rows ≤ 60) (hch : 0 ≤ ch ∧ ch ≤ 10000000) : jCtr l D b0 yX0_noteChange cX0_noteChange 1 none 1 0 0 [.ref a] n M (fun v n2 M2 => none = v ∧ n = n2 ∧ jPic M2 a (anL a rows (if 0 < rows then ch + 1 else ch)) ∧ jout M M2 a 1) := by
  refine jctr (lv := [some (.ref a)]) RX0 "noteChange" rfl rfl (by decide) (Nat.le_of_ble_eq_true rfl) rfl ?_
  intro X h hR hX
  have ho := jout.rf M a 1
  refine jk_aload_n (q := 1) h dX0_noteChange_0 rfl rfl ?_
  refine jk_callV (q := 4) h hX (c_X0_isMade hN hr hch) mv_X0_isMade (hN.at 0 rfl) dX0_noteChange_1 ml_X0_47 ⟨rfl, Nat.le_refl _⟩ rfl rfl (Nat.le_of_ble_eq_true rfl) (Nat.le_of_ble_eq_true rfl) rfl rfl (Nat.le_of_ble_eq_true rfl) rfl (fun v9 n9 M9 hp9 => ?_)
  obtain ⟨rfl, rfl, rfl⟩ := hp9
  refine jk_if_eqB (q := 7) (tgt := 17) h dX0_noteChange_4 (by decide) rfl (fun c4 => ?_) (fun c4 => ?_)
  · exact jk_vret h hR dX0_noteChange_17 (Nat.le_of_ble_eq_true rfl) (Nat.le_of_ble_eq_true rfl) ⟨rfl, rfl, by first | (rw [if_pos (by omega)]; exact hN) | (rw [if_neg (by omega)]; exact hN), ho⟩
  · refine jk_aload_n (q := 8) h dX0_noteChange_7 rfl rfl ?_
    refine jk_dup (q := 9) h dX0_noteChange_8 rfl rfl ?_
    refine jk_get (q := 12) h fg_X0_44 dX0_noteChange_9 (hN.at 0 rfl) rfl rfl ?_
    refine jk_iconst (q := 13) h dX0_noteChange_12 rfl ?_
    refine jk_iadd (q := 14) h dX0_noteChange_13 rfl ?_
    refine jk_put (q := 17) h (fp_X0_44 _) dX0_noteChange_14 (hN.at 0 rfl) (Nat.le_of_ble_eq_true rfl) rfl (fun M_1 s_1 => ?_)
    have hN := hN.put (i := 0) s_1 rfl
    have ho := ho.st (i := 0) s_1 (by omega)
    exact jk_vret h hR dX0_noteChange_17 (Nat.le_of_ble_eq_true rfl) (Nat.le_of_ble_eq_true rfl) ⟨rfl, rfl, by first | (rw [if_pos (by omega)]; exact hN) | (rw [if_neg (by omega)]; exact hN), ho⟩

set_option maxHeartbeats 4000000 in
set_option maxRecDepth 100000 in
theorem c_X0_isStale {l : Launch} {D : va_G} {b0 : Nat} {n : Nat} {M : jM} {a : Nat} {rows ch : Int} (hN : jPic M a (anL a rows ch)) (hr : 0 ≤ rows ∧ rows ≤ 60) (hch : 0 ≤ ch ∧ ch ≤ 10000000) {q : Int} (hq : 0 ≤ q ∧ q ≤ 100) : jCtr l D b0 yX0_isStale cX0_isStale 2 (some .boolean) 0 0 0 [.ref a, jI q] n M (jrd n M (if q * rows < 100 * ch then 1 else 0)) := by
  refine jctr (lv := [some (.ref a), some (jI q)]) RX0 "isStale" rfl rfl (by decide) (Nat.le_of_ble_eq_true rfl) rfl ?_
  intro X h hR hX
  have hm := jmulb hq.1 hq.2 hr.1 hr.2
  refine jk_bipush (q := 2) h dX0_isStale_0 (by decide) rfl ?_
  refine jk_aload_n (q := 3) h dX0_isStale_2 rfl rfl ?_
  refine jk_get (q := 6) h fg_X0_44 dX0_isStale_3 (hN.at 0 rfl) rfl rfl ?_
  refine jk_imul (q := 7) h dX0_isStale_6 rfl ?_
  refine jk_iload_n (q := 8) h dX0_isStale_7 rfl rfl ?_
  refine jk_aload_n (q := 9) h dX0_isStale_8 rfl rfl ?_
  refine jk_get (q := 12) h fg_X0_28 dX0_isStale_9 (hN.at 0 rfl) rfl rfl ?_
  refine jk_imul (q := 13) h dX0_isStale_12 rfl ?_
  refine jk_icmp_le (q := 16) (tgt := 20) h dX0_isStale_13 (by decide) rfl ⟨by omega, by omega⟩ ⟨by omega, by omega⟩ (fun c13 => ?_) (fun c13 => ?_)
  · refine jk_iconst (q := 21) h dX0_isStale_20 rfl ?_
    exact jk_zret h hR dX0_isStale_21 (Nat.le_of_ble_eq_true rfl) (Nat.le_of_ble_eq_true rfl) (by first | exact Or.inl rfl | exact Or.inr rfl | omega) (jrd_of (by first | rfl | exact (if_pos (by omega)).symm | exact if_pos (by omega) | exact if_neg (by omega)))
  · refine jk_iconst (q := 17) h dX0_isStale_16 rfl ?_
    refine jk_goto (q := 20) (tgt := 21) h dX0_isStale_17 (by decide) ?_
    exact jk_zret h hR dX0_isStale_21 (Nat.le_of_ble_eq_true rfl) (Nat.le_of_ble_eq_true rfl) (by first | exact Or.inl rfl | exact Or.inr rfl | omega) (jrd_of (by first | rfl | exact (if_pos (by omega)).symm | exact if_pos (by omega) | exact if_neg (by omega)))

set_option maxHeartbeats 4000000 in
set_option maxRecDepth 100000 in
theorem c_X0_guessBoth {l : Launch} {D : va_G} {b0 : Nat} {n : Nat} {M : jM} {a : Nat} {rows ch : Int} {A B : TC} {p : TP} (hN : jPic M a (anL a rows ch)) (hA : jPic M (a + 1) (cfP (a + 1) A)) (hB : jPic M (a + 9) (cfP (a + 9) B)) (hP : jPic M (a + 17) (pfP (a + 17) p)) (hr : 0 ≤ rows ∧ rows ≤ 60) (hOA : cfQ A) (hOB : cfQ B) (hOP : pfQ p) {la ha lb hb : Int} (h1 : 0 ≤ la ∧ la ≤ 99) (h2 : 0 ≤ ha ∧ ha ≤ 99) (h3 : 0 ≤ lb ∧ lb ≤ 99) (h4 : 0 ≤ hb ∧ hb ≤ 99) : jCtr l D b0 yX0_guessBoth cX0_guessBoth 11 (some .int) 3 0 0 [.ref a, jI la, jI ha, jI lb, jI hb] n M (jrd n M (gbT rows A B p la ha lb hb)) := by
  refine jctr (lv := [some (.ref a), some (jI la), some (jI ha), some (jI lb), some (jI hb), none, none, none, none, none, none]) RX0 "guessBoth" rfl rfl (by decide) (Nat.le_of_ble_eq_true rfl) rfl ?_
  intro X h hR hX
  have q1 := gsS_bd (low := la) (high := ha) hOA
  have q2 := gsS_bd (low := lb) (high := hb) hOB
  have q3 := prS_bd (la := la) (ha := ha) (lb := lb) (hb := hb) hOP
  have q4 := prS_bd (la := la) (ha := ha) (lb := 0) (hb := 99) hOP
  have q5 := prS_bd (la := 0) (ha := 99) (lb := lb) (hb := hb) hOP
  have q6 := prS_bd (la := 0) (ha := 99) (lb := 0) (hb := 99) hOP
  refine jk_aload_n (q := 1) h dX0_guessBoth_0 rfl rfl ?_
  refine jk_get (q := 4) h fg_X0_24 dX0_guessBoth_1 (hN.at 0 rfl) rfl rfl ?_
  refine jk_iload_n (q := 5) h dX0_guessBoth_4 rfl rfl ?_
  refine jk_iload_n (q := 6) h dX0_guessBoth_5 rfl rfl ?_
  refine jk_iload_n (q := 7) h dX0_guessBoth_6 rfl rfl ?_
  refine jk_iload (q := 9) h dX0_guessBoth_7 rfl rfl ?_
  refine jk_callV (q := 12) h hX (c_X5_rowsInside hP hOP ⟨by omega, by omega⟩ ⟨by omega, by omega⟩ ⟨by omega, by omega⟩ ⟨by omega, by omega⟩) mv_X5_rowsInside (hP.at 0 rfl) dX0_guessBoth_9 ml_X0_51 ⟨rfl, Nat.le_refl _⟩ rfl rfl (Nat.le_of_ble_eq_true rfl) (Nat.le_of_ble_eq_true rfl) rfl rfl (Nat.le_of_ble_eq_true rfl) rfl (fun v9 n9 M9 hp9 => ?_)
  obtain ⟨rfl, rfl, rfl⟩ := hp9
  refine jk_istore (q := 14) h dX0_guessBoth_12 rfl (Nat.le_of_ble_eq_true rfl) rfl rfl ?_
  refine jk_aload_n (q := 15) h dX0_guessBoth_14 rfl rfl ?_
  refine jk_get (q := 18) h fg_X0_28 dX0_guessBoth_15 (hN.at 0 rfl) rfl rfl ?_
  refine jk_aload_n (q := 19) h dX0_guessBoth_18 rfl rfl ?_
  refine jk_get (q := 22) h fg_X0_24 dX0_guessBoth_19 (hN.at 0 rfl) rfl rfl ?_
  refine jk_iconst (q := 23) h dX0_guessBoth_22 rfl ?_
  refine jk_bipush (q := 25) h dX0_guessBoth_23 (by decide) rfl ?_
  refine jk_iconst (q := 26) h dX0_guessBoth_25 rfl ?_
  refine jk_bipush (q := 28) h dX0_guessBoth_26 (by decide) rfl ?_
  refine jk_callV (q := 31) h hX (c_X5_rowsInside hP hOP ⟨by omega, by omega⟩ ⟨by omega, by omega⟩ ⟨by omega, by omega⟩ ⟨by omega, by omega⟩) mv_X5_rowsInside (hP.at 0 rfl) dX0_guessBoth_28 ml_X0_51 ⟨rfl, Nat.le_refl _⟩ rfl rfl (Nat.le_of_ble_eq_true rfl) (Nat.le_of_ble_eq_true rfl) rfl rfl (Nat.le_of_ble_eq_true rfl) rfl (fun v9 n9 M9 hp9 => ?_)
  obtain ⟨rfl, rfl, rfl⟩ := hp9
  refine jk_isub (q := 32) h dX0_guessBoth_31 rfl ?_
  refine jk_istore (q := 34) h dX0_guessBoth_32 rfl (Nat.le_of_ble_eq_true rfl) rfl rfl ?_
  refine jk_iload (q := 36) h dX0_guessBoth_34 rfl rfl ?_
  refine jk_if_gt (q := 39) (tgt := 42) h dX0_guessBoth_36 (by decide) rfl ⟨by omega, by omega⟩ (fun c36 => ?_) (fun c36 => ?_)
  · refine jk_aload_n (q := 43) h dX0_guessBoth_42 rfl rfl ?_
    refine jk_get (q := 46) h fg_X0_24 dX0_guessBoth_43 (hN.at 0 rfl) rfl rfl ?_
    refine jk_iload_n (q := 47) h dX0_guessBoth_46 rfl rfl ?_
    refine jk_iload_n (q := 48) h dX0_guessBoth_47 rfl rfl ?_
    refine jk_iconst (q := 49) h dX0_guessBoth_48 rfl ?_
    refine jk_bipush (q := 51) h dX0_guessBoth_49 (by decide) rfl ?_
    refine jk_callV (q := 54) h hX (c_X5_rowsInside hP hOP ⟨by omega, by omega⟩ ⟨by omega, by omega⟩ ⟨by omega, by omega⟩ ⟨by omega, by omega⟩) mv_X5_rowsInside (hP.at 0 rfl) dX0_guessBoth_51 ml_X0_51 ⟨rfl, Nat.le_refl _⟩ rfl rfl (Nat.le_of_ble_eq_true rfl) (Nat.le_of_ble_eq_true rfl) rfl rfl (Nat.le_of_ble_eq_true rfl) rfl (fun v9 n9 M9 hp9 => ?_)
    obtain ⟨rfl, rfl, rfl⟩ := hp9
    refine jk_istore (q := 56) h dX0_guessBoth_54 rfl (Nat.le_of_ble_eq_true rfl) rfl rfl ?_
    refine jk_aload_n (q := 57) h dX0_guessBoth_56 rfl rfl ?_
    refine jk_get (q := 60) h fg_X0_24 dX0_guessBoth_57 (hN.at 0 rfl) rfl rfl ?_
    refine jk_iconst (q := 61) h dX0_guessBoth_60 rfl ?_
    refine jk_bipush (q := 63) h dX0_guessBoth_61 (by decide) rfl ?_
    refine jk_iload_n (q := 64) h dX0_guessBoth_63 rfl rfl ?_
    refine jk_iload (q := 66) h dX0_guessBoth_64 rfl rfl ?_
    refine jk_callV (q := 69) h hX (c_X5_rowsInside hP hOP ⟨by omega, by omega⟩ ⟨by omega, by omega⟩ ⟨by omega, by omega⟩ ⟨by omega, by omega⟩) mv_X5_rowsInside (hP.at 0 rfl) dX0_guessBoth_66 ml_X0_51 ⟨rfl, Nat.le_refl _⟩ rfl rfl (Nat.le_of_ble_eq_true rfl) (Nat.le_of_ble_eq_true rfl) rfl rfl (Nat.le_of_ble_eq_true rfl) rfl (fun v9 n9 M9 hp9 => ?_)
    obtain ⟨rfl, rfl, rfl⟩ := hp9
    refine jk_istore (q := 71) h dX0_guessBoth_69 rfl (Nat.le_of_ble_eq_true rfl) rfl rfl ?_
    refine jk_aload_n (q := 72) h dX0_guessBoth_71 rfl rfl ?_
    refine jk_get (q := 75) h fg_X0_12 dX0_guessBoth_72 (hN.at 0 rfl) rfl rfl ?_
    refine jk_iload_n (q := 76) h dX0_guessBoth_75 rfl rfl ?_
    refine jk_iload_n (q := 77) h dX0_guessBoth_76 rfl rfl ?_
    refine jk_callV (q := 80) h hX (c_X2_guess hA hOA ⟨by omega, by omega⟩ ⟨by omega, by omega⟩) mv_X2_guess (hA.at 0 rfl) dX0_guessBoth_77 ml_X0_55 ⟨rfl, Nat.le_refl _⟩ rfl rfl (Nat.le_of_ble_eq_true rfl) (Nat.le_of_ble_eq_true rfl) rfl rfl (Nat.le_of_ble_eq_true rfl) rfl (fun v9 n9 M9 hp9 => ?_)
    obtain ⟨rfl, rfl, rfl⟩ := hp9
    refine jk_iload (q := 82) h dX0_guessBoth_80 rfl rfl ?_
    refine jk_isub (q := 83) h dX0_guessBoth_82 rfl ?_
    refine jk_iconst (q := 84) h dX0_guessBoth_83 rfl ?_
    refine jk_mmax (q := 87) h dX0_guessBoth_84 ml_X0_59 km_max_s km_i km_max_c (Nat.le_of_ble_eq_true rfl) (Nat.le_of_ble_eq_true rfl) (Nat.le_of_ble_eq_true rfl) (Nat.le_of_ble_eq_true rfl) ⟨by omega, by omega⟩ ⟨by omega, by omega⟩ rfl ?_
    refine jk_name (fun ea hea => ?_)
    have hea2 : 0 ≤ ea ∧ ea ≤ 960 := by { rw [hea]; split <;> omega }
    refine jk_istore (q := 89) h dX0_guessBoth_87 rfl (Nat.le_of_ble_eq_true rfl) rfl rfl ?_
    refine jk_aload_n (q := 90) h dX0_guessBoth_89 rfl rfl ?_
    refine jk_get (q := 93) h fg_X0_18 dX0_guessBoth_90 (hN.at 0 rfl) rfl rfl ?_
    refine jk_iload_n (q := 94) h dX0_guessBoth_93 rfl rfl ?_
    refine jk_iload (q := 96) h dX0_guessBoth_94 rfl rfl ?_
    refine jk_callV (q := 99) h hX (c_X2_guess hB hOB ⟨by omega, by omega⟩ ⟨by omega, by omega⟩) mv_X2_guess (hB.at 0 rfl) dX0_guessBoth_96 ml_X0_55 ⟨rfl, Nat.le_refl _⟩ rfl rfl (Nat.le_of_ble_eq_true rfl) (Nat.le_of_ble_eq_true rfl) rfl rfl (Nat.le_of_ble_eq_true rfl) rfl (fun v9 n9 M9 hp9 => ?_)
    obtain ⟨rfl, rfl, rfl⟩ := hp9
    refine jk_iload (q := 101) h dX0_guessBoth_99 rfl rfl ?_
    refine jk_isub (q := 102) h dX0_guessBoth_101 rfl ?_
    refine jk_iconst (q := 103) h dX0_guessBoth_102 rfl ?_
    refine jk_mmax (q := 106) h dX0_guessBoth_103 ml_X0_59 km_max_s km_i km_max_c (Nat.le_of_ble_eq_true rfl) (Nat.le_of_ble_eq_true rfl) (Nat.le_of_ble_eq_true rfl) (Nat.le_of_ble_eq_true rfl) ⟨by omega, by omega⟩ ⟨by omega, by omega⟩ rfl ?_
    refine jk_name (fun eb heb => ?_)
    have heb2 : 0 ≤ eb ∧ eb ≤ 960 := by { rw [heb]; split <;> omega }
    refine jk_istore (q := 108) h dX0_guessBoth_106 rfl (Nat.le_of_ble_eq_true rfl) rfl rfl ?_
    refine jk_iload (q := 110) h dX0_guessBoth_108 rfl rfl ?_
    refine jk_iload (q := 112) h dX0_guessBoth_110 rfl rfl ?_
    refine jk_iload (q := 114) h dX0_guessBoth_112 rfl rfl ?_
    refine jk_imul (q := 115) h dX0_guessBoth_114 rfl ?_
    refine jk_iload (q := 117) h dX0_guessBoth_115 rfl rfl ?_
    refine jk_idiv (q := 118) h dX0_guessBoth_117 (jmulb hea2.1 hea2.2 heb2.1 heb2.2).1 (by have := (jmulb hea2.1 hea2.2 heb2.1 heb2.2).2; omega) (by omega) (by omega) rfl ?_
    refine jk_iadd (q := 119) h dX0_guessBoth_118 rfl ?_
    exact jk_iret h hR dX0_guessBoth_119 (Nat.le_of_ble_eq_true rfl) (Nat.le_of_ble_eq_true rfl) (jrd_of (by rw [hea, heb]; exact if_pos (by omega)))
  · refine jk_iload (q := 41) h dX0_guessBoth_39 rfl rfl ?_
    exact jk_iret h hR dX0_guessBoth_41 (Nat.le_of_ble_eq_true rfl) (Nat.le_of_ble_eq_true rfl) (jrd_of (if_neg (by omega)))

set_option maxHeartbeats 4000000 in
set_option maxRecDepth 100000 in
theorem c_X0_copyFrom {l : Launch} {D : va_G} {b0 : Nat} {n : Nat} {M : jM} {a a2 : Nat} {rows ch rows2 ch2 : Int} {A B A2 B2 : TC} {p p2 : TP} (hN : jPic M a (anL a rows ch)) (hA : jPic M (a + 1) (cfP (a + 1) A)) (hB : jPic M (a + 9) (cfP (a + 9) B)) (hP : jPic M (a + 17) (pfP (a + 17) p)) (hN2 : jPic M a2 (anL a2 rows2 ch2)) (hA2 : jPic M (a2 + 1) (cfP (a2 + 1) A2)) (hB2 : jPic M (a2 + 9) (cfP (a2 + 9) B2)) (hP2 : jPic M (a2 + 17) (pfP (a2 + 17) p2)) (hd : a + 21 ≤ a2 ∨ a2 + 21 ≤ a) : jCtr l D b0 yX0_copyFrom cX0_copyFrom 2 none 2 0 0 [.ref a, .ref a2] n M (fun v n2 M2 => none = v ∧ n = n2 ∧ jPic M2 a (anL a rows2 ch2) ∧ jPic M2 (a + 1) (cfP (a + 1) A2) ∧ jPic M2 (a + 9) (cfP (a + 9) B2) ∧ jPic M2 (a + 17) (pfP (a + 17) p2) ∧ jout M M2 a 21) := by
  refine jctr (lv := [some (.ref a), some (.ref a2)]) RX0 "copyFrom" rfl rfl (by decide) (Nat.le_of_ble_eq_true rfl) rfl ?_
  intro X h hR hX
  have ho := jout.rf M a 21
  refine jk_aload_n (q := 1) h dX0_copyFrom_0 rfl rfl ?_
  refine jk_get (q := 4) h fg_X0_12 dX0_copyFrom_1 (hN.at 0 rfl) rfl rfl ?_
  refine jk_aload_n (q := 5) h dX0_copyFrom_4 rfl rfl ?_
  refine jk_get (q := 8) h fg_X0_12 dX0_copyFrom_5 (hN2.at 0 rfl) rfl rfl ?_
  refine jk_callV (q := 11) h hX (c_X2_copyFrom hA hA2 (by omega)) mv_X2_copyFrom (hA.at 0 rfl) dX0_copyFrom_8 ml_X0_64 ⟨rfl, Nat.le_refl _⟩ rfl rfl (Nat.le_of_ble_eq_true rfl) (Nat.le_of_ble_eq_true rfl) rfl rfl (Nat.le_of_ble_eq_true rfl) rfl (fun v9 n9 M_1 hp9 => ?_)
  obtain ⟨rfl, rfl, hA, o_1⟩ := hp9
  have hN := hN.keep o_1 1 rfl (by omega)
  have hB := hB.keep o_1 8 rfl (by omega)
  have hP := hP.keep o_1 4 rfl (by omega)
  have hN2 := hN2.keep o_1 1 rfl (by omega)
  have hA2 := hA2.keep o_1 8 rfl (by omega)
  have hB2 := hB2.keep o_1 8 rfl (by omega)
  have hP2 := hP2.keep o_1 4 rfl (by omega)
  have ho := ho.tr o_1 (by omega) (by omega)
  refine jk_aload_n (q := 12) h dX0_copyFrom_11 rfl rfl ?_
  refine jk_get (q := 15) h fg_X0_18 dX0_copyFrom_12 (hN.at 0 rfl) rfl rfl ?_
  refine jk_aload_n (q := 16) h dX0_copyFrom_15 rfl rfl ?_
  refine jk_get (q := 19) h fg_X0_18 dX0_copyFrom_16 (hN2.at 0 rfl) rfl rfl ?_
  refine jk_callV (q := 22) h hX (c_X2_copyFrom hB hB2 (by omega)) mv_X2_copyFrom (hB.at 0 rfl) dX0_copyFrom_19 ml_X0_64 ⟨rfl, Nat.le_refl _⟩ rfl rfl (Nat.le_of_ble_eq_true rfl) (Nat.le_of_ble_eq_true rfl) rfl rfl (Nat.le_of_ble_eq_true rfl) rfl (fun v9 n9 M_2 hp9 => ?_)
  obtain ⟨rfl, rfl, hB, o_2⟩ := hp9
  have hN := hN.keep o_2 1 rfl (by omega)
  have hA := hA.keep o_2 8 rfl (by omega)
  have hP := hP.keep o_2 4 rfl (by omega)
  have hN2 := hN2.keep o_2 1 rfl (by omega)
  have hA2 := hA2.keep o_2 8 rfl (by omega)
  have hB2 := hB2.keep o_2 8 rfl (by omega)
  have hP2 := hP2.keep o_2 4 rfl (by omega)
  have ho := ho.tr o_2 (by omega) (by omega)
  refine jk_aload_n (q := 23) h dX0_copyFrom_22 rfl rfl ?_
  refine jk_get (q := 26) h fg_X0_24 dX0_copyFrom_23 (hN.at 0 rfl) rfl rfl ?_
  refine jk_aload_n (q := 27) h dX0_copyFrom_26 rfl rfl ?_
  refine jk_get (q := 30) h fg_X0_24 dX0_copyFrom_27 (hN2.at 0 rfl) rfl rfl ?_
  refine jk_callV (q := 33) h hX (c_X5_copyFrom hP hP2 (by omega)) mv_X5_copyFrom (hP.at 0 rfl) dX0_copyFrom_30 ml_X0_68 ⟨rfl, Nat.le_refl _⟩ rfl rfl (Nat.le_of_ble_eq_true rfl) (Nat.le_of_ble_eq_true rfl) rfl rfl (Nat.le_of_ble_eq_true rfl) rfl (fun v9 n9 M_3 hp9 => ?_)
  obtain ⟨rfl, rfl, hP, o_3⟩ := hp9
  have hN := hN.keep o_3 1 rfl (by omega)
  have hA := hA.keep o_3 8 rfl (by omega)
  have hB := hB.keep o_3 8 rfl (by omega)
  have hN2 := hN2.keep o_3 1 rfl (by omega)
  have hA2 := hA2.keep o_3 8 rfl (by omega)
  have hB2 := hB2.keep o_3 8 rfl (by omega)
  have hP2 := hP2.keep o_3 4 rfl (by omega)
  have ho := ho.tr o_3 (by omega) (by omega)
  refine jk_aload_n (q := 34) h dX0_copyFrom_33 rfl rfl ?_
  refine jk_aload_n (q := 35) h dX0_copyFrom_34 rfl rfl ?_
  refine jk_get (q := 38) h fg_X0_28 dX0_copyFrom_35 (hN2.at 0 rfl) rfl rfl ?_
  refine jk_put (q := 41) h (fp_X0_28 _) dX0_copyFrom_38 (hN.at 0 rfl) (Nat.le_of_ble_eq_true rfl) rfl (fun M_4 s_4 => ?_)
  have hN := hN.put (i := 0) s_4 rfl
  have hA := hA.other s_4 8 rfl (by omega)
  have hB := hB.other s_4 8 rfl (by omega)
  have hP := hP.other s_4 4 rfl (by omega)
  have hN2 := hN2.other s_4 1 rfl (by omega)
  have hA2 := hA2.other s_4 8 rfl (by omega)
  have hB2 := hB2.other s_4 8 rfl (by omega)
  have hP2 := hP2.other s_4 4 rfl (by omega)
  have ho := ho.st (i := 0) s_4 (by omega)
  refine jk_aload_n (q := 42) h dX0_copyFrom_41 rfl rfl ?_
  refine jk_aload_n (q := 43) h dX0_copyFrom_42 rfl rfl ?_
  refine jk_get (q := 46) h fg_X0_44 dX0_copyFrom_43 (hN2.at 0 rfl) rfl rfl ?_
  refine jk_put (q := 49) h (fp_X0_44 _) dX0_copyFrom_46 (hN.at 0 rfl) (Nat.le_of_ble_eq_true rfl) rfl (fun M_5 s_5 => ?_)
  have hN := hN.put (i := 0) s_5 rfl
  have hA := hA.other s_5 8 rfl (by omega)
  have hB := hB.other s_5 8 rfl (by omega)
  have hP := hP.other s_5 4 rfl (by omega)
  have hN2 := hN2.other s_5 1 rfl (by omega)
  have hA2 := hA2.other s_5 8 rfl (by omega)
  have hB2 := hB2.other s_5 8 rfl (by omega)
  have hP2 := hP2.other s_5 4 rfl (by omega)
  have ho := ho.st (i := 0) s_5 (by omega)
  exact jk_vret h hR dX0_copyFrom_49 (Nat.le_of_ble_eq_true rfl) (Nat.le_of_ble_eq_true rfl) ⟨rfl, rfl, hN, hA, hB, hP, ho⟩

abbrev ts0 : TS := (fun k => if k = 0 then 4 else if k = 1 then 2 else if k = 2 then 2 else if k = 3 then 20 else 0, (jz, jz, 0), (0, 0), cf0, cf0, pf0)
theorem ts0_set : jfup (jfup (jfup (jfup jz (0 : Int).toNat 4) (1 : Int).toNat 2) (2 : Int).toNat 2) (3 : Int).toNat 20 = ts0.1 := by
  funext k
  match k with
  | 0 => rfl
  | 1 => rfl
  | 2 => rfl
  | 3 => rfl
  | k + 4 => simp [jfup]
theorem jz_F {a b : Int} (h : a ≤ 0) (h2 : 0 ≤ b) : jrF jz a b := fun _ => ⟨h, h2⟩
theorem cf0_Q : cfQ cf0 := by
  exact ⟨jz_F (by decide) (by decide), jz_F (by decide) (by decide), jz_F (by decide) (by decide), ⟨by decide, by decide⟩, jz_F (by decide) (by decide), jz_F (by decide) (by decide), jz_F (by decide) (by decide), trivial, ⟨by decide, by decide⟩, fun k h => Int.le_refl _⟩
theorem ts0_Q : stQ ts0 := ⟨by decide, ⟨jz_F (by decide) (by decide), jz_F (by decide) (by decide), by decide⟩, by decide, by decide, cf0_Q, cf0_Q, ⟨jz_F (by decide) (by decide), jz_F (by decide) (by decide), jz_F (by decide) (by decide), by decide⟩⟩

set_option maxHeartbeats 4000000 in
set_option maxRecDepth 100000 in
theorem c_X7_init {l : Launch} {D : va_G} {b0 : Nat} {M : jM} {b : Nat} (hS : jPic M b [oB 6 [.null, .null, .null]]) : jCtr l D b0 yX7_init cX7_init 1 none 3 25 476 [.ref b] (b + 1) M (fun v n2 M2 => none = v ∧ b + 26 = n2 ∧ stP M2 b ts0 ∧ jout M M2 b 26) := by
  refine jctr (lv := [some (.ref b)]) RX7 "<init>" rfl rfl (by decide) (Nat.le_of_ble_eq_true rfl) rfl ?_
  intro X h hR hX
  have ho := jout.rf M b 26
  refine jk_aload_n (q := 1) h dX7_init_0 rfl rfl ?_
  refine jk_objInit (q := 4) h dX7_init_1 ml_X7_3 ko_i ko_c (Nat.le_of_ble_eq_true rfl) (Nat.le_of_ble_eq_true rfl) rfl ?_
  refine jk_aload_n (q := 5) h dX7_init_4 rfl rfl ?_
  refine jk_iconst (q := 6) h dX7_init_5 rfl ?_
  refine jk_newa (q := 8) h dX7_init_6 rfl ka_int rfl (Nat.le_of_ble_eq_true rfl) (Nat.le_of_ble_eq_true rfl) rfl (fun M_1 s_1 => ?_)
  have s_1 : jst _ _ _ (aI 4 jz) := s_1
  have hS := hS.snoc s_1
  have ho := ho.st (i := 1) s_1 (by omega)
  refine jk_dup (q := 9) h dX7_init_8 rfl rfl ?_
  refine jk_iconst (q := 10) h dX7_init_9 rfl ?_
  refine jk_iconst (q := 11) h dX7_init_10 rfl ?_
  refine jk_iast (q := 12) h dX7_init_11 (hS.at 1 rfl) (by omega) (by omega) rfl rfl (fun M_2 s_2 => ?_)
  have hS := hS.put (i := 1) s_2 rfl
  have ho := ho.st (i := 1) s_2 (by omega)
  refine jk_dup (q := 13) h dX7_init_12 rfl rfl ?_
  refine jk_iconst (q := 14) h dX7_init_13 rfl ?_
  refine jk_iconst (q := 15) h dX7_init_14 rfl ?_
  refine jk_iast (q := 16) h dX7_init_15 (hS.at 1 rfl) (by omega) (by omega) rfl rfl (fun M_3 s_3 => ?_)
  have hS := hS.put (i := 1) s_3 rfl
  have ho := ho.st (i := 1) s_3 (by omega)
  refine jk_dup (q := 17) h dX7_init_16 rfl rfl ?_
  refine jk_iconst (q := 18) h dX7_init_17 rfl ?_
  refine jk_iconst (q := 19) h dX7_init_18 rfl ?_
  refine jk_iast (q := 20) h dX7_init_19 (hS.at 1 rfl) (by omega) (by omega) rfl rfl (fun M_4 s_4 => ?_)
  have hS := hS.put (i := 1) s_4 rfl
  have ho := ho.st (i := 1) s_4 (by omega)
  refine jk_dup (q := 21) h dX7_init_20 rfl rfl ?_
  refine jk_iconst (q := 22) h dX7_init_21 rfl ?_
  refine jk_bipush (q := 24) h dX7_init_22 (by decide) rfl ?_
  refine jk_iast (q := 25) h dX7_init_24 (hS.at 1 rfl) (by omega) (by omega) rfl rfl (fun M_5 s_5 => ?_)
  have hS := hS.put (i := 1) s_5 rfl
  have ho := ho.st (i := 1) s_5 (by omega)
  refine jk_putF (q := 28) h (fp_X7_9 _) dX7_init_25 rfl fd_X7_0 (hS.at 0 rfl) (Nat.le_of_ble_eq_true rfl) rfl (fun M_6 s_6 => ?_)
  have hS := hS.put (i := 0) s_6 rfl
  have ho := ho.st (i := 0) s_6 (by omega)
  refine jk_aload_n (q := 29) h dX7_init_28 rfl rfl ?_
  refine jk_new (q := 32) h nw_X7_15 dX7_init_29 (Nat.le_of_ble_eq_true rfl) (Nat.le_of_ble_eq_true rfl) rfl (fun M_7 s_7 => ?_)
  have hS := hS.other s_7 2 rfl (by omega)
  have hT := jPic.one s_7
  have ho := ho.tr (jst.out s_7) (by omega) (by omega)
  refine jk_dup (q := 33) h dX7_init_32 rfl rfl ?_
  refine jk_callIN (q := 36) h hX (c_X8_init hT) mi_X8_init dX7_init_33 ml_X7_17 ⟨rfl, Nat.le_refl _⟩ rfl rfl (Nat.le_of_ble_eq_true rfl) (Nat.le_of_ble_eq_true rfl) rfl rfl (Nat.le_of_ble_eq_true rfl) rfl (fun v9 n9 M_8 hp9 => ?_)
  obtain ⟨rfl, rfl, hT, o_8⟩ := hp9
  have hS := hS.keep o_8 2 rfl (by omega)
  have ho := ho.tr o_8 (by omega) (by omega)
  refine jk_putF (q := 39) h (fp_X7_18 _) dX7_init_36 rfl fd_X7_1 (hS.at 0 rfl) (Nat.le_of_ble_eq_true rfl) rfl (fun M_9 s_9 => ?_)
  have hS := hS.put (i := 0) s_9 rfl
  have hT := hT.other s_9 3 rfl (by omega)
  have ho := ho.st (i := 0) s_9 (by omega)
  refine jk_aload_n (q := 40) h dX7_init_39 rfl rfl ?_
  refine jk_new (q := 43) h nw_X7_22 dX7_init_40 (Nat.le_of_ble_eq_true rfl) (Nat.le_of_ble_eq_true rfl) rfl (fun M_10 s_10 => ?_)
  have hS := hS.other s_10 2 rfl (by omega)
  have hT := hT.other s_10 3 rfl (by omega)
  have hN := jPic.one s_10
  have ho := ho.tr (jst.out s_10) (by omega) (by omega)
  refine jk_dup (q := 44) h dX7_init_43 rfl rfl ?_
  refine jk_callIN (q := 47) h hX (c_X0_init hN) mi_X0_init dX7_init_44 ml_X7_24 ⟨rfl, Nat.le_refl _⟩ rfl rfl (Nat.le_of_ble_eq_true rfl) (Nat.le_of_ble_eq_true rfl) rfl rfl (Nat.le_of_ble_eq_true rfl) rfl (fun v9 n9 M_11 hp9 => ?_)
  obtain ⟨rfl, rfl, hN, hA, hB, hP, o_11⟩ := hp9
  have hS := hS.keep o_11 2 rfl (by omega)
  have hT := hT.keep o_11 3 rfl (by omega)
  have ho := ho.tr o_11 (by omega) (by omega)
  refine jk_putF (q := 50) h (fp_X7_25 _) dX7_init_47 rfl fd_X7_2 (hS.at 0 rfl) (Nat.le_of_ble_eq_true rfl) rfl (fun M_12 s_12 => ?_)
  have hS := hS.put (i := 0) s_12 rfl
  have hT := hT.other s_12 3 rfl (by omega)
  have hN := hN.other s_12 1 rfl (by omega)
  have hA := hA.other s_12 8 rfl (by omega)
  have hB := hB.other s_12 8 rfl (by omega)
  have hP := hP.other s_12 4 rfl (by omega)
  have ho := ho.st (i := 0) s_12 (by omega)
  rw [ts0_set] at hS
  exact jk_vret h hR dX7_init_50 (Nat.le_of_ble_eq_true rfl) (Nat.le_of_ble_eq_true rfl) ⟨rfl, rfl, ⟨hS, hT, hN, hA, hB, hP⟩, ho⟩

set_option maxHeartbeats 4000000 in
set_option maxRecDepth 100000 in
theorem c_X7_setting {l : Launch} {D : va_G} {b0 : Nat} {n : Nat} {M : jM} {b : Nat} {x : TS} (h9 : stP M b x) (hQ : stQ x) {q : Int} (hq : 0 ≤ q ∧ q ≤ 3) : jCtr l D b0 yX7_setting cX7_setting 2 (some .int) 1 0 0 [.ref b, jI q] n M (jrd n M (x.1 q.toNat)) := by
  refine jctr (lv := [some (.ref b), some (jI q)]) RX7 "setting" rfl rfl (by decide) (Nat.le_of_ble_eq_true rfl) rfl ?_
  intro X h hR hX
  obtain ⟨hS, hT, hN, hA, hB, hP⟩ := h9
  obtain ⟨hse, htb, hr, hch, hOA, hOB, hOP⟩ := id hQ
  refine jk_iload_n (q := 1) h dX7_setting_0 rfl rfl ?_
  refine jk_iconst (q := 2) h dX7_setting_1 rfl ?_
  refine jk_iconst (q := 3) h dX7_setting_2 rfl ?_
  refine jk_callSN (q := 6) h hX (c_X9_isBetween ⟨by omega, by omega⟩ ⟨by omega, by omega⟩ ⟨by omega, by omega⟩) ms_X9_isBetween dX7_setting_3 ml_X7_29 ⟨rfl, Nat.le_refl _⟩ rfl rfl (Nat.le_of_ble_eq_true rfl) (Nat.le_of_ble_eq_true rfl) rfl rfl (Nat.le_of_ble_eq_true rfl) rfl (fun v9 n9 M9 hp9 => ?_)
  obtain ⟨rfl, rfl, rfl⟩ := hp9
  refine jk_if_eqB (q := 9) (tgt := 18) h dX7_setting_6 (by decide) rfl (fun c6 => ?_) (fun c6 => ?_)
  · omega
  · refine jk_aload_n (q := 10) h dX7_setting_9 rfl rfl ?_
    refine jk_get (q := 13) h fg_X7_9 dX7_setting_10 (hS.at 0 rfl) rfl rfl ?_
    refine jk_iload_n (q := 14) h dX7_setting_13 rfl rfl ?_
    refine jk_ialdI (q := 15) h dX7_setting_14 (hS.at 1 rfl) (by omega) (by omega) rfl rfl ?_
    refine jk_goto (q := 18) (tgt := 19) h dX7_setting_15 (by decide) ?_
    exact jk_iret h hR dX7_setting_19 (Nat.le_of_ble_eq_true rfl) (Nat.le_of_ble_eq_true rfl) (jrd_of rfl)

def inR (q v : Int) : Prop := (q = 0 ∧ 1 ≤ v ∧ v ≤ 10) ∨ (q = 1 ∧ 0 ≤ v ∧ v ≤ 6) ∨ (q = 2 ∧ 0 ≤ v ∧ v ≤ 6) ∨ (q = 3 ∧ 0 ≤ v ∧ v ≤ 100)
