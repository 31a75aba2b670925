def cfO (had cv cr : Nat → Int) (cn : Int) (lo hi br un : Nat → Int) (bn : Int) : Prop := jrF had 0 60 ∧ jrF cv 0 99 ∧ jrF cr 0 60 ∧ (0 ≤ cn ∧ cn ≤ 6) ∧ jrF lo 0 99 ∧ jrF hi 0 99 ∧ jrF br 0 60 ∧ True ∧ (0 ≤ bn ∧ bn ≤ 10) ∧ ∀ k : Nat, (k : Int) < bn → lo k ≤ hi k
def cmS (cv cr : Nat → Int) (cn low high : Int) : Int := smI (fun k => if low ≤ cv k ∧ cv k ≤ high then cr k else 0) cn
abbrev jmn (a b : Int) : Int := if b < a then b else a
abbrev jmx (a b : Int) : Int := if a < b then b else a
def gbS (lo hi br : Nat → Int) (low high : Int) : Nat → Int := fun k => if 0 < jmn (hi k) high - jmx (lo k) low + 1 then br k * (jmn (hi k) high - jmx (lo k) low + 1) / (hi k - lo k + 1) else 0
def gsS (cv cr : Nat → Int) (cn : Int) (lo hi br : Nat → Int) (bn low high : Int) : Int := cmS cv cr cn low high + smI (gbS lo hi br low high) bn
def lsS (cv cr : Nat → Int) (cn : Int) (lo hi br : Nat → Int) (bn low high : Int) : Int := cmS cv cr cn low high + smI (fun k => if low ≤ lo k ∧ hi k ≤ high then br k else 0) bn
def msS (cv cr : Nat → Int) (cn : Int) (lo hi br : Nat → Int) (bn low high : Int) : Int := cmS cv cr cn low high + smI (fun k => if low ≤ hi k ∧ lo k ≤ high then br k else 0) bn
def miS (had cv cr : Nat → Int) (cn : Int) (lo hi br : Nat → Int) (bn v : Int) : Int := if 0 ≤ gsS cv cr cn lo hi br bn v v - had v.toNat then gsS cv cr cn lo hi br bn v v - had v.toNat else -(gsS cv cr cn lo hi br bn v v - had v.toNat)
def wvS (f : Int → Int) : Nat → Int
  | 0 => 0
  | n + 1 => if f (wvS f n) < f n then (n : Int) else wvS f n
def wvI (f : Int → Int) (z : Int) : Int := wvS f z.toNat
theorem wvI_s {f : Int → Int} {z : Int} (h : 0 ≤ z) : wvI f (z + 1) = if f (wvI f z) < f z then z else wvI f z := by
  unfold wvI
  rw [show (z + 1).toNat = z.toNat + 1 by omega]
  simp only [wvS]
  rw [show ((z.toNat : Nat) : Int) = z by omega]
theorem wvI_1 (f : Int → Int) : wvI f 1 = 0 := by
  show wvS f 1 = 0
  simp [wvS]
def jany (p : Nat → Bool) : Nat → Bool
  | 0 => false
  | n + 1 => jany p n || p n
theorem jany_iff {p : Nat → Bool} : ∀ {n : Nat}, jany p n = true ↔ ∃ k, k < n ∧ p k = true
  | 0 => by simp [jany]
  | n + 1 => by
    simp only [jany, Bool.or_eq_true]
    rw [jany_iff]
    constructor
    · rintro (⟨k, h1, h2⟩ | h)
      · exact ⟨k, by omega, h2⟩
      · exact ⟨n, by omega, h⟩
    · rintro ⟨k, h1, h2⟩
      by_cases hk : k = n
      · subst hk; exact Or.inr h2
      · exact Or.inl ⟨k, by omega, h2⟩
abbrev isC (cv : Nat → Int) (cn v : Int) : Bool := jany (fun k => decide (cv k = v)) cn.toNat
theorem isC_iff {cv : Nat → Int} {cn v : Int} (h : 0 ≤ cn) : isC cv cn v = true ↔ ∃ k : Nat, (k : Int) < cn ∧ cv k = v := by
  rw [jany_iff]
  constructor
  · rintro ⟨k, h1, h2⟩
    exact ⟨k, by omega, by simpa using h2⟩
  · rintro ⟨k, h1, h2⟩
    exact ⟨k, by omega, by simpa using h2⟩
theorem smI_b {f : Nat → Int} {z v r B : Int} (h0 : 0 ≤ z) (hr : r = B + smI f z) (hv : f z.toNat = v) : r + v = B + smI f (z + 1) := by
  rw [smI_s h0, hr, hv]
  omega
theorem smI_b0 {f : Nat → Int} {z r B : Int} (h0 : 0 ≤ z) (hr : r = B + smI f z) (hv : f z.toNat = 0) : r = B + smI f (z + 1) := by
  rw [smI_s h0, hr, hv]
  omega
theorem jmulb {x y A B : Int} (h1 : 0 ≤ x) (h2 : x ≤ A) (h3 : 0 ≤ y) (h4 : y ≤ B) : 0 ≤ x * y ∧ x * y ≤ A * B := ⟨Int.mul_nonneg h1 h3, Int.mul_le_mul h2 h4 h3 (by omega)⟩
theorem jdivb {x d A : Int} (h1 : 0 ≤ x) (h2 : x ≤ A) (h3 : 0 < d) : 0 ≤ x / d ∧ x / d ≤ A := by
  refine ⟨Int.ediv_nonneg h1 (by omega), ?_⟩
  exact Int.le_trans (Int.ediv_le_self d h1) h2
theorem cmS_bd {cv cr : Nat → Int} {cn low high : Int} (hcr : jrF cr 0 60) (hcn : 0 ≤ cn ∧ cn ≤ 6) : 0 ≤ cmS cv cr cn low high ∧ cmS cv cr cn low high ≤ 360 := by
  have h := smI_bd (f := fun k => if low ≤ cv k ∧ cv k ≤ high then cr k else 0) (c := 60) (z := cn) (N := 6) hcn.1 hcn.2 (by omega) (fun k _ => by
    have := hcr k
    by_cases hp : low ≤ cv k ∧ cv k ≤ high
    · simp only [if_pos hp]; exact this
    · simp only [if_neg hp]; omega)
  exact ⟨h.1, by have := h.2; unfold cmS; omega⟩
theorem gbS_bd {lo hi br : Nat → Int} {low high : Int} (hlo : jrF lo 0 99) (hhi : jrF hi 0 99) (hbr : jrF br 0 60) (k : Nat) (hk : lo k ≤ hi k) : 0 ≤ gbS lo hi br low high k ∧ gbS lo hi br low high k ≤ 60 := by
  have h1 := hlo k
  have h2 := hhi k
  have h3 := hbr k
  unfold gbS
  by_cases hp : 0 < jmn (hi k) high - jmx (lo k) low + 1
  · simp only [if_pos hp]
    have h4 : jmn (hi k) high - jmx (lo k) low + 1 ≤ 100 := by
      have h5 : jmn (hi k) high ≤ hi k := by unfold jmn; split <;> omega
      have h6 : lo k ≤ jmx (lo k) low := by unfold jmx; split <;> omega
      omega
    have h5 := jmulb h3.1 h3.2 (Int.le_of_lt hp) h4
    have h7 : jmn (hi k) high - jmx (lo k) low + 1 ≤ hi k - lo k + 1 := by
      have h8 : jmn (hi k) high ≤ hi k := by unfold jmn; split <;> omega
      have h9 : lo k ≤ jmx (lo k) low := by unfold jmx; split <;> omega
      omega
    refine ⟨(jdivb h5.1 h5.2 (by omega)).1, ?_⟩
    refine Int.le_trans (Int.ediv_le_of_le_mul (by omega) (Int.mul_le_mul_of_nonneg_left h7 h3.1)) h3.2
  · simp only [if_neg hp]
    omega
theorem gsS_bd {had cv cr : Nat → Int} {cn : Int} {lo hi br un : Nat → Int} {bn low high : Int} (hO : cfO had cv cr cn lo hi br un bn) : 0 ≤ gsS cv cr cn lo hi br bn low high ∧ gsS cv cr cn lo hi br bn low high ≤ 960 := by
  obtain ⟨hhad, hcv, hcr, hcn, hlo, hhi, hbr, hun, hbn, hlh⟩ := id hO
  have h1 := cmS_bd (cv := cv) (low := low) (high := high) hcr hcn
  have h2 := smI_bd (f := gbS lo hi br low high) (c := 60) (z := bn) (N := 10) hbn.1 hbn.2 (by omega) (fun k hk => gbS_bd hlo hhi hbr k (hlh k hk))
  unfold gsS
  omega
theorem miS_bd {had cv cr : Nat → Int} {cn : Int} {lo hi br un : Nat → Int} {bn v : Int} (hO : cfO had cv cr cn lo hi br un bn) : 0 ≤ miS had cv cr cn lo hi br bn v ∧ miS had cv cr cn lo hi br bn v ≤ 2000 := by
  have h1 := gsS_bd (low := v) (high := v) hO
  have h2 := hO.1 v.toNat
  unfold miS
  split <;> omega

set_option maxHeartbeats 4000000 in
set_option maxRecDepth 100000 in
theorem c_X2_init {l : Launch} {D : va_G} {b0 : Nat} {M : jM} {c : Nat} (hC : jPic M c [oB 1 [.null, .null, .null, jI 0, .null, .null, .null, .null, jI 0]]) : jCtr l D b0 yX2_init cX2_init 1 none 1 7 152 [.ref c] (c + 1) M (fun v n2 M2 => none = v ∧ c + 8 = n2 ∧ jPic M2 c (cfL c jz jz jz 0 jz jz jz jz 0) ∧ jout M M2 c 8) := by
  refine jctr (lv := [some (.ref c)]) RX2 "<init>" rfl rfl (by decide) (Nat.le_of_ble_eq_true rfl) rfl ?_
  intro X h hR hX
  have ho := jout.rf M c 8
  refine jk_aload_n (q := 1) h dX2_init_0 rfl rfl ?_
  refine jk_objInit (q := 4) h dX2_init_1 ml_X2_3 ko_i ko_c (Nat.le_of_ble_eq_true rfl) (Nat.le_of_ble_eq_true rfl) rfl ?_
  refine jk_aload_n (q := 5) h dX2_init_4 rfl rfl ?_
  refine jk_bipush (q := 7) h dX2_init_5 (by decide) rfl ?_
  refine jk_newa (q := 9) h dX2_init_7 rfl ka_int rfl (Nat.le_of_ble_eq_true rfl) (Nat.le_of_ble_eq_true rfl) rfl (fun M_1 s_1 => ?_)
  have s_1 : jst _ _ _ (aI 100 jz) := s_1
  have hC := hC.snoc s_1
  have ho := ho.st (i := 1) s_1 (by omega)
  refine jk_putF (q := 12) h (fp_X2_9 _) dX2_init_9 rfl fd_X2_0 (hC.at 0 rfl) (Nat.le_of_ble_eq_true rfl) rfl (fun M_2 s_2 => ?_)
  have hC := hC.put (i := 0) s_2 rfl
  have ho := ho.st (i := 0) s_2 (by omega)
  refine jk_aload_n (q := 13) h dX2_init_12 rfl rfl ?_
  refine jk_bipush (q := 15) h dX2_init_13 (by decide) rfl ?_
  refine jk_newa (q := 17) h dX2_init_15 rfl ka_int rfl (Nat.le_of_ble_eq_true rfl) (Nat.le_of_ble_eq_true rfl) rfl (fun M_3 s_3 => ?_)
  have s_3 : jst _ _ _ (aI 6 jz) := s_3
  have hC := hC.snoc s_3
  have ho := ho.st (i := 2) s_3 (by omega)
  refine jk_putF (q := 20) h (fp_X2_15 _) dX2_init_17 rfl fd_X2_1 (hC.at 0 rfl) (Nat.le_of_ble_eq_true rfl) rfl (fun M_4 s_4 => ?_)
  have hC := hC.put (i := 0) s_4 rfl
  have ho := ho.st (i := 0) s_4 (by omega)
  refine jk_aload_n (q := 21) h dX2_init_20 rfl rfl ?_
  refine jk_bipush (q := 23) h dX2_init_21 (by decide) rfl ?_
  refine jk_newa (q := 25) h dX2_init_23 rfl ka_int rfl (Nat.le_of_ble_eq_true rfl) (Nat.le_of_ble_eq_true rfl) rfl (fun M_5 s_5 => ?_)
  have s_5 : jst _ _ _ (aI 6 jz) := s_5
  have hC := hC.snoc s_5
  have ho := ho.st (i := 3) s_5 (by omega)
  refine jk_putF (q := 28) h (fp_X2_18 _) dX2_init_25 rfl fd_X2_2 (hC.at 0 rfl) (Nat.le_of_ble_eq_true rfl) rfl (fun M_6 s_6 => ?_)
  have hC := hC.put (i := 0) s_6 rfl
  have ho := ho.st (i := 0) s_6 (by omega)
  refine jk_aload_n (q := 29) h dX2_init_28 rfl rfl ?_
  refine jk_bipush (q := 31) h dX2_init_29 (by decide) rfl ?_
  refine jk_newa (q := 33) h dX2_init_31 rfl ka_int rfl (Nat.le_of_ble_eq_true rfl) (Nat.le_of_ble_eq_true rfl) rfl (fun M_7 s_7 => ?_)
  have s_7 : jst _ _ _ (aI 10 jz) := s_7
  have hC := hC.snoc s_7
  have ho := ho.st (i := 4) s_7 (by omega)
  refine jk_putF (q := 36) h (fp_X2_21 _) dX2_init_33 rfl fd_X2_4 (hC.at 0 rfl) (Nat.le_of_ble_eq_true rfl) rfl (fun M_8 s_8 => ?_)
  have hC := hC.put (i := 0) s_8 rfl
  have ho := ho.st (i := 0) s_8 (by omega)
  refine jk_aload_n (q := 37) h dX2_init_36 rfl rfl ?_
  refine jk_bipush (q := 39) h dX2_init_37 (by decide) rfl ?_
  refine jk_newa (q := 41) h dX2_init_39 rfl ka_int rfl (Nat.le_of_ble_eq_true rfl) (Nat.le_of_ble_eq_true rfl) rfl (fun M_9 s_9 => ?_)
  have s_9 : jst _ _ _ (aI 10 jz) := s_9
  have hC := hC.snoc s_9
  have ho := ho.st (i := 5) s_9 (by omega)
  refine jk_putF (q := 44) h (fp_X2_24 _) dX2_init_41 rfl fd_X2_5 (hC.at 0 rfl) (Nat.le_of_ble_eq_true rfl) rfl (fun M_10 s_10 => ?_)
  have hC := hC.put (i := 0) s_10 rfl
  have ho := ho.st (i := 0) s_10 (by omega)
  refine jk_aload_n (q := 45) h dX2_init_44 rfl rfl ?_
  refine jk_bipush (q := 47) h dX2_init_45 (by decide) rfl ?_
  refine jk_newa (q := 49) h dX2_init_47 rfl ka_int rfl (Nat.le_of_ble_eq_true rfl) (Nat.le_of_ble_eq_true rfl) rfl (fun M_11 s_11 => ?_)
  have s_11 : jst _ _ _ (aI 10 jz) := s_11
  have hC := hC.snoc s_11
  have ho := ho.st (i := 6) s_11 (by omega)
  refine jk_putF (q := 52) h (fp_X2_27 _) dX2_init_49 rfl fd_X2_6 (hC.at 0 rfl) (Nat.le_of_ble_eq_true rfl) rfl (fun M_12 s_12 => ?_)
  have hC := hC.put (i := 0) s_12 rfl
  have ho := ho.st (i := 0) s_12 (by omega)
  refine jk_aload_n (q := 53) h dX2_init_52 rfl rfl ?_
  refine jk_bipush (q := 55) h dX2_init_53 (by decide) rfl ?_
  refine jk_newa (q := 57) h dX2_init_55 rfl ka_int rfl (Nat.le_of_ble_eq_true rfl) (Nat.le_of_ble_eq_true rfl) rfl (fun M_13 s_13 => ?_)
  have s_13 : jst _ _ _ (aI 10 jz) := s_13
  have hC := hC.snoc s_13
  have ho := ho.st (i := 7) s_13 (by omega)
  refine jk_putF (q := 60) h (fp_X2_30 _) dX2_init_57 rfl fd_X2_7 (hC.at 0 rfl) (Nat.le_of_ble_eq_true rfl) rfl (fun M_14 s_14 => ?_)
  have hC := hC.put (i := 0) s_14 rfl
  have ho := ho.st (i := 0) s_14 (by omega)
  exact jk_vret h hR dX2_init_60 (Nat.le_of_ble_eq_true rfl) (Nat.le_of_ble_eq_true rfl) ⟨rfl, rfl, hC, ho⟩

set_option maxHeartbeats 4000000 in
set_option maxRecDepth 100000 in
theorem c_X2_rowsOfCommon {l : Launch} {D : va_G} {b0 : Nat} {n : Nat} {M : jM} {c : Nat} {had cv cr : Nat → Int} {cn : Int} {lo hi br un : Nat → Int} {bn : Int} (hC : jPic M c (cfL c had cv cr cn lo hi br un bn)) (hO : cfO had cv cr cn lo hi br un bn) {low high : Int} (h1 : 0 ≤ low ∧ low ≤ 99) (h2 : 0 ≤ high ∧ high ≤ 99) : jCtr l D b0 yX2_rowsOfCommon cX2_rowsOfCommon 5 (some .int) 1 0 0 [.ref c, jI low, jI high] n M (jrd n M (cmS cv cr cn low high)) := by
  refine jctr (lv := [some (.ref c), some (jI low), some (jI high), none, none]) RX2 "rowsOfCommon" rfl rfl (by decide) (Nat.le_of_ble_eq_true rfl) rfl ?_
  intro X h hR hX
  obtain ⟨hhad, hcv, hcr, hcn, hlo, hhi, hbr, hun, hbn, hlh⟩ := id hO
  refine jk_iconst (q := 1) h dX2_rowsOfCommon_0 rfl ?_
  refine jk_istore_n (q := 2) h dX2_rowsOfCommon_1 rfl (Nat.le_of_ble_eq_true rfl) rfl rfl ?_
  refine jk_iconst (q := 3) h dX2_rowsOfCommon_2 rfl ?_
  refine jk_istore (q := 5) h dX2_rowsOfCommon_3 rfl (Nat.le_of_ble_eq_true rfl) rfl rfl ?_
  have lp5 : ∀ (k9 : Nat) (r : Int) (i : Int) (hi1 : 0 ≤ i) (hi2 : i ≤ cn) (hr : r = cmS cv cr i low high) (hk9 : (cn - i).toNat = k9), jJ X 5 [some (.ref (c)), some (jI (low)), some (jI (high)), some (jI (r)), some (jI (i))] [] n M 0 0 := by
    intro k9
    induction k9 using Nat.strongRecOn with
    | _ k9 ih5 =>
      intro r i hi1 hi2 hr hk9
      have hcvi := hcv i.toNat
      have hcri := hcr i.toNat
      have hrb := cmS_bd (cv := cv) (low := low) (high := high) hcr ⟨hi1, Int.le_trans hi2 hcn.2⟩
      refine jk_iload (q := 7) h dX2_rowsOfCommon_5 rfl rfl ?_
      refine jk_aload_n (q := 8) h dX2_rowsOfCommon_7 rfl rfl ?_
      refine jk_get (q := 11) h fg_X2_55 dX2_rowsOfCommon_8 (hC.at 0 rfl) rfl rfl ?_
      refine jk_icmp_ge (q := 14) (tgt := 49) h dX2_rowsOfCommon_11 (by decide) rfl ⟨by omega, by omega⟩ ⟨by omega, by omega⟩ (fun c11 => ?_) (fun c11 => ?_)
      · have hi3 : i = cn := by omega
        subst hi3
        refine jk_iload_n (q := 50) h dX2_rowsOfCommon_49 rfl rfl ?_
        exact jk_iret h hR dX2_rowsOfCommon_50 (Nat.le_of_ble_eq_true rfl) (Nat.le_of_ble_eq_true rfl) (jrd_of hr.symm)
      · refine jk_iload_n (q := 15) h dX2_rowsOfCommon_14 rfl rfl ?_
        refine jk_aload_n (q := 16) h dX2_rowsOfCommon_15 rfl rfl ?_
        refine jk_get (q := 19) h fg_X2_15 dX2_rowsOfCommon_16 (hC.at 0 rfl) rfl rfl ?_
        refine jk_iload (q := 21) h dX2_rowsOfCommon_19 rfl rfl ?_
        refine jk_ialdI (q := 22) h dX2_rowsOfCommon_21 (hC.at 2 rfl) (by omega) (by omega) rfl rfl ?_
        refine jk_iload_n (q := 23) h dX2_rowsOfCommon_22 rfl rfl ?_
        refine jk_iload_n (q := 24) h dX2_rowsOfCommon_23 rfl rfl ?_
        refine jk_callSN (q := 27) h hX (c_X9_isBetween ⟨by omega, by omega⟩ ⟨by omega, by omega⟩ ⟨by omega, by omega⟩) ms_X9_isBetween dX2_rowsOfCommon_24 ml_X2_84 ⟨rfl, Nat.le_refl _⟩ rfl rfl (Nat.le_of_ble_eq_true rfl) (Nat.le_of_ble_eq_true rfl) rfl rfl (Nat.le_of_ble_eq_true rfl) rfl (fun v9 n9 M9 hp9 => ?_)
        obtain ⟨rfl, rfl, rfl⟩ := hp9
        refine jk_if_eqB (q := 30) (tgt := 40) h dX2_rowsOfCommon_27 (by decide) rfl (fun c27 => ?_) (fun c27 => ?_)
        · refine jk_iconst (q := 41) h dX2_rowsOfCommon_40 rfl ?_
          refine jk_iadd (q := 42) h dX2_rowsOfCommon_41 rfl ?_
          refine jk_istore_n (q := 43) h dX2_rowsOfCommon_42 rfl (Nat.le_of_ble_eq_true rfl) rfl rfl ?_
          refine jk_iinc (q := 46) h dX2_rowsOfCommon_43 rfl rfl rfl rfl ?_
          refine jk_goto (q := 49) (tgt := 5) h dX2_rowsOfCommon_46 (by decide) ?_
          exact jk_weak (jwk_s rfl (jwk_s rfl (jwk_s rfl (jwk_s rfl (jwk_s rfl jwk_0))))) (ih5 _ (by omega) _ _ (by omega) (by omega) (by first | exact smI_t hi1 hr (if_pos (by omega)) | exact smI_t hi1 hr (if_neg (by omega))) rfl)
        · refine jk_aload_n (q := 31) h dX2_rowsOfCommon_30 rfl rfl ?_
          refine jk_get (q := 34) h fg_X2_18 dX2_rowsOfCommon_31 (hC.at 0 rfl) rfl rfl ?_
          refine jk_iload (q := 36) h dX2_rowsOfCommon_34 rfl rfl ?_
          refine jk_ialdI (q := 37) h dX2_rowsOfCommon_36 (hC.at 3 rfl) (by omega) (by omega) rfl rfl ?_
          refine jk_goto (q := 40) (tgt := 41) h dX2_rowsOfCommon_37 (by decide) ?_
          refine jk_iadd (q := 42) h dX2_rowsOfCommon_41 rfl ?_
          refine jk_istore_n (q := 43) h dX2_rowsOfCommon_42 rfl (Nat.le_of_ble_eq_true rfl) rfl rfl ?_
          refine jk_iinc (q := 46) h dX2_rowsOfCommon_43 rfl rfl rfl rfl ?_
          refine jk_goto (q := 49) (tgt := 5) h dX2_rowsOfCommon_46 (by decide) ?_
          exact jk_weak (jwk_s rfl (jwk_s rfl (jwk_s rfl (jwk_s rfl (jwk_s rfl jwk_0))))) (ih5 _ (by omega) _ _ (by omega) (by omega) (by first | exact smI_t hi1 hr (if_pos (by omega)) | exact smI_t hi1 hr (if_neg (by omega))) rfl)
  exact jk_weak (jwk_s rfl (jwk_s rfl (jwk_s rfl (jwk_s rfl (jwk_s rfl jwk_0))))) (lp5 _ _ _ (by omega) (by omega) rfl rfl)

set_option maxHeartbeats 4000000 in
set_option maxRecDepth 100000 in
theorem c_X2_guess {l : Launch} {D : va_G} {b0 : Nat} {n : Nat} {M : jM} {c : Nat} {had cv cr : Nat → Int} {cn : Int} {lo hi br un : Nat → Int} {bn : Int} (hC : jPic M c (cfL c had cv cr cn lo hi br un bn)) (hO : cfO had cv cr cn lo hi br un bn) {low high : Int} (h1 : 0 ≤ low ∧ low ≤ 99) (h2 : 0 ≤ high ∧ high ≤ 99) : jCtr l D b0 yX2_guess cX2_guess 7 (some .int) 2 0 0 [.ref c, jI low, jI high] n M (jrd n M (gsS cv cr cn lo hi br bn low high)) := by
  refine jctr (lv := [some (.ref c), some (jI low), some (jI high), none, none, none, none]) RX2 "guess" rfl rfl (by decide) (Nat.le_of_ble_eq_true rfl) rfl ?_
  intro X h hR hX
  obtain ⟨hhad, hcv, hcr, hcn, hlo, hhi, hbr, hun, hbn, hlh⟩ := id hO
  refine jk_aload_n (q := 1) h dX2_guess_0 rfl rfl ?_
  refine jk_iload_n (q := 2) h dX2_guess_1 rfl rfl ?_
  refine jk_iload_n (q := 3) h dX2_guess_2 rfl rfl ?_
  refine jk_callV (q := 6) h hX (c_X2_rowsOfCommon hC hO ⟨by omega, by omega⟩ ⟨by omega, by omega⟩) mv_X2_rowsOfCommon (hC.at 0 rfl) dX2_guess_3 ml_X2_88 ⟨rfl, Nat.le_refl _⟩ rfl rfl (Nat.le_of_ble_eq_true rfl) (Nat.le_of_ble_eq_true rfl) rfl rfl (Nat.le_of_ble_eq_true rfl) rfl (fun v9 n9 M9 hp9 => ?_)
  obtain ⟨rfl, rfl, rfl⟩ := hp9
  refine jk_istore_n (q := 7) h dX2_guess_6 rfl (Nat.le_of_ble_eq_true rfl) rfl rfl ?_
  refine jk_iconst (q := 8) h dX2_guess_7 rfl ?_
  refine jk_istore (q := 10) h dX2_guess_8 rfl (Nat.le_of_ble_eq_true rfl) rfl rfl ?_
  have lp10 : ∀ (k9 : Nat) (r : Int) (i : Int) (hi1 : 0 ≤ i) (hi2 : i ≤ bn) (hr : r = cmS cv cr cn low high + smI (gbS lo hi br low high) i) (hk9 : (bn - i).toNat = k9), jJ X 10 [some (.ref (c)), some (jI (low)), some (jI (high)), some (jI (r)), some (jI (i)), none, none] [] n M 0 0 := by
    intro k9
    induction k9 using Nat.strongRecOn with
    | _ k9 ih10 =>
      intro r i hi1 hi2 hr hk9
      have hloi := hlo i.toNat
      have hhii := hhi i.toNat
      have hbri := hbr i.toNat
      refine jk_iload (q := 12) h dX2_guess_10 rfl rfl ?_
      refine jk_aload_n (q := 13) h dX2_guess_12 rfl rfl ?_
      refine jk_get (q := 16) h fg_X2_68 dX2_guess_13 (hC.at 0 rfl) rfl rfl ?_
      refine jk_icmp_ge (q := 19) (tgt := 97) h dX2_guess_16 (by decide) rfl ⟨by omega, by omega⟩ ⟨by omega, by omega⟩ (fun c16 => ?_) (fun c16 => ?_)
      · have hi3 : i = bn := by omega
        subst hi3
        refine jk_iload_n (q := 98) h dX2_guess_97 rfl rfl ?_
        exact jk_iret h hR dX2_guess_98 (Nat.le_of_ble_eq_true rfl) (Nat.le_of_ble_eq_true rfl) (jrd_of hr.symm)
      · have hlhi := hlh i.toNat (by omega)
        refine jk_aload_n (q := 20) h dX2_guess_19 rfl rfl ?_
        refine jk_get (q := 23) h fg_X2_24 dX2_guess_20 (hC.at 0 rfl) rfl rfl ?_
        refine jk_iload (q := 25) h dX2_guess_23 rfl rfl ?_
        refine jk_ialdI (q := 26) h dX2_guess_25 (hC.at 5 rfl) (by omega) (by omega) rfl rfl ?_
        refine jk_aload_n (q := 27) h dX2_guess_26 rfl rfl ?_
        refine jk_get (q := 30) h fg_X2_21 dX2_guess_27 (hC.at 0 rfl) rfl rfl ?_
        refine jk_iload (q := 32) h dX2_guess_30 rfl rfl ?_
        refine jk_ialdI (q := 33) h dX2_guess_32 (hC.at 4 rfl) (by omega) (by omega) rfl rfl ?_
        refine jk_isub (q := 34) h dX2_guess_33 rfl ?_
        refine jk_iconst (q := 35) h dX2_guess_34 rfl ?_
        refine jk_iadd (q := 36) h dX2_guess_35 rfl ?_
        refine jk_name (fun wid hwid => ?_)
        refine jk_istore (q := 38) h dX2_guess_36 rfl (Nat.le_of_ble_eq_true rfl) rfl rfl ?_
        refine jk_aload_n (q := 39) h dX2_guess_38 rfl rfl ?_
        refine jk_get (q := 42) h fg_X2_24 dX2_guess_39 (hC.at 0 rfl) rfl rfl ?_
        refine jk_iload (q := 44) h dX2_guess_42 rfl rfl ?_
        refine jk_ialdI (q := 45) h dX2_guess_44 (hC.at 5 rfl) (by omega) (by omega) rfl rfl ?_
        refine jk_iload_n (q := 46) h dX2_guess_45 rfl rfl ?_
        refine jk_mmin (q := 49) h dX2_guess_46 ml_X2_63 km_min_s km_i km_min_c (Nat.le_of_ble_eq_true rfl) (Nat.le_of_ble_eq_true rfl) (Nat.le_of_ble_eq_true rfl) (Nat.le_of_ble_eq_true rfl) ⟨by omega, by omega⟩ ⟨by omega, by omega⟩ rfl ?_
        refine jk_aload_n (q := 50) h dX2_guess_49 rfl rfl ?_
        refine jk_get (q := 53) h fg_X2_21 dX2_guess_50 (hC.at 0 rfl) rfl rfl ?_
        refine jk_iload (q := 55) h dX2_guess_53 rfl rfl ?_
        refine jk_ialdI (q := 56) h dX2_guess_55 (hC.at 4 rfl) (by omega) (by omega) rfl rfl ?_
        refine jk_iload_n (q := 57) h dX2_guess_56 rfl rfl ?_
        refine jk_mmax (q := 60) h dX2_guess_57 ml_X2_91 km_max_s km_i km_max_c (Nat.le_of_ble_eq_true rfl) (Nat.le_of_ble_eq_true rfl) (Nat.le_of_ble_eq_true rfl) (Nat.le_of_ble_eq_true rfl) ⟨by omega, by omega⟩ ⟨by omega, by omega⟩ rfl ?_
        refine jk_isub (q := 61) h dX2_guess_60 rfl ?_
        refine jk_iconst (q := 62) h dX2_guess_61 rfl ?_
        refine jk_iadd (q := 63) h dX2_guess_62 rfl ?_
        refine jk_name (fun ins hins => ?_)
        have hinb : ins ≤ 100 := by { rw [hins]; split <;> split <;> omega }
        have hinb2 : -200 ≤ ins := by { rw [hins]; split <;> split <;> omega }
        refine jk_istore (q := 65) h dX2_guess_63 rfl (Nat.le_of_ble_eq_true rfl) rfl rfl ?_
        refine jk_iload (q := 67) h dX2_guess_65 rfl rfl ?_
        refine jk_if_le (q := 70) (tgt := 91) h dX2_guess_67 (by decide) rfl ⟨by omega, by omega⟩ (fun c67 => ?_) (fun c67 => ?_)
        · refine jk_iinc (q := 94) h dX2_guess_91 rfl rfl rfl rfl ?_
          refine jk_goto (q := 97) (tgt := 10) h dX2_guess_94 (by decide) ?_
          exact jk_weak (jwk_s rfl (jwk_s rfl (jwk_s rfl (jwk_s rfl (jwk_s rfl (jwk_n (jwk_n jwk_0))))))) (ih10 _ (by omega) _ _ (by omega) (by omega) (by first | exact smI_b hi1 hr (by rw [hins, hwid]; exact if_pos (by rw [hins] at c72; exact Int.not_le.mp c72)) | exact smI_b0 hi1 hr (if_neg (by rw [hins] at c72; exact Int.not_lt.mpr c72)) | (exfalso; omega)) rfl)
        · refine jk_iload (q := 72) h dX2_guess_70 rfl rfl ?_
          refine jk_if_le (q := 75) (tgt := 91) h dX2_guess_72 (by decide) rfl ⟨by omega, by omega⟩ (fun c72 => ?_) (fun c72 => ?_)
          · refine jk_iinc (q := 94) h dX2_guess_91 rfl rfl rfl rfl ?_
            refine jk_goto (q := 97) (tgt := 10) h dX2_guess_94 (by decide) ?_
            exact jk_weak (jwk_s rfl (jwk_s rfl (jwk_s rfl (jwk_s rfl (jwk_s rfl (jwk_n (jwk_n jwk_0))))))) (ih10 _ (by omega) _ _ (by omega) (by omega) (by first | exact smI_b hi1 hr (by rw [hins, hwid]; exact if_pos (by rw [hins] at c72; exact Int.not_le.mp c72)) | exact smI_b0 hi1 hr (if_neg (by rw [hins] at c72; exact Int.not_lt.mpr c72)) | (exfalso; omega)) rfl)
          · refine jk_iload_n (q := 76) h dX2_guess_75 rfl rfl ?_
            refine jk_aload_n (q := 77) h dX2_guess_76 rfl rfl ?_
            refine jk_get (q := 80) h fg_X2_27 dX2_guess_77 (hC.at 0 rfl) rfl rfl ?_
            refine jk_iload (q := 82) h dX2_guess_80 rfl rfl ?_
            refine jk_ialdI (q := 83) h dX2_guess_82 (hC.at 6 rfl) (by omega) (by omega) rfl rfl ?_
            refine jk_iload (q := 85) h dX2_guess_83 rfl rfl ?_
            refine jk_imul (q := 86) h dX2_guess_85 rfl ?_
            refine jk_iload (q := 88) h dX2_guess_86 rfl rfl ?_
            refine jk_idiv (q := 89) h dX2_guess_88 (jmulb (A := 60) (B := 100) hbri.1 hbri.2 (by omega) hinb).1 (by have := (jmulb (A := 60) (B := 100) hbri.1 hbri.2 (y := ins) (by omega) hinb).2; omega) (by omega) (by omega) rfl ?_
            refine jk_iadd (q := 90) h dX2_guess_89 rfl ?_
            refine jk_istore_n (q := 91) h dX2_guess_90 rfl (Nat.le_of_ble_eq_true rfl) rfl rfl ?_
            refine jk_iinc (q := 94) h dX2_guess_91 rfl rfl rfl rfl ?_
            refine jk_goto (q := 97) (tgt := 10) h dX2_guess_94 (by decide) ?_
            exact jk_weak (jwk_s rfl (jwk_s rfl (jwk_s rfl (jwk_s rfl (jwk_s rfl (jwk_n (jwk_n jwk_0))))))) (ih10 _ (by omega) _ _ (by omega) (by omega) (by first | exact smI_b hi1 hr (by rw [hins, hwid]; exact if_pos (by rw [hins] at c72; exact Int.not_le.mp c72)) | exact smI_b0 hi1 hr (if_neg (by rw [hins] at c72; exact Int.not_lt.mpr c72)) | (exfalso; omega)) rfl)
  exact jk_weak (jwk_s rfl (jwk_s rfl (jwk_s rfl (jwk_s rfl (jwk_s rfl (jwk_n (jwk_n jwk_0))))))) (lp10 _ _ _ (by omega) (by omega) (by rw [smI_0]; exact (Int.add_zero _).symm) rfl)

set_option maxHeartbeats 4000000 in
set_option maxRecDepth 100000 in
theorem c_X2_least {l : Launch} {D : va_G} {b0 : Nat} {n : Nat} {M : jM} {c : Nat} {had cv cr : Nat → Int} {cn : Int} {lo hi br un : Nat → Int} {bn : Int} (hC : jPic M c (cfL c had cv cr cn lo hi br un bn)) (hO : cfO had cv cr cn lo hi br un bn) {low high : Int} (h1 : 0 ≤ low ∧ low ≤ 99) (h2 : 0 ≤ high ∧ high ≤ 99) : jCtr l D b0 yX2_least cX2_least 5 (some .int) 2 0 0 [.ref c, jI low, jI high] n M (jrd n M (lsS cv cr cn lo hi br bn low high)) := by
  refine jctr (lv := [some (.ref c), some (jI low), some (jI high), none, none]) RX2 "least" rfl rfl (by decide) (Nat.le_of_ble_eq_true rfl) rfl ?_
  intro X h hR hX
  obtain ⟨hhad, hcv, hcr, hcn, hlo, hhi, hbr, hun, hbn, hlh⟩ := id hO
  refine jk_aload_n (q := 1) h dX2_least_0 rfl rfl ?_
  refine jk_iload_n (q := 2) h dX2_least_1 rfl rfl ?_
  refine jk_iload_n (q := 3) h dX2_least_2 rfl rfl ?_
  refine jk_callV (q := 6) h hX (c_X2_rowsOfCommon hC hO ⟨by omega, by omega⟩ ⟨by omega, by omega⟩) mv_X2_rowsOfCommon (hC.at 0 rfl) dX2_least_3 ml_X2_88 ⟨rfl, Nat.le_refl _⟩ rfl rfl (Nat.le_of_ble_eq_true rfl) (Nat.le_of_ble_eq_true rfl) rfl rfl (Nat.le_of_ble_eq_true rfl) rfl (fun v9 n9 M9 hp9 => ?_)
  obtain ⟨rfl, rfl, rfl⟩ := hp9
  refine jk_istore_n (q := 7) h dX2_least_6 rfl (Nat.le_of_ble_eq_true rfl) rfl rfl ?_
  refine jk_iconst (q := 8) h dX2_least_7 rfl ?_
  refine jk_istore (q := 10) h dX2_least_8 rfl (Nat.le_of_ble_eq_true rfl) rfl rfl ?_
  have lp10 : ∀ (k9 : Nat) (r : Int) (i : Int) (hi1 : 0 ≤ i) (hi2 : i ≤ bn) (hr : r = cmS cv cr cn low high + smI (fun k => if low ≤ lo k ∧ hi k ≤ high then br k else 0) i) (hk9 : (bn - i).toNat = k9), jJ X 10 [some (.ref (c)), some (jI (low)), some (jI (high)), some (jI (r)), some (jI (i))] [] n M 0 0 := by
    intro k9
    induction k9 using Nat.strongRecOn with
    | _ k9 ih10 =>
      intro r i hi1 hi2 hr hk9
      have hloi := hlo i.toNat
      have hhii := hhi i.toNat
      have hbri := hbr i.toNat
      refine jk_iload (q := 12) h dX2_least_10 rfl rfl ?_
      refine jk_aload_n (q := 13) h dX2_least_12 rfl rfl ?_
      refine jk_get (q := 16) h fg_X2_68 dX2_least_13 (hC.at 0 rfl) rfl rfl ?_
      refine jk_icmp_ge (q := 19) (tgt := 61) h dX2_least_16 (by decide) rfl ⟨by omega, by omega⟩ ⟨by omega, by omega⟩ (fun c16 => ?_) (fun c16 => ?_)
      · have hi3 : i = bn := by omega
        subst hi3
        refine jk_iload_n (q := 62) h dX2_least_61 rfl rfl ?_
        exact jk_iret h hR dX2_least_62 (Nat.le_of_ble_eq_true rfl) (Nat.le_of_ble_eq_true rfl) (jrd_of hr.symm)
      · refine jk_iload_n (q := 20) h dX2_least_19 rfl rfl ?_
        refine jk_iload_n (q := 21) h dX2_least_20 rfl rfl ?_
        refine jk_aload_n (q := 22) h dX2_least_21 rfl rfl ?_
        refine jk_get (q := 25) h fg_X2_21 dX2_least_22 (hC.at 0 rfl) rfl rfl ?_
        refine jk_iload (q := 27) h dX2_least_25 rfl rfl ?_
        refine jk_ialdI (q := 28) h dX2_least_27 (hC.at 4 rfl) (by omega) (by omega) rfl rfl ?_
        refine jk_icmp_gt (q := 31) (tgt := 52) h dX2_least_28 (by decide) rfl ⟨by omega, by omega⟩ ⟨by omega, by omega⟩ (fun c28 => ?_) (fun c28 => ?_)
        · refine jk_iconst (q := 53) h dX2_least_52 rfl ?_
          refine jk_iadd (q := 54) h dX2_least_53 rfl ?_
          refine jk_istore_n (q := 55) h dX2_least_54 rfl (Nat.le_of_ble_eq_true rfl) rfl rfl ?_
          refine jk_iinc (q := 58) h dX2_least_55 rfl rfl rfl rfl ?_
          refine jk_goto (q := 61) (tgt := 10) h dX2_least_58 (by decide) ?_
          exact jk_weak (jwk_s rfl (jwk_s rfl (jwk_s rfl (jwk_s rfl (jwk_s rfl jwk_0))))) (ih10 _ (by omega) _ _ (by omega) (by omega) (by first | exact smI_b hi1 hr (if_pos (by omega)) | exact smI_b hi1 hr (if_neg (by omega))) rfl)
        · refine jk_aload_n (q := 32) h dX2_least_31 rfl rfl ?_
          refine jk_get (q := 35) h fg_X2_24 dX2_least_32 (hC.at 0 rfl) rfl rfl ?_
          refine jk_iload (q := 37) h dX2_least_35 rfl rfl ?_
          refine jk_ialdI (q := 38) h dX2_least_37 (hC.at 5 rfl) (by omega) (by omega) rfl rfl ?_
          refine jk_iload_n (q := 39) h dX2_least_38 rfl rfl ?_
          refine jk_icmp_gt (q := 42) (tgt := 52) h dX2_least_39 (by decide) rfl ⟨by omega, by omega⟩ ⟨by omega, by omega⟩ (fun c39 => ?_) (fun c39 => ?_)
          · refine jk_iconst (q := 53) h dX2_least_52 rfl ?_
            refine jk_iadd (q := 54) h dX2_least_53 rfl ?_
            refine jk_istore_n (q := 55) h dX2_least_54 rfl (Nat.le_of_ble_eq_true rfl) rfl rfl ?_
            refine jk_iinc (q := 58) h dX2_least_55 rfl rfl rfl rfl ?_
            refine jk_goto (q := 61) (tgt := 10) h dX2_least_58 (by decide) ?_
            exact jk_weak (jwk_s rfl (jwk_s rfl (jwk_s rfl (jwk_s rfl (jwk_s rfl jwk_0))))) (ih10 _ (by omega) _ _ (by omega) (by omega) (by first | exact smI_b hi1 hr (if_pos (by omega)) | exact smI_b hi1 hr (if_neg (by omega))) rfl)
          · refine jk_aload_n (q := 43) h dX2_least_42 rfl rfl ?_
            refine jk_get (q := 46) h fg_X2_27 dX2_least_43 (hC.at 0 rfl) rfl rfl ?_
            refine jk_iload (q := 48) h dX2_least_46 rfl rfl ?_
            refine jk_ialdI (q := 49) h dX2_least_48 (hC.at 6 rfl) (by omega) (by omega) rfl rfl ?_
            refine jk_goto (q := 52) (tgt := 53) h dX2_least_49 (by decide) ?_
            refine jk_iadd (q := 54) h dX2_least_53 rfl ?_
            refine jk_istore_n (q := 55) h dX2_least_54 rfl (Nat.le_of_ble_eq_true rfl) rfl rfl ?_
            refine jk_iinc (q := 58) h dX2_least_55 rfl rfl rfl rfl ?_
            refine jk_goto (q := 61) (tgt := 10) h dX2_least_58 (by decide) ?_
            exact jk_weak (jwk_s rfl (jwk_s rfl (jwk_s rfl (jwk_s rfl (jwk_s rfl jwk_0))))) (ih10 _ (by omega) _ _ (by omega) (by omega) (by first | exact smI_b hi1 hr (if_pos (by omega)) | exact smI_b hi1 hr (if_neg (by omega))) rfl)
  exact jk_weak (jwk_s rfl (jwk_s rfl (jwk_s rfl (jwk_s rfl (jwk_s rfl jwk_0))))) (lp10 _ _ _ (by omega) (by omega) (by rw [smI_0]; exact (Int.add_zero _).symm) rfl)

set_option maxHeartbeats 4000000 in
set_option maxRecDepth 100000 in
theorem c_X2_most {l : Launch} {D : va_G} {b0 : Nat} {n : Nat} {M : jM} {c : Nat} {had cv cr : Nat → Int} {cn : Int} {lo hi br un : Nat → Int} {bn : Int} (hC : jPic M c (cfL c had cv cr cn lo hi br un bn)) (hO : cfO had cv cr cn lo hi br un bn) {low high : Int} (h1 : 0 ≤ low ∧ low ≤ 99) (h2 : 0 ≤ high ∧ high ≤ 99) : jCtr l D b0 yX2_most cX2_most 5 (some .int) 2 0 0 [.ref c, jI low, jI high] n M (jrd n M (msS cv cr cn lo hi br bn low high)) := by
  refine jctr (lv := [some (.ref c), some (jI low), some (jI high), none, none]) RX2 "most" rfl rfl (by decide) (Nat.le_of_ble_eq_true rfl) rfl ?_
  intro X h hR hX
  obtain ⟨hhad, hcv, hcr, hcn, hlo, hhi, hbr, hun, hbn, hlh⟩ := id hO
  refine jk_aload_n (q := 1) h dX2_most_0 rfl rfl ?_
  refine jk_iload_n (q := 2) h dX2_most_1 rfl rfl ?_
  refine jk_iload_n (q := 3) h dX2_most_2 rfl rfl ?_
  refine jk_callV (q := 6) h hX (c_X2_rowsOfCommon hC hO ⟨by omega, by omega⟩ ⟨by omega, by omega⟩) mv_X2_rowsOfCommon (hC.at 0 rfl) dX2_most_3 ml_X2_88 ⟨rfl, Nat.le_refl _⟩ rfl rfl (Nat.le_of_ble_eq_true rfl) (Nat.le_of_ble_eq_true rfl) rfl rfl (Nat.le_of_ble_eq_true rfl) rfl (fun v9 n9 M9 hp9 => ?_)
  obtain ⟨rfl, rfl, rfl⟩ := hp9
  refine jk_istore_n (q := 7) h dX2_most_6 rfl (Nat.le_of_ble_eq_true rfl) rfl rfl ?_
  refine jk_iconst (q := 8) h dX2_most_7 rfl ?_
  refine jk_istore (q := 10) h dX2_most_8 rfl (Nat.le_of_ble_eq_true rfl) rfl rfl ?_
  have lp10 : ∀ (k9 : Nat) (r : Int) (i : Int) (hi1 : 0 ≤ i) (hi2 : i ≤ bn) (hr : r = cmS cv cr cn low high + smI (fun k => if low ≤ hi k ∧ lo k ≤ high then br k else 0) i) (hk9 : (bn - i).toNat = k9), jJ X 10 [some (.ref (c)), some (jI (low)), some (jI (high)), some (jI (r)), some (jI (i))] [] n M 0 0 := by
    intro k9
    induction k9 using Nat.strongRecOn with
    | _ k9 ih10 =>
      intro r i hi1 hi2 hr hk9
      have hloi := hlo i.toNat
      have hhii := hhi i.toNat
      have hbri := hbr i.toNat
      refine jk_iload (q := 12) h dX2_most_10 rfl rfl ?_
      refine jk_aload_n (q := 13) h dX2_most_12 rfl rfl ?_
      refine jk_get (q := 16) h fg_X2_68 dX2_most_13 (hC.at 0 rfl) rfl rfl ?_
      refine jk_icmp_ge (q := 19) (tgt := 61) h dX2_most_16 (by decide) rfl ⟨by omega, by omega⟩ ⟨by omega, by omega⟩ (fun c16 => ?_) (fun c16 => ?_)
      · have hi3 : i = bn := by omega
        subst hi3
        refine jk_iload_n (q := 62) h dX2_most_61 rfl rfl ?_
        exact jk_iret h hR dX2_most_62 (Nat.le_of_ble_eq_true rfl) (Nat.le_of_ble_eq_true rfl) (jrd_of hr.symm)
      · refine jk_iload_n (q := 20) h dX2_most_19 rfl rfl ?_
        refine jk_iload_n (q := 21) h dX2_most_20 rfl rfl ?_
        refine jk_aload_n (q := 22) h dX2_most_21 rfl rfl ?_
        refine jk_get (q := 25) h fg_X2_24 dX2_most_22 (hC.at 0 rfl) rfl rfl ?_
        refine jk_iload (q := 27) h dX2_most_25 rfl rfl ?_
        refine jk_ialdI (q := 28) h dX2_most_27 (hC.at 5 rfl) (by omega) (by omega) rfl rfl ?_
        refine jk_icmp_gt (q := 31) (tgt := 52) h dX2_most_28 (by decide) rfl ⟨by omega, by omega⟩ ⟨by omega, by omega⟩ (fun c28 => ?_) (fun c28 => ?_)
        · refine jk_iconst (q := 53) h dX2_most_52 rfl ?_
          refine jk_iadd (q := 54) h dX2_most_53 rfl ?_
          refine jk_istore_n (q := 55) h dX2_most_54 rfl (Nat.le_of_ble_eq_true rfl) rfl rfl ?_
          refine jk_iinc (q := 58) h dX2_most_55 rfl rfl rfl rfl ?_
          refine jk_goto (q := 61) (tgt := 10) h dX2_most_58 (by decide) ?_
          exact jk_weak (jwk_s rfl (jwk_s rfl (jwk_s rfl (jwk_s rfl (jwk_s rfl jwk_0))))) (ih10 _ (by omega) _ _ (by omega) (by omega) (by first | exact smI_b hi1 hr (if_pos (by omega)) | exact smI_b hi1 hr (if_neg (by omega))) rfl)
        · refine jk_aload_n (q := 32) h dX2_most_31 rfl rfl ?_
          refine jk_get (q := 35) h fg_X2_21 dX2_most_32 (hC.at 0 rfl) rfl rfl ?_
          refine jk_iload (q := 37) h dX2_most_35 rfl rfl ?_
          refine jk_ialdI (q := 38) h dX2_most_37 (hC.at 4 rfl) (by omega) (by omega) rfl rfl ?_
          refine jk_iload_n (q := 39) h dX2_most_38 rfl rfl ?_
          refine jk_icmp_gt (q := 42) (tgt := 52) h dX2_most_39 (by decide) rfl ⟨by omega, by omega⟩ ⟨by omega, by omega⟩ (fun c39 => ?_) (fun c39 => ?_)
          · refine jk_iconst (q := 53) h dX2_most_52 rfl ?_
            refine jk_iadd (q := 54) h dX2_most_53 rfl ?_
            refine jk_istore_n (q := 55) h dX2_most_54 rfl (Nat.le_of_ble_eq_true rfl) rfl rfl ?_
            refine jk_iinc (q := 58) h dX2_most_55 rfl rfl rfl rfl ?_
            refine jk_goto (q := 61) (tgt := 10) h dX2_most_58 (by decide) ?_
            exact jk_weak (jwk_s rfl (jwk_s rfl (jwk_s rfl (jwk_s rfl (jwk_s rfl jwk_0))))) (ih10 _ (by omega) _ _ (by omega) (by omega) (by first | exact smI_b hi1 hr (if_pos (by omega)) | exact smI_b hi1 hr (if_neg (by omega))) rfl)
          · refine jk_aload_n (q := 43) h dX2_most_42 rfl rfl ?_
            refine jk_get (q := 46) h fg_X2_27 dX2_most_43 (hC.at 0 rfl) rfl rfl ?_
            refine jk_iload (q := 48) h dX2_most_46 rfl rfl ?_
            refine jk_ialdI (q := 49) h dX2_most_48 (hC.at 6 rfl) (by omega) (by omega) rfl rfl ?_
            refine jk_goto (q := 52) (tgt := 53) h dX2_most_49 (by decide) ?_
            refine jk_iadd (q := 54) h dX2_most_53 rfl ?_
            refine jk_istore_n (q := 55) h dX2_most_54 rfl (Nat.le_of_ble_eq_true rfl) rfl rfl ?_
            refine jk_iinc (q := 58) h dX2_most_55 rfl rfl rfl rfl ?_
            refine jk_goto (q := 61) (tgt := 10) h dX2_most_58 (by decide) ?_
            exact jk_weak (jwk_s rfl (jwk_s rfl (jwk_s rfl (jwk_s rfl (jwk_s rfl jwk_0))))) (ih10 _ (by omega) _ _ (by omega) (by omega) (by first | exact smI_b hi1 hr (if_pos (by omega)) | exact smI_b hi1 hr (if_neg (by omega))) rfl)
  exact jk_weak (jwk_s rfl (jwk_s rfl (jwk_s rfl (jwk_s rfl (jwk_s rfl jwk_0))))) (lp10 _ _ _ (by omega) (by omega) (by rw [smI_0]; exact (Int.add_zero _).symm) rfl)

set_option maxHeartbeats 4000000 in
set_option maxRecDepth 100000 in
theorem c_X2_miss {l : Launch} {D : va_G} {b0 : Nat} {n : Nat} {M : jM} {c : Nat} {had cv cr : Nat → Int} {cn : Int} {lo hi br un : Nat → Int} {bn : Int} (hC : jPic M c (cfL c had cv cr cn lo hi br un bn)) (hO : cfO had cv cr cn lo hi br un bn) {v : Int} (hv : 0 ≤ v ∧ v ≤ 99) : jCtr l D b0 yX2_miss cX2_miss 2 (some .int) 3 0 0 [.ref c, jI v] n M (jrd n M (miS had cv cr cn lo hi br bn v)) := by
  refine jctr (lv := [some (.ref c), some (jI v)]) RX2 "miss" rfl rfl (by decide) (Nat.le_of_ble_eq_true rfl) rfl ?_
  intro X h hR hX
  obtain ⟨hhad, hcv, hcr, hcn, hlo, hhi, hbr, hun, hbn, hlh⟩ := id hO
  have hg := gsS_bd (low := v) (high := v) hO
  have hh := hhad v.toNat
  refine jk_iload_n (q := 1) h dX2_miss_0 rfl rfl ?_
  refine jk_callSN (q := 4) h hX (c_X9_isValue ⟨by omega, by omega⟩) ms_X9_isValue dX2_miss_1 ml_X2_94 ⟨rfl, Nat.le_refl _⟩ rfl rfl (Nat.le_of_ble_eq_true rfl) (Nat.le_of_ble_eq_true rfl) rfl rfl (Nat.le_of_ble_eq_true rfl) rfl (fun v9 n9 M9 hp9 => ?_)
  obtain ⟨rfl, rfl, rfl⟩ := hp9
  refine jk_if_eqB (q := 7) (tgt := 26) h dX2_miss_4 (by decide) rfl (fun c4 => ?_) (fun c4 => ?_)
  · omega
  · refine jk_aload_n (q := 8) h dX2_miss_7 rfl rfl ?_
    refine jk_iload_n (q := 9) h dX2_miss_8 rfl rfl ?_
    refine jk_iload_n (q := 10) h dX2_miss_9 rfl rfl ?_
    refine jk_callV (q := 13) h hX (c_X2_guess hC hO ⟨by omega, by omega⟩ ⟨by omega, by omega⟩) mv_X2_guess (hC.at 0 rfl) dX2_miss_10 ml_X2_97 ⟨rfl, Nat.le_refl _⟩ rfl rfl (Nat.le_of_ble_eq_true rfl) (Nat.le_of_ble_eq_true rfl) rfl rfl (Nat.le_of_ble_eq_true rfl) rfl (fun v9 n9 M9 hp9 => ?_)
    obtain ⟨rfl, rfl, rfl⟩ := hp9
    refine jk_aload_n (q := 14) h dX2_miss_13 rfl rfl ?_
    refine jk_get (q := 17) h fg_X2_9 dX2_miss_14 (hC.at 0 rfl) rfl rfl ?_
    refine jk_iload_n (q := 18) h dX2_miss_17 rfl rfl ?_
    refine jk_ialdI (q := 19) h dX2_miss_18 (hC.at 1 rfl) (by omega) (by omega) rfl rfl ?_
    refine jk_isub (q := 20) h dX2_miss_19 rfl ?_
    refine jk_mabs (q := 23) h dX2_miss_20 ml_X2_100 km_abs_s km_i km_abs_c (Nat.le_of_ble_eq_true rfl) (Nat.le_of_ble_eq_true rfl) (Nat.le_of_ble_eq_true rfl) (Nat.le_of_ble_eq_true rfl) ⟨by omega, by omega⟩ rfl ?_
    refine jk_goto (q := 26) (tgt := 27) h dX2_miss_23 (by decide) ?_
    exact jk_iret h hR dX2_miss_27 (Nat.le_of_ble_eq_true rfl) (Nat.le_of_ble_eq_true rfl) (jrd_of rfl)

set_option maxHeartbeats 4000000 in
set_option maxRecDepth 100000 in
theorem c_X2_worstValue {l : Launch} {D : va_G} {b0 : Nat} {n : Nat} {M : jM} {c : Nat} {had cv cr : Nat → Int} {cn : Int} {lo hi br un : Nat → Int} {bn : Int} (hC : jPic M c (cfL c had cv cr cn lo hi br un bn)) (hO : cfO had cv cr cn lo hi br un bn) : jCtr l D b0 yX2_worstValue cX2_worstValue 5 (some .int) 4 0 0 [.ref c] n M (jrd n M (wvI (miS had cv cr cn lo hi br bn) 100)) := by
  refine jctr (lv := [some (.ref c), none, none, none, none]) RX2 "worstValue" rfl rfl (by decide) (Nat.le_of_ble_eq_true rfl) rfl ?_
  intro X h hR hX
  obtain ⟨hhad, hcv, hcr, hcn, hlo, hhi, hbr, hun, hbn, hlh⟩ := id hO
  refine jk_iconst (q := 1) h dX2_worstValue_0 rfl ?_
  refine jk_istore_n (q := 2) h dX2_worstValue_1 rfl (Nat.le_of_ble_eq_true rfl) rfl rfl ?_
  refine jk_aload_n (q := 3) h dX2_worstValue_2 rfl rfl ?_
  refine jk_iconst (q := 4) h dX2_worstValue_3 rfl ?_
  refine jk_callV (q := 7) h hX (c_X2_miss hC hO ⟨by omega, by omega⟩) mv_X2_miss (hC.at 0 rfl) dX2_worstValue_4 ml_X2_103 ⟨rfl, Nat.le_refl _⟩ rfl rfl (Nat.le_of_ble_eq_true rfl) (Nat.le_of_ble_eq_true rfl) rfl rfl (Nat.le_of_ble_eq_true rfl) rfl (fun v9 n9 M9 hp9 => ?_)
  obtain ⟨rfl, rfl, rfl⟩ := hp9
  refine jk_istore_n (q := 8) h dX2_worstValue_7 rfl (Nat.le_of_ble_eq_true rfl) rfl rfl ?_
  refine jk_iconst (q := 9) h dX2_worstValue_8 rfl ?_
  refine jk_istore_n (q := 10) h dX2_worstValue_9 rfl (Nat.le_of_ble_eq_true rfl) rfl rfl ?_
  have lp10 : ∀ (k9 : Nat) (w : Int) (f : Int) (i : Int) (hi1 : 1 ≤ i) (hi2 : i ≤ 100) (hw : w = wvI (miS had cv cr cn lo hi br bn) i) (hf : f = miS had cv cr cn lo hi br bn w) (hw2 : 0 ≤ w ∧ w < i) (hk9 : (100 - i).toNat = k9), jJ X 10 [some (.ref (c)), some (jI (w)), some (jI (f)), some (jI (i)), none] [] n M 0 0 := by
    intro k9
    induction k9 using Nat.strongRecOn with
    | _ k9 ih10 =>
      intro w f i hi1 hi2 hw hf hw2 hk9
      have hb1 := miS_bd (v := i) hO
      have hb2 := miS_bd (v := w) hO
      refine jk_iload_n (q := 11) h dX2_worstValue_10 rfl rfl ?_
      refine jk_bipush (q := 13) h dX2_worstValue_11 (by decide) rfl ?_
      refine jk_icmp_ge (q := 16) (tgt := 40) h dX2_worstValue_13 (by decide) rfl ⟨by omega, by omega⟩ ⟨by omega, by omega⟩ (fun c13 => ?_) (fun c13 => ?_)
      · have hi3 : i = 100 := by omega
        subst hi3
        refine jk_iload_n (q := 41) h dX2_worstValue_40 rfl rfl ?_
        exact jk_iret h hR dX2_worstValue_41 (Nat.le_of_ble_eq_true rfl) (Nat.le_of_ble_eq_true rfl) (jrd_of hw.symm)
      · refine jk_aload_n (q := 17) h dX2_worstValue_16 rfl rfl ?_
        refine jk_iload_n (q := 18) h dX2_worstValue_17 rfl rfl ?_
        refine jk_callV (q := 21) h hX (c_X2_miss hC hO ⟨by omega, by omega⟩) mv_X2_miss (hC.at 0 rfl) dX2_worstValue_18 ml_X2_103 ⟨rfl, Nat.le_refl _⟩ rfl rfl (Nat.le_of_ble_eq_true rfl) (Nat.le_of_ble_eq_true rfl) rfl rfl (Nat.le_of_ble_eq_true rfl) rfl (fun v9 n9 M9 hp9 => ?_)
        obtain ⟨rfl, rfl, rfl⟩ := hp9
        refine jk_istore (q := 23) h dX2_worstValue_21 rfl (Nat.le_of_ble_eq_true rfl) rfl rfl ?_
        refine jk_iload (q := 25) h dX2_worstValue_23 rfl rfl ?_
        refine jk_iload_n (q := 26) h dX2_worstValue_25 rfl rfl ?_
        refine jk_icmp_le (q := 29) (tgt := 34) h dX2_worstValue_26 (by decide) rfl ⟨by omega, by omega⟩ ⟨by omega, by omega⟩ (fun c26 => ?_) (fun c26 => ?_)
        · refine jk_iinc (q := 37) h dX2_worstValue_34 rfl rfl rfl rfl ?_
          refine jk_goto (q := 40) (tgt := 10) h dX2_worstValue_37 (by decide) ?_
          exact jk_weak (jwk_s rfl (jwk_s rfl (jwk_s rfl (jwk_s rfl (jwk_n jwk_0))))) (ih10 _ (by omega) _ _ _ (by omega) (by omega) (by rw [wvI_s (by omega), ← hw, ← hf]; first | exact (if_pos (by omega)).symm | exact (if_neg (by omega)).symm) (by first | exact hf | rfl) (by omega) rfl)
        · refine jk_iload_n (q := 30) h dX2_worstValue_29 rfl rfl ?_
          refine jk_istore_n (q := 31) h dX2_worstValue_30 rfl (Nat.le_of_ble_eq_true rfl) rfl rfl ?_
          refine jk_iload (q := 33) h dX2_worstValue_31 rfl rfl ?_
          refine jk_istore_n (q := 34) h dX2_worstValue_33 rfl (Nat.le_of_ble_eq_true rfl) rfl rfl ?_
          refine jk_iinc (q := 37) h dX2_worstValue_34 rfl rfl rfl rfl ?_
          refine jk_goto (q := 40) (tgt := 10) h dX2_worstValue_37 (by decide) ?_
          exact jk_weak (jwk_s rfl (jwk_s rfl (jwk_s rfl (jwk_s rfl (jwk_n jwk_0))))) (ih10 _ (by omega) _ _ _ (by omega) (by omega) (by rw [wvI_s (by omega), ← hw, ← hf]; first | exact (if_pos (by omega)).symm | exact (if_neg (by omega)).symm) (by first | exact hf | rfl) (by omega) rfl)
  exact jk_weak (jwk_s rfl (jwk_s rfl (jwk_s rfl (jwk_s rfl (jwk_n jwk_0))))) (lp10 _ _ _ _ (by omega) (by omega) (wvI_1 _).symm rfl (by omega) rfl)

set_option maxHeartbeats 4000000 in
set_option maxRecDepth 100000 in
theorem c_X2_tellCommon {l : Launch} {D : va_G} {b0 : Nat} {n : Nat} {M : jM} {c : Nat} {had cv cr : Nat → Int} {cn : Int} {lo hi br un : Nat → Int} {bn : Int} (hC : jPic M c (cfL c had cv cr cn lo hi br un bn)) (hO : cfO had cv cr cn lo hi br un bn) {k q : Int} (hk : jRng k) (hq : jRng q) : jCtr l D b0 yX2_tellCommon cX2_tellCommon 3 (some .int) 0 0 0 [.ref c, jI k, jI q] n M (jrd n M (if 0 ≤ k ∧ k < cn then (if q = 0 then cv k.toNat else cr k.toNat) else -1)) := by
  refine jctr (lv := [some (.ref c), some (jI k), some (jI q)]) RX2 "tellCommon" rfl rfl (by decide) (Nat.le_of_ble_eq_true rfl) rfl ?_
  intro X h hR hX
  obtain ⟨hhad, hcv, hcr, hcn, hlo, hhi, hbr, hun, hbn, hlh⟩ := id hO
  refine jk_iload_n (q := 1) h dX2_tellCommon_0 rfl rfl ?_
  refine jk_if_lt (q := 4) (tgt := 12) h dX2_tellCommon_1 (by decide) rfl ⟨by omega, by omega⟩ (fun c1 => ?_) (fun c1 => ?_)
  · refine jk_iconst (q := 13) h dX2_tellCommon_12 rfl ?_
    exact jk_iret h hR dX2_tellCommon_13 (Nat.le_of_ble_eq_true rfl) (Nat.le_of_ble_eq_true rfl) (jrd_of (by first | (rw [if_neg (by omega)]; done) | (rw [if_pos (by omega), if_pos (by omega)]; done) | (rw [if_pos (by omega), if_neg (by omega)]; done)))
  · refine jk_iload_n (q := 5) h dX2_tellCommon_4 rfl rfl ?_
    refine jk_aload_n (q := 6) h dX2_tellCommon_5 rfl rfl ?_
    refine jk_get (q := 9) h fg_X2_55 dX2_tellCommon_6 (hC.at 0 rfl) rfl rfl ?_
    refine jk_icmp_lt (q := 12) (tgt := 14) h dX2_tellCommon_9 (by decide) rfl ⟨by omega, by omega⟩ ⟨by omega, by omega⟩ (fun c9 => ?_) (fun c9 => ?_)
    · refine jk_iload_n (q := 15) h dX2_tellCommon_14 rfl rfl ?_
      refine jk_if_ne (q := 18) (tgt := 27) h dX2_tellCommon_15 (by decide) rfl ⟨by omega, by omega⟩ (fun c15 => ?_) (fun c15 => ?_)
      · refine jk_aload_n (q := 28) h dX2_tellCommon_27 rfl rfl ?_
        refine jk_get (q := 31) h fg_X2_18 dX2_tellCommon_28 (hC.at 0 rfl) rfl rfl ?_
        refine jk_iload_n (q := 32) h dX2_tellCommon_31 rfl rfl ?_
        refine jk_ialdI (q := 33) h dX2_tellCommon_32 (hC.at 3 rfl) (by omega) (by omega) rfl rfl ?_
        exact jk_iret h hR dX2_tellCommon_33 (Nat.le_of_ble_eq_true rfl) (Nat.le_of_ble_eq_true rfl) (jrd_of (by first | (rw [if_neg (by omega)]; done) | (rw [if_pos (by omega), if_pos (by omega)]; done) | (rw [if_pos (by omega), if_neg (by omega)]; done)))
      · refine jk_aload_n (q := 19) h dX2_tellCommon_18 rfl rfl ?_
        refine jk_get (q := 22) h fg_X2_15 dX2_tellCommon_19 (hC.at 0 rfl) rfl rfl ?_
        refine jk_iload_n (q := 23) h dX2_tellCommon_22 rfl rfl ?_
        refine jk_ialdI (q := 24) h dX2_tellCommon_23 (hC.at 2 rfl) (by omega) (by omega) rfl rfl ?_
        refine jk_goto (q := 27) (tgt := 33) h dX2_tellCommon_24 (by decide) ?_
        exact jk_iret h hR dX2_tellCommon_33 (Nat.le_of_ble_eq_true rfl) (Nat.le_of_ble_eq_true rfl) (jrd_of (by first | (rw [if_neg (by omega)]; done) | (rw [if_pos (by omega), if_pos (by omega)]; done) | (rw [if_pos (by omega), if_neg (by omega)]; done)))
    · refine jk_iconst (q := 13) h dX2_tellCommon_12 rfl ?_
      exact jk_iret h hR dX2_tellCommon_13 (Nat.le_of_ble_eq_true rfl) (Nat.le_of_ble_eq_true rfl) (jrd_of (by first | (rw [if_neg (by omega)]; done) | (rw [if_pos (by omega), if_pos (by omega)]; done) | (rw [if_pos (by omega), if_neg (by omega)]; done)))

set_option maxHeartbeats 4000000 in
set_option maxRecDepth 100000 in
theorem c_X2_tellBucket {l : Launch} {D : va_G} {b0 : Nat} {n : Nat} {M : jM} {c : Nat} {had cv cr : Nat → Int} {cn : Int} {lo hi br un : Nat → Int} {bn : Int} (hC : jPic M c (cfL c had cv cr cn lo hi br un bn)) (hO : cfO had cv cr cn lo hi br un bn) {k q : Int} (hk : jRng k) (hq : jRng q) : jCtr l D b0 yX2_tellBucket cX2_tellBucket 3 (some .int) 0 0 0 [.ref c, jI k, jI q] n M (jrd n M (if 0 ≤ k ∧ k < bn then (if q = 0 then lo k.toNat else if q = 1 then hi k.toNat else if q = 2 then br k.toNat else un k.toNat) else -1)) := by
  refine jctr (lv := [some (.ref c), some (jI k), some (jI q)]) RX2 "tellBucket" rfl rfl (by decide) (Nat.le_of_ble_eq_true rfl) rfl ?_
  intro X h hR hX
  obtain ⟨hhad, hcv, hcr, hcn, hlo, hhi, hbr, hun, hbn, hlh⟩ := id hO
  refine jk_iload_n (q := 1) h dX2_tellBucket_0 rfl rfl ?_
  refine jk_if_lt (q := 4) (tgt := 12) h dX2_tellBucket_1 (by decide) rfl ⟨by omega, by omega⟩ (fun c1 => ?_) (fun c1 => ?_)
  · refine jk_iconst (q := 13) h dX2_tellBucket_12 rfl ?_
    exact jk_iret h hR dX2_tellBucket_13 (Nat.le_of_ble_eq_true rfl) (Nat.le_of_ble_eq_true rfl) (jrd_of (by first | (rw [if_neg (by omega)]; done) | (rw [if_pos (by omega), if_pos (by omega)]; done) | (rw [if_pos (by omega), if_neg (by omega), if_pos (by omega)]; done) | (rw [if_pos (by omega), if_neg (by omega), if_neg (by omega), if_pos (by omega)]; done) | (rw [if_pos (by omega), if_neg (by omega), if_neg (by omega), if_neg (by omega)]; done)))
  · refine jk_iload_n (q := 5) h dX2_tellBucket_4 rfl rfl ?_
    refine jk_aload_n (q := 6) h dX2_tellBucket_5 rfl rfl ?_
    refine jk_get (q := 9) h fg_X2_68 dX2_tellBucket_6 (hC.at 0 rfl) rfl rfl ?_
    refine jk_icmp_lt (q := 12) (tgt := 14) h dX2_tellBucket_9 (by decide) rfl ⟨by omega, by omega⟩ ⟨by omega, by omega⟩ (fun c9 => ?_) (fun c9 => ?_)
    · refine jk_iload_n (q := 15) h dX2_tellBucket_14 rfl rfl ?_
      refine jk_case (0) (fun c15_0 => ?_) (fun c15_0 => ?_)
      · refine jk_tabIn (q := 0) (tgt := 40) h dX2_tellBucket_15 ⟨by omega, by omega⟩ (by omega) (by omega) (by rw [c15_0]; try rfl) (by decide) ?_
        refine jk_aload_n (q := 41) h dX2_tellBucket_40 rfl rfl ?_
        refine jk_get (q := 44) h fg_X2_21 dX2_tellBucket_41 (hC.at 0 rfl) rfl rfl ?_
        refine jk_iload_n (q := 45) h dX2_tellBucket_44 rfl rfl ?_
        refine jk_ialdI (q := 46) h dX2_tellBucket_45 (hC.at 4 rfl) (by omega) (by omega) rfl rfl ?_
        exact jk_iret h hR dX2_tellBucket_46 (Nat.le_of_ble_eq_true rfl) (Nat.le_of_ble_eq_true rfl) (jrd_of (by first | (rw [if_neg (by omega)]; done) | (rw [if_pos (by omega), if_pos (by omega)]; done) | (rw [if_pos (by omega), if_neg (by omega), if_pos (by omega)]; done) | (rw [if_pos (by omega), if_neg (by omega), if_neg (by omega), if_pos (by omega)]; done) | (rw [if_pos (by omega), if_neg (by omega), if_neg (by omega), if_neg (by omega)]; done)))
      refine jk_case (1) (fun c15_1 => ?_) (fun c15_1 => ?_)
      · refine jk_tabIn (q := 0) (tgt := 47) h dX2_tellBucket_15 ⟨by omega, by omega⟩ (by omega) (by omega) (by rw [c15_1]; try rfl) (by decide) ?_
        refine jk_aload_n (q := 48) h dX2_tellBucket_47 rfl rfl ?_
        refine jk_get (q := 51) h fg_X2_24 dX2_tellBucket_48 (hC.at 0 rfl) rfl rfl ?_
        refine jk_iload_n (q := 52) h dX2_tellBucket_51 rfl rfl ?_
        refine jk_ialdI (q := 53) h dX2_tellBucket_52 (hC.at 5 rfl) (by omega) (by omega) rfl rfl ?_
        exact jk_iret h hR dX2_tellBucket_53 (Nat.le_of_ble_eq_true rfl) (Nat.le_of_ble_eq_true rfl) (jrd_of (by first | (rw [if_neg (by omega)]; done) | (rw [if_pos (by omega), if_pos (by omega)]; done) | (rw [if_pos (by omega), if_neg (by omega), if_pos (by omega)]; done) | (rw [if_pos (by omega), if_neg (by omega), if_neg (by omega), if_pos (by omega)]; done) | (rw [if_pos (by omega), if_neg (by omega), if_neg (by omega), if_neg (by omega)]; done)))
      refine jk_case (2) (fun c15_2 => ?_) (fun c15_2 => ?_)
      · refine jk_tabIn (q := 0) (tgt := 54) h dX2_tellBucket_15 ⟨by omega, by omega⟩ (by omega) (by omega) (by rw [c15_2]; try rfl) (by decide) ?_
        refine jk_aload_n (q := 55) h dX2_tellBucket_54 rfl rfl ?_
        refine jk_get (q := 58) h fg_X2_27 dX2_tellBucket_55 (hC.at 0 rfl) rfl rfl ?_
        refine jk_iload_n (q := 59) h dX2_tellBucket_58 rfl rfl ?_
        refine jk_ialdI (q := 60) h dX2_tellBucket_59 (hC.at 6 rfl) (by omega) (by omega) rfl rfl ?_
        exact jk_iret h hR dX2_tellBucket_60 (Nat.le_of_ble_eq_true rfl) (Nat.le_of_ble_eq_true rfl) (jrd_of (by first | (rw [if_neg (by omega)]; done) | (rw [if_pos (by omega), if_pos (by omega)]; done) | (rw [if_pos (by omega), if_neg (by omega), if_pos (by omega)]; done) | (rw [if_pos (by omega), if_neg (by omega), if_neg (by omega), if_pos (by omega)]; done) | (rw [if_pos (by omega), if_neg (by omega), if_neg (by omega), if_neg (by omega)]; done)))
      refine jk_tabOut (q := 0) (tgt := 61) h dX2_tellBucket_15 ⟨by omega, by omega⟩ (by omega) (by decide) ?_
      refine jk_aload_n (q := 62) h dX2_tellBucket_61 rfl rfl ?_
      refine jk_get (q := 65) h fg_X2_30 dX2_tellBucket_62 (hC.at 0 rfl) rfl rfl ?_
      refine jk_iload_n (q := 66) h dX2_tellBucket_65 rfl rfl ?_
      refine jk_ialdI (q := 67) h dX2_tellBucket_66 (hC.at 7 rfl) (by omega) (by omega) rfl rfl ?_
      exact jk_iret h hR dX2_tellBucket_67 (Nat.le_of_ble_eq_true rfl) (Nat.le_of_ble_eq_true rfl) (jrd_of (by first | (rw [if_neg (by omega)]; done) | (rw [if_pos (by omega), if_pos (by omega)]; done) | (rw [if_pos (by omega), if_neg (by omega), if_pos (by omega)]; done) | (rw [if_pos (by omega), if_neg (by omega), if_neg (by omega), if_pos (by omega)]; done) | (rw [if_pos (by omega), if_neg (by omega), if_neg (by omega), if_neg (by omega)]; done)))
    · refine jk_iconst (q := 13) h dX2_tellBucket_12 rfl ?_
      exact jk_iret h hR dX2_tellBucket_13 (Nat.le_of_ble_eq_true rfl) (Nat.le_of_ble_eq_true rfl) (jrd_of (by first | (rw [if_neg (by omega)]; done) | (rw [if_pos (by omega), if_pos (by omega)]; done) | (rw [if_pos (by omega), if_neg (by omega), if_pos (by omega)]; done) | (rw [if_pos (by omega), if_neg (by omega), if_neg (by omega), if_pos (by omega)]; done) | (rw [if_pos (by omega), if_neg (by omega), if_neg (by omega), if_neg (by omega)]; done)))

set_option maxHeartbeats 4000000 in
set_option maxRecDepth 100000 in
theorem c_X2_rowsOfBuckets {l : Launch} {D : va_G} {b0 : Nat} {n : Nat} {M : jM} {c : Nat} {had cv cr : Nat → Int} {cn : Int} {lo hi br un : Nat → Int} {bn : Int} (hC : jPic M c (cfL c had cv cr cn lo hi br un bn)) (hO : cfO had cv cr cn lo hi br un bn) : jCtr l D b0 yX2_rowsOfBuckets cX2_rowsOfBuckets 3 (some .int) 0 0 0 [.ref c] n M (jrd n M (smI br bn)) := by
  refine jctr (lv := [some (.ref c), none, none]) RX2 "rowsOfBuckets" rfl rfl (by decide) (Nat.le_of_ble_eq_true rfl) rfl ?_
  intro X h hR hX
  obtain ⟨hhad, hcv, hcr, hcn, hlo, hhi, hbr, hun, hbn, hlh⟩ := id hO
  refine jk_iconst (q := 1) h dX2_rowsOfBuckets_0 rfl ?_
  refine jk_istore_n (q := 2) h dX2_rowsOfBuckets_1 rfl (Nat.le_of_ble_eq_true rfl) rfl rfl ?_
  refine jk_iconst (q := 3) h dX2_rowsOfBuckets_2 rfl ?_
  refine jk_istore_n (q := 4) h dX2_rowsOfBuckets_3 rfl (Nat.le_of_ble_eq_true rfl) rfl rfl ?_
  have lp4 : ∀ (k9 : Nat) (r : Int) (i : Int) (hi1 : 0 ≤ i) (hi2 : i ≤ bn) (hr : r = smI br i) (hk9 : (bn - i).toNat = k9), jJ X 4 [some (.ref (c)), some (jI (r)), some (jI (i))] [] n M 0 0 := by
    intro k9
    induction k9 using Nat.strongRecOn with
    | _ k9 ih4 =>
      intro r i hi1 hi2 hr hk9
      refine jk_iload_n (q := 5) h dX2_rowsOfBuckets_4 rfl rfl ?_
      refine jk_aload_n (q := 6) h dX2_rowsOfBuckets_5 rfl rfl ?_
      refine jk_get (q := 9) h fg_X2_68 dX2_rowsOfBuckets_6 (hC.at 0 rfl) rfl rfl ?_
      refine jk_icmp_ge (q := 12) (tgt := 27) h dX2_rowsOfBuckets_9 (by decide) rfl ⟨by omega, by omega⟩ ⟨by omega, by omega⟩ (fun c9 => ?_) (fun c9 => ?_)
      · have hi3 : i = bn := by omega
        subst hi3
        refine jk_iload_n (q := 28) h dX2_rowsOfBuckets_27 rfl rfl ?_
        exact jk_iret h hR dX2_rowsOfBuckets_28 (Nat.le_of_ble_eq_true rfl) (Nat.le_of_ble_eq_true rfl) (jrd_of hr.symm)
      · refine jk_iload_n (q := 13) h dX2_rowsOfBuckets_12 rfl rfl ?_
        refine jk_aload_n (q := 14) h dX2_rowsOfBuckets_13 rfl rfl ?_
        refine jk_get (q := 17) h fg_X2_27 dX2_rowsOfBuckets_14 (hC.at 0 rfl) rfl rfl ?_
        refine jk_iload_n (q := 18) h dX2_rowsOfBuckets_17 rfl rfl ?_
        refine jk_ialdI (q := 19) h dX2_rowsOfBuckets_18 (hC.at 6 rfl) (by omega) (by omega) rfl rfl ?_
        refine jk_iadd (q := 20) h dX2_rowsOfBuckets_19 rfl ?_
        refine jk_istore_n (q := 21) h dX2_rowsOfBuckets_20 rfl (Nat.le_of_ble_eq_true rfl) rfl rfl ?_
        refine jk_iinc (q := 24) h dX2_rowsOfBuckets_21 rfl rfl rfl rfl ?_
        refine jk_goto (q := 27) (tgt := 4) h dX2_rowsOfBuckets_24 (by decide) ?_
        exact jk_weak (jwk_s rfl (jwk_s rfl (jwk_s rfl jwk_0))) (ih4 _ (by omega) _ _ (by omega) (by omega) (smI_t hi1 hr rfl) rfl)
  exact jk_weak (jwk_s rfl (jwk_s rfl (jwk_s rfl jwk_0))) (lp4 _ _ _ (by omega) (by omega) rfl rfl)

set_option maxHeartbeats 4000000 in
set_option maxRecDepth 100000 in
theorem c_X2_isCommon {l : Launch} {D : va_G} {b0 : Nat} {n : Nat} {M : jM} {c : Nat} {had cv cr : Nat → Int} {cn : Int} {lo hi br un : Nat → Int} {bn : Int} (hC : jPic M c (cfL c had cv cr cn lo hi br un bn)) (hO : cfO had cv cr cn lo hi br un bn) {v : Int} (hv : 0 ≤ v ∧ v ≤ 99) : jCtr l D b0 yX2_isCommon cX2_isCommon 3 (some .boolean) 0 0 0 [.ref c, jI v] n M (jrd n M (if isC cv cn v = true then 1 else 0)) := by
  refine jctr (lv := [some (.ref c), some (jI v), none]) RX2 "isCommon" rfl rfl (by decide) (Nat.le_of_ble_eq_true rfl) rfl ?_
  intro X h hR hX
  obtain ⟨hhad, hcv, hcr, hcn, hlo, hhi, hbr, hun, hbn, hlh⟩ := id hO
  refine jk_iconst (q := 1) h dX2_isCommon_0 rfl ?_
  refine jk_istore_n (q := 2) h dX2_isCommon_1 rfl (Nat.le_of_ble_eq_true rfl) rfl rfl ?_
  have lp2 : ∀ (k9 : Nat) (i : Int) (hi1 : 0 ≤ i) (hi2 : i ≤ cn) (hn : ∀ k : Nat, (k : Int) < i → ¬ cv k = v) (hk9 : (cn - i).toNat = k9), jJ X 2 [some (.ref (c)), some (jI (v)), some (jI (i))] [] n M 0 0 := by
    intro k9
    induction k9 using Nat.strongRecOn with
    | _ k9 ih2 =>
      intro i hi1 hi2 hn hk9
      have hcvi := hcv i.toNat
      refine jk_iload_n (q := 3) h dX2_isCommon_2 rfl rfl ?_
      refine jk_aload_n (q := 4) h dX2_isCommon_3 rfl rfl ?_
      refine jk_get (q := 7) h fg_X2_55 dX2_isCommon_4 (hC.at 0 rfl) rfl rfl ?_
      refine jk_icmp_ge (q := 10) (tgt := 28) h dX2_isCommon_7 (by decide) rfl ⟨by omega, by omega⟩ ⟨by omega, by omega⟩ (fun c7 => ?_) (fun c7 => ?_)
      · refine jk_iconst (q := 29) h dX2_isCommon_28 rfl ?_
        exact jk_zret h hR dX2_isCommon_29 (Nat.le_of_ble_eq_true rfl) (Nat.le_of_ble_eq_true rfl) (by first | exact Or.inl rfl | exact Or.inr rfl | omega) (jrd_of (if_neg (fun h9 => by
                  obtain ⟨k, h8, h7⟩ := (isC_iff hcn.1).mp h9
                  exact hn k (by omega) h7)))
      · refine jk_aload_n (q := 11) h dX2_isCommon_10 rfl rfl ?_
        refine jk_get (q := 14) h fg_X2_15 dX2_isCommon_11 (hC.at 0 rfl) rfl rfl ?_
        refine jk_iload_n (q := 15) h dX2_isCommon_14 rfl rfl ?_
        refine jk_ialdI (q := 16) h dX2_isCommon_15 (hC.at 2 rfl) (by omega) (by omega) rfl rfl ?_
        refine jk_iload_n (q := 17) h dX2_isCommon_16 rfl rfl ?_
        refine jk_icmp_ne (q := 20) (tgt := 22) h dX2_isCommon_17 (by decide) rfl ⟨by omega, by omega⟩ ⟨by omega, by omega⟩ (fun c17 => ?_) (fun c17 => ?_)
        · refine jk_iinc (q := 25) h dX2_isCommon_22 rfl rfl rfl rfl ?_
          refine jk_goto (q := 28) (tgt := 2) h dX2_isCommon_25 (by decide) ?_
          exact jk_weak (jwk_s rfl (jwk_s rfl (jwk_s rfl jwk_0))) (ih2 _ (by omega) _ (by omega) (by omega) (fun k hk => by
                      by_cases h9 : (k : Int) < i
                      · exact hn k h9
                      · have h8 : k = i.toNat := by omega
                        rw [h8]; exact c17) rfl)
        · refine jk_iconst (q := 21) h dX2_isCommon_20 rfl ?_
          exact jk_zret h hR dX2_isCommon_21 (Nat.le_of_ble_eq_true rfl) (Nat.le_of_ble_eq_true rfl) (by first | exact Or.inl rfl | exact Or.inr rfl | omega) (jrd_of (if_pos ((isC_iff hcn.1).mpr ⟨i.toNat, by omega, by omega⟩)))
  exact jk_weak (jwk_s rfl (jwk_s rfl (jwk_s rfl jwk_0))) (lp2 _ _ (by omega) (by omega) (fun k hk => absurd hk (by omega)) rfl)

set_option maxHeartbeats 4000000 in
set_option maxRecDepth 100000 in
theorem c_X2_copyFrom {l : Launch} {D : va_G} {b0 : Nat} {n : Nat} {M : jM} {c c2 : Nat} {had cv cr : Nat → Int} {cn : Int} {lo hi br un : Nat → Int} {bn : Int} {had2 cv2 cr2 : Nat → Int} {cn2 : Int} {lo2 hi2 br2 un2 : Nat → Int} {bn2 : Int} (hC : jPic M c (cfL c had cv cr cn lo hi br un bn)) (hE : jPic M c2 (cfL c2 had2 cv2 cr2 cn2 lo2 hi2 br2 un2 bn2)) (hd : c + 8 ≤ c2 ∨ c2 + 8 ≤ c) : jCtr l D b0 yX2_copyFrom cX2_copyFrom 2 none 1 0 0 [.ref c, .ref c2] n M (fun v n2 M2 => none = v ∧ n = n2 ∧ jPic M2 c (cfL c had2 cv2 cr2 cn2 lo2 hi2 br2 un2 bn2) ∧ jout M M2 c 8) := by
  refine jctr (lv := [some (.ref c), some (.ref c2)]) RX2 "copyFrom" rfl rfl (by decide) (Nat.le_of_ble_eq_true rfl) rfl ?_
  intro X h hR hX
  have ho := jout.rf M c 8
  refine jk_aload_n (q := 1) h dX2_copyFrom_0 rfl rfl ?_
  refine jk_get (q := 4) h fg_X2_9 dX2_copyFrom_1 (hE.at 0 rfl) rfl rfl ?_
  refine jk_aload_n (q := 5) h dX2_copyFrom_4 rfl rfl ?_
  refine jk_get (q := 8) h fg_X2_9 dX2_copyFrom_5 (hC.at 0 rfl) rfl rfl ?_
  refine jk_callSN (q := 11) h hX (c_X9_copyNumbers rfl (jPic_c (hE.at 1 rfl)) (jPic_c (hC.at 1 rfl)) (by omega)) ms_X9_copyNumbers dX2_copyFrom_8 ml_X2_106 ⟨rfl, Nat.le_refl _⟩ rfl rfl (Nat.le_of_ble_eq_true rfl) (Nat.le_of_ble_eq_true rfl) rfl rfl (Nat.le_of_ble_eq_true rfl) rfl (fun v9 n9 M_1 hp9 => ?_)
  obtain ⟨rfl, rfl, s_1⟩ := hp9
  have hC := hC.put (i := 1) s_1 rfl
  have hE := hE.other s_1 8 rfl (by omega)
  have ho := ho.st (i := 1) s_1 (by omega)
  refine jk_aload_n (q := 12) h dX2_copyFrom_11 rfl rfl ?_
  refine jk_get (q := 15) h fg_X2_15 dX2_copyFrom_12 (hE.at 0 rfl) rfl rfl ?_
  refine jk_aload_n (q := 16) h dX2_copyFrom_15 rfl rfl ?_
  refine jk_get (q := 19) h fg_X2_15 dX2_copyFrom_16 (hC.at 0 rfl) rfl rfl ?_
  refine jk_callSN (q := 22) h hX (c_X9_copyNumbers rfl (jPic_c (hE.at 2 rfl)) (jPic_c (hC.at 2 rfl)) (by omega)) ms_X9_copyNumbers dX2_copyFrom_19 ml_X2_106 ⟨rfl, Nat.le_refl _⟩ rfl rfl (Nat.le_of_ble_eq_true rfl) (Nat.le_of_ble_eq_true rfl) rfl rfl (Nat.le_of_ble_eq_true rfl) rfl (fun v9 n9 M_2 hp9 => ?_)
  obtain ⟨rfl, rfl, s_2⟩ := hp9
  have hC := hC.put (i := 2) s_2 rfl
  have hE := hE.other s_2 8 rfl (by omega)
  have ho := ho.st (i := 2) s_2 (by omega)
  refine jk_aload_n (q := 23) h dX2_copyFrom_22 rfl rfl ?_
  refine jk_get (q := 26) h fg_X2_18 dX2_copyFrom_23 (hE.at 0 rfl) rfl rfl ?_
  refine jk_aload_n (q := 27) h dX2_copyFrom_26 rfl rfl ?_
  refine jk_get (q := 30) h fg_X2_18 dX2_copyFrom_27 (hC.at 0 rfl) rfl rfl ?_
  refine jk_callSN (q := 33) h hX (c_X9_copyNumbers rfl (jPic_c (hE.at 3 rfl)) (jPic_c (hC.at 3 rfl)) (by omega)) ms_X9_copyNumbers dX2_copyFrom_30 ml_X2_106 ⟨rfl, Nat.le_refl _⟩ rfl rfl (Nat.le_of_ble_eq_true rfl) (Nat.le_of_ble_eq_true rfl) rfl rfl (Nat.le_of_ble_eq_true rfl) rfl (fun v9 n9 M_3 hp9 => ?_)
  obtain ⟨rfl, rfl, s_3⟩ := hp9
  have hC := hC.put (i := 3) s_3 rfl
  have hE := hE.other s_3 8 rfl (by omega)
  have ho := ho.st (i := 3) s_3 (by omega)
  refine jk_aload_n (q := 34) h dX2_copyFrom_33 rfl rfl ?_
  refine jk_aload_n (q := 35) h dX2_copyFrom_34 rfl rfl ?_
  refine jk_get (q := 38) h fg_X2_55 dX2_copyFrom_35 (hE.at 0 rfl) rfl rfl ?_
  refine jk_put (q := 41) h (fp_X2_55 _) dX2_copyFrom_38 (hC.at 0 rfl) (Nat.le_of_ble_eq_true rfl) rfl (fun M_4 s_4 => ?_)
  have hC := hC.put (i := 0) s_4 rfl
  have hE := hE.other s_4 8 rfl (by omega)
  have ho := ho.st (i := 0) s_4 (by omega)
  refine jk_aload_n (q := 42) h dX2_copyFrom_41 rfl rfl ?_
  refine jk_get (q := 45) h fg_X2_21 dX2_copyFrom_42 (hE.at 0 rfl) rfl rfl ?_
  refine jk_aload_n (q := 46) h dX2_copyFrom_45 rfl rfl ?_
  refine jk_get (q := 49) h fg_X2_21 dX2_copyFrom_46 (hC.at 0 rfl) rfl rfl ?_
  refine jk_callSN (q := 52) h hX (c_X9_copyNumbers rfl (jPic_c (hE.at 4 rfl)) (jPic_c (hC.at 4 rfl)) (by omega)) ms_X9_copyNumbers dX2_copyFrom_49 ml_X2_106 ⟨rfl, Nat.le_refl _⟩ rfl rfl (Nat.le_of_ble_eq_true rfl) (Nat.le_of_ble_eq_true rfl) rfl rfl (Nat.le_of_ble_eq_true rfl) rfl (fun v9 n9 M_5 hp9 => ?_)
  obtain ⟨rfl, rfl, s_5⟩ := hp9
  have hC := hC.put (i := 4) s_5 rfl
  have hE := hE.other s_5 8 rfl (by omega)
  have ho := ho.st (i := 4) s_5 (by omega)
  refine jk_aload_n (q := 53) h dX2_copyFrom_52 rfl rfl ?_
  refine jk_get (q := 56) h fg_X2_24 dX2_copyFrom_53 (hE.at 0 rfl) rfl rfl ?_
  refine jk_aload_n (q := 57) h dX2_copyFrom_56 rfl rfl ?_
  refine jk_get (q := 60) h fg_X2_24 dX2_copyFrom_57 (hC.at 0 rfl) rfl rfl ?_
  refine jk_callSN (q := 63) h hX (c_X9_copyNumbers rfl (jPic_c (hE.at 5 rfl)) (jPic_c (hC.at 5 rfl)) (by omega)) ms_X9_copyNumbers dX2_copyFrom_60 ml_X2_106 ⟨rfl, Nat.le_refl _⟩ rfl rfl (Nat.le_of_ble_eq_true rfl) (Nat.le_of_ble_eq_true rfl) rfl rfl (Nat.le_of_ble_eq_true rfl) rfl (fun v9 n9 M_6 hp9 => ?_)
  obtain ⟨rfl, rfl, s_6⟩ := hp9
  have hC := hC.put (i := 5) s_6 rfl
  have hE := hE.other s_6 8 rfl (by omega)
  have ho := ho.st (i := 5) s_6 (by omega)
  refine jk_aload_n (q := 64) h dX2_copyFrom_63 rfl rfl ?_
  refine jk_get (q := 67) h fg_X2_27 dX2_copyFrom_64 (hE.at 0 rfl) rfl rfl ?_
  refine jk_aload_n (q := 68) h dX2_copyFrom_67 rfl rfl ?_
  refine jk_get (q := 71) h fg_X2_27 dX2_copyFrom_68 (hC.at 0 rfl) rfl rfl ?_
  refine jk_callSN (q := 74) h hX (c_X9_copyNumbers rfl (jPic_c (hE.at 6 rfl)) (jPic_c (hC.at 6 rfl)) (by omega)) ms_X9_copyNumbers dX2_copyFrom_71 ml_X2_106 ⟨rfl, Nat.le_refl _⟩ rfl rfl (Nat.le_of_ble_eq_true rfl) (Nat.le_of_ble_eq_true rfl) rfl rfl (Nat.le_of_ble_eq_true rfl) rfl (fun v9 n9 M_7 hp9 => ?_)
  obtain ⟨rfl, rfl, s_7⟩ := hp9
  have hC := hC.put (i := 6) s_7 rfl
  have hE := hE.other s_7 8 rfl (by omega)
  have ho := ho.st (i := 6) s_7 (by omega)
  refine jk_aload_n (q := 75) h dX2_copyFrom_74 rfl rfl ?_
  refine jk_get (q := 78) h fg_X2_30 dX2_copyFrom_75 (hE.at 0 rfl) rfl rfl ?_
  refine jk_aload_n (q := 79) h dX2_copyFrom_78 rfl rfl ?_
  refine jk_get (q := 82) h fg_X2_30 dX2_copyFrom_79 (hC.at 0 rfl) rfl rfl ?_
  refine jk_callSN (q := 85) h hX (c_X9_copyNumbers rfl (jPic_c (hE.at 7 rfl)) (jPic_c (hC.at 7 rfl)) (by omega)) ms_X9_copyNumbers dX2_copyFrom_82 ml_X2_106 ⟨rfl, Nat.le_refl _⟩ rfl rfl (Nat.le_of_ble_eq_true rfl) (Nat.le_of_ble_eq_true rfl) rfl rfl (Nat.le_of_ble_eq_true rfl) rfl (fun v9 n9 M_8 hp9 => ?_)
  obtain ⟨rfl, rfl, s_8⟩ := hp9
  have hC := hC.put (i := 7) s_8 rfl
  have hE := hE.other s_8 8 rfl (by omega)
  have ho := ho.st (i := 7) s_8 (by omega)
  refine jk_aload_n (q := 86) h dX2_copyFrom_85 rfl rfl ?_
  refine jk_aload_n (q := 87) h dX2_copyFrom_86 rfl rfl ?_
  refine jk_get (q := 90) h fg_X2_68 dX2_copyFrom_87 (hE.at 0 rfl) rfl rfl ?_
  refine jk_put (q := 93) h (fp_X2_68 _) dX2_copyFrom_90 (hC.at 0 rfl) (Nat.le_of_ble_eq_true rfl) rfl (fun M_9 s_9 => ?_)
  have hC := hC.put (i := 0) s_9 rfl
  have hE := hE.other s_9 8 rfl (by omega)
  have ho := ho.st (i := 0) s_9 (by omega)
  exact jk_vret h hR dX2_copyFrom_93 (Nat.le_of_ble_eq_true rfl) (Nat.le_of_ble_eq_true rfl) ⟨rfl, rfl, hC, ho⟩
