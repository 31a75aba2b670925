/-! longs as texts of eight signs -/
def lu (x : Int64) : Nat := x.toUInt64.toNat
theorem lu_lt (x : Int64) : lu x < 2 ^ 64 := x.toUInt64.toNat_lt
theorem lu_bv (x : Int64) : x.toBitVec.toNat = lu x := rfl
theorem lu_0 {x : Int64} : lu x = 0 ↔ x = 0 := by
  constructor
  · intro h
    have h2 : x.toUInt64 = 0 := UInt64.toNat_inj.mp (by rw [show x.toUInt64.toNat = lu x from rfl, h]; rfl)
    have h3 : x.toUInt64.toInt64 = (0 : UInt64).toInt64 := by rw [h2]
    simpa using h3
  · intro h
    subst h
    rfl
theorem lu_cmp (x : Int64) : ∃ z : Int, lg_cmp x (Int64.ofNat 0) = Int32.ofInt z ∧ jRng z ∧ (z = 0 ↔ lu x = 0) := by
  refine ⟨(lg_cmp x 0).toInt, by rw [Int32.ofInt_toInt]; rfl, jRng_of _, ?_⟩
  rw [lu_0]
  unfold lg_cmp
  by_cases h1 : x > 0
  · rw [if_pos h1]
    constructor
    · intro h; exact absurd h (by decide)
    · intro h; subst h; exact absurd h1 (by decide)
  · rw [if_neg h1]
    by_cases h2 : x = 0
    · rw [if_pos h2]
      exact ⟨fun _ => h2, fun _ => by decide⟩
    · rw [if_neg h2]
      exact ⟨fun h => absurd h (by decide), fun h => absurd h h2⟩
theorem bv_255 (x : BitVec 64) : ((x &&& 255#64).signExtend 32) = BitVec.ofNat 32 (x.toNat % 256) := by
  apply BitVec.eq_of_toNat_eq
  have h1 : (x &&& 255#64).toNat = x.toNat % 256 := by
    rw [BitVec.toNat_and]
    exact Nat.and_two_pow_sub_one_eq_mod x.toNat 8
  rw [BitVec.signExtend_eq_setWidth_of_le _ (by decide), BitVec.toNat_setWidth, h1, BitVec.toNat_ofNat]
theorem lu_and (x : Int64) : (x &&& 255).toInt32 = Int32.ofInt ((lu x % 256 : Nat) : Int) := by
  rw [← Int32.toBitVec_inj, Int64.toBitVec_toInt32, Int64.toBitVec_and, show (255 : Int64).toBitVec = 255#64 by decide, bv_255, lu_bv]
  rfl
theorem lu_shr (x : Int64) : lu ((x.toUInt64 >>> ((Int32.ofInt 8).toInt64.toUInt64 &&& Int64.toUInt64 63)).toInt64) = lu x / 256 := by
  have h : ((Int32.ofInt 8).toInt64.toUInt64 &&& Int64.toUInt64 63) = 8 := by decide
  rw [h]
  show (x.toUInt64 >>> 8).toNat = _
  rw [UInt64.toNat_shiftRight]
  show x.toUInt64.toNat >>> 8 = _
  rw [Nat.shiftRight_eq_div_pow]
  rfl
theorem bv_sar (x : BitVec 64) (k : Nat) (hk : k < 8) : (x.sshiftRight (8 * k) &&& 255#64) = ((x >>> (8 * k)) &&& 255#64) := by
  apply BitVec.eq_of_getLsbD_eq
  intro i hi
  rw [BitVec.getLsbD_and, BitVec.getLsbD_and]
  by_cases h8 : i < 8
  · rw [BitVec.getLsbD_sshiftRight, BitVec.getLsbD_ushiftRight]
    have h1 : 8 * k + i < 64 := by omega
    have h2 : ¬ 64 ≤ i := by omega
    simp [h1, h2]
  · have h255 : (255#64).getLsbD i = false := by
      have : i < 64 := hi
      rw [BitVec.getLsbD_ofNat]
      have h3 : Nat.testBit 255 i = false := Nat.testBit_lt_two_pow (Nat.lt_of_lt_of_le (by decide : 255 < 2 ^ 8) (Nat.pow_le_pow_right (by decide) (by omega)))
      rw [h3, Bool.and_false]
    rw [h255, Bool.and_false, Bool.and_false]
theorem lu_byte (x : Int64) {k : Int} (h0 : 0 ≤ k) (h1 : k < 8) : ((x >>> ((Int32.ofInt (8 * k)).toInt64 &&& 63)) &&& 255).toInt32 = Int32.ofInt ((lu x / 256 ^ k.toNat % 256 : Nat) : Int) := by
  have hs : ((Int32.ofInt (8 * k)).toInt64 &&& 63) = Int64.ofNat (8 * k.toNat) := by
    obtain ⟨j, rfl⟩ : ∃ j : Nat, k = j := ⟨k.toNat, by omega⟩
    match j with
    | 0 => decide
    | 1 => decide
    | 2 => decide
    | 3 => decide
    | 4 => decide
    | 5 => decide
    | 6 => decide
    | 7 => decide
    | j + 8 => omega
  have hm : (Int64.ofNat (8 * k.toNat)).toBitVec.smod 64 = BitVec.ofNat 64 (8 * k.toNat) := by
    obtain ⟨j, rfl⟩ : ∃ j : Nat, k = j := ⟨k.toNat, by omega⟩
    match j with
    | 0 => decide
    | 1 => decide
    | 2 => decide
    | 3 => decide
    | 4 => decide
    | 5 => decide
    | 6 => decide
    | 7 => decide
    | j + 8 => omega
  rw [hs, ← Int32.toBitVec_inj, Int64.toBitVec_toInt32, Int64.toBitVec_and, show (255 : Int64).toBitVec = 255#64 by decide, Int64.toBitVec_shiftRight, hm]
  have h2 : BitVec.sshiftRight' x.toBitVec (BitVec.ofNat 64 (8 * k.toNat)) = x.toBitVec.sshiftRight (8 * k.toNat) := by
    unfold BitVec.sshiftRight'
    rw [BitVec.toNat_ofNat, Nat.mod_eq_of_lt (by omega)]
  rw [h2, bv_sar _ _ (by omega), bv_255, BitVec.toNat_ushiftRight, lu_bv, Nat.shiftRight_eq_div_pow, Nat.pow_mul]
  rfl

def by9 (u k : Nat) : Int := ((u / 256 ^ k % 256 : Nat) : Int)
theorem by9_bd (u k : Nat) : 0 ≤ by9 u k ∧ by9 u k ≤ 255 := by unfold by9; omega
def snG (u n : Nat) : Prop := (∀ k, k < n → 33 ≤ by9 u k ∧ by9 u k ≤ 126) ∧ u < 256 ^ n
theorem snG_u {u n m : Nat} (h : snG u n) (h2 : snG u m) : n = m := by
  have key : ∀ {a b : Nat}, snG u a → snG u b → ¬ a < b := fun {a b} ha hb hab => by
    have h3 := hb.1 a hab
    unfold by9 at h3
    rw [Nat.div_eq_of_lt ha.2] at h3
    omega
  have a := key h h2
  have b := key h2 h
  omega
def snQ (u : Nat) (r : Int) : Prop := (r = 0 ∧ ∀ k, ¬ (1 ≤ k ∧ k ≤ 8 ∧ snG u k)) ∨ (1 ≤ r ∧ r ≤ 8 ∧ snG u r.toNat)
theorem snQ_bad {u : Nat} {i : Int} (h0 : 0 ≤ i) (hr : ¬ u / 256 ^ i.toNat = 0) (hb : ¬ (33 ≤ by9 u i.toNat ∧ by9 u i.toNat ≤ 126)) : snQ u 0 := Or.inl ⟨rfl, fun k hk => by
  by_cases h : i.toNat < k
  · exact hb (hk.2.2.1 _ h)
  · exact hr (Nat.div_eq_of_lt (Nat.lt_of_lt_of_le hk.2.2.2 (Nat.pow_le_pow_right (by decide) (by omega))))⟩
theorem snQ_end {u : Nat} {i : Int} (h0 : 0 ≤ i) (h8 : i ≤ 8) (hr : u / 256 ^ i.toNat = 0) (hg : ∀ k : Nat, (k : Int) < i → 33 ≤ by9 u k ∧ by9 u k ≤ 126) : snQ u i := by
  have hu : u < 256 ^ i.toNat := by
    rcases Nat.div_eq_zero_iff.mp hr with z | z
    · exact absurd z (Nat.pos_iff_ne_zero.mp (Nat.pow_pos (by decide)))
    · exact z
  by_cases hi : i = 0
  · subst hi
    refine Or.inl ⟨rfl, fun k hk => ?_⟩
    have h1 := hk.2.2.1 0 (by omega)
    have hu0 : u = 0 := by simpa using hu
    subst hu0
    exact absurd h1.1 (by decide)
  · exact Or.inr ⟨by omega, h8, fun k hk => hg k (by omega), hu⟩
theorem by9_s (u : Nat) {i : Int} (h : 0 ≤ i) : u / 256 ^ i.toNat / 256 = u / 256 ^ (i + 1).toNat := by
  rw [show (i + 1).toNat = i.toNat + 1 by omega, Nat.pow_succ, Nat.div_div_eq_div_mul]
/-- signs are laid from the end on, as far as i -/
def ap9 (sg : Nat → Int) (u : Nat) (e i : Int) : Nat → Int := fun k => if i < (k : Int) ∧ (k : Int) < e then by9 u (e - 1 - k).toNat else sg k
theorem ap9_0 (sg : Nat → Int) (u : Nat) (e : Int) : ap9 sg u e (e - 1) = sg := by
  funext k
  unfold ap9
  rw [if_neg (by omega)]
theorem ap9_s {sg : Nat → Int} {u : Nat} {e i : Int} (h0 : 0 ≤ i) (h : i < e) : jfup (ap9 sg u e i) i.toNat (by9 u (e - 1 - i).toNat) = ap9 sg u e (i - 1) := by
  funext k
  unfold jfup ap9
  by_cases hk : k = i.toNat
  · rw [if_pos hk, if_pos (by omega), show (k : Int) = i by omega]
  · rw [if_neg hk]
    by_cases h2 : i < (k : Int) ∧ (k : Int) < e
    · rw [if_pos h2, if_pos (by omega)]
    · rw [if_neg h2, if_neg (by omega)]
def apQ (sg : Nat → Int) (len : Int) (u : Nat) (r : Int) (sg2 : Nat → Int) (len2 : Int) : Prop :=
  (r = -2 ∧ (∀ k, ¬ (1 ≤ k ∧ k ≤ 8 ∧ snG u k)) ∧ sg2 = sg ∧ len2 = len) ∨
  ∃ m : Int, 1 ≤ m ∧ m ≤ 8 ∧ snG u m.toNat ∧ ((80 < len + m ∧ r = -4 ∧ sg2 = sg ∧ len2 = len) ∨ (len + m ≤ 80 ∧ r = len + m ∧ len2 = len + m ∧ sg2 = ap9 sg u (len + m) (len - 1)))
theorem ap9_F {sg : Nat → Int} {u : Nat} {len m : Int} (h : jrF sg 0 126) (h0 : 0 ≤ len) (hm : 1 ≤ m) (hg : snG u m.toNat) : jrF (ap9 sg u (len + m) (len - 1)) 0 126 := fun k => by
  have h1 := h k
  unfold ap9
  split
  · have := hg.1 (len + m - 1 - (k : Int)).toNat (by omega)
    omega
  · exact h1

set_option maxHeartbeats 4000000 in
set_option maxRecDepth 100000 in
theorem c_X4_signsIn {l : Launch} {D : va_G} {b0 : Nat} {n : Nat} {M : jM} {u : Int64} : jCtr l D b0 yX4_signsIn cX4_signsIn 7 (some .int) 1 0 0 [.long (u)] n M (fun v n2 M2 => ∃ r : Int, some (jI r) = v ∧ n = n2 ∧ M = M2 ∧ snQ (lu u) r) := by
  refine jctr (lv := [some (.long (u)), none, none, none, none, none, none]) RX4 "signsIn" rfl rfl (by decide) (Nat.le_of_ble_eq_true rfl) rfl ?_
  intro X h hR hX
  refine jk_iconst (q := 1) h dX4_signsIn_0 rfl ?_
  refine jk_istore_n (q := 2) h dX4_signsIn_1 rfl (Nat.le_of_ble_eq_true rfl) rfl rfl ?_
  refine jk_lload_n (q := 3) h dX4_signsIn_2 rfl rfl ?_
  refine jk_lstore_n (q := 4) h dX4_signsIn_3 rfl (Nat.le_of_ble_eq_true rfl) rfl rfl ?_
  refine jk_iconst (q := 5) h dX4_signsIn_4 rfl ?_
  refine jk_istore (q := 7) h dX4_signsIn_5 rfl (Nat.le_of_ble_eq_true rfl) rfl rfl ?_
  have lp7 : ∀ (k9 : Nat) (r : Int64) (i : Int) (hi1 : 0 ≤ i) (hi2 : i ≤ 8) (hr : lu r = lu u / 256 ^ i.toNat) (hg : ∀ k : Nat, (k : Int) < i → 33 ≤ by9 (lu u) k ∧ by9 (lu u) k ≤ 126) (hk9 : (8 - i).toNat = k9), jJ X 7 [some (.long (u)), none, some (jI (i)), some (.long (r)), none, some (jI (i)), none] [] n M 0 0 := by
    intro k9
    induction k9 using Nat.strongRecOn with
    | _ k9 ih7 =>
      intro r i hi1 hi2 hr hg hk9
      refine jk_iload (q := 9) h dX4_signsIn_7 rfl rfl ?_
      refine jk_bipush (q := 11) h dX4_signsIn_9 (by decide) rfl ?_
      refine jk_icmp_ge (q := 14) (tgt := 56) h dX4_signsIn_11 (by decide) rfl ⟨by omega, by omega⟩ ⟨by omega, by omega⟩ (fun c11 => ?_) (fun c11 => ?_)
      · refine jk_iload_n (q := 57) h dX4_signsIn_56 rfl rfl ?_
        exact jk_iret h hR dX4_signsIn_57 (Nat.le_of_ble_eq_true rfl) (Nat.le_of_ble_eq_true rfl) ⟨i, rfl, rfl, rfl, by first | exact snQ_end hi1 hi2 (by rw [← hr]; exact hz0.mp c17) hg | exact snQ_end hi1 hi2 (by have h9 := lu_lt u; rw [show i.toNat = 8 by omega]; exact Nat.div_eq_of_lt h9) hg⟩
      · refine jk_lload_n (q := 15) h dX4_signsIn_14 rfl rfl ?_
        refine jk_lconst (q := 16) h dX4_signsIn_15 rfl ?_
        obtain ⟨zc, hzc, hzr, hz0⟩ := lu_cmp r
        refine jk_lcmp (q := 17) h dX4_signsIn_16 hzc rfl ?_
        refine jk_if_eq (q := 20) (tgt := 56) h dX4_signsIn_17 (by decide) rfl ⟨by omega, by omega⟩ (fun c17 => ?_) (fun c17 => ?_)
        · refine jk_iload_n (q := 57) h dX4_signsIn_56 rfl rfl ?_
          exact jk_iret h hR dX4_signsIn_57 (Nat.le_of_ble_eq_true rfl) (Nat.le_of_ble_eq_true rfl) ⟨i, rfl, rfl, rfl, by first | exact snQ_end hi1 hi2 (by rw [← hr]; exact hz0.mp c17) hg | exact snQ_end hi1 hi2 (by have h9 := lu_lt u; rw [show i.toNat = 8 by omega]; exact Nat.div_eq_of_lt h9) hg⟩
        · refine jk_lload_n (q := 21) h dX4_signsIn_20 rfl rfl ?_
          refine jk_ldc2 (q := 24) h dX4_signsIn_21 kc_X4_23 rfl ?_
          refine jk_land (q := 25) h dX4_signsIn_24 rfl ?_
          have hb9 : by9 (lu u) i.toNat = ((lu r % 256 : Nat) : Int) := by rw [hr]; rfl
          refine jk_l2i (q := 26) h dX4_signsIn_25 (lu_and r) rfl ?_
          refine jk_istore (q := 28) h dX4_signsIn_26 rfl (Nat.le_of_ble_eq_true rfl) rfl rfl ?_
          refine jk_iload (q := 30) h dX4_signsIn_28 rfl rfl ?_
          refine jk_bipush (q := 32) h dX4_signsIn_30 (by decide) rfl ?_
          refine jk_bipush (q := 34) h dX4_signsIn_32 (by decide) rfl ?_
          refine jk_callSN (q := 37) h hX (c_X9_isBetween ⟨by omega, by omega⟩ ⟨by omega, by omega⟩ ⟨by omega, by omega⟩) ms_X9_isBetween dX4_signsIn_34 ml_X4_25 ⟨rfl, Nat.le_refl _⟩ rfl rfl (Nat.le_of_ble_eq_true rfl) (Nat.le_of_ble_eq_true rfl) rfl rfl (Nat.le_of_ble_eq_true rfl) rfl (fun v9 n9 M9 hp9 => ?_)
          obtain ⟨rfl, rfl, rfl⟩ := hp9
          refine jk_if_neB (q := 40) (tgt := 42) h dX4_signsIn_37 (by decide) rfl (fun c37 => ?_) (fun c37 => ?_)
          · refine jk_iinc (q := 45) h dX4_signsIn_42 rfl rfl rfl rfl ?_
            refine jk_lload_n (q := 46) h dX4_signsIn_45 rfl rfl ?_
            refine jk_bipush (q := 48) h dX4_signsIn_46 (by decide) rfl ?_
            refine jk_lushr (q := 49) h dX4_signsIn_48 rfl ?_
            refine jk_lstore_n (q := 50) h dX4_signsIn_49 rfl (Nat.le_of_ble_eq_true rfl) rfl rfl ?_
            refine jk_iinc (q := 53) h dX4_signsIn_50 rfl rfl rfl rfl ?_
            refine jk_goto (q := 56) (tgt := 7) h dX4_signsIn_53 (by decide) ?_
            exact jk_weak (jwk_s rfl (jwk_n (jwk_s rfl (jwk_s rfl (jwk_n (jwk_s rfl (jwk_n jwk_0))))))) (ih7 _ (by omega) _ _ (by omega) (by omega) (by rw [lu_shr, hr]; exact by9_s _ hi1) (fun k hk => by
                        by_cases h9 : (k : Int) < i
                        · exact hg k h9
                        · rw [show k = i.toNat by omega, hb9]; omega) rfl)
          · refine jk_iconst (q := 41) h dX4_signsIn_40 rfl ?_
            exact jk_iret h hR dX4_signsIn_41 (Nat.le_of_ble_eq_true rfl) (Nat.le_of_ble_eq_true rfl) ⟨0, rfl, rfl, rfl, snQ_bad hi1 (by rw [← hr]; exact fun z => c17 (hz0.mpr z)) (by rw [hb9]; omega)⟩
  exact jk_weak (jwk_s rfl (jwk_n (jwk_s rfl (jwk_s rfl (jwk_n (jwk_s rfl (jwk_n jwk_0))))))) (lp7 _ _ _ (by omega) (by omega) (by simp) (fun k hk => absurd hk (by omega)) rfl)

set_option maxHeartbeats 4000000 in
set_option maxRecDepth 100000 in
theorem c_X4_append {l : Launch} {D : va_G} {b0 : Nat} {n : Nat} {M : jM} {p : Nat} {sg : Nat → Int} {len : Int} (hD : jPic M p (pdL p sg len)) (hQ : pdQ sg len) {u : Int64} : jCtr l D b0 yX4_append cX4_append 7 (some .int) 2 0 0 [.ref p, .long (u)] n M (fun v n2 M2 => ∃ (r : Int) (sg2 : Nat → Int) (len2 : Int), some (jI r) = v ∧ n = n2 ∧ jPic M2 p (pdL p sg2 len2) ∧ pdQ sg2 len2 ∧ apQ sg len (lu u) r sg2 len2 ∧ jout M M2 p 2) := by
  refine jctr (lv := [some (.ref p), some (.long (u)), none, none, none, none, none]) RX4 "append" rfl rfl (by decide) (Nat.le_of_ble_eq_true rfl) rfl ?_
  intro X h hR hX
  obtain ⟨hsg, hln⟩ := id hQ
  have ho := jout.rf M p 2
  refine jk_lload_n (q := 1) h dX4_append_0 rfl rfl ?_
  refine jk_callS (q := 4) h hX (c_X4_signsIn) ms_X4_signsIn dX4_append_1 ml_X4_15 ⟨rfl, Nat.le_refl _⟩ rfl rfl (Nat.le_of_ble_eq_true rfl) (Nat.le_of_ble_eq_true rfl) rfl rfl (Nat.le_of_ble_eq_true rfl) rfl (fun v9 n9 M9 hp9 => ?_)
  obtain ⟨m, rfl, rfl, rfl, hsn⟩ := hp9
  have hm1 : 0 ≤ m ∧ m ≤ 8 := by { rcases hsn with z | z <;> omega }
  refine jk_istore_n (q := 5) h dX4_append_4 rfl (Nat.le_of_ble_eq_true rfl) rfl rfl ?_
  refine jk_iload_n (q := 6) h dX4_append_5 rfl rfl ?_
  refine jk_if_ne (q := 9) (tgt := 12) h dX4_append_6 (by decide) rfl ⟨by omega, by omega⟩ (fun c6 => ?_) (fun c6 => ?_)
  · have hsg2 : 1 ≤ m ∧ m ≤ 8 ∧ snG (lu u) m.toNat := by { rcases hsn with z | z; exact absurd z.1 (by omega); exact z }
    refine jk_aload_n (q := 13) h dX4_append_12 rfl rfl ?_
    refine jk_get (q := 16) h fg_X4_19 dX4_append_13 (hD.at 0 rfl) rfl rfl ?_
    refine jk_iload_n (q := 17) h dX4_append_16 rfl rfl ?_
    refine jk_iadd (q := 18) h dX4_append_17 rfl ?_
    refine jk_bipush (q := 20) h dX4_append_18 (by decide) rfl ?_
    refine jk_icmp_le (q := 23) (tgt := 26) h dX4_append_20 (by decide) rfl ⟨by omega, by omega⟩ ⟨by omega, by omega⟩ (fun c20 => ?_) (fun c20 => ?_)
    · refine jk_lload_n (q := 27) h dX4_append_26 rfl rfl ?_
      refine jk_lstore (q := 29) h dX4_append_27 rfl (Nat.le_of_ble_eq_true rfl) rfl rfl ?_
      refine jk_aload_n (q := 30) h dX4_append_29 rfl rfl ?_
      refine jk_get (q := 33) h fg_X4_19 dX4_append_30 (hD.at 0 rfl) rfl rfl ?_
      refine jk_iload_n (q := 34) h dX4_append_33 rfl rfl ?_
      refine jk_iadd (q := 35) h dX4_append_34 rfl ?_
      refine jk_iconst (q := 36) h dX4_append_35 rfl ?_
      refine jk_isub (q := 37) h dX4_append_36 rfl ?_
      refine jk_istore (q := 39) h dX4_append_37 rfl (Nat.le_of_ble_eq_true rfl) rfl rfl ?_
      have lp39 : ∀ (k9 : Nat) (r : Int64) (i : Int) (M9 : jM) (hi1 : len - 1 ≤ i) (hi2 : i ≤ len + m - 1) (hr : lu r = lu u / 256 ^ (len + m - 1 - i).toNat) (hD : jPic M9 p (pdL p (ap9 sg (lu u) (len + m) i) len)) (ho : jout M M9 p 2) (hk9 : (i + 1).toNat = k9), jJ X 39 [some (.ref (p)), some (.long (u)), none, some (jI (m)), some (.long (r)), none, some (jI (i))] [] n M9 0 0 := by
        intro k9
        induction k9 using Nat.strongRecOn with
        | _ k9 ih39 =>
          intro r i M9 hi1 hi2 hr hD ho hk9
          refine jk_iload (q := 41) h dX4_append_39 rfl rfl ?_
          refine jk_aload_n (q := 42) h dX4_append_41 rfl rfl ?_
          refine jk_get (q := 45) h fg_X4_19 dX4_append_42 (hD.at 0 rfl) rfl rfl ?_
          refine jk_icmp_lt (q := 48) (tgt := 81) h dX4_append_45 (by decide) rfl ⟨by omega, by omega⟩ ⟨by omega, by omega⟩ (fun c45 => ?_) (fun c45 => ?_)
          · refine jk_aload_n (q := 82) h dX4_append_81 rfl rfl ?_
            refine jk_dup (q := 83) h dX4_append_82 rfl rfl ?_
            refine jk_get (q := 86) h fg_X4_19 dX4_append_83 (hD.at 0 rfl) rfl rfl ?_
            refine jk_iload_n (q := 87) h dX4_append_86 rfl rfl ?_
            refine jk_iadd (q := 88) h dX4_append_87 rfl ?_
            refine jk_put (q := 91) h (fp_X4_19 _) dX4_append_88 (hD.at 0 rfl) (Nat.le_of_ble_eq_true rfl) rfl (fun M_1 s_1 => ?_)
            have hD := hD.put (i := 0) s_1 rfl
            have ho := ho.st (i := 0) s_1 (by omega)
            refine jk_aload_n (q := 92) h dX4_append_91 rfl rfl ?_
            refine jk_get (q := 95) h fg_X4_19 dX4_append_92 (hD.at 0 rfl) rfl rfl ?_
            exact jk_iret h hR dX4_append_95 (Nat.le_of_ble_eq_true rfl) (Nat.le_of_ble_eq_true rfl) ⟨len + m, ap9 sg (lu u) (len + m) (len - 1), len + m, rfl, rfl, (by rw [show len - 1 = i by omega]; exact hD), ⟨ap9_F hsg hln.1 hsg2.1 hsg2.2.2, by omega, by omega⟩, Or.inr ⟨m, hsg2.1, hsg2.2.1, hsg2.2.2, Or.inr ⟨by omega, rfl, rfl, rfl⟩⟩, ho⟩
          · refine jk_iload (q := 50) h dX4_append_48 rfl rfl ?_
            refine jk_if_lt (q := 53) (tgt := 81) h dX4_append_50 (by decide) rfl ⟨by omega, by omega⟩ (fun c50 => ?_) (fun c50 => ?_)
            · refine jk_aload_n (q := 82) h dX4_append_81 rfl rfl ?_
              refine jk_dup (q := 83) h dX4_append_82 rfl rfl ?_
              refine jk_get (q := 86) h fg_X4_19 dX4_append_83 (hD.at 0 rfl) rfl rfl ?_
              refine jk_iload_n (q := 87) h dX4_append_86 rfl rfl ?_
              refine jk_iadd (q := 88) h dX4_append_87 rfl ?_
              refine jk_put (q := 91) h (fp_X4_19 _) dX4_append_88 (hD.at 0 rfl) (Nat.le_of_ble_eq_true rfl) rfl (fun M_2 s_2 => ?_)
              have hD := hD.put (i := 0) s_2 rfl
              have ho := ho.st (i := 0) s_2 (by omega)
              refine jk_aload_n (q := 92) h dX4_append_91 rfl rfl ?_
              refine jk_get (q := 95) h fg_X4_19 dX4_append_92 (hD.at 0 rfl) rfl rfl ?_
              exact jk_iret h hR dX4_append_95 (Nat.le_of_ble_eq_true rfl) (Nat.le_of_ble_eq_true rfl) ⟨len + m, ap9 sg (lu u) (len + m) (len - 1), len + m, rfl, rfl, (by rw [show len - 1 = i by omega]; exact hD), ⟨ap9_F hsg hln.1 hsg2.1 hsg2.2.2, by omega, by omega⟩, Or.inr ⟨m, hsg2.1, hsg2.2.1, hsg2.2.2, Or.inr ⟨by omega, rfl, rfl, rfl⟩⟩, ho⟩
            · refine jk_aload_n (q := 54) h dX4_append_53 rfl rfl ?_
              refine jk_get (q := 57) h fg_X4_9 dX4_append_54 (hD.at 0 rfl) rfl rfl ?_
              refine jk_iload (q := 59) h dX4_append_57 rfl rfl ?_
              refine jk_lload (q := 61) h dX4_append_59 rfl rfl ?_
              refine jk_ldc2 (q := 64) h dX4_append_61 kc_X4_23 rfl ?_
              refine jk_land (q := 65) h dX4_append_64 rfl ?_
              refine jk_l2i (q := 66) h dX4_append_65 (lu_and r) rfl ?_
              have hb9 : by9 (lu u) (len + m - 1 - i).toNat = ((lu r % 256 : Nat) : Int) := by rw [hr]; rfl
              refine jk_i2c (q := 67) h dX4_append_66 (by omega) (by omega) rfl ?_
              refine jk_cast (q := 68) h dX4_append_67 (hD.at 1 rfl) (by omega) (by omega) rfl (by omega) (by omega) rfl (fun M_3 s_3 => ?_)
              have hD := hD.put (i := 1) s_3 rfl
              have ho := ho.st (i := 1) s_3 (by omega)
              refine jk_lload (q := 70) h dX4_append_68 rfl rfl ?_
              refine jk_bipush (q := 72) h dX4_append_70 (by decide) rfl ?_
              refine jk_lushr (q := 73) h dX4_append_72 rfl ?_
              refine jk_lstore (q := 75) h dX4_append_73 rfl (Nat.le_of_ble_eq_true rfl) rfl rfl ?_
              refine jk_iinc (q := 78) h dX4_append_75 rfl rfl rfl rfl ?_
              refine jk_goto (q := 81) (tgt := 39) h dX4_append_78 (by decide) ?_
              exact jk_weak (jwk_s rfl (jwk_s rfl (jwk_n (jwk_s rfl (jwk_s rfl (jwk_n (jwk_s rfl jwk_0))))))) (ih39 _ (by omega) _ _ _ (by omega) (by omega) (by rw [lu_shr, hr, by9_s _ (by omega), show len + m - 1 - i + 1 = len + m - 1 - (i + -1) by omega]) (by rw [show i + -1 = i - 1 by omega, ← ap9_s (by omega) (by omega)]; rw [← hb9] at hD; exact hD) ho rfl)
      exact jk_weak (jwk_s rfl (jwk_s rfl (jwk_n (jwk_s rfl (jwk_s rfl (jwk_n (jwk_s rfl jwk_0))))))) (lp39 _ _ _ _ (by omega) (by omega) (by simp) (by rw [ap9_0]; exact hD) ho rfl)
    · refine jk_bipush (q := 25) h dX4_append_23 (by decide) rfl ?_
      exact jk_iret h hR dX4_append_25 (Nat.le_of_ble_eq_true rfl) (Nat.le_of_ble_eq_true rfl) ⟨-4, sg, len, rfl, rfl, hD, hQ, Or.inr ⟨m, hsg2.1, hsg2.2.1, hsg2.2.2, Or.inl ⟨by omega, rfl, rfl, rfl⟩⟩, ho⟩
  · refine jk_bipush (q := 11) h dX4_append_9 (by decide) rfl ?_
    exact jk_iret h hR dX4_append_11 (Nat.le_of_ble_eq_true rfl) (Nat.le_of_ble_eq_true rfl) ⟨-2, sg, len, rfl, rfl, hD, hQ, Or.inl ⟨rfl, (by rcases hsn with z | z; exact z.2; exact absurd z.1 (by omega)), rfl, rfl⟩, ho⟩
