/-! longs as texts of eight signs -/
def lu (x : Int64) : Nat := x.toUInt64.toNat
theorem lu_lt (x : Int64) : lu x < 2 ^ 64 := x.toUInt64.toNat_lt
theorem lu_bv (x : Int64) : x.toBitVec.toNat = lu x := rfl
theorem lu_0 {x : Int64} : lu x = 0 ↔ x = 0 := by
  constructor
  · intro h
    have h2 : x.toUInt64 = 0 := UInt64.toNat_inj.mp (by rw [show x.toUInt64.toNat = lu x from rfl, h]; rfl)
    have h3 : x.toUInt64.toInt64 = (0 : UInt64).toInt64 := by rw [h2]
    simpa using h3
  · intro h
    subst h
    rfl
theorem lu_cmp (x : Int64) : ∃ z : Int, lg_cmp x (Int64.ofNat 0) = Int32.ofInt z ∧ jRng z ∧ (z = 0 ↔ lu x = 0) := by
  refine ⟨(lg_cmp x 0).toInt, by rw [Int32.ofInt_toInt]; rfl, jRng_of _, ?_⟩
  rw [lu_0]
  unfold lg_cmp
  by_cases h1 : x > 0
  · rw [if_pos h1]
    constructor
    · intro h; exact absurd h (by decide)
    · intro h; subst h; exact absurd h1 (by decide)
  · rw [if_neg h1]
    by_cases h2 : x = 0
    · rw [if_pos h2]
      exact ⟨fun _ => h2, fun _ => by decide⟩
    · rw [if_neg h2]
      exact ⟨fun h => absurd h (by decide), fun h => absurd h h2⟩
theorem bv_255 (x : BitVec 64) : ((x &&& 255#64).signExtend 32) = BitVec.ofNat 32 (x.toNat % 256) := by
  apply BitVec.eq_of_toNat_eq
  have h1 : (x &&& 255#64).toNat = x.toNat % 256 := by
    rw [BitVec.toNat_and]
    exact Nat.and_two_pow_sub_one_eq_mod x.toNat 8
  rw [BitVec.signExtend_eq_setWidth_of_le _ (by decide), BitVec.toNat_setWidth, h1, BitVec.toNat_ofNat]
theorem lu_and (x : Int64) : (x &&& 255).toInt32 = Int32.ofInt ((lu x % 256 : Nat) : Int) := by
  rw [← Int32.toBitVec_inj, Int64.toBitVec_toInt32, Int64.toBitVec_and, show (255 : Int64).toBitVec = 255#64 by decide, bv_255, lu_bv]
  rfl
theorem lu_shr (x : Int64) : lu ((x.toUInt64 >>> ((Int32.ofInt 8).toInt64.toUInt64 &&& Int64.toUInt64 63)).toInt64) = lu x / 256 := by
  have h : ((Int32.ofInt 8).toInt64.toUInt64 &&& Int64.toUInt64 63) = 8 := by decide
  rw [h]
  show (x.toUInt64 >>> 8).toNat = _
  rw [UInt64.toNat_shiftRight]
  show x.toUInt64.toNat >>> 8 = _
  rw [Nat.shiftRight_eq_div_pow]
  rfl
theorem bv_sar (x : BitVec 64) (k : Nat) (hk : k < 8) : (x.sshiftRight (8 * k) &&& 255#64) = ((x >>> (8 * k)) &&& 255#64) := by
  apply BitVec.eq_of_getLsbD_eq
  intro i hi
  rw [BitVec.getLsbD_and, BitVec.getLsbD_and]
  by_cases h8 : i < 8
  · rw [BitVec.getLsbD_sshiftRight, BitVec.getLsbD_ushiftRight]
    have h1 : 8 * k + i < 64 := by omega
    have h2 : ¬ 64 ≤ i := by omega
    simp [h1, h2]
  · have h255 : (255#64).getLsbD i = false := by
      have : i < 64 := hi
      rw [BitVec.getLsbD_ofNat]
      have h3 : Nat.testBit 255 i = false := Nat.testBit_lt_two_pow (Nat.lt_of_lt_of_le (by decide : 255 < 2 ^ 8) (Nat.pow_le_pow_right (by decide) (by omega)))
      rw [h3, Bool.and_false]
    rw [h255, Bool.and_false, Bool.and_false]
theorem lu_byte (x : Int64) {k : Int} (h0 : 0 ≤ k) (h1 : k < 8) : ((x >>> ((Int32.ofInt (8 * k)).toInt64 &&& 63)) &&& 255).toInt32 = Int32.ofInt ((lu x / 256 ^ k.toNat % 256 : Nat) : Int) := by
  have hs : ((Int32.ofInt (8 * k)).toInt64 &&& 63) = Int64.ofNat (8 * k.toNat) := by
    obtain ⟨j, rfl⟩ : ∃ j : Nat, k = j := ⟨k.toNat, by omega⟩
    match j with
    | 0 => decide
    | 1 => decide
    | 2 => decide
    | 3 => decide
    | 4 => decide
    | 5 => decide
    | 6 => decide
    | 7 => decide
    | j + 8 => omega
  have hm : (Int64.ofNat (8 * k.toNat)).toBitVec.smod 64 = BitVec.ofNat 64 (8 * k.toNat) := by
    obtain ⟨j, rfl⟩ : ∃ j : Nat, k = j := ⟨k.toNat, by omega⟩
    match j with
    | 0 => decide
    | 1 => decide
    | 2 => decide
    | 3 => decide
    | 4 => decide
    | 5 => decide
    | 6 => decide
    | 7 => decide
    | j + 8 => omega
  rw [hs, ← Int32.toBitVec_inj, Int64.toBitVec_toInt32, Int64.toBitVec_and, show (255 : Int64).toBitVec = 255#64 by decide, Int64.toBitVec_shiftRight, hm]
  have h2 : BitVec.sshiftRight' x.toBitVec (BitVec.ofNat 64 (8 * k.toNat)) = x.toBitVec.sshiftRight (8 * k.toNat) := by
    unfold BitVec.sshiftRight'
    rw [BitVec.toNat_ofNat, Nat.mod_eq_of_lt (by omega)]
  rw [h2, bv_sar _ _ (by omega), bv_255, BitVec.toNat_ushiftRight, lu_bv, Nat.shiftRight_eq_div_pow, Nat.pow_mul]
  rfl

def by9 (u k : Nat) : Int := ((u / 256 ^ k % 256 : Nat) : Int)
theorem by9_bd (u k : Nat) : 0 ≤ by9 u k ∧ by9 u k ≤ 255 := by unfold by9; omega
def snG (u n : Nat) : Prop := (∀ k, k < n → 33 ≤ by9 u k ∧ by9 u k ≤ 126) ∧ u < 256 ^ n
theorem snG_u {u n m : Nat} (h : snG u n) (h2 : snG u m) : n = m := by
  have key : ∀ {a b : Nat}, snG u a → snG u b → ¬ a < b := fun {a b} ha hb hab => by
    have h3 := hb.1 a hab
    unfold by9 at h3
    rw [Nat.div_eq_of_lt ha.2] at h3
    omega
  have a := key h h2
  have b := key h2 h
  omega
def snQ (u : Nat) (r : Int) : Prop := (r = 0 ∧ ∀ k, ¬ (1 ≤ k ∧ k ≤ 8 ∧ snG u k)) ∨ (1 ≤ r ∧ r ≤ 8 ∧ snG u r.toNat)
theorem snQ_bad {u : Nat} {i : Int} (h0 : 0 ≤ i) (hr : ¬ u / 256 ^ i.toNat = 0) (hb : ¬ (33 ≤ by9 u i.toNat ∧ by9 u i.toNat ≤ 126)) : snQ u 0 := Or.inl ⟨rfl, fun k hk => by
  by_cases h : i.toNat < k
  · exact hb (hk.2.2.1 _ h)
  · exact hr (Nat.div_eq_of_lt (Nat.lt_of_lt_of_le hk.2.2.2 (Nat.pow_le_pow_right (by decide) (by omega))))⟩
theorem snQ_end {u : Nat} {i : Int} (h0 : 0 ≤ i) (h8 : i ≤ 8) (hr : u / 256 ^ i.toNat = 0) (hg : ∀ k : Nat, (k : Int) < i → 33 ≤ by9 u k ∧ by9 u k ≤ 126) : snQ u i := by
  have hu : u < 256 ^ i.toNat := by
    rcases Nat.div_eq_zero_iff.mp hr with z | z
    · exact absurd z (Nat.pos_iff_ne_zero.mp (Nat.pow_pos (by decide)))
    · exact z
  by_cases hi : i = 0
  · subst hi
    refine Or.inl ⟨rfl, fun k hk => ?_⟩
    have h1 := hk.2.2.1 0 (by omega)
    have hu0 : u = 0 := by simpa using hu
    subst hu0
    exact absurd h1.1 (by decide)
  · exact Or.inr ⟨by omega, h8, fun k hk => hg k (by omega), hu⟩
theorem by9_s (u : Nat) {i : Int} (h : 0 ≤ i) : u / 256 ^ i.toNat / 256 = u / 256 ^ (i + 1).toNat := by
  rw [show (i + 1).toNat = i.toNat + 1 by omega, Nat.pow_succ, Nat.div_div_eq_div_mul]
/-- signs are laid from the end on, as far as i -/
def ap9 (sg : Nat → Int) (u : Nat) (e i : Int) : Nat → Int := fun k => if i < (k : Int) ∧ (k : Int) < e then by9 u (e - 1 - k).toNat else sg k
theorem ap9_0 (sg : Nat → Int) (u : Nat) (e : Int) : ap9 sg u e (e - 1) = sg := by
  funext k
  unfold ap9
  rw [if_neg (by omega)]
theorem ap9_s {sg : Nat → Int} {u : Nat} {e i : Int} (h0 : 0 ≤ i) (h : i < e) : jfup (ap9 sg u e i) i.toNat (by9 u (e - 1 - i).toNat) = ap9 sg u e (i - 1) := by
  funext k
  unfold jfup ap9
  by_cases hk : k = i.toNat
  · rw [if_pos hk, if_pos (by omega), show (k : Int) = i by omega]
  · rw [if_neg hk]
    by_cases h2 : i < (k : Int) ∧ (k : Int) < e
    · rw [if_pos h2, if_pos (by omega)]
    · rw [if_neg h2, if_neg (by omega)]
def apQ (sg : Nat → Int) (len : Int) (u : Nat) (r : Int) (sg2 : Nat → Int) (len2 : Int) : Prop :=
  (r = -2 ∧ (∀ k, ¬ (1 ≤ k ∧ k ≤ 8 ∧ snG u k)) ∧ sg2 = sg ∧ len2 = len) ∨
  ∃ m : Int, 1 ≤ m ∧ m ≤ 8 ∧ snG u m.toNat ∧ ((80 < len + m ∧ r = -4 ∧ sg2 = sg ∧ len2 = len) ∨ (len + m ≤ 80 ∧ r = len + m ∧ len2 = len + m ∧ sg2 = ap9 sg u (len + m) (len - 1)))
theorem ap9_F {sg : Nat → Int} {u : Nat} {len m : Int} (h : jrF sg 0 126) (h0 : 0 ≤ len) (hm : 1 ≤ m) (hg : snG u m.toNat) : jrF (ap9 sg u (len + m) (len - 1)) 0 126 := fun k => by
  have h1 := h k
  unfold ap9
  split
  · have := hg.1 (len + m - 1 - (k : Int)).toNat (by omega)
    omega
  · exact h1
