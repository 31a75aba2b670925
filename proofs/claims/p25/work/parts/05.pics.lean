theorem jk_case {X : jX} {pc n ce sl : Nat} {lv : List (Option Value)} {st : List Value} {M : jM} {a : Int} (z : Int) (k1 : a = z → jJ X pc lv (jI a :: st) n M ce sl) (k2 : a ≠ z → jJ X pc lv (jI a :: st) n M ce sl) : jJ X pc lv (jI a :: st) n M ce sl := by
  by_cases h : a = z
  · exact k1 h
  · exact k2 h
theorem jl_ne {a k o d : Int} {r : List (Int × Int)} (h : a ≠ k) : Op.lookupswitch.offset ((k, o) :: r) d a = Op.lookupswitch.offset r d a := by
  rw [Op.lookupswitch.offset_cons, if_neg (fun q => h q.symm)]
theorem jl_nil {a d : Int} : Op.lookupswitch.offset [] d a = d := rfl
/-- a row's contents count up to its length -/
theorem jk_ext {X : jX} {pc n ce sl o len : Nat} {lv : List (Option Value)} {st : List Value} {M : jM} {ty : FieldType} {F G : Nat → Value} (hM : M o = some (.inl (ty, len, F))) (he : ∀ k, k < len → F k = G k) (k : ∀ M2, jst M M2 o (.inl (ty, len, G)) → jJ X pc lv st n M2 ce sl) : jJ X pc lv st n M ce sl := by
  obtain ⟨p, l, e, R, s, m, args, below, meth, c, Q, D, b0, nL⟩ := X
  intro H locs ls hH hS hL
  refine k _ (jst_up M o _) H locs ls ⟨hH.1, fun q x hq => ?_⟩ hS hL
  unfold jup at hq
  by_cases hqo : q = o
  · rw [if_pos hqo] at hq
    cases hq
    subst hqo
    obtain ⟨h1, cA, h2, h3, h4⟩ := hH.2 _ _ hM
    refine ⟨h1, cA, h2, h3, ?_⟩
    rw [h4]
    congr 1
    simp only [arrV]
    congr 1
    apply Array.ext
    · simp
    · intro i h5 h6
      simp only [Array.getElem_ofFn]
      exact he i (by simpa using h5)
  · rw [if_neg hqo] at hq
    exact hH.2 _ _ hq
theorem jst.tr {M M2 M3 : jM} {o : Nat} {e e2 : jC} (h : jst M M2 o e) (h2 : jst M2 M3 o e2) : jst M M3 o e2 := ⟨h2.1, fun q hq => (h2.2 q hq).trans (h.2 q hq)⟩
theorem jst.out {M M2 : jM} {o : Nat} {e : jC} (h : jst M M2 o e) : jout M M2 o 1 := fun q hq => h.2 q (by omega)
theorem jst.keep {M M2 : jM} {o b k : Nat} {e : jC} {L : List jC} (h : jst M M2 o e) (hp : jPic M b L) (hk : L.length = k) (hq : o < b ∨ b + k ≤ o) : jPic M2 b L := hp.other h k hk hq
abbrev jz : Nat → Int := fun _ => 0
abbrev aI (len : Nat) (f : Nat → Int) : jC := .inl (.int, len, fun k => jI (f k))
abbrev aC (len : Nat) (f : Nat → Int) : jC := .inl (.char, len, fun k => jI (f k))
abbrev aZ (len : Nat) (f : Nat → Int) : jC := .inl (.boolean, len, fun k => jI (f k))
abbrev aS (len : Nat) (g : Nat → Option Nat) : jC := .inl (.object "EqualHeights$State", len, fun k => va_rf (g k))
abbrev oB (ci : Nat) (fs : List Value) : jC := .inr (ci, fs)
-- the pictures
def tbL (t : Nat) (a b : Nat → Int) (sz : Int) : List jC := [oB 7 [.ref (t + 1), .ref (t + 2), jI sz], aI 60 a, aI 60 b]
def cfL (c : Nat) (had cv cr : Nat → Int) (cn : Int) (lo hi br un : Nat → Int) (bn : Int) : List jC :=
  [oB 1 [.ref (c + 1), .ref (c + 2), .ref (c + 3), jI cn, .ref (c + 4), .ref (c + 5), .ref (c + 6), .ref (c + 7), jI bn], aI 100 had, aI 6 cv, aI 6 cr, aI 10 lo, aI 10 hi, aI 10 br, aI 10 un]
def pfL (c : Nat) (pa pb pr : Nat → Int) (pn : Int) : List jC := [oB 4 [.ref (c + 1), .ref (c + 2), .ref (c + 3), jI pn], aI 6 pa, aI 6 pb, aI 6 pr]
def anL (a : Nat) (rows ch : Int) : List jC := [oB 0 [.ref (a + 1), .ref (a + 9), .ref (a + 17), jI rows, jI ch]]
def stL (b : Nat) (set : Nat → Int) : List jC := [oB 6 [.ref (b + 1), .ref (b + 2), .ref (b + 5)], aI 4 set]
def pdL (p : Nat) (sg : Nat → Int) (len : Int) : List jC := [oB 3 [.ref (p + 1), jI len], aC 80 sg]
def rdL (p : Nat) (at9 kd fi se ti : Int) : List jC := [oB 5 [.ref p, jI at9, jI kd, jI fi, jI se, jI ti]]
def hsL (r : Nat) (g : Nat → Option Nat) (nx hl : Int) : List jC := [oB 2 [.ref (r + 1), jI nx, jI hl], aS 7 g]
-- numbers in a range
abbrev jrF (f : Nat → Int) (lo hi : Int) : Prop := ∀ k : Nat, lo ≤ f k ∧ f k ≤ hi
theorem jrF_up {f : Nat → Int} {lo hi v : Int} {i : Nat} (h : jrF f lo hi) (h1 : lo ≤ v) (h2 : v ≤ hi) : jrF (jfup f i v) lo hi := fun k => by
  unfold jfup
  by_cases hk : k = i
  · rw [if_pos hk]; exact ⟨h1, h2⟩
  · rw [if_neg hk]; exact h k
-- sums
def sm (f : Nat → Int) : Nat → Int
  | 0 => 0
  | n + 1 => sm f n + f n
def smI (f : Nat → Int) (z : Int) : Int := sm f z.toNat
theorem smI_0 (f : Nat → Int) : smI f 0 = 0 := rfl
theorem smI_s {f : Nat → Int} {z : Int} (h : 0 ≤ z) : smI f (z + 1) = smI f z + f z.toNat := by
  unfold smI
  rw [show (z + 1).toNat = z.toNat + 1 by omega]
  rfl
theorem smI_t {f : Nat → Int} {z v r : Int} (h0 : 0 ≤ z) (hr : r = smI f z) (hv : f z.toNat = v) : r + v = smI f (z + 1) := by
  rw [smI_s h0, hr, hv]
theorem smI_t0 {f : Nat → Int} {z r : Int} (h0 : 0 ≤ z) (hr : r = smI f z) (hv : f z.toNat = 0) : r = smI f (z + 1) := by
  rw [smI_s h0, hr, hv, Int.add_zero]
theorem sm_cong {f g : Nat → Int} : ∀ {n : Nat}, (∀ k, k < n → f k = g k) → sm f n = sm g n
  | 0, _ => rfl
  | n + 1, h => by rw [sm, sm, sm_cong (fun k hk => h k (by omega)), h n (by omega)]
theorem sm_bd {f : Nat → Int} {c : Int} : ∀ {n : Nat}, (∀ k, k < n → 0 ≤ f k ∧ f k ≤ c) → 0 ≤ sm f n ∧ sm f n ≤ c * n
  | 0, _ => by simp [sm]
  | n + 1, h => by
    have h1 := sm_bd (n := n) (fun k hk => h k (by omega))
    have h2 := h n (by omega)
    simp only [sm]
    have h3 : c * ((n + 1 : Nat) : Int) = c * n + c := by rw [Int.natCast_add, Int.mul_add]; simp
    omega
theorem smI_bd {f : Nat → Int} {c z : Int} {N : Nat} (hz : 0 ≤ z) (hN : z ≤ N) (hc : 0 ≤ c) (h : ∀ k : Nat, (k : Int) < z → 0 ≤ f k ∧ f k ≤ c) : 0 ≤ smI f z ∧ smI f z ≤ c * N := by
  have h1 := sm_bd (f := f) (c := c) (n := z.toNat) (fun k hk => h k (by omega))
  refine ⟨h1.1, Int.le_trans h1.2 (Int.mul_le_mul_of_nonneg_left (by omega) hc)⟩
