/-! A WALK'S JUDGEMENT jJ: the machine stands at pc with locals lv, stack st, the memory M (by real addresses; the next one is n); everything that a walk of one method keeps stands in X -/
def wsL_law : List Cond := lw_tbl.filter goodWord
def jisN : Cond → Bool
  | .fieldLinkNest .. => true
  | .methodLinkNest .. => true
  | _ => false
def jNest : List Cond := tables_1.filter jisN
theorem kwm {w : Cond} (i : Nat) (h : tables_1[i]? = some w) (hg : goodWord w = true) : w ∈ wsL_law :=
  List.mem_filter.mpr ⟨List.mem_append_right _ (List.mem_of_getElem? h), hg⟩
theorem kws {w : Cond} (i : Nat) (h : (k2_sels lw_privs)[i]? = some w) (hg : goodWord w = true) : w ∈ wsL_law :=
  List.mem_filter.mpr ⟨List.mem_append_left _ (List.mem_of_getElem? h), hg⟩
theorem kwn {w : Cond} (i : Nat) (h : tables_1[i]? = some w) (hg : jisN w = true) : w ∈ jNest :=
  List.mem_filter.mpr ⟨List.mem_of_getElem? h, hg⟩
theorem jtG : GoodIn wsL_law wsL_law := fun _ h => ⟨h, good_of_word (List.mem_filter.mp h).2⟩
theorem jtGc {w : Cond} (hw : w ∈ wsL_law) : GoodIn wsL_law (w :: wsL_law) := fun v h => by
  rcases List.mem_cons.mp h with rfl | h
  · exact jtG _ hw
  · exact jtG _ h
-- numbers
def jI (z : Int) : Value := .int (Int32.ofInt z)
abbrev jRng (z : Int) : Prop := -2147483648 ≤ z ∧ z ≤ 2147483647
theorem jI_toInt {z : Int} (h : jRng z) : (Int32.ofInt z).toInt = z := Int32.toInt_ofInt_of_le (by have := h.1; omega) (by have := h.2; omega)
theorem jI_of (x : Int32) : Value.int x = jI x.toInt := by rw [jI, Int32.ofInt_toInt]
theorem jRng_of (x : Int32) : jRng x.toInt := ⟨Int32.le_toInt x, by have := Int32.toInt_lt x; omega⟩
theorem jI_inj {a b : Int} (ha : jRng a) (hb : jRng b) (h : jI a = jI b) : a = b := by
  have h1 : Int32.ofInt a = Int32.ofInt b := Value.int.inj h
  rw [← jI_toInt ha, ← jI_toInt hb, h1]
theorem jI_eq {a b : Int} (ha : jRng a) (hb : jRng b) : Int32.ofInt a = Int32.ofInt b ↔ a = b := ⟨fun h => by rw [← jI_toInt ha, ← jI_toInt hb, h], fun h => by rw [h]⟩
theorem jI_ne {a b : Int} (ha : jRng a) (hb : jRng b) : Int32.ofInt a ≠ Int32.ofInt b ↔ a ≠ b := not_congr (jI_eq ha hb)
theorem jI_lt {a b : Int} (ha : jRng a) (hb : jRng b) : Int32.ofInt a < Int32.ofInt b ↔ a < b := by rw [Int32.lt_iff_toInt_lt, jI_toInt ha, jI_toInt hb]
theorem jI_le {a b : Int} (ha : jRng a) (hb : jRng b) : Int32.ofInt a ≤ Int32.ofInt b ↔ a ≤ b := by rw [Int32.le_iff_toInt_le, jI_toInt ha, jI_toInt hb]
theorem jI_gt {a b : Int} (ha : jRng a) (hb : jRng b) : Int32.ofInt a > Int32.ofInt b ↔ a > b := jI_lt hb ha
theorem jI_ge {a b : Int} (ha : jRng a) (hb : jRng b) : Int32.ofInt a ≥ Int32.ofInt b ↔ a ≥ b := jI_le hb ha
theorem jR0 : jRng 0 := ⟨by decide, by decide⟩
theorem jI_eqq {a : Int} (ha : jRng a) : Int32.ofInt a = 0 ↔ a = 0 := jI_eq ha jR0
theorem jI_ne0 {b : Int} (h1 : 0 < b) (h2 : b ≤ 2147483647) : ¬ Int32.ofInt b = 0 := fun h => by
  have := (jI_eqq ⟨by omega, h2⟩).mp h
  omega
theorem jI_neq {a : Int} (ha : jRng a) : (¬ Int32.ofInt a = 0) ↔ a ≠ 0 := not_congr (jI_eqq ha)
theorem jI_ltq {a : Int} (ha : jRng a) : Int32.ofInt a < 0 ↔ a < 0 := jI_lt ha jR0
theorem jI_leq {a : Int} (ha : jRng a) : Int32.ofInt a ≤ 0 ↔ a ≤ 0 := jI_le ha jR0
theorem jI_gtq {a : Int} (ha : jRng a) : Int32.ofInt a > 0 ↔ a > 0 := jI_gt ha jR0
theorem jI_geq {a : Int} (ha : jRng a) : Int32.ofInt a ≥ 0 ↔ a ≥ 0 := jI_ge ha jR0
theorem jnI {a : Int} (h : 0 ≤ a) : Int32.ofInt a = nI a.toNat := by
  have h2 : (a.toNat : Int) = a := Int.toNat_of_nonneg h
  rw [nI, ← h2, Int.toNat_natCast]
  rfl
theorem jI_div {a b : Int} (ha : 0 ≤ a) (ha2 : a ≤ 2147483647) (hb : 0 < b) (hb2 : b ≤ 2147483647) : Int32.ofInt a / Int32.ofInt b = Int32.ofInt (a / b) := by
  have hd : 0 ≤ a / b := Int.ediv_nonneg ha (by omega)
  rw [jnI ha, jnI (by omega : 0 ≤ b), jnI hd, pk_div (by omega) (by omega) (by omega)]
  congr 1
  rw [← Int.natCast_inj, Int.natCast_ediv, Int.toNat_of_nonneg ha, Int.toNat_of_nonneg (by omega), Int.toNat_of_nonneg hd]
theorem jI_rem {a b : Int} (ha : 0 ≤ a) (ha2 : a ≤ 2147483647) (hb : 0 < b) (hb2 : b ≤ 2147483647) : Int32.ofInt a - Int32.ofInt a / Int32.ofInt b * Int32.ofInt b = Int32.ofInt (a % b) := by
  rw [jI_div ha ha2 hb hb2, ← Int32.ofInt_mul, ← Int32.ofInt_sub]
  congr 1
  have := Int.mul_ediv_add_emod a b
  have h2 : b * (a / b) = a / b * b := Int.mul_comm _ _
  omega
theorem jI_ix {i : Int} {len : Nat} (h0 : 0 ≤ i) (h1 : i < len) (hlen : Nat.ble len 2147483647 = true) : ¬ (Int32.ofInt i < 0 ∨ len ≤ (Int32.ofInt i).toNatClampNeg) ∧ (Int32.ofInt i).toNatClampNeg = i.toNat := by
  have hl := Nat.le_of_ble_eq_true hlen
  have e : (Int32.ofInt i).toNatClampNeg = i.toNat := by
    rw [jnI h0, nI_clamp (by omega)]
  refine ⟨fun h => ?_, e⟩
  rcases h with h | h
  · have := (jI_ltq ⟨by omega, by omega⟩).mp h
    omega
  · rw [e] at h
    omega
theorem jI_len (len : Nat) : len.toInt32 = Int32.ofInt len := rfl
theorem jI_i2c {x : Int} (h0 : 0 ≤ x) (h1 : x < 65536) : ((Int32.ofInt x).toUInt32 % 65536).toInt32 = Int32.ofInt x := by
  rw [jnI h0]
  have h := (pk_charN (q := x.toNat) (by omega)).1
  exact Value.int.inj h
theorem jI_narC {v : Int} (h0 : 0 ≤ v) (h1 : v < 65536) : narrow .char (.int (Int32.ofInt v)) = .int (Int32.ofInt v) := by
  rw [jnI h0]
  exact (pk_charN (q := v.toNat) (by omega)).1
theorem jI_fitC {v : Int} (h0 : 0 ≤ v) (h1 : v < 65536) : fits .char (.int (Int32.ofInt v)) = true := by
  rw [jnI h0]
  exact (pk_charN (q := v.toNat) (by omega)).2
theorem jI_narZ {v : Int} (h : v = 0 ∨ v = 1) : narrow .boolean (.int (Int32.ofInt v)) = .int (Int32.ofInt v) := by
  rcases h with rfl | rfl <;> decide
theorem jI_N0 {N : Nat} (h : N ≤ 100000) : ¬ Int32.ofInt (N : Int) < 0 := fun z => by
  have := (jI_ltq (a := (N : Int)) ⟨by omega, by omega⟩).mp z
  omega
theorem jI_N1 {N : Nat} (h : N ≤ 100000) : (Int32.ofInt (N : Int)).toNatClampNeg = N := by
  rw [jnI (by omega), nI_clamp (by omega)]
  omega
theorem jI_max {a b : Int} (ha : jRng a) (hb : jRng b) : jI (if a < b then b else a) = .int (if Int32.ofInt a < Int32.ofInt b then Int32.ofInt b else Int32.ofInt a) := by
  by_cases h : a < b
  · rw [if_pos h, if_pos ((jI_lt ha hb).mpr h), jI]
  · rw [if_neg h, if_neg (fun z => h ((jI_lt ha hb).mp z)), jI]
theorem jI_min {a b : Int} (ha : jRng a) (hb : jRng b) : jI (if b < a then b else a) = .int (if Int32.ofInt b < Int32.ofInt a then Int32.ofInt b else Int32.ofInt a) := by
  by_cases h : b < a
  · rw [if_pos h, if_pos ((jI_lt hb ha).mpr h), jI]
  · rw [if_neg h, if_neg (fun z => h ((jI_lt hb ha).mp z)), jI]
theorem jI_abs {a : Int} (ha : jRng a) : jI (if 0 ≤ a then a else -a) = .int (if 0 ≤ Int32.ofInt a then Int32.ofInt a else 0 - Int32.ofInt a) := by
  by_cases h : 0 ≤ a
  · rw [if_pos h, if_pos ((jI_geq ha).mpr h), jI]
  · rw [if_neg h, if_neg (fun z => h ((jI_geq ha).mp z)), jI, Int32.ofInt_neg, Int32.zero_sub]
-- the memory
abbrev jC : Type := (FieldType × Nat × (Nat → Value)) ⊕ (Nat × List Value)
abbrev jM : Type := Nat → Option jC
def jput (F : Nat → Value) (k : Nat) (v : Value) : Nat → Value := updV F k v
def jup (M : jM) (q : Nat) (e : jC) : jM := fun x => if x = q then some e else M x
def jst (M M2 : jM) (o : Nat) (e : jC) : Prop := M2 o = some e ∧ ∀ q : Nat, q ≠ o → M2 q = M q
theorem jst_up (M : jM) (o : Nat) (e : jC) : jst M (jup M o e) o e := ⟨by simp [jup], fun q hq => by simp [jup, hq]⟩
def jout (M M2 : jM) (b k : Nat) : Prop := ∀ q : Nat, (q < b ∨ b + k ≤ q) → M2 q = M q
theorem jout.rf (M : jM) (b k : Nat) : jout M M b k := fun _ _ => rfl
theorem jout.st {M M2 M3 : jM} {b k i : Nat} {e : jC} (h : jout M M2 b k) (hs : jst M2 M3 (b + i) e) (hi : i < k) : jout M M3 b k := fun q hq => (hs.2 q (by omega)).trans (h q hq)
theorem jout.tr {M M2 M3 : jM} {b k b2 k2 : Nat} (h : jout M M2 b k) (h2 : jout M2 M3 b2 k2) (hb : b ≤ b2) (hk : b2 + k2 ≤ b + k) : jout M M3 b k := fun q hq => (h2 q (by omega)).trans (h q hq)
theorem jout.wid {M M2 : jM} {b k b2 k2 : Nat} (h : jout M M2 b2 k2) (hb : b ≤ b2) (hk : b2 + k2 ≤ b + k) : jout M M2 b k := fun q hq => h q (by omega)
def jfup (f : Nat → Int) (i : Nat) (v : Int) : Nat → Int := fun k => if k = i then v else f k
theorem jfup_s (f : Nat → Int) (i : Nat) (v : Int) : jfup f i v i = v := by simp [jfup]
theorem jfup_n (f : Nat → Int) {i k : Nat} (v : Int) (h : k ≠ i) : jfup f i v k = f k := by simp [jfup, h]
theorem jfup_up (f : Nat → Int) (i : Nat) (v : Int) : updV (fun k => jI (f k)) i (jI v) = fun k => jI (jfup f i v k) := by
  funext k
  by_cases h : k = i <;> simp [updV, jfup, h]
theorem jrup_up (g : Nat → Option Nat) (i v : Nat) : updV (fun k => va_rf (g k)) i (.ref v) = fun k => va_rf (va_up g i (some v) k) := by
  funext k
  by_cases h : k = i
  · subst h
    simp [updV, va_up, va_rf]
  · simp [updV, va_up, h]
/-- a picture: the cells from b on -/
def jPic (M : jM) (b : Nat) (L : List jC) : Prop := ∀ (i : Nat) (e : jC), L[i]? = some e → M (b + i) = some e
theorem jPic.at {M : jM} {b : Nat} {L : List jC} (h : jPic M b L) (i : Nat) {e : jC} (he : L[i]? = some e) : M (b + i) = some e := h i e he
theorem jPic.put {M M2 : jM} {b : Nat} {L : List jC} {i : Nat} {e : jC} (h : jPic M b L) (hs : jst M M2 (b + i) e) (hi : Nat.blt i L.length = true) : jPic M2 b (L.set i e) := fun j x hx => by
  have hi : i < L.length := Nat.le_of_ble_eq_true hi
  by_cases hj : j = i
  · subst hj
    rw [List.getElem?_set_self hi] at hx
    cases hx
    exact hs.1
  · rw [List.getElem?_set_ne (Ne.symm hj)] at hx
    rw [hs.2 _ (by omega)]
    exact h j x hx
theorem jPic.other {M M2 : jM} {b o : Nat} {L : List jC} {e : jC} (h : jPic M b L) (hs : jst M M2 o e) (k : Nat) (hk : L.length = k) (hq : o < b ∨ b + k ≤ o) : jPic M2 b L := fun j x hx => by
  have hl := (List.getElem?_eq_some_iff.mp hx).1
  rw [hs.2 _ (by omega)]
  exact h j x hx
theorem jPic.keep {M M2 : jM} {b c k : Nat} {L : List jC} (h : jPic M b L) (ho : jout M M2 c k) (m : Nat) (hm : L.length = m) (hd : b + m ≤ c ∨ c + k ≤ b) : jPic M2 b L := fun j x hx => by
  have hl := (List.getElem?_eq_some_iff.mp hx).1
  rw [ho _ (by omega)]
  exact h j x hx
theorem jPic.snoc {M M2 : jM} {b : Nat} {L : List jC} {e : jC} (h : jPic M b L) (hs : jst M M2 (b + L.length) e) : jPic M2 b (L ++ [e]) := fun j x hx => by
  by_cases hl : j < L.length
  · rw [List.getElem?_append_left hl] at hx
    rw [hs.2 _ (by omega)]
    exact h j x hx
  · rw [List.getElem?_append_right (by omega)] at hx
    have hz : j - L.length < 1 := (List.getElem?_eq_some_iff.mp hx).1
    rw [show j - L.length = 0 by omega] at hx
    cases hx
    rw [show j = L.length by omega]
    exact hs.1
theorem jPic.one {M M2 : jM} {b : Nat} {e : jC} (hs : jst M M2 b e) : jPic M2 b [e] := fun j x hx => by
  have hz : j < 1 := (List.getElem?_eq_some_iff.mp hx).1
  rw [show j = 0 by omega] at hx ⊢
  cases hx
  exact hs.1
theorem jPic.sub {M : jM} {b : Nat} {L L2 : List jC} (h : jPic M b L) (i : Nat) (hs : ∀ j x, L2[j]? = some x → L[i + j]? = some x) : jPic M (b + i) L2 := fun j x hx => by
  rw [Nat.add_assoc]
  exact h _ _ (hs j x hx)
theorem jPic.app {M : jM} {b : Nat} {L L2 : List jC} (h : jPic M b L) (h2 : jPic M (b + L.length) L2) : jPic M b (L ++ L2) := fun j x hx => by
  by_cases hl : j < L.length
  · rw [List.getElem?_append_left hl] at hx
    exact h j x hx
  · rw [List.getElem?_append_right (by omega)] at hx
    have := h2 _ _ hx
    rwa [Nat.add_assoc, show L.length + (j - L.length) = j by omega] at this
/-- a method that only reads -/
abbrev jrd (n : Nat) (M : jM) (z : Int) : Option Value → Nat → jM → Prop := fun v n2 M2 => some (jI z) = v ∧ n = n2 ∧ M = M2
def jH1 (D : va_G) (U : State) (H : Heap) (q : Nat) (e : jC) : Prop := match e with
  | .inl x => ∃ cA : ClassId, ArrOfT U cA x.1 ∧ va_RA U cA x.1 ∧ H[q]? = some (arrV cA x.2.1 x.2.2)
  | .inr o => ∃ r : vw_C, vwCl[o.1]? = some r ∧ t_OB q (D.1 o.1) r.2.2 (D.2 o.1) H (vp_V o.2)
def jHold (D : va_G) (b0 : Nat) (U : State) (n : Nat) (M : jM) (H : Heap) : Prop := H.size = n ∧ ∀ (q : Nat) (e : jC), M q = some e → b0 ≤ q ∧ jH1 D U H q e
def jK (D : va_G) (U : State) : Prop := va_K D vwCl [] U ∧ va_AO "EqualHeights$State" U ∧ ∀ w ∈ jNest, va_Nw w U
theorem jH1.moved {D : va_G} {u U : State} {H : Heap} {q : Nat} {e : jC} (hvm : u.vm.Alike U.vm) (h : jH1 D u H q e) : jH1 D U H q e := by
  cases e with
  | inl x =>
    obtain ⟨cA, h1, h2, h3⟩ := h
    exact ⟨cA, arrOfT_moved hvm h1, h2.moved hvm, h3⟩
  | inr o => exact h
theorem jH1.kept {D : va_G} {U : State} {H H1 : Heap} {q : Nat} {e : jC} (h : jH1 D U H q e) (hq : H1[q]? = H[q]?) : jH1 D U H1 q e := by
  cases e with
  | inl x =>
    obtain ⟨cA, h1, h2, h3⟩ := h
    exact ⟨cA, h1, h2, hq.trans h3⟩
  | inr o =>
    obtain ⟨r, h1, h2⟩ := h
    exact ⟨r, h1, h2.kept hq⟩
theorem jH1.lt {D : va_G} {U : State} {H : Heap} {q : Nat} {e : jC} (h : jH1 D U H q e) : q < H.size := by
  cases e with
  | inl x =>
    obtain ⟨cA, h1, h2, h3⟩ := h
    exact (Array.getElem?_eq_some_iff.mp h3).1
  | inr o =>
    obtain ⟨r, h1, cell, h2, -⟩ := h
    exact (Array.getElem?_eq_some_iff.mp h2).1
theorem jHold.moved {D : va_G} {b0 n : Nat} {u U : State} {M : jM} {H : Heap} (h : jHold D b0 u n M H) (hvm : u.vm.Alike U.vm) : jHold D b0 U n M H := ⟨h.1, fun q e hq => ⟨(h.2 q e hq).1, (h.2 q e hq).2.moved hvm⟩⟩
theorem jHold.heap {D : va_G} {b0 n : Nat} {U : State} {M : jM} {H H1 : Heap} (h : jHold D b0 U n M H) (e : H1 = H) : jHold D b0 U n M H1 := e ▸ h
theorem jHold.obj {D : va_G} {b0 n : Nat} {U : State} {M : jM} {H : Heap} (h : jHold D b0 U n M H) {o ci : Nat} {fs : List Value} (hM : M o = some (.inr (ci, fs))) : va_P D vwCl [(o, .inr (ci, fs))] H := by
  intro k q hk
  have hz : k < 1 := (List.getElem?_eq_some_iff.mp hk).1
  rw [show k = 0 by omega] at hk
  cases hk
  exact (h.2 _ _ hM).2
theorem jHold.put {D : va_G} {b0 n o : Nat} {U : State} {M : jM} {H H1 : Heap} {e0 e : jC} (h : jHold D b0 U n M H) (hM : M o = some e0) (z : H1.size = H.size) (oq : ∀ q : Nat, q ≠ o → H1[q]? = H[q]?) (he : jH1 D U H1 o e) : jHold D b0 U n (jup M o e) H1 := by
  refine ⟨z.trans h.1, fun q x hq => ?_⟩
  unfold jup at hq
  by_cases hqo : q = o
  · rw [if_pos hqo] at hq
    cases hq
    subst hqo
    exact ⟨(h.2 _ _ hM).1, he⟩
  · rw [if_neg hqo] at hq
    exact ⟨(h.2 _ _ hq).1, (h.2 _ _ hq).2.kept (oq q hqo)⟩
theorem jHold.push {D : va_G} {b0 n : Nat} {U : State} {M : jM} {H H1 : Heap} {e : jC} (h : jHold D b0 U n M H) (z : H1.size = n + 1) (oq : ∀ q : Nat, q < n → H1[q]? = H[q]?) (hb : b0 ≤ n) (he : jH1 D U H1 n e) : jHold D b0 U (n + 1) (jup M n e) H1 := by
  refine ⟨z, fun q x hq => ?_⟩
  unfold jup at hq
  by_cases hqo : q = n
  · rw [if_pos hqo] at hq
    cases hq
    subst hqo
    exact ⟨hb, he⟩
  · rw [if_neg hqo] at hq
    have hlt := (h.2 _ _ hq).2.lt
    rw [h.1] at hlt
    exact ⟨(h.2 _ _ hq).1, (h.2 _ _ hq).2.kept (oq q hlt)⟩
theorem jNw_moved {w : Cond} (hw : jisN w = true) {s U : State} (hW : s.WarmedH U.vm) (h : va_Nw w s) : va_Nw w U := by
  cases w <;> first | exact va_Nw.warmF hW h | exact va_Nw.warmM hW h | (simp [jisN] at hw)
theorem jNw_same {w : Cond} (hw : jisN w = true) {s U : State} (e : s.vm = U.vm) (h : va_Nw w s) : va_Nw w U := by
  cases w <;> first | exact va_Nw.same rfl e h | (simp [jisN] at hw)
theorem jK.moved {D : va_G} {s U : State} (h : jK D s) (hW : s.WarmedH U.vm) : jK D U := ⟨va_K.moved hW.alike h.1, h.2.1.moved hW.alike, fun w hw => jNw_moved (List.mem_filter.mp hw).2 hW (h.2.2 w hw)⟩
theorem jK.call {D : va_G} {U : State} {g : JFrame} {mk : MethodId} {a : Array Value} (h : jK D U) : jK D (U.calling g mk a) := ⟨va_K.moved (u := U) (U := U.calling g mk a) (Vm.Alike.refl U.vm) h.1, h.2.1.moved (u := U) (U := U.calling g mk a) (Vm.Alike.refl U.vm), fun w hw => jNw_same (s := U) (U := U.calling g mk a) (List.mem_filter.mp hw).2 rfl (h.2.2 w hw)⟩
theorem jHold.call {D : va_G} {b0 n : Nat} {U : State} {M : jM} {g : JFrame} {mk : MethodId} {a : Array Value} (h : jHold D b0 U n M U.heap) : jHold D b0 (U.calling g mk a) n M (U.calling g mk a).heap := jHold.moved (u := U) (U := U.calling g mk a) h (Vm.Alike.refl U.vm)
-- the locals
def jL (ls : Array Slot) (nL : Nat) (lv : List (Option Value)) : Prop := ls.size = nL ∧ lv_wf ls ∧ lv.length = nL ∧ ∀ (i : Nat) (v : Value), lv[i]? = some (some v) → ls[i]? = some (.val v)
def jas : Nat → List (Option Value) → List (Nat × Value)
  | _, [] => []
  | k, none :: r => jas (k + 1) r
  | k, some v :: r => (k, v) :: jas (k + 1) r
theorem jas_mem : ∀ {lv : List (Option Value)} {k i : Nat} {v : Value}, (i, v) ∈ jas k lv ↔ ∃ j, i = k + j ∧ lv[j]? = some (some v)
  | [], k, i, v => by simp [jas]
  | none :: r, k, i, v => by
    simp only [jas]
    rw [jas_mem]
    constructor
    · rintro ⟨j, h1, h2⟩
      exact ⟨j + 1, by omega, by simpa using h2⟩
    · rintro ⟨j, h1, h2⟩
      cases j with
      | zero => simp at h2
      | succ j => exact ⟨j, by omega, by simpa using h2⟩
  | some w :: r, k, i, v => by
    simp only [jas, List.mem_cons, Prod.mk.injEq]
    rw [jas_mem]
    constructor
    · rintro (⟨h1, h2⟩ | ⟨j, h1, h2⟩)
      · exact ⟨0, by omega, by simp [h2]⟩
      · exact ⟨j + 1, by omega, by simpa using h2⟩
    · rintro ⟨j, h1, h2⟩
      cases j with
      | zero =>
        left
        simp at h2
        exact ⟨by omega, h2.symm⟩
      | succ j => exact Or.inr ⟨j, by omega, by simpa using h2⟩
theorem jL.has {ls : Array Slot} {nL : Nat} {lv : List (Option Value)} (h : jL ls nL lv) : lv_has ls nL (jas 0 lv) := ⟨h.1, h.2.1, fun q hq => by
  obtain ⟨j, h1, h2⟩ := jas_mem.mp (show (q.1, q.2) ∈ jas 0 lv from hq)
  rw [h1, Nat.zero_add]
  exact h.2.2.2 j q.2 h2⟩
def jcat (lv : List (Option Value)) : Nat → Bool
  | 0 => true
  | i + 1 => match lv[i]? with
    | some (some v) => v.category == 1
    | _ => true
theorem jcat_ne {lv : List (Option Value)} {j : Nat} {v : Value} (hc : jcat lv (j + 1) = true) (hv : lv[j]? = some (some v)) : ¬ v.category = 2 := by
  simp only [jcat, hv, beq_iff_eq] at hc
  omega
theorem jL.set1 {ls ls2 : Array Slot} {nL i : Nat} {lv : List (Option Value)} {x : Value} (h : jL ls nL lv) (hc : jcat lv i = true) (h2 : lv_has ls2 nL ((i, x) :: (jas 0 lv).filter (fun q => !(q.1 == i) && !(q.1 + 1 == i && q.2.category == 2)))) : jL ls2 nL (lv.set i (some x)) := by
  refine ⟨h2.1, h2.2.1, by rw [List.length_set]; exact h.2.2.1, fun j v hj => ?_⟩
  by_cases hji : j = i
  · subst hji
    have hlt : j < lv.length := by simpa using (List.getElem?_eq_some_iff.mp hj).1
    rw [List.getElem?_set_self hlt] at hj
    cases hj
    exact h2.2.2 (j, x) List.mem_cons_self
  · rw [List.getElem?_set_ne (Ne.symm hji)] at hj
    refine h2.2.2 (j, v) (List.mem_cons_of_mem _ (List.mem_filter.mpr ⟨jas_mem.mpr ⟨j, by omega, hj⟩, ?_⟩))
    by_cases hj1 : j + 1 = i
    · subst hj1
      have := jcat_ne hc hj
      simp [this]
    · simp [hji, hj1]
theorem jL.set2 {ls ls2 : Array Slot} {nL i : Nat} {lv : List (Option Value)} {x : Value} (h : jL ls nL lv) (hc : jcat lv i = true) (h2 : lv_has ls2 nL ((i, x) :: (jas 0 lv).filter (fun q => !(q.1 == i) && (!(q.1 == i + 1) && !(q.1 + 1 == i && q.2.category == 2))))) : jL ls2 nL ((lv.set i (some x)).set (i + 1) none) := by
  refine ⟨h2.1, h2.2.1, by rw [List.length_set, List.length_set]; exact h.2.2.1, fun j v hj => ?_⟩
  by_cases hj2 : j = i + 1
  · subst hj2
    have hlt : i + 1 < lv.length := by simpa using (List.getElem?_eq_some_iff.mp hj).1
    rw [List.getElem?_set_self (by rw [List.length_set]; exact hlt)] at hj
    cases hj
  · rw [List.getElem?_set_ne (Ne.symm hj2)] at hj
    by_cases hji : j = i
    · subst hji
      have hlt : j < lv.length := by simpa using (List.getElem?_eq_some_iff.mp hj).1
      rw [List.getElem?_set_self hlt] at hj
      cases hj
      exact h2.2.2 (j, x) List.mem_cons_self
    · rw [List.getElem?_set_ne (Ne.symm hji)] at hj
      refine h2.2.2 (j, v) (List.mem_cons_of_mem _ (List.mem_filter.mpr ⟨jas_mem.mpr ⟨j, by omega, hj⟩, ?_⟩))
      by_cases hj1 : j + 1 = i
      · subst hj1
        have := jcat_ne hc hj
        simp [this, hj2, hji]
      · simp [hji, hj1, hj2]
-- the judgement
abbrev jX : Type := Program × Launch × Env × Room × State × MethodId × Array Value × List Frame × Method × Code × (State → Prop) × va_G × Nat × Nat
def jJ (X : jX) (pc : Nat) (lv : List (Option Value)) (st : List Value) (n : Nat) (M : jM) (ce sl : Nat) : Prop := match X with
  | (p, l, e, R, s, m, args, below, meth, c, Q, D, b0, nL) => ∀ (H : Heap) (locs : List Loc) (ls : Array Slot), jHold D b0 s n M H → va_S (fun q => b0 ≤ q) s.heap H locs → jL ls nL lv → W p l e R s m args below meth c H locs ce sl Q (F0 m pc ls st)
def jB (X : jX) (cc : ByteArray) (own nm : String) (ret : Option FieldType) (rm : Room) : Prop := match X with
  | (p, _, _, R, s, m, args, _, meth, c, _, D, b0, nL) => p.tables.exec = Jvm.exec ∧ c.code = cc ∧ c.maxLocals = nL ∧ s.vm.findClass own = some m.cls ∧ (∀ w ∈ wsL_law, w.before args s = true) ∧ jK D s ∧ b0 ≤ s.heap.size ∧ R = rm ∧ meth.name = nm ∧ meth.sig.returnType = ret ∧ meth.locks = false
def jF (X : jX) (l9 : Launch) (D9 : va_G) (b9 : Nat) : Prop := match X with
  | (_, l, _, _, _, _, _, _, _, _, _, D, b0, _) => l9 = l ∧ D9 = D ∧ b9 = b0
def jQc (D : va_G) (b0 : Nat) (post : Option Value → Nat → jM → Prop) : Array Value → State → Outcome → State → Prop := fun _ st oc t => (∃ (v : Option Value) (n : Nat) (M : jM), oc = .returned v ∧ post v n M ∧ jHold D b0 t n M t.heap) ∧ va_F (fun q => b0 ≤ q) st t
def jR (X : jX) (post : Option Value → Nat → jM → Prop) (mc ms : Nat) : Prop := match X with
  | (_, _, _, _, s, _, args, below, _, _, Q, D, b0, _) => Q = MQ below (jQc D b0 post) args s mc ms (fun q => b0 ≤ q)
def jPc (D : va_G) (b0 : Nat) (av : List Value) (n : Nat) (M : jM) : Array Value → State → Prop := va_Pc av (fun U => jHold D b0 U n M U.heap ∧ jK D U ∧ b0 ≤ U.heap.size)
abbrev jrm (d mc ms : Nat) : Room := { frames := d, cells := mc, slots := ms, locals := 33 * d }
def jCtr (l : Launch) (D : va_G) (b0 : Nat) (y : MethodName) (cc : ByteArray) (nL : Nat) (ret : Option FieldType) (d mc ms : Nat) (av : List Value) (n : Nat) (M : jM) (post : Option Value → Nat → jM → Prop) : Prop :=
  Met l y (Cond.code y cc nL ret :: wsL_law) (jrm d mc ms) (jPc D b0 av n M) (jQc D b0 post) mc ms (fun q => b0 ≤ q)
def jflat (vs : List Value) : List (Option Value) := vs.flatMap fun v => if v.category = 2 then [some v, none] else [some v]
theorem jflat_sl : ∀ (vs : List Value), (jflat vs).length = (lg_sl vs).length ∧ ∀ (i : Nat) (v : Value), (jflat vs)[i]? = some (some v) → (lg_sl vs)[i]? = some (.val v)
  | [] => ⟨rfl, fun i v h => by simp [jflat] at h⟩
  | w :: r => by
    obtain ⟨h1, h2⟩ := jflat_sl r
    simp only [jflat, lg_sl, List.flatMap_cons] at h1 h2 ⊢
    by_cases hc : w.category = 2
    · simp only [hc, if_true]
      refine ⟨by simp [h1], fun i v h => ?_⟩
      match i, h with
      | 0, h => simpa using h
      | 1, h => simp at h
      | i + 2, h => simpa using h2 i v (by simpa using h)
    · simp only [hc, if_false]
      refine ⟨by simp [h1], fun i v h => ?_⟩
      match i, h with
      | 0, h => simpa using h
      | i + 1, h => simpa using h2 i v (by simpa using h)
theorem jL_entry (vs : List Value) {n : Nat} {lv : List (Option Value)} (h : (lg_sl vs).length ≤ n) (hlv : jflat vs ++ List.replicate (n - (jflat vs).length) none = lv) : jL ((lg_sl vs ++ List.replicate (n - (lg_sl vs).length) Slot.unset).toArray) n lv := by
  obtain ⟨h1, h2⟩ := jflat_sl vs
  have h3 := lv_entry vs h
  subst hlv
  refine ⟨h3.1, h3.2.1, by simp; omega, fun i v hi => ?_⟩
  by_cases hlt : i < (jflat vs).length
  · rw [List.getElem?_append_left hlt] at hi
    have := h2 i v hi
    rw [List.getElem?_toArray, List.getElem?_append_left (by omega)]
    exact this
  · rw [List.getElem?_append_right (by omega)] at hi
    simp [List.getElem?_replicate] at hi
/-- a contract, out of a walk -/
theorem jctr {l : Launch} {D : va_G} {b0 : Nat} {y : MethodName} {cc : ByteArray} {nL : Nat} {ret : Option FieldType} {d mc ms : Nat} {av : List Value} {n : Nat} {M : jM} {post : Option Value → Nat → jM → Prop} {lv : List (Option Value)} (own nm : String) (hown : y.cls = own) (hname : y.name = nm) (hy : plainName y.cls = true) (hlen : (lg_sl av).length ≤ nL) (hlv : jflat av ++ List.replicate (nL - (jflat av).length) none = lv)
    (body : ∀ X : jX, jB X cc own nm ret (jrm d mc ms) → jR X post mc ms → jF X l D b0 → jJ X 0 lv [] n M 0 0) : jCtr l D b0 y cc nL ret d mc ms av n M post := by
  subst hown; subst hname
  refine Met.ofW (cc := cc) (maxL := nL) (ret := ret) hy rfl ?_
  intro p e s m args below meth c s₁ B hml hv
  obtain ⟨rfl, hH, hK, hb0⟩ := hv
  have hts0 := atoms_spec (ws := Cond.code y cc nL ret :: wsL_law) B.pre
  have hbd := body (p, l, e, jrm d mc ms, s, m, av.toArray, below, meth, c, MQ below (jQc D b0 post) av.toArray s mc ms (fun q => b0 ≤ q), D, b0, nL)
    ⟨B.exec, B.bytes, hml, findClass_of_methodNamed B.named, fun w hw => hts0 w (List.mem_cons_of_mem _ hw), hK, hb0, rfl, (name_of_methodNamed B.named B.method).1, B.returns, B.notSynchronized⟩ rfl ⟨rfl, rfl, rfl⟩
  rw [lg_entry_eq]
  exact hbd s.heap [] _ hH va_S.rf (jL_entry av hlen hlv)
/-- fewer locals known -/
def jwk (lv lv2 : List (Option Value)) : Prop := lv.length = lv2.length ∧ ∀ (i : Nat) (v : Value), lv2[i]? = some (some v) → lv[i]? = some (some v)
theorem jwk_0 : jwk [] [] := ⟨rfl, fun _ _ h => h⟩
theorem jwk_n {a : Option Value} {r r2 : List (Option Value)} (h : jwk r r2) : jwk (a :: r) (none :: r2) := ⟨by simp [h.1], fun i v hv => by
  cases i with
  | zero => simp at hv
  | succ i => simpa using h.2 i v (by simpa using hv)⟩
theorem jwk_s {a b : Option Value} {r r2 : List (Option Value)} (e : a = b) (h : jwk r r2) : jwk (a :: r) (b :: r2) := ⟨by simp [h.1], fun i v hv => by
  subst e
  cases i with
  | zero => simpa using hv
  | succ i => simpa using h.2 i v (by simpa using hv)⟩
theorem jk_weak {X : jX} {pc n ce sl : Nat} {lv lv2 : List (Option Value)} {st : List Value} {M : jM} (hw : jwk lv lv2) (k : jJ X pc lv2 st n M ce sl) : jJ X pc lv st n M ce sl := by
  obtain ⟨p, l, e, R, s, m, args, below, meth, c, Q, D, b0, nL⟩ := X
  intro H locs ls hH hS hL
  exact k H locs ls hH hS ⟨hL.1, hL.2.1, hw.1 ▸ hL.2.2.1, fun i v hv => hL.2.2.2 i v (hw.2 i v hv)⟩
/-- the room counted anew -/
theorem jk_wid {X : jX} {pc n ce sl ce2 sl2 : Nat} {lv : List (Option Value)} {st : List Value} {M : jM} (h1 : ce ≤ ce2) (h2 : sl ≤ sl2) (k : jJ X pc lv st n M ce2 sl2) : jJ X pc lv st n M ce sl := by
  obtain ⟨p, l, e, R, s, m, args, below, meth, c, Q, D, b0, nL⟩ := X
  intro H locs ls hH hS hL
  exact W.widen h1 h2 (k H locs ls hH hS hL)
/-- a name for the number on top -/
theorem jk_name {X : jX} {pc n ce sl : Nat} {lv : List (Option Value)} {st : List Value} {M : jM} {z : Int} (k : ∀ y : Int, y = z → jJ X pc lv (jI y :: st) n M ce sl) : jJ X pc lv (jI z :: st) n M ce sl := k z rfl
theorem jrd_of {n : Nat} {M : jM} {a b : Int} (h : a = b) : jrd n M a (some (jI b)) n M := ⟨by rw [h], rfl, rfl⟩
section JRUN
variable {p : Program} {l : Launch} {e : Env} {R : Room} {s : State} {m : MethodId} {args : Array Value} {below : List Frame} {meth : Method} {c : Code} {H : Heap} {locs : List Loc} {cells slots : Nat} {Q : State → Prop}
/-- a call, whatever it answers -/
theorem jk_run {pc : Nat} {ls : Array Slot} {rest st0 : List Value} {a : Array Value} {mc ms b0 : Nat} {D : va_G} {post : Option Value → Nat → jM → Prop} (hr : va_Run p l e R s m args below meth c H locs cells slots mc ms (F0 m pc ls st0) rest (jQc D b0 post a) (fun q => b0 ≤ q)) (hS : va_S (fun q => b0 ≤ q) s.heap H locs)
    (kk : ∀ (v : Option Value) (n2 : Nat) (M2 : jM) (H1 : Heap) (locs1 : List Loc), post v n2 M2 → jHold D b0 s n2 M2 H1 → va_S (fun q => b0 ≤ q) s.heap H1 locs1 → W p l e R s m args below meth c H1 locs1 (cells + mc) (slots + ms) Q (F0 m (pc + 3) ls (v.toList ++ rest))) : W p l e R s m args below meth c H locs cells slots Q (F0 m pc ls st0) := by
  intro T hT X
  obtain ⟨v, st₀, t, T', L, h0, X', hL, e1, e2, ⟨⟨v2, n2, M2, hv, hp, hh⟩, hz, hk⟩, st⟩ := hr T hT X
  cases hv
  rw [h0] at hz hk
  have hal : s.vm.Alike t.vm := by rw [← e2]; exact X'.warmed.alike
  obtain ⟨t2, a1, b1⟩ := kk v n2 M2 T'.heap (locs ++ L) hp (by rw [e1]; exact hh.moved hal.symm)
    ⟨Nat.le_trans hS.1 (by rw [e1]; exact hz), fun q h1 h2 => by rw [e1, hk q (Nat.lt_of_lt_of_le h1 hS.1) h2]; exact hS.2.1 q h1 h2, fun q hq => by
      rcases List.mem_append.mp hq with h | h
      · exact hS.2.2 q h
      · exact hL q h⟩ T' rfl X'
  exact ⟨t2, st t2 a1, b1⟩
end JRUN
-- what the tables say of a place in the code
def jMS (y : MethodName) (cc : ByteArray) (nL : Nat) (ret : Option FieldType) (k : Nat) : Prop := Cond.static y ∈ wsL_law ∧ Cond.initialized y.cls ∈ wsL_law ∧ Cond.code y cc nL ret ∈ wsL_law ∧ y.cls ≠ "java/lang/invoke/MethodHandle" ∧ y.cls ≠ "java/lang/invoke/VarHandle" ∧ (parseMethodDescriptor y.desc).map (fun d => d.parameters.length) = some k
def jMV (y : MethodName) (cc : ByteArray) (nL : Nat) (ret : Option FieldType) (k ci : Nat) : Prop := Cond.instanceMethod y ∈ wsL_law ∧ Cond.selects y.cls y y ∈ wsL_law ∧ Cond.initialized y.cls ∈ wsL_law ∧ Cond.code y cc nL ret ∈ wsL_law ∧ y.cls ≠ "java/lang/invoke/MethodHandle" ∧ y.cls ≠ "java/lang/invoke/VarHandle" ∧ (parseMethodDescriptor y.desc).map (fun d => d.parameters.length) = some k ∧ ∃ r : vw_C, vwCl[ci]? = some r ∧ r.1 = y.cls
def jMI (y : MethodName) (cc : ByteArray) (nL k : Nat) : Prop := Cond.instanceMethod y ∈ wsL_law ∧ y.name = "<init>" ∧ Cond.initialized y.cls ∈ wsL_law ∧ Cond.code y cc nL none ∈ wsL_law ∧ y.cls ≠ "java/lang/invoke/MethodHandle" ∧ y.cls ≠ "java/lang/invoke/VarHandle" ∧ (parseMethodDescriptor y.desc).map (fun d => d.parameters.length) = some k
def jFG (own : String) (ix ci kf : Nat) : Prop := ∃ (C : String) (T : u_T) (N : Nat), vwCl[ci]? = some (C, T, N) ∧ (∀ w ∈ u_ws C T N, w ∈ wsL_law) ∧ Cond.fieldLink own ix (T kf).1 (T kf).2.1 (T kf).2.2.1 ∈ wsL_law ∧ kf < N
def jFGn (own : String) (ix ci kf : Nat) : Prop := ∃ (C : String) (T : u_T) (N : Nat) (host : String), vwCl[ci]? = some (C, T, N) ∧ (∀ w ∈ u_ws C T N, w ∈ wsL_law) ∧ Cond.fieldLinkNest own ix (T kf).1 (T kf).2.1 (T kf).2.2.1 host ∈ jNest ∧ kf < N
def jFP (own : String) (ix ci kf : Nat) (fin : Bool) (v : Value) : Prop := ∃ (C : String) (T : u_T) (N : Nat) (ty0 : Nat → FieldType) (ty : FieldType), vwCl[ci]? = some (C, T, N) ∧ (∀ w ∈ u_ws C T N, w ∈ wsL_law) ∧ Cond.fieldLink own ix (T kf).1 (T kf).2.1 (T kf).2.2.1 ∈ wsL_law ∧ kf < N ∧ (∀ k, k < N → parseFieldDescriptor (T k).2.2.1 = some (ty0 k)) ∧ (∀ a, a < N → ∀ b, b < N → a ≠ b → (T a).2.1 ≠ (T b).2.1) ∧ (T kf).2.2.2 = fin ∧ parseFieldDescriptor (T kf).2.2.1 = some ty ∧ narrow ty v = v ∧ fits ty v = true
def jFPn (own : String) (ix ci kf : Nat) (v : Value) : Prop := ∃ (C : String) (T : u_T) (N : Nat) (ty0 : Nat → FieldType) (ty : FieldType) (host : String), vwCl[ci]? = some (C, T, N) ∧ (∀ w ∈ u_ws C T N, w ∈ wsL_law) ∧ Cond.fieldLinkNest own ix (T kf).1 (T kf).2.1 (T kf).2.2.1 host ∈ jNest ∧ kf < N ∧ (∀ k, k < N → parseFieldDescriptor (T k).2.2.1 = some (ty0 k)) ∧ (∀ a, a < N → ∀ b, b < N → a ≠ b → (T a).2.1 ≠ (T b).2.1) ∧ (T kf).2.2.2 = false ∧ parseFieldDescriptor (T kf).2.2.1 = some ty ∧ narrow ty v = v ∧ fits ty v = true
def jdecl (ci kf : Nat) (own : String) : Prop := ∀ r : vw_C, vwCl[ci]? = some r → (r.2.1 kf).1 = own
def jFN (own : String) (ix ci : Nat) (fs : List Value) : Prop := ∃ (C : String) (T : u_T) (N : Nat) (ty0 : Nat → FieldType), vwCl[ci]? = some (C, T, N) ∧ (∀ w ∈ u_ws C T N, w ∈ wsL_law) ∧ (∀ k, k < N → parseFieldDescriptor (T k).2.2.1 = some (ty0 k)) ∧ Cond.classLink own ix C ∈ wsL_law ∧ Cond.instantiable C N ∈ wsL_law ∧ Cond.initialized C ∈ wsL_law ∧ fs.length = N ∧ ∀ j, j < N → defaultValue (ty0 j) = vp_V fs j
-- the rows
theorem jk_iconst {X : jX} {cc : ByteArray} {own nm : String} {ret : Option FieldType} {rm : Room} {pc q n ce sl : Nat} {lv : List (Option Value)} {st : List Value} {M : jM} (h : jB X cc own nm ret rm) {z : Int} (hd : decode cc pc = .ok (.iconst z, 1)) (hq : pc + 1 = q) (k : jJ X q lv (jI z :: st) n M ce sl) : jJ X pc lv (st) n M ce sl := by
  obtain ⟨p, l, e, R, s, m, args, below, meth, c, Q, D, b0, nL⟩ := X
  obtain ⟨hx, hb, hml, hown, hts, hK, hb0, hR, hnm, hr, hlk⟩ := h
  intro H locs ls hH hS hL
  subst hq
  exact lv_iconst hx hb hd rfl (k H locs ls hH hS hL)

theorem jk_bipush {X : jX} {cc : ByteArray} {own nm : String} {ret : Option FieldType} {rm : Room} {pc q n ce sl : Nat} {lv : List (Option Value)} {st : List Value} {M : jM} (h : jB X cc own nm ret rm) {z : Int} (hd : decode cc pc = .ok (.bipush z, 2)) (hz : (Int8.ofInt z).toInt32 = Int32.ofInt z) (hq : pc + 2 = q) (k : jJ X q lv (jI z :: st) n M ce sl) : jJ X pc lv (st) n M ce sl := by
  obtain ⟨p, l, e, R, s, m, args, below, meth, c, Q, D, b0, nL⟩ := X
  obtain ⟨hx, hb, hml, hown, hts, hK, hb0, hR, hnm, hr, hlk⟩ := h
  intro H locs ls hH hS hL
  subst hq
  exact lv_bipush hx hb hd hz (k H locs ls hH hS hL)

theorem jk_sipush {X : jX} {cc : ByteArray} {own nm : String} {ret : Option FieldType} {rm : Room} {pc q n ce sl : Nat} {lv : List (Option Value)} {st : List Value} {M : jM} (h : jB X cc own nm ret rm) {z : Int} (hd : decode cc pc = .ok (.sipush z, 3)) (hz : (Int16.ofInt z).toInt32 = Int32.ofInt z) (hq : pc + 3 = q) (k : jJ X q lv (jI z :: st) n M ce sl) : jJ X pc lv (st) n M ce sl := by
  obtain ⟨p, l, e, R, s, m, args, below, meth, c, Q, D, b0, nL⟩ := X
  obtain ⟨hx, hb, hml, hown, hts, hK, hb0, hR, hnm, hr, hlk⟩ := h
  intro H locs ls hH hS hL
  subst hq
  exact lv_sipush hx hb hd hz (k H locs ls hH hS hL)

theorem jk_lconst {X : jX} {cc : ByteArray} {own nm : String} {ret : Option FieldType} {rm : Room} {pc q n ce sl : Nat} {lv : List (Option Value)} {st : List Value} {M : jM} (h : jB X cc own nm ret rm) {z : Fin 2} (hd : decode cc pc = .ok (.lconst z, 1)) (hq : pc + 1 = q) (k : jJ X q lv (.long (Int64.ofNat (z : Nat)) :: st) n M ce sl) : jJ X pc lv (st) n M ce sl := by
  obtain ⟨p, l, e, R, s, m, args, below, meth, c, Q, D, b0, nL⟩ := X
  obtain ⟨hx, hb, hml, hown, hts, hK, hb0, hR, hnm, hr, hlk⟩ := h
  intro H locs ls hH hS hL
  subst hq
  exact lv_lconst hx hb hd rfl (k H locs ls hH hS hL)

theorem jk_ldc {X : jX} {cc : ByteArray} {own nm : String} {ret : Option FieldType} {rm : Room} {pc q n ce sl : Nat} {lv : List (Option Value)} {st : List Value} {M : jM} (h : jB X cc own nm ret rm) {ix : Nat} {z : Int} (hd : decode cc pc = .ok (.ldc ix, 2)) (hw : Cond.constant own ix (Int32.ofInt z) ∈ wsL_law) (hq : pc + 2 = q) (k : jJ X q lv (jI z :: st) n M ce sl) : jJ X pc lv (st) n M ce sl := by
  obtain ⟨p, l, e, R, s, m, args, below, meth, c, Q, D, b0, nL⟩ := X
  obtain ⟨hx, hb, hml, hown, hts, hK, hb0, hR, hnm, hr, hlk⟩ := h
  intro H locs ls hH hS hL
  subst hq
  exact lv_ldc hx hb hown (hts _ hw) hd (k H locs ls hH hS hL)

theorem jk_ldc2 {X : jX} {cc : ByteArray} {own nm : String} {ret : Option FieldType} {rm : Room} {pc q n ce sl : Nat} {lv : List (Option Value)} {st : List Value} {M : jM} (h : jB X cc own nm ret rm) {ix : Nat} {z : Int64} (hd : decode cc pc = .ok (.ldc2_w ix, 3)) (hw : Cond.constantLong own ix z ∈ wsL_law) (hq : pc + 3 = q) (k : jJ X q lv (.long z :: st) n M ce sl) : jJ X pc lv (st) n M ce sl := by
  obtain ⟨p, l, e, R, s, m, args, below, meth, c, Q, D, b0, nL⟩ := X
  obtain ⟨hx, hb, hml, hown, hts, hK, hb0, hR, hnm, hr, hlk⟩ := h
  intro H locs ls hH hS hL
  subst hq
  exact lv_ldc2 hx hb hown (hts _ hw) hd (k H locs ls hH hS hL)

theorem jk_ldc2d {X : jX} {cc : ByteArray} {own nm : String} {ret : Option FieldType} {rm : Room} {pc q n ce sl : Nat} {lv : List (Option Value)} {st : List Value} {M : jM} (h : jB X cc own nm ret rm) {ix : Nat} {z : UInt64} (hd : decode cc pc = .ok (.ldc2_w ix, 3)) (hw : Cond.constantDouble own ix z ∈ wsL_law) (hq : pc + 3 = q) (k : jJ X q lv (.double z :: st) n M ce sl) : jJ X pc lv (st) n M ce sl := by
  obtain ⟨p, l, e, R, s, m, args, below, meth, c, Q, D, b0, nL⟩ := X
  obtain ⟨hx, hb, hml, hown, hts, hK, hb0, hR, hnm, hr, hlk⟩ := h
  intro H locs ls hH hS hL
  subst hq
  exact lv_ldc2d hx hb hown (hts _ hw) hd (k H locs ls hH hS hL)

theorem jk_dconst0 {X : jX} {cc : ByteArray} {own nm : String} {ret : Option FieldType} {rm : Room} {pc q n ce sl : Nat} {lv : List (Option Value)} {st : List Value} {M : jM} (h : jB X cc own nm ret rm) (hd : decode cc pc = .ok (.dconst 0, 1)) (hq : pc + 1 = q) (k : jJ X q lv (.double 0 :: st) n M ce sl) : jJ X pc lv (st) n M ce sl := by
  obtain ⟨p, l, e, R, s, m, args, below, meth, c, Q, D, b0, nL⟩ := X
  obtain ⟨hx, hb, hml, hown, hts, hK, hb0, hR, hnm, hr, hlk⟩ := h
  intro H locs ls hH hS hL
  subst hq
  exact lv_dconst0 hx hb hd (k H locs ls hH hS hL)

theorem jk_dconst1 {X : jX} {cc : ByteArray} {own nm : String} {ret : Option FieldType} {rm : Room} {pc q n ce sl : Nat} {lv : List (Option Value)} {st : List Value} {M : jM} (h : jB X cc own nm ret rm) (hd : decode cc pc = .ok (.dconst 1, 1)) (hq : pc + 1 = q) (k : jJ X q lv (.double 0x3ff0000000000000 :: st) n M ce sl) : jJ X pc lv (st) n M ce sl := by
  obtain ⟨p, l, e, R, s, m, args, below, meth, c, Q, D, b0, nL⟩ := X
  obtain ⟨hx, hb, hml, hown, hts, hK, hb0, hR, hnm, hr, hlk⟩ := h
  intro H locs ls hH hS hL
  subst hq
  exact lv_dconst1 hx hb hd (k H locs ls hH hS hL)

theorem jk_iload_n {X : jX} {cc : ByteArray} {own nm : String} {ret : Option FieldType} {rm : Room} {pc q n ce sl : Nat} {lv : List (Option Value)} {st : List Value} {M : jM} (h : jB X cc own nm ret rm) {kk : Fin 4} {z : Int} (hd : decode cc pc = .ok (.iload_n kk, 1)) (hl : lv[(kk : Nat)]? = some (some (jI z))) (hq : pc + 1 = q) (k : jJ X q lv (jI z :: st) n M ce sl) : jJ X pc lv (st) n M ce sl := by
  obtain ⟨p, l, e, R, s, m, args, below, meth, c, Q, D, b0, nL⟩ := X
  obtain ⟨hx, hb, hml, hown, hts, hK, hb0, hR, hnm, hr, hlk⟩ := h
  intro H locs ls hH hS hL
  subst hq
  exact lv_iload_n hx hb hd rfl (hL.2.2.2 _ _ hl) (k H locs ls hH hS hL)

theorem jk_iload {X : jX} {cc : ByteArray} {own nm : String} {ret : Option FieldType} {rm : Room} {pc q n ce sl : Nat} {lv : List (Option Value)} {st : List Value} {M : jM} (h : jB X cc own nm ret rm) {i : Nat} {z : Int} (hd : decode cc pc = .ok (.iload i, 2)) (hl : lv[i]? = some (some (jI z))) (hq : pc + 2 = q) (k : jJ X q lv (jI z :: st) n M ce sl) : jJ X pc lv (st) n M ce sl := by
  obtain ⟨p, l, e, R, s, m, args, below, meth, c, Q, D, b0, nL⟩ := X
  obtain ⟨hx, hb, hml, hown, hts, hK, hb0, hR, hnm, hr, hlk⟩ := h
  intro H locs ls hH hS hL
  subst hq
  exact lv_iload hx hb hd (hL.2.2.2 _ _ hl) (k H locs ls hH hS hL)

theorem jk_aload_n {X : jX} {cc : ByteArray} {own nm : String} {ret : Option FieldType} {rm : Room} {pc q n ce sl : Nat} {lv : List (Option Value)} {st : List Value} {M : jM} (h : jB X cc own nm ret rm) {kk : Fin 4} {z : Nat} (hd : decode cc pc = .ok (.aload_n kk, 1)) (hl : lv[(kk : Nat)]? = some (some (.ref z))) (hq : pc + 1 = q) (k : jJ X q lv (.ref z :: st) n M ce sl) : jJ X pc lv (st) n M ce sl := by
  obtain ⟨p, l, e, R, s, m, args, below, meth, c, Q, D, b0, nL⟩ := X
  obtain ⟨hx, hb, hml, hown, hts, hK, hb0, hR, hnm, hr, hlk⟩ := h
  intro H locs ls hH hS hL
  subst hq
  exact lv_aload_n hx hb hd rfl (hL.2.2.2 _ _ hl) (k H locs ls hH hS hL)

theorem jk_aload {X : jX} {cc : ByteArray} {own nm : String} {ret : Option FieldType} {rm : Room} {pc q n ce sl : Nat} {lv : List (Option Value)} {st : List Value} {M : jM} (h : jB X cc own nm ret rm) {i : Nat} {z : Nat} (hd : decode cc pc = .ok (.aload i, 2)) (hl : lv[i]? = some (some (.ref z))) (hq : pc + 2 = q) (k : jJ X q lv (.ref z :: st) n M ce sl) : jJ X pc lv (st) n M ce sl := by
  obtain ⟨p, l, e, R, s, m, args, below, meth, c, Q, D, b0, nL⟩ := X
  obtain ⟨hx, hb, hml, hown, hts, hK, hb0, hR, hnm, hr, hlk⟩ := h
  intro H locs ls hH hS hL
  subst hq
  exact lv_aload hx hb hd (hL.2.2.2 _ _ hl) (k H locs ls hH hS hL)

theorem jk_lload_n {X : jX} {cc : ByteArray} {own nm : String} {ret : Option FieldType} {rm : Room} {pc q n ce sl : Nat} {lv : List (Option Value)} {st : List Value} {M : jM} (h : jB X cc own nm ret rm) {kk : Fin 4} {z : Int64} (hd : decode cc pc = .ok (.lload_n kk, 1)) (hl : lv[(kk : Nat)]? = some (some (.long z))) (hq : pc + 1 = q) (k : jJ X q lv (.long z :: st) n M ce sl) : jJ X pc lv (st) n M ce sl := by
  obtain ⟨p, l, e, R, s, m, args, below, meth, c, Q, D, b0, nL⟩ := X
  obtain ⟨hx, hb, hml, hown, hts, hK, hb0, hR, hnm, hr, hlk⟩ := h
  intro H locs ls hH hS hL
  subst hq
  exact lv_lload_n hx hb hd rfl (hL.2.2.2 _ _ hl) (k H locs ls hH hS hL)

theorem jk_lload {X : jX} {cc : ByteArray} {own nm : String} {ret : Option FieldType} {rm : Room} {pc q n ce sl : Nat} {lv : List (Option Value)} {st : List Value} {M : jM} (h : jB X cc own nm ret rm) {i : Nat} {z : Int64} (hd : decode cc pc = .ok (.lload i, 2)) (hl : lv[i]? = some (some (.long z))) (hq : pc + 2 = q) (k : jJ X q lv (.long z :: st) n M ce sl) : jJ X pc lv (st) n M ce sl := by
  obtain ⟨p, l, e, R, s, m, args, below, meth, c, Q, D, b0, nL⟩ := X
  obtain ⟨hx, hb, hml, hown, hts, hK, hb0, hR, hnm, hr, hlk⟩ := h
  intro H locs ls hH hS hL
  subst hq
  exact lv_lload hx hb hd (hL.2.2.2 _ _ hl) (k H locs ls hH hS hL)

theorem jk_fload_n {X : jX} {cc : ByteArray} {own nm : String} {ret : Option FieldType} {rm : Room} {pc q n ce sl : Nat} {lv : List (Option Value)} {st : List Value} {M : jM} (h : jB X cc own nm ret rm) {kk : Fin 4} {z : UInt32} (hd : decode cc pc = .ok (.fload_n kk, 1)) (hl : lv[(kk : Nat)]? = some (some (.float z))) (hq : pc + 1 = q) (k : jJ X q lv (.float z :: st) n M ce sl) : jJ X pc lv (st) n M ce sl := by
  obtain ⟨p, l, e, R, s, m, args, below, meth, c, Q, D, b0, nL⟩ := X
  obtain ⟨hx, hb, hml, hown, hts, hK, hb0, hR, hnm, hr, hlk⟩ := h
  intro H locs ls hH hS hL
  subst hq
  exact lv_fload_n hx hb hd rfl (hL.2.2.2 _ _ hl) (k H locs ls hH hS hL)

theorem jk_fload {X : jX} {cc : ByteArray} {own nm : String} {ret : Option FieldType} {rm : Room} {pc q n ce sl : Nat} {lv : List (Option Value)} {st : List Value} {M : jM} (h : jB X cc own nm ret rm) {i : Nat} {z : UInt32} (hd : decode cc pc = .ok (.fload i, 2)) (hl : lv[i]? = some (some (.float z))) (hq : pc + 2 = q) (k : jJ X q lv (.float z :: st) n M ce sl) : jJ X pc lv (st) n M ce sl := by
  obtain ⟨p, l, e, R, s, m, args, below, meth, c, Q, D, b0, nL⟩ := X
  obtain ⟨hx, hb, hml, hown, hts, hK, hb0, hR, hnm, hr, hlk⟩ := h
  intro H locs ls hH hS hL
  subst hq
  exact lv_fload hx hb hd (hL.2.2.2 _ _ hl) (k H locs ls hH hS hL)

theorem jk_dload_n {X : jX} {cc : ByteArray} {own nm : String} {ret : Option FieldType} {rm : Room} {pc q n ce sl : Nat} {lv : List (Option Value)} {st : List Value} {M : jM} (h : jB X cc own nm ret rm) {kk : Fin 4} {z : UInt64} (hd : decode cc pc = .ok (.dload_n kk, 1)) (hl : lv[(kk : Nat)]? = some (some (.double z))) (hq : pc + 1 = q) (k : jJ X q lv (.double z :: st) n M ce sl) : jJ X pc lv (st) n M ce sl := by
  obtain ⟨p, l, e, R, s, m, args, below, meth, c, Q, D, b0, nL⟩ := X
  obtain ⟨hx, hb, hml, hown, hts, hK, hb0, hR, hnm, hr, hlk⟩ := h
  intro H locs ls hH hS hL
  subst hq
  exact lv_dload_n hx hb hd rfl (hL.2.2.2 _ _ hl) (k H locs ls hH hS hL)

theorem jk_dload {X : jX} {cc : ByteArray} {own nm : String} {ret : Option FieldType} {rm : Room} {pc q n ce sl : Nat} {lv : List (Option Value)} {st : List Value} {M : jM} (h : jB X cc own nm ret rm) {i : Nat} {z : UInt64} (hd : decode cc pc = .ok (.dload i, 2)) (hl : lv[i]? = some (some (.double z))) (hq : pc + 2 = q) (k : jJ X q lv (.double z :: st) n M ce sl) : jJ X pc lv (st) n M ce sl := by
  obtain ⟨p, l, e, R, s, m, args, below, meth, c, Q, D, b0, nL⟩ := X
  obtain ⟨hx, hb, hml, hown, hts, hK, hb0, hR, hnm, hr, hlk⟩ := h
  intro H locs ls hH hS hL
  subst hq
  exact lv_dload hx hb hd (hL.2.2.2 _ _ hl) (k H locs ls hH hS hL)

theorem jk_aload_nN {X : jX} {cc : ByteArray} {own nm : String} {ret : Option FieldType} {rm : Room} {pc q n ce sl : Nat} {lv : List (Option Value)} {st : List Value} {M : jM} (h : jB X cc own nm ret rm) {kk : Fin 4} (hd : decode cc pc = .ok (.aload_n kk, 1)) (hl : lv[(kk : Nat)]? = some (some .null)) (hq : pc + 1 = q) (k : jJ X q lv (.null :: st) n M ce sl) : jJ X pc lv (st) n M ce sl := by
  obtain ⟨p, l, e, R, s, m, args, below, meth, c, Q, D, b0, nL⟩ := X
  obtain ⟨hx, hb, hml, hown, hts, hK, hb0, hR, hnm, hr, hlk⟩ := h
  intro H locs ls hH hS hL
  subst hq
  exact lv_aload_nN hx hb hd rfl (hL.2.2.2 _ _ hl) (k H locs ls hH hS hL)

theorem jk_istore_n {X : jX} {cc : ByteArray} {own nm : String} {ret : Option FieldType} {rm : Room} {pc q n ce sl : Nat} {lv : List (Option Value)} {st : List Value} {M : jM} (h : jB X cc own nm ret rm) {kk : Fin 4} {z : Int} {lv2 : List (Option Value)} (hd : decode cc pc = .ok (.istore_n kk, 1)) (hc : jcat lv (kk : Nat) = true) (hi : (kk : Nat) < lv.length) (h2 : lv.set (kk : Nat) (some (jI z)) = lv2) (hq : pc + 1 = q) (k : jJ X q lv2 (st) n M ce sl) : jJ X pc lv (jI z :: st) n M ce sl := by
  obtain ⟨p, l, e, R, s, m, args, below, meth, c, Q, D, b0, nL⟩ := X
  obtain ⟨hx, hb, hml, hown, hts, hK, hb0, hR, hnm, hr, hlk⟩ := h
  intro H locs ls hH hS hL
  subst hq; subst h2
  exact lv_istore_n (lv := jas 0 lv) hx hb hd rfl hL.has (by rw [← hL.2.2.1]; exact hi) rfl (fun ls2 h2 => k H locs ls2 hH hS (hL.set1 hc h2))

theorem jk_istore {X : jX} {cc : ByteArray} {own nm : String} {ret : Option FieldType} {rm : Room} {pc q n ce sl : Nat} {lv : List (Option Value)} {st : List Value} {M : jM} (h : jB X cc own nm ret rm) {i : Nat} {z : Int} {lv2 : List (Option Value)} (hd : decode cc pc = .ok (.istore i, 2)) (hc : jcat lv i = true) (hi : i < lv.length) (h2 : lv.set i (some (jI z)) = lv2) (hq : pc + 2 = q) (k : jJ X q lv2 (st) n M ce sl) : jJ X pc lv (jI z :: st) n M ce sl := by
  obtain ⟨p, l, e, R, s, m, args, below, meth, c, Q, D, b0, nL⟩ := X
  obtain ⟨hx, hb, hml, hown, hts, hK, hb0, hR, hnm, hr, hlk⟩ := h
  intro H locs ls hH hS hL
  subst hq; subst h2
  exact lv_istore (lv := jas 0 lv) hx hb hd hL.has (by rw [← hL.2.2.1]; exact hi) rfl (fun ls2 h2 => k H locs ls2 hH hS (hL.set1 hc h2))

theorem jk_astore_n {X : jX} {cc : ByteArray} {own nm : String} {ret : Option FieldType} {rm : Room} {pc q n ce sl : Nat} {lv : List (Option Value)} {st : List Value} {M : jM} (h : jB X cc own nm ret rm) {kk : Fin 4} {z : Nat} {lv2 : List (Option Value)} (hd : decode cc pc = .ok (.astore_n kk, 1)) (hc : jcat lv (kk : Nat) = true) (hi : (kk : Nat) < lv.length) (h2 : lv.set (kk : Nat) (some (.ref z)) = lv2) (hq : pc + 1 = q) (k : jJ X q lv2 (st) n M ce sl) : jJ X pc lv (.ref z :: st) n M ce sl := by
  obtain ⟨p, l, e, R, s, m, args, below, meth, c, Q, D, b0, nL⟩ := X
  obtain ⟨hx, hb, hml, hown, hts, hK, hb0, hR, hnm, hr, hlk⟩ := h
  intro H locs ls hH hS hL
  subst hq; subst h2
  exact lv_astore_n (lv := jas 0 lv) hx hb hd rfl hL.has (by rw [← hL.2.2.1]; exact hi) rfl (fun ls2 h2 => k H locs ls2 hH hS (hL.set1 hc h2))

theorem jk_astore {X : jX} {cc : ByteArray} {own nm : String} {ret : Option FieldType} {rm : Room} {pc q n ce sl : Nat} {lv : List (Option Value)} {st : List Value} {M : jM} (h : jB X cc own nm ret rm) {i : Nat} {z : Nat} {lv2 : List (Option Value)} (hd : decode cc pc = .ok (.astore i, 2)) (hc : jcat lv i = true) (hi : i < lv.length) (h2 : lv.set i (some (.ref z)) = lv2) (hq : pc + 2 = q) (k : jJ X q lv2 (st) n M ce sl) : jJ X pc lv (.ref z :: st) n M ce sl := by
  obtain ⟨p, l, e, R, s, m, args, below, meth, c, Q, D, b0, nL⟩ := X
  obtain ⟨hx, hb, hml, hown, hts, hK, hb0, hR, hnm, hr, hlk⟩ := h
  intro H locs ls hH hS hL
  subst hq; subst h2
  exact lv_astore (lv := jas 0 lv) hx hb hd hL.has (by rw [← hL.2.2.1]; exact hi) rfl (fun ls2 h2 => k H locs ls2 hH hS (hL.set1 hc h2))

theorem jk_lstore_n {X : jX} {cc : ByteArray} {own nm : String} {ret : Option FieldType} {rm : Room} {pc q n ce sl : Nat} {lv : List (Option Value)} {st : List Value} {M : jM} (h : jB X cc own nm ret rm) {kk : Fin 4} {z : Int64} {lv2 : List (Option Value)} (hd : decode cc pc = .ok (.lstore_n kk, 1)) (hc : jcat lv (kk : Nat) = true) (hi : (kk : Nat) + 1 < lv.length) (h2 : (lv.set (kk : Nat) (some (.long z))).set ((kk : Nat) + 1) none = lv2) (hq : pc + 1 = q) (k : jJ X q lv2 (st) n M ce sl) : jJ X pc lv (.long z :: st) n M ce sl := by
  obtain ⟨p, l, e, R, s, m, args, below, meth, c, Q, D, b0, nL⟩ := X
  obtain ⟨hx, hb, hml, hown, hts, hK, hb0, hR, hnm, hr, hlk⟩ := h
  intro H locs ls hH hS hL
  subst hq; subst h2
  exact lv_lstore_n (lv := jas 0 lv) hx hb hd rfl hL.has (by rw [← hL.2.2.1]; exact hi) rfl (fun ls2 h2 => k H locs ls2 hH hS (hL.set2 hc h2))

theorem jk_lstore {X : jX} {cc : ByteArray} {own nm : String} {ret : Option FieldType} {rm : Room} {pc q n ce sl : Nat} {lv : List (Option Value)} {st : List Value} {M : jM} (h : jB X cc own nm ret rm) {i : Nat} {z : Int64} {lv2 : List (Option Value)} (hd : decode cc pc = .ok (.lstore i, 2)) (hc : jcat lv i = true) (hi : i + 1 < lv.length) (h2 : (lv.set i (some (.long z))).set (i + 1) none = lv2) (hq : pc + 2 = q) (k : jJ X q lv2 (st) n M ce sl) : jJ X pc lv (.long z :: st) n M ce sl := by
  obtain ⟨p, l, e, R, s, m, args, below, meth, c, Q, D, b0, nL⟩ := X
  obtain ⟨hx, hb, hml, hown, hts, hK, hb0, hR, hnm, hr, hlk⟩ := h
  intro H locs ls hH hS hL
  subst hq; subst h2
  exact lv_lstore (lv := jas 0 lv) hx hb hd hL.has (by rw [← hL.2.2.1]; exact hi) rfl (fun ls2 h2 => k H locs ls2 hH hS (hL.set2 hc h2))

theorem jk_dstore_n {X : jX} {cc : ByteArray} {own nm : String} {ret : Option FieldType} {rm : Room} {pc q n ce sl : Nat} {lv : List (Option Value)} {st : List Value} {M : jM} (h : jB X cc own nm ret rm) {kk : Fin 4} {z : UInt64} {lv2 : List (Option Value)} (hd : decode cc pc = .ok (.dstore_n kk, 1)) (hc : jcat lv (kk : Nat) = true) (hi : (kk : Nat) + 1 < lv.length) (h2 : (lv.set (kk : Nat) (some (.double z))).set ((kk : Nat) + 1) none = lv2) (hq : pc + 1 = q) (k : jJ X q lv2 (st) n M ce sl) : jJ X pc lv (.double z :: st) n M ce sl := by
  obtain ⟨p, l, e, R, s, m, args, below, meth, c, Q, D, b0, nL⟩ := X
  obtain ⟨hx, hb, hml, hown, hts, hK, hb0, hR, hnm, hr, hlk⟩ := h
  intro H locs ls hH hS hL
  subst hq; subst h2
  exact lv_dstore_n (lv := jas 0 lv) hx hb hd rfl hL.has (by rw [← hL.2.2.1]; exact hi) rfl (fun ls2 h2 => k H locs ls2 hH hS (hL.set2 hc h2))

theorem jk_dstore {X : jX} {cc : ByteArray} {own nm : String} {ret : Option FieldType} {rm : Room} {pc q n ce sl : Nat} {lv : List (Option Value)} {st : List Value} {M : jM} (h : jB X cc own nm ret rm) {i : Nat} {z : UInt64} {lv2 : List (Option Value)} (hd : decode cc pc = .ok (.dstore i, 2)) (hc : jcat lv i = true) (hi : i + 1 < lv.length) (h2 : (lv.set i (some (.double z))).set (i + 1) none = lv2) (hq : pc + 2 = q) (k : jJ X q lv2 (st) n M ce sl) : jJ X pc lv (.double z :: st) n M ce sl := by
  obtain ⟨p, l, e, R, s, m, args, below, meth, c, Q, D, b0, nL⟩ := X
  obtain ⟨hx, hb, hml, hown, hts, hK, hb0, hR, hnm, hr, hlk⟩ := h
  intro H locs ls hH hS hL
  subst hq; subst h2
  exact lv_dstore (lv := jas 0 lv) hx hb hd hL.has (by rw [← hL.2.2.1]; exact hi) rfl (fun ls2 h2 => k H locs ls2 hH hS (hL.set2 hc h2))

theorem jk_fstore_n {X : jX} {cc : ByteArray} {own nm : String} {ret : Option FieldType} {rm : Room} {pc q n ce sl : Nat} {lv : List (Option Value)} {st : List Value} {M : jM} (h : jB X cc own nm ret rm) {kk : Fin 4} {z : UInt32} {lv2 : List (Option Value)} (hd : decode cc pc = .ok (.fstore_n kk, 1)) (hc : jcat lv (kk : Nat) = true) (hi : (kk : Nat) < lv.length) (h2 : lv.set (kk : Nat) (some (.float z)) = lv2) (hq : pc + 1 = q) (k : jJ X q lv2 (st) n M ce sl) : jJ X pc lv (.float z :: st) n M ce sl := by
  obtain ⟨p, l, e, R, s, m, args, below, meth, c, Q, D, b0, nL⟩ := X
  obtain ⟨hx, hb, hml, hown, hts, hK, hb0, hR, hnm, hr, hlk⟩ := h
  intro H locs ls hH hS hL
  subst hq; subst h2
  exact lv_fstore_n (lv := jas 0 lv) hx hb hd rfl hL.has (by rw [← hL.2.2.1]; exact hi) rfl (fun ls2 h2 => k H locs ls2 hH hS (hL.set1 hc h2))

theorem jk_fstore {X : jX} {cc : ByteArray} {own nm : String} {ret : Option FieldType} {rm : Room} {pc q n ce sl : Nat} {lv : List (Option Value)} {st : List Value} {M : jM} (h : jB X cc own nm ret rm) {i : Nat} {z : UInt32} {lv2 : List (Option Value)} (hd : decode cc pc = .ok (.fstore i, 2)) (hc : jcat lv i = true) (hi : i < lv.length) (h2 : lv.set i (some (.float z)) = lv2) (hq : pc + 2 = q) (k : jJ X q lv2 (st) n M ce sl) : jJ X pc lv (.float z :: st) n M ce sl := by
  obtain ⟨p, l, e, R, s, m, args, below, meth, c, Q, D, b0, nL⟩ := X
  obtain ⟨hx, hb, hml, hown, hts, hK, hb0, hR, hnm, hr, hlk⟩ := h
  intro H locs ls hH hS hL
  subst hq; subst h2
  exact lv_fstore (lv := jas 0 lv) hx hb hd hL.has (by rw [← hL.2.2.1]; exact hi) rfl (fun ls2 h2 => k H locs ls2 hH hS (hL.set1 hc h2))

theorem jk_iinc {X : jX} {cc : ByteArray} {own nm : String} {ret : Option FieldType} {rm : Room} {pc q n ce sl : Nat} {lv : List (Option Value)} {st : List Value} {M : jM} (h : jB X cc own nm ret rm) {i : Nat} {d z : Int} {lv2 : List (Option Value)} (hd : decode cc pc = .ok (.iinc i d, 3)) (hl : lv[i]? = some (some (jI z))) (hc : jcat lv i = true) (h2 : lv.set i (some (jI (z + d))) = lv2) (hq : pc + 3 = q) (k : jJ X q lv2 (st) n M ce sl) : jJ X pc lv (st) n M ce sl := by
  obtain ⟨p, l, e, R, s, m, args, below, meth, c, Q, D, b0, nL⟩ := X
  obtain ⟨hx, hb, hml, hown, hts, hK, hb0, hR, hnm, hr, hlk⟩ := h
  intro H locs ls hH hS hL
  subst hq; subst h2
  obtain ⟨kk, hk⟩ := List.getElem?_of_mem ((jas_mem (k := 0) (i := i) (v := jI z)).mpr ⟨i, (Nat.zero_add i).symm, hl⟩)
  exact lv_iinc (lv := jas 0 lv) hx hb hd hL.has hk (v := Int32.ofInt (z + d)) (by rw [Int32.ofInt_add]) (by rw [← hL.2.2.1]; exact (List.getElem?_eq_some_iff.mp hl).1) rfl (fun ls2 h2 => k H locs ls2 hH hS (hL.set1 hc h2))

theorem jk_iadd {X : jX} {cc : ByteArray} {own nm : String} {ret : Option FieldType} {rm : Room} {pc q n ce sl : Nat} {lv : List (Option Value)} {st : List Value} {M : jM} (h : jB X cc own nm ret rm) {a b : Int} (hd : decode cc pc = .ok (.iadd, 1)) (hq : pc + 1 = q) (k : jJ X q lv (jI (a + b) :: st) n M ce sl) : jJ X pc lv (jI b :: jI a :: st) n M ce sl := by
  obtain ⟨p, l, e, R, s, m, args, below, meth, c, Q, D, b0, nL⟩ := X
  obtain ⟨hx, hb, hml, hown, hts, hK, hb0, hR, hnm, hr, hlk⟩ := h
  intro H locs ls hH hS hL
  subst hq
  refine lv_iadd hx hb hd ?_
  have k := k H locs ls hH hS hL
  rwa [jI, Int32.ofInt_add] at k

theorem jk_isub {X : jX} {cc : ByteArray} {own nm : String} {ret : Option FieldType} {rm : Room} {pc q n ce sl : Nat} {lv : List (Option Value)} {st : List Value} {M : jM} (h : jB X cc own nm ret rm) {a b : Int} (hd : decode cc pc = .ok (.isub, 1)) (hq : pc + 1 = q) (k : jJ X q lv (jI (a - b) :: st) n M ce sl) : jJ X pc lv (jI b :: jI a :: st) n M ce sl := by
  obtain ⟨p, l, e, R, s, m, args, below, meth, c, Q, D, b0, nL⟩ := X
  obtain ⟨hx, hb, hml, hown, hts, hK, hb0, hR, hnm, hr, hlk⟩ := h
  intro H locs ls hH hS hL
  subst hq
  refine lv_isub hx hb hd ?_
  have k := k H locs ls hH hS hL
  rwa [jI, Int32.ofInt_sub] at k

theorem jk_imul {X : jX} {cc : ByteArray} {own nm : String} {ret : Option FieldType} {rm : Room} {pc q n ce sl : Nat} {lv : List (Option Value)} {st : List Value} {M : jM} (h : jB X cc own nm ret rm) {a b : Int} (hd : decode cc pc = .ok (.imul, 1)) (hq : pc + 1 = q) (k : jJ X q lv (jI (a * b) :: st) n M ce sl) : jJ X pc lv (jI b :: jI a :: st) n M ce sl := by
  obtain ⟨p, l, e, R, s, m, args, below, meth, c, Q, D, b0, nL⟩ := X
  obtain ⟨hx, hb, hml, hown, hts, hK, hb0, hR, hnm, hr, hlk⟩ := h
  intro H locs ls hH hS hL
  subst hq
  refine lv_imul hx hb hd ?_
  have k := k H locs ls hH hS hL
  rwa [jI, Int32.ofInt_mul] at k

theorem jk_ineg {X : jX} {cc : ByteArray} {own nm : String} {ret : Option FieldType} {rm : Room} {pc q n ce sl : Nat} {lv : List (Option Value)} {st : List Value} {M : jM} (h : jB X cc own nm ret rm) {a : Int} (hd : decode cc pc = .ok (.ineg, 1)) (hq : pc + 1 = q) (k : jJ X q lv (jI (-a) :: st) n M ce sl) : jJ X pc lv (jI a :: st) n M ce sl := by
  obtain ⟨p, l, e, R, s, m, args, below, meth, c, Q, D, b0, nL⟩ := X
  obtain ⟨hx, hb, hml, hown, hts, hK, hb0, hR, hnm, hr, hlk⟩ := h
  intro H locs ls hH hS hL
  subst hq
  refine lv_ineg hx hb hd ?_
  have k := k H locs ls hH hS hL
  rwa [jI, Int32.ofInt_neg] at k

theorem jk_idiv {X : jX} {cc : ByteArray} {own nm : String} {ret : Option FieldType} {rm : Room} {pc q n ce sl : Nat} {lv : List (Option Value)} {st : List Value} {M : jM} (h : jB X cc own nm ret rm) {a b : Int} (hd : decode cc pc = .ok (.idiv, 1)) (ha : 0 ≤ a) (ha2 : a ≤ 2147483647) (hb1 : 0 < b) (hb2 : b ≤ 2147483647) (hq : pc + 1 = q) (k : jJ X q lv (jI (a / b) :: st) n M ce sl) : jJ X pc lv (jI b :: jI a :: st) n M ce sl := by
  obtain ⟨p, l, e, R, s, m, args, below, meth, c, Q, D, b0, nL⟩ := X
  obtain ⟨hx, hb, hml, hown, hts, hK, hb0, hR, hnm, hr, hlk⟩ := h
  intro H locs ls hH hS hL
  subst hq
  refine lv_idiv hx hb hd (jI_ne0 hb1 hb2) ?_
  have k := k H locs ls hH hS hL
  rwa [jI, ← jI_div ha ha2 hb1 hb2] at k

theorem jk_irem {X : jX} {cc : ByteArray} {own nm : String} {ret : Option FieldType} {rm : Room} {pc q n ce sl : Nat} {lv : List (Option Value)} {st : List Value} {M : jM} (h : jB X cc own nm ret rm) {a b : Int} (hd : decode cc pc = .ok (.irem, 1)) (ha : 0 ≤ a) (ha2 : a ≤ 2147483647) (hb1 : 0 < b) (hb2 : b ≤ 2147483647) (hq : pc + 1 = q) (k : jJ X q lv (jI (a % b) :: st) n M ce sl) : jJ X pc lv (jI b :: jI a :: st) n M ce sl := by
  obtain ⟨p, l, e, R, s, m, args, below, meth, c, Q, D, b0, nL⟩ := X
  obtain ⟨hx, hb, hml, hown, hts, hK, hb0, hR, hnm, hr, hlk⟩ := h
  intro H locs ls hH hS hL
  subst hq
  refine lv_irem hx hb hd (jI_ne0 hb1 hb2) ?_
  have k := k H locs ls hH hS hL
  rwa [jI, ← jI_rem ha ha2 hb1 hb2] at k

theorem jk_if_eq {X : jX} {cc : ByteArray} {own nm : String} {ret : Option FieldType} {rm : Room} {pc q n ce sl : Nat} {lv : List (Option Value)} {st : List Value} {M : jM} (h : jB X cc own nm ret rm) {a : Int} {off : Int} {tgt : Nat} (hd : decode cc pc = .ok (.ifCond .eq off, 3)) (ht : (pc : Int) + off = (tgt : Int)) (hq : pc + 3 = q) (ha : jRng a) (k1 : a = 0 → jJ X tgt lv st n M ce sl) (k2 : ¬ (a = 0) → jJ X q lv st n M ce sl) : jJ X pc lv (jI a :: st) n M ce sl := by
  obtain ⟨p, l, e, R, s, m, args, below, meth, c, Q, D, b0, nL⟩ := X
  obtain ⟨hx, hb, hml, hown, hts, hK, hb0, hR, hnm, hr, hlk⟩ := h
  intro H locs ls hH hS hL
  subst hq
  refine lv_if_eq hx hb hd ht (fun hc => ?_) (fun hc => ?_)
  · exact k1 ((jI_eqq ha).mp hc) H locs ls hH hS hL
  · exact k2 (fun hz => hc ((jI_eqq ha).mpr hz)) H locs ls hH hS hL

theorem jk_icmp_eq {X : jX} {cc : ByteArray} {own nm : String} {ret : Option FieldType} {rm : Room} {pc q n ce sl : Nat} {lv : List (Option Value)} {st : List Value} {M : jM} (h : jB X cc own nm ret rm) {a b : Int} {off : Int} {tgt : Nat} (hd : decode cc pc = .ok (.if_icmp .eq off, 3)) (ht : (pc : Int) + off = (tgt : Int)) (hq : pc + 3 = q) (ha : jRng a) (hb2 : jRng b) (k1 : a = b → jJ X tgt lv st n M ce sl) (k2 : ¬ (a = b) → jJ X q lv st n M ce sl) : jJ X pc lv (jI b :: jI a :: st) n M ce sl := by
  obtain ⟨p, l, e, R, s, m, args, below, meth, c, Q, D, b0, nL⟩ := X
  obtain ⟨hx, hb, hml, hown, hts, hK, hb0, hR, hnm, hr, hlk⟩ := h
  intro H locs ls hH hS hL
  subst hq
  refine lv_icmp_eq hx hb hd ht (fun hc => ?_) (fun hc => ?_)
  · exact k1 ((jI_eq ha hb2).mp hc) H locs ls hH hS hL
  · exact k2 (fun hz => hc ((jI_eq ha hb2).mpr hz)) H locs ls hH hS hL

theorem jk_if_ne {X : jX} {cc : ByteArray} {own nm : String} {ret : Option FieldType} {rm : Room} {pc q n ce sl : Nat} {lv : List (Option Value)} {st : List Value} {M : jM} (h : jB X cc own nm ret rm) {a : Int} {off : Int} {tgt : Nat} (hd : decode cc pc = .ok (.ifCond .ne off, 3)) (ht : (pc : Int) + off = (tgt : Int)) (hq : pc + 3 = q) (ha : jRng a) (k1 : a ≠ 0 → jJ X tgt lv st n M ce sl) (k2 : ¬ (a ≠ 0) → jJ X q lv st n M ce sl) : jJ X pc lv (jI a :: st) n M ce sl := by
  obtain ⟨p, l, e, R, s, m, args, below, meth, c, Q, D, b0, nL⟩ := X
  obtain ⟨hx, hb, hml, hown, hts, hK, hb0, hR, hnm, hr, hlk⟩ := h
  intro H locs ls hH hS hL
  subst hq
  refine lv_if_ne hx hb hd ht (fun hc => ?_) (fun hc => ?_)
  · exact k1 ((jI_neq ha).mp hc) H locs ls hH hS hL
  · exact k2 ((fun hz => hz ((jI_eqq ha).mp hc))) H locs ls hH hS hL

theorem jk_icmp_ne {X : jX} {cc : ByteArray} {own nm : String} {ret : Option FieldType} {rm : Room} {pc q n ce sl : Nat} {lv : List (Option Value)} {st : List Value} {M : jM} (h : jB X cc own nm ret rm) {a b : Int} {off : Int} {tgt : Nat} (hd : decode cc pc = .ok (.if_icmp .ne off, 3)) (ht : (pc : Int) + off = (tgt : Int)) (hq : pc + 3 = q) (ha : jRng a) (hb2 : jRng b) (k1 : a ≠ b → jJ X tgt lv st n M ce sl) (k2 : ¬ (a ≠ b) → jJ X q lv st n M ce sl) : jJ X pc lv (jI b :: jI a :: st) n M ce sl := by
  obtain ⟨p, l, e, R, s, m, args, below, meth, c, Q, D, b0, nL⟩ := X
  obtain ⟨hx, hb, hml, hown, hts, hK, hb0, hR, hnm, hr, hlk⟩ := h
  intro H locs ls hH hS hL
  subst hq
  refine lv_icmp_ne hx hb hd ht (fun hc => ?_) (fun hc => ?_)
  · exact k1 ((jI_ne ha hb2).mp hc) H locs ls hH hS hL
  · exact k2 ((fun hz => hz ((jI_eq ha hb2).mp hc))) H locs ls hH hS hL

theorem jk_if_lt {X : jX} {cc : ByteArray} {own nm : String} {ret : Option FieldType} {rm : Room} {pc q n ce sl : Nat} {lv : List (Option Value)} {st : List Value} {M : jM} (h : jB X cc own nm ret rm) {a : Int} {off : Int} {tgt : Nat} (hd : decode cc pc = .ok (.ifCond .lt off, 3)) (ht : (pc : Int) + off = (tgt : Int)) (hq : pc + 3 = q) (ha : jRng a) (k1 : a < 0 → jJ X tgt lv st n M ce sl) (k2 : ¬ (a < 0) → jJ X q lv st n M ce sl) : jJ X pc lv (jI a :: st) n M ce sl := by
  obtain ⟨p, l, e, R, s, m, args, below, meth, c, Q, D, b0, nL⟩ := X
  obtain ⟨hx, hb, hml, hown, hts, hK, hb0, hR, hnm, hr, hlk⟩ := h
  intro H locs ls hH hS hL
  subst hq
  refine lv_if_lt hx hb hd ht (fun hc => ?_) (fun hc => ?_)
  · exact k1 ((jI_ltq ha).mp hc) H locs ls hH hS hL
  · exact k2 (fun hz => hc ((jI_ltq ha).mpr hz)) H locs ls hH hS hL

theorem jk_icmp_lt {X : jX} {cc : ByteArray} {own nm : String} {ret : Option FieldType} {rm : Room} {pc q n ce sl : Nat} {lv : List (Option Value)} {st : List Value} {M : jM} (h : jB X cc own nm ret rm) {a b : Int} {off : Int} {tgt : Nat} (hd : decode cc pc = .ok (.if_icmp .lt off, 3)) (ht : (pc : Int) + off = (tgt : Int)) (hq : pc + 3 = q) (ha : jRng a) (hb2 : jRng b) (k1 : a < b → jJ X tgt lv st n M ce sl) (k2 : ¬ (a < b) → jJ X q lv st n M ce sl) : jJ X pc lv (jI b :: jI a :: st) n M ce sl := by
  obtain ⟨p, l, e, R, s, m, args, below, meth, c, Q, D, b0, nL⟩ := X
  obtain ⟨hx, hb, hml, hown, hts, hK, hb0, hR, hnm, hr, hlk⟩ := h
  intro H locs ls hH hS hL
  subst hq
  refine lv_icmp_lt hx hb hd ht (fun hc => ?_) (fun hc => ?_)
  · exact k1 ((jI_lt ha hb2).mp hc) H locs ls hH hS hL
  · exact k2 (fun hz => hc ((jI_lt ha hb2).mpr hz)) H locs ls hH hS hL

theorem jk_if_ge {X : jX} {cc : ByteArray} {own nm : String} {ret : Option FieldType} {rm : Room} {pc q n ce sl : Nat} {lv : List (Option Value)} {st : List Value} {M : jM} (h : jB X cc own nm ret rm) {a : Int} {off : Int} {tgt : Nat} (hd : decode cc pc = .ok (.ifCond .ge off, 3)) (ht : (pc : Int) + off = (tgt : Int)) (hq : pc + 3 = q) (ha : jRng a) (k1 : a ≥ 0 → jJ X tgt lv st n M ce sl) (k2 : ¬ (a ≥ 0) → jJ X q lv st n M ce sl) : jJ X pc lv (jI a :: st) n M ce sl := by
  obtain ⟨p, l, e, R, s, m, args, below, meth, c, Q, D, b0, nL⟩ := X
  obtain ⟨hx, hb, hml, hown, hts, hK, hb0, hR, hnm, hr, hlk⟩ := h
  intro H locs ls hH hS hL
  subst hq
  refine lv_if_ge hx hb hd ht (fun hc => ?_) (fun hc => ?_)
  · exact k1 ((jI_geq ha).mp hc) H locs ls hH hS hL
  · exact k2 (fun hz => hc ((jI_geq ha).mpr hz)) H locs ls hH hS hL

theorem jk_icmp_ge {X : jX} {cc : ByteArray} {own nm : String} {ret : Option FieldType} {rm : Room} {pc q n ce sl : Nat} {lv : List (Option Value)} {st : List Value} {M : jM} (h : jB X cc own nm ret rm) {a b : Int} {off : Int} {tgt : Nat} (hd : decode cc pc = .ok (.if_icmp .ge off, 3)) (ht : (pc : Int) + off = (tgt : Int)) (hq : pc + 3 = q) (ha : jRng a) (hb2 : jRng b) (k1 : a ≥ b → jJ X tgt lv st n M ce sl) (k2 : ¬ (a ≥ b) → jJ X q lv st n M ce sl) : jJ X pc lv (jI b :: jI a :: st) n M ce sl := by
  obtain ⟨p, l, e, R, s, m, args, below, meth, c, Q, D, b0, nL⟩ := X
  obtain ⟨hx, hb, hml, hown, hts, hK, hb0, hR, hnm, hr, hlk⟩ := h
  intro H locs ls hH hS hL
  subst hq
  refine lv_icmp_ge hx hb hd ht (fun hc => ?_) (fun hc => ?_)
  · exact k1 ((jI_ge ha hb2).mp hc) H locs ls hH hS hL
  · exact k2 (fun hz => hc ((jI_ge ha hb2).mpr hz)) H locs ls hH hS hL

theorem jk_if_gt {X : jX} {cc : ByteArray} {own nm : String} {ret : Option FieldType} {rm : Room} {pc q n ce sl : Nat} {lv : List (Option Value)} {st : List Value} {M : jM} (h : jB X cc own nm ret rm) {a : Int} {off : Int} {tgt : Nat} (hd : decode cc pc = .ok (.ifCond .gt off, 3)) (ht : (pc : Int) + off = (tgt : Int)) (hq : pc + 3 = q) (ha : jRng a) (k1 : a > 0 → jJ X tgt lv st n M ce sl) (k2 : ¬ (a > 0) → jJ X q lv st n M ce sl) : jJ X pc lv (jI a :: st) n M ce sl := by
  obtain ⟨p, l, e, R, s, m, args, below, meth, c, Q, D, b0, nL⟩ := X
  obtain ⟨hx, hb, hml, hown, hts, hK, hb0, hR, hnm, hr, hlk⟩ := h
  intro H locs ls hH hS hL
  subst hq
  refine lv_if_gt hx hb hd ht (fun hc => ?_) (fun hc => ?_)
  · exact k1 ((jI_gtq ha).mp hc) H locs ls hH hS hL
  · exact k2 (fun hz => hc ((jI_gtq ha).mpr hz)) H locs ls hH hS hL

theorem jk_icmp_gt {X : jX} {cc : ByteArray} {own nm : String} {ret : Option FieldType} {rm : Room} {pc q n ce sl : Nat} {lv : List (Option Value)} {st : List Value} {M : jM} (h : jB X cc own nm ret rm) {a b : Int} {off : Int} {tgt : Nat} (hd : decode cc pc = .ok (.if_icmp .gt off, 3)) (ht : (pc : Int) + off = (tgt : Int)) (hq : pc + 3 = q) (ha : jRng a) (hb2 : jRng b) (k1 : a > b → jJ X tgt lv st n M ce sl) (k2 : ¬ (a > b) → jJ X q lv st n M ce sl) : jJ X pc lv (jI b :: jI a :: st) n M ce sl := by
  obtain ⟨p, l, e, R, s, m, args, below, meth, c, Q, D, b0, nL⟩ := X
  obtain ⟨hx, hb, hml, hown, hts, hK, hb0, hR, hnm, hr, hlk⟩ := h
  intro H locs ls hH hS hL
  subst hq
  refine lv_icmp_gt hx hb hd ht (fun hc => ?_) (fun hc => ?_)
  · exact k1 ((jI_gt ha hb2).mp hc) H locs ls hH hS hL
  · exact k2 (fun hz => hc ((jI_gt ha hb2).mpr hz)) H locs ls hH hS hL

theorem jk_if_le {X : jX} {cc : ByteArray} {own nm : String} {ret : Option FieldType} {rm : Room} {pc q n ce sl : Nat} {lv : List (Option Value)} {st : List Value} {M : jM} (h : jB X cc own nm ret rm) {a : Int} {off : Int} {tgt : Nat} (hd : decode cc pc = .ok (.ifCond .le off, 3)) (ht : (pc : Int) + off = (tgt : Int)) (hq : pc + 3 = q) (ha : jRng a) (k1 : a ≤ 0 → jJ X tgt lv st n M ce sl) (k2 : ¬ (a ≤ 0) → jJ X q lv st n M ce sl) : jJ X pc lv (jI a :: st) n M ce sl := by
  obtain ⟨p, l, e, R, s, m, args, below, meth, c, Q, D, b0, nL⟩ := X
  obtain ⟨hx, hb, hml, hown, hts, hK, hb0, hR, hnm, hr, hlk⟩ := h
  intro H locs ls hH hS hL
  subst hq
  refine lv_if_le hx hb hd ht (fun hc => ?_) (fun hc => ?_)
  · exact k1 ((jI_leq ha).mp hc) H locs ls hH hS hL
  · exact k2 (fun hz => hc ((jI_leq ha).mpr hz)) H locs ls hH hS hL

theorem jk_icmp_le {X : jX} {cc : ByteArray} {own nm : String} {ret : Option FieldType} {rm : Room} {pc q n ce sl : Nat} {lv : List (Option Value)} {st : List Value} {M : jM} (h : jB X cc own nm ret rm) {a b : Int} {off : Int} {tgt : Nat} (hd : decode cc pc = .ok (.if_icmp .le off, 3)) (ht : (pc : Int) + off = (tgt : Int)) (hq : pc + 3 = q) (ha : jRng a) (hb2 : jRng b) (k1 : a ≤ b → jJ X tgt lv st n M ce sl) (k2 : ¬ (a ≤ b) → jJ X q lv st n M ce sl) : jJ X pc lv (jI b :: jI a :: st) n M ce sl := by
  obtain ⟨p, l, e, R, s, m, args, below, meth, c, Q, D, b0, nL⟩ := X
  obtain ⟨hx, hb, hml, hown, hts, hK, hb0, hR, hnm, hr, hlk⟩ := h
  intro H locs ls hH hS hL
  subst hq
  refine lv_icmp_le hx hb hd ht (fun hc => ?_) (fun hc => ?_)
  · exact k1 ((jI_le ha hb2).mp hc) H locs ls hH hS hL
  · exact k2 (fun hz => hc ((jI_le ha hb2).mpr hz)) H locs ls hH hS hL

theorem jk_goto {X : jX} {cc : ByteArray} {own nm : String} {ret : Option FieldType} {rm : Room} {pc q n ce sl : Nat} {lv : List (Option Value)} {st : List Value} {M : jM} (h : jB X cc own nm ret rm) {off : Int} {tgt : Nat} (hd : decode cc pc = .ok (.goto off, 3)) (ht : (pc : Int) + off = (tgt : Int)) (k : jJ X tgt lv st n M ce sl) : jJ X pc lv (st) n M ce sl := by
  obtain ⟨p, l, e, R, s, m, args, below, meth, c, Q, D, b0, nL⟩ := X
  obtain ⟨hx, hb, hml, hown, hts, hK, hb0, hR, hnm, hr, hlk⟩ := h
  intro H locs ls hH hS hL
  exact lv_goto hx hb hd ht (k H locs ls hH hS hL)

theorem jk_nonnull {X : jX} {cc : ByteArray} {own nm : String} {ret : Option FieldType} {rm : Room} {pc q n ce sl : Nat} {lv : List (Option Value)} {st : List Value} {M : jM} (h : jB X cc own nm ret rm) {a : Nat} {off : Int} {tgt : Nat} (hd : decode cc pc = .ok (.ifnonnull off, 3)) (ht : (pc : Int) + off = (tgt : Int)) (k : jJ X tgt lv st n M ce sl) : jJ X pc lv (.ref a :: st) n M ce sl := by
  obtain ⟨p, l, e, R, s, m, args, below, meth, c, Q, D, b0, nL⟩ := X
  obtain ⟨hx, hb, hml, hown, hts, hK, hb0, hR, hnm, hr, hlk⟩ := h
  intro H locs ls hH hS hL
  exact lv_ifnonnull hx hb hd ht (k H locs ls hH hS hL)

theorem jk_nonnullN {X : jX} {cc : ByteArray} {own nm : String} {ret : Option FieldType} {rm : Room} {pc q n ce sl : Nat} {lv : List (Option Value)} {st : List Value} {M : jM} (h : jB X cc own nm ret rm) {off : Int} (hd : decode cc pc = .ok (.ifnonnull off, 3)) (hq : pc + 3 = q) (k : jJ X q lv (st) n M ce sl) : jJ X pc lv (.null :: st) n M ce sl := by
  obtain ⟨p, l, e, R, s, m, args, below, meth, c, Q, D, b0, nL⟩ := X
  obtain ⟨hx, hb, hml, hown, hts, hK, hb0, hR, hnm, hr, hlk⟩ := h
  intro H locs ls hH hS hL
  subst hq
  exact lv_ifnonnullN hx hb hd (k H locs ls hH hS hL)

theorem jk_null {X : jX} {cc : ByteArray} {own nm : String} {ret : Option FieldType} {rm : Room} {pc q n ce sl : Nat} {lv : List (Option Value)} {st : List Value} {M : jM} (h : jB X cc own nm ret rm) {a : Nat} {off : Int} (hd : decode cc pc = .ok (.ifnull off, 3)) (hq : pc + 3 = q) (k : jJ X q lv (st) n M ce sl) : jJ X pc lv (.ref a :: st) n M ce sl := by
  obtain ⟨p, l, e, R, s, m, args, below, meth, c, Q, D, b0, nL⟩ := X
  obtain ⟨hx, hb, hml, hown, hts, hK, hb0, hR, hnm, hr, hlk⟩ := h
  intro H locs ls hH hS hL
  subst hq
  exact lv_ifnull hx hb hd (k H locs ls hH hS hL)

theorem jk_dup {X : jX} {cc : ByteArray} {own nm : String} {ret : Option FieldType} {rm : Room} {pc q n ce sl : Nat} {lv : List (Option Value)} {st : List Value} {M : jM} (h : jB X cc own nm ret rm) {v : Value} (hd : decode cc pc = .ok (.dup, 1)) (hv : v.category = 1) (hq : pc + 1 = q) (k : jJ X q lv (v :: v :: st) n M ce sl) : jJ X pc lv (v :: st) n M ce sl := by
  obtain ⟨p, l, e, R, s, m, args, below, meth, c, Q, D, b0, nL⟩ := X
  obtain ⟨hx, hb, hml, hown, hts, hK, hb0, hR, hnm, hr, hlk⟩ := h
  intro H locs ls hH hS hL
  subst hq
  exact lv_dup hx hb hd hv (k H locs ls hH hS hL)

theorem jk_dup2 {X : jX} {cc : ByteArray} {own nm : String} {ret : Option FieldType} {rm : Room} {pc q n ce sl : Nat} {lv : List (Option Value)} {st : List Value} {M : jM} (h : jB X cc own nm ret rm) {v w : Value} (hd : decode cc pc = .ok (.dup2, 1)) (hv : v.category = 1) (hw : w.category = 1) (hq : pc + 1 = q) (k : jJ X q lv (v :: w :: v :: w :: st) n M ce sl) : jJ X pc lv (v :: w :: st) n M ce sl := by
  obtain ⟨p, l, e, R, s, m, args, below, meth, c, Q, D, b0, nL⟩ := X
  obtain ⟨hx, hb, hml, hown, hts, hK, hb0, hR, hnm, hr, hlk⟩ := h
  intro H locs ls hH hS hL
  subst hq
  exact lv_dup2_11 hx hb hd hv hw (k H locs ls hH hS hL)

theorem jk_dup_x1 {X : jX} {cc : ByteArray} {own nm : String} {ret : Option FieldType} {rm : Room} {pc q n ce sl : Nat} {lv : List (Option Value)} {st : List Value} {M : jM} (h : jB X cc own nm ret rm) {v w : Value} (hd : decode cc pc = .ok (.dup_x1, 1)) (hv : v.category = 1) (hw : w.category = 1) (hq : pc + 1 = q) (k : jJ X q lv (v :: w :: v :: st) n M ce sl) : jJ X pc lv (v :: w :: st) n M ce sl := by
  obtain ⟨p, l, e, R, s, m, args, below, meth, c, Q, D, b0, nL⟩ := X
  obtain ⟨hx, hb, hml, hown, hts, hK, hb0, hR, hnm, hr, hlk⟩ := h
  intro H locs ls hH hS hL
  subst hq
  exact lv_dup_x1 hx hb hd hv hw (k H locs ls hH hS hL)

theorem jk_dup_x2 {X : jX} {cc : ByteArray} {own nm : String} {ret : Option FieldType} {rm : Room} {pc q n ce sl : Nat} {lv : List (Option Value)} {st : List Value} {M : jM} (h : jB X cc own nm ret rm) {v w z : Value} (hd : decode cc pc = .ok (.dup_x2, 1)) (hv : v.category = 1) (hw : w.category = 1) (hz : z.category = 1) (hq : pc + 1 = q) (k : jJ X q lv (v :: w :: z :: v :: st) n M ce sl) : jJ X pc lv (v :: w :: z :: st) n M ce sl := by
  obtain ⟨p, l, e, R, s, m, args, below, meth, c, Q, D, b0, nL⟩ := X
  obtain ⟨hx, hb, hml, hown, hts, hK, hb0, hR, hnm, hr, hlk⟩ := h
  intro H locs ls hH hS hL
  subst hq
  exact lv_dup_x2 hx hb hd hv hw hz (k H locs ls hH hS hL)

theorem jk_pop {X : jX} {cc : ByteArray} {own nm : String} {ret : Option FieldType} {rm : Room} {pc q n ce sl : Nat} {lv : List (Option Value)} {st : List Value} {M : jM} (h : jB X cc own nm ret rm) {v : Value} (hd : decode cc pc = .ok (.pop, 1)) (hv : v.category = 1) (hq : pc + 1 = q) (k : jJ X q lv (st) n M ce sl) : jJ X pc lv (v :: st) n M ce sl := by
  obtain ⟨p, l, e, R, s, m, args, below, meth, c, Q, D, b0, nL⟩ := X
  obtain ⟨hx, hb, hml, hown, hts, hK, hb0, hR, hnm, hr, hlk⟩ := h
  intro H locs ls hH hS hL
  subst hq
  exact lv_pop hx hb hd hv (k H locs ls hH hS hL)

theorem jk_aconst_null {X : jX} {cc : ByteArray} {own nm : String} {ret : Option FieldType} {rm : Room} {pc q n ce sl : Nat} {lv : List (Option Value)} {st : List Value} {M : jM} (h : jB X cc own nm ret rm) (hd : decode cc pc = .ok (.aconst_null, 1)) (hq : pc + 1 = q) (k : jJ X q lv (.null :: st) n M ce sl) : jJ X pc lv (st) n M ce sl := by
  obtain ⟨p, l, e, R, s, m, args, below, meth, c, Q, D, b0, nL⟩ := X
  obtain ⟨hx, hb, hml, hown, hts, hK, hb0, hR, hnm, hr, hlk⟩ := h
  intro H locs ls hH hS hL
  subst hq
  exact lv_null hx hb hd (k H locs ls hH hS hL)

theorem jk_top {X : jX} {pc n ce sl : Nat} {lv : List (Option Value)} {st st2 : List Value} {M : jM} (he : st = st2) (k : jJ X pc lv st2 n M ce sl) : jJ X pc lv st n M ce sl := he ▸ k

theorem jk_tabIn {X : jX} {cc : ByteArray} {own nm : String} {ret : Option FieldType} {rm : Room} {pc q n ce sl : Nat} {lv : List (Option Value)} {st : List Value} {M : jM} (h : jB X cc own nm ret rm) {a dflt lo hi : Int} {offs : Array Int} {len : Nat} {off : Int} {tgt : Nat} (hd : decode cc pc = .ok (.tableswitch dflt lo hi offs, len)) (ha : jRng a) (h1 : lo ≤ a) (h2 : a ≤ hi) (ho : offs[(a - lo).toNat]? = some off) (ht : (pc : Int) + off = (tgt : Int)) (k : jJ X tgt lv st n M ce sl) : jJ X pc lv (jI a :: st) n M ce sl := by
  obtain ⟨p, l, e, R, s, m, args, below, meth, c, Q, D, b0, nL⟩ := X
  obtain ⟨hx, hb, hml, hown, hts, hK, hb0, hR, hnm, hr, hlk⟩ := h
  intro H locs ls hH hS hL
  have e := jI_toInt ha
  exact lv_tableIn hx hb hd (by rw [e]; omega) (by rw [e]; omega) (by rw [e]; exact ho) ht (k H locs ls hH hS hL)

theorem jk_tabOut {X : jX} {cc : ByteArray} {own nm : String} {ret : Option FieldType} {rm : Room} {pc q n ce sl : Nat} {lv : List (Option Value)} {st : List Value} {M : jM} (h : jB X cc own nm ret rm) {a dflt lo hi : Int} {offs : Array Int} {len : Nat} {tgt : Nat} (hd : decode cc pc = .ok (.tableswitch dflt lo hi offs, len)) (ha : jRng a) (h1 : a < lo ∨ hi < a) (ht : (pc : Int) + dflt = (tgt : Int)) (k : jJ X tgt lv st n M ce sl) : jJ X pc lv (jI a :: st) n M ce sl := by
  obtain ⟨p, l, e, R, s, m, args, below, meth, c, Q, D, b0, nL⟩ := X
  obtain ⟨hx, hb, hml, hown, hts, hK, hb0, hR, hnm, hr, hlk⟩ := h
  intro H locs ls hH hS hL
  have e := jI_toInt ha
  exact lv_tableOut hx hb hd (by rw [e]; exact h1) ht (k H locs ls hH hS hL)

theorem jk_look {X : jX} {cc : ByteArray} {own nm : String} {ret : Option FieldType} {rm : Room} {pc q n ce sl : Nat} {lv : List (Option Value)} {st : List Value} {M : jM} (h : jB X cc own nm ret rm) {a dflt : Int} {ps : Array (Int × Int)} {len : Nat} {off : Int} {tgt : Nat} (hd : decode cc pc = .ok (.lookupswitch dflt ps, len)) (hp : (ps.toList.zip (ps.toList.drop 1)).all (fun (a, next) => a.1 < next.1) = true) (ha : jRng a) (ho : Op.lookupswitch.offset ps.toList dflt a = off) (ht : (pc : Int) + off = (tgt : Int)) (k : jJ X tgt lv st n M ce sl) : jJ X pc lv (jI a :: st) n M ce sl := by
  obtain ⟨p, l, e, R, s, m, args, below, meth, c, Q, D, b0, nL⟩ := X
  obtain ⟨hx, hb, hml, hown, hts, hK, hb0, hR, hnm, hr, hlk⟩ := h
  intro H locs ls hH hS hL
  have e := jI_toInt ha
  exact lv_lookup hx hb hd hp (by rw [e]; exact ho) ht (k H locs ls hH hS hL)

theorem jk_ladd {X : jX} {cc : ByteArray} {own nm : String} {ret : Option FieldType} {rm : Room} {pc q n ce sl : Nat} {lv : List (Option Value)} {st : List Value} {M : jM} (h : jB X cc own nm ret rm) {x y : Int64} (hd : decode cc pc = .ok (.ladd, 1)) (hq : pc + 1 = q) (k : jJ X q lv (.long (x + y) :: st) n M ce sl) : jJ X pc lv (.long y :: .long x :: st) n M ce sl := by
  obtain ⟨p, l, e, R, s, m, args, below, meth, c, Q, D, b0, nL⟩ := X
  obtain ⟨hx, hb, hml, hown, hts, hK, hb0, hR, hnm, hr, hlk⟩ := h
  intro H locs ls hH hS hL
  subst hq
  exact lv_ladd hx hb hd (k H locs ls hH hS hL)

theorem jk_lsub {X : jX} {cc : ByteArray} {own nm : String} {ret : Option FieldType} {rm : Room} {pc q n ce sl : Nat} {lv : List (Option Value)} {st : List Value} {M : jM} (h : jB X cc own nm ret rm) {x y : Int64} (hd : decode cc pc = .ok (.lsub, 1)) (hq : pc + 1 = q) (k : jJ X q lv (.long (x - y) :: st) n M ce sl) : jJ X pc lv (.long y :: .long x :: st) n M ce sl := by
  obtain ⟨p, l, e, R, s, m, args, below, meth, c, Q, D, b0, nL⟩ := X
  obtain ⟨hx, hb, hml, hown, hts, hK, hb0, hR, hnm, hr, hlk⟩ := h
  intro H locs ls hH hS hL
  subst hq
  exact lv_lsub hx hb hd (k H locs ls hH hS hL)

theorem jk_lmul {X : jX} {cc : ByteArray} {own nm : String} {ret : Option FieldType} {rm : Room} {pc q n ce sl : Nat} {lv : List (Option Value)} {st : List Value} {M : jM} (h : jB X cc own nm ret rm) {x y : Int64} (hd : decode cc pc = .ok (.lmul, 1)) (hq : pc + 1 = q) (k : jJ X q lv (.long (x * y) :: st) n M ce sl) : jJ X pc lv (.long y :: .long x :: st) n M ce sl := by
  obtain ⟨p, l, e, R, s, m, args, below, meth, c, Q, D, b0, nL⟩ := X
  obtain ⟨hx, hb, hml, hown, hts, hK, hb0, hR, hnm, hr, hlk⟩ := h
  intro H locs ls hH hS hL
  subst hq
  exact lv_lmul hx hb hd (k H locs ls hH hS hL)

theorem jk_land {X : jX} {cc : ByteArray} {own nm : String} {ret : Option FieldType} {rm : Room} {pc q n ce sl : Nat} {lv : List (Option Value)} {st : List Value} {M : jM} (h : jB X cc own nm ret rm) {x y : Int64} (hd : decode cc pc = .ok (.land, 1)) (hq : pc + 1 = q) (k : jJ X q lv (.long (x &&& y) :: st) n M ce sl) : jJ X pc lv (.long y :: .long x :: st) n M ce sl := by
  obtain ⟨p, l, e, R, s, m, args, below, meth, c, Q, D, b0, nL⟩ := X
  obtain ⟨hx, hb, hml, hown, hts, hK, hb0, hR, hnm, hr, hlk⟩ := h
  intro H locs ls hH hS hL
  subst hq
  exact lv_land hx hb hd (k H locs ls hH hS hL)

theorem jk_lor {X : jX} {cc : ByteArray} {own nm : String} {ret : Option FieldType} {rm : Room} {pc q n ce sl : Nat} {lv : List (Option Value)} {st : List Value} {M : jM} (h : jB X cc own nm ret rm) {x y : Int64} (hd : decode cc pc = .ok (.lor, 1)) (hq : pc + 1 = q) (k : jJ X q lv (.long (x ||| y) :: st) n M ce sl) : jJ X pc lv (.long y :: .long x :: st) n M ce sl := by
  obtain ⟨p, l, e, R, s, m, args, below, meth, c, Q, D, b0, nL⟩ := X
  obtain ⟨hx, hb, hml, hown, hts, hK, hb0, hR, hnm, hr, hlk⟩ := h
  intro H locs ls hH hS hL
  subst hq
  exact lv_lor hx hb hd (k H locs ls hH hS hL)

theorem jk_dmul {X : jX} {cc : ByteArray} {own nm : String} {ret : Option FieldType} {rm : Room} {pc q n ce sl : Nat} {lv : List (Option Value)} {st : List Value} {M : jM} (h : jB X cc own nm ret rm) {x y : UInt64} (hd : decode cc pc = .ok (.dmul, 1)) (hn : vf_n64 (FP.dmul x y)) (hq : pc + 1 = q) (k : jJ X q lv (.double (FP.dmul x y) :: st) n M ce sl) : jJ X pc lv (.double y :: .double x :: st) n M ce sl := by
  obtain ⟨p, l, e, R, s, m, args, below, meth, c, Q, D, b0, nL⟩ := X
  obtain ⟨hx, hb, hml, hown, hts, hK, hb0, hR, hnm, hr, hlk⟩ := h
  intro H locs ls hH hS hL
  subst hq
  exact lv_dmul hx hb hd hn (k H locs ls hH hS hL)

theorem jk_ddiv {X : jX} {cc : ByteArray} {own nm : String} {ret : Option FieldType} {rm : Room} {pc q n ce sl : Nat} {lv : List (Option Value)} {st : List Value} {M : jM} (h : jB X cc own nm ret rm) {x y : UInt64} (hd : decode cc pc = .ok (.ddiv, 1)) (hn : vf_n64 (FP.ddiv x y)) (hq : pc + 1 = q) (k : jJ X q lv (.double (FP.ddiv x y) :: st) n M ce sl) : jJ X pc lv (.double y :: .double x :: st) n M ce sl := by
  obtain ⟨p, l, e, R, s, m, args, below, meth, c, Q, D, b0, nL⟩ := X
  obtain ⟨hx, hb, hml, hown, hts, hK, hb0, hR, hnm, hr, hlk⟩ := h
  intro H locs ls hH hS hL
  subst hq
  exact lv_ddiv hx hb hd hn (k H locs ls hH hS hL)

theorem jk_dsub {X : jX} {cc : ByteArray} {own nm : String} {ret : Option FieldType} {rm : Room} {pc q n ce sl : Nat} {lv : List (Option Value)} {st : List Value} {M : jM} (h : jB X cc own nm ret rm) {x y : UInt64} (hd : decode cc pc = .ok (.dsub, 1)) (hn : vf_n64 (FP.dsub x y)) (hq : pc + 1 = q) (k : jJ X q lv (.double (FP.dsub x y) :: st) n M ce sl) : jJ X pc lv (.double y :: .double x :: st) n M ce sl := by
  obtain ⟨p, l, e, R, s, m, args, below, meth, c, Q, D, b0, nL⟩ := X
  obtain ⟨hx, hb, hml, hown, hts, hK, hb0, hR, hnm, hr, hlk⟩ := h
  intro H locs ls hH hS hL
  subst hq
  exact lv_dsub hx hb hd hn (k H locs ls hH hS hL)

theorem jk_dadd {X : jX} {cc : ByteArray} {own nm : String} {ret : Option FieldType} {rm : Room} {pc q n ce sl : Nat} {lv : List (Option Value)} {st : List Value} {M : jM} (h : jB X cc own nm ret rm) {x y : UInt64} (hd : decode cc pc = .ok (.dadd, 1)) (hn : vf_n64 (FP.dadd x y)) (hq : pc + 1 = q) (k : jJ X q lv (.double (FP.dadd x y) :: st) n M ce sl) : jJ X pc lv (.double y :: .double x :: st) n M ce sl := by
  obtain ⟨p, l, e, R, s, m, args, below, meth, c, Q, D, b0, nL⟩ := X
  obtain ⟨hx, hb, hml, hown, hts, hK, hb0, hR, hnm, hr, hlk⟩ := h
  intro H locs ls hH hS hL
  subst hq
  exact lv_dadd hx hb hd hn (k H locs ls hH hS hL)

theorem jk_i2l {X : jX} {cc : ByteArray} {own nm : String} {ret : Option FieldType} {rm : Room} {pc q n ce sl : Nat} {lv : List (Option Value)} {st : List Value} {M : jM} (h : jB X cc own nm ret rm) {x : Int} (hd : decode cc pc = .ok (.i2l, 1)) (hq : pc + 1 = q) (k : jJ X q lv (.long (Int32.ofInt x).toInt64 :: st) n M ce sl) : jJ X pc lv (jI x :: st) n M ce sl := by
  obtain ⟨p, l, e, R, s, m, args, below, meth, c, Q, D, b0, nL⟩ := X
  obtain ⟨hx, hb, hml, hown, hts, hK, hb0, hR, hnm, hr, hlk⟩ := h
  intro H locs ls hH hS hL
  subst hq
  exact lv_i2l hx hb hd rfl (k H locs ls hH hS hL)

theorem jk_l2i {X : jX} {cc : ByteArray} {own nm : String} {ret : Option FieldType} {rm : Room} {pc q n ce sl : Nat} {lv : List (Option Value)} {st : List Value} {M : jM} (h : jB X cc own nm ret rm) {x : Int64} {z : Int} (hd : decode cc pc = .ok (.l2i, 1)) (hz : x.toInt32 = Int32.ofInt z) (hq : pc + 1 = q) (k : jJ X q lv (jI z :: st) n M ce sl) : jJ X pc lv (.long x :: st) n M ce sl := by
  obtain ⟨p, l, e, R, s, m, args, below, meth, c, Q, D, b0, nL⟩ := X
  obtain ⟨hx, hb, hml, hown, hts, hK, hb0, hR, hnm, hr, hlk⟩ := h
  intro H locs ls hH hS hL
  subst hq
  exact lv_l2i hx hb hd hz (k H locs ls hH hS hL)

theorem jk_i2c {X : jX} {cc : ByteArray} {own nm : String} {ret : Option FieldType} {rm : Room} {pc q n ce sl : Nat} {lv : List (Option Value)} {st : List Value} {M : jM} (h : jB X cc own nm ret rm) {x : Int} (hd : decode cc pc = .ok (.i2c, 1)) (h0 : 0 ≤ x) (h1 : x < 65536) (hq : pc + 1 = q) (k : jJ X q lv (jI x :: st) n M ce sl) : jJ X pc lv (jI x :: st) n M ce sl := by
  obtain ⟨p, l, e, R, s, m, args, below, meth, c, Q, D, b0, nL⟩ := X
  obtain ⟨hx, hb, hml, hown, hts, hK, hb0, hR, hnm, hr, hlk⟩ := h
  intro H locs ls hH hS hL
  subst hq
  exact lv_i2c hx hb hd (jI_i2c h0 h1) (k H locs ls hH hS hL)

theorem jk_lushr {X : jX} {cc : ByteArray} {own nm : String} {ret : Option FieldType} {rm : Room} {pc q n ce sl : Nat} {lv : List (Option Value)} {st : List Value} {M : jM} (h : jB X cc own nm ret rm) {x : Int64} {z : Int} (hd : decode cc pc = .ok (.lushr, 1)) (hq : pc + 1 = q) (k : jJ X q lv (.long ((x.toUInt64 >>> ((Int32.ofInt z).toInt64.toUInt64 &&& Int64.toUInt64 63)).toInt64) :: st) n M ce sl) : jJ X pc lv (jI z :: .long x :: st) n M ce sl := by
  obtain ⟨p, l, e, R, s, m, args, below, meth, c, Q, D, b0, nL⟩ := X
  obtain ⟨hx, hb, hml, hown, hts, hK, hb0, hR, hnm, hr, hlk⟩ := h
  intro H locs ls hH hS hL
  subst hq
  exact lv_lushr hx hb hd rfl (k H locs ls hH hS hL)

theorem jk_lshl {X : jX} {cc : ByteArray} {own nm : String} {ret : Option FieldType} {rm : Room} {pc q n ce sl : Nat} {lv : List (Option Value)} {st : List Value} {M : jM} (h : jB X cc own nm ret rm) {x : Int64} {z : Int} (hd : decode cc pc = .ok (.lshl, 1)) (hq : pc + 1 = q) (k : jJ X q lv (.long (x <<< ((Int32.ofInt z).toInt64 &&& 63)) :: st) n M ce sl) : jJ X pc lv (jI z :: .long x :: st) n M ce sl := by
  obtain ⟨p, l, e, R, s, m, args, below, meth, c, Q, D, b0, nL⟩ := X
  obtain ⟨hx, hb, hml, hown, hts, hK, hb0, hR, hnm, hr, hlk⟩ := h
  intro H locs ls hH hS hL
  subst hq
  exact lv_lshl hx hb hd rfl (k H locs ls hH hS hL)

theorem jk_lshr {X : jX} {cc : ByteArray} {own nm : String} {ret : Option FieldType} {rm : Room} {pc q n ce sl : Nat} {lv : List (Option Value)} {st : List Value} {M : jM} (h : jB X cc own nm ret rm) {x : Int64} {z : Int} (hd : decode cc pc = .ok (.lshr, 1)) (hq : pc + 1 = q) (k : jJ X q lv (.long (x >>> ((Int32.ofInt z).toInt64 &&& 63)) :: st) n M ce sl) : jJ X pc lv (jI z :: .long x :: st) n M ce sl := by
  obtain ⟨p, l, e, R, s, m, args, below, meth, c, Q, D, b0, nL⟩ := X
  obtain ⟨hx, hb, hml, hown, hts, hK, hb0, hR, hnm, hr, hlk⟩ := h
  intro H locs ls hH hS hL
  subst hq
  exact lv_lshr hx hb hd rfl (k H locs ls hH hS hL)

theorem jk_iand {X : jX} {cc : ByteArray} {own nm : String} {ret : Option FieldType} {rm : Room} {pc q n ce sl : Nat} {lv : List (Option Value)} {st : List Value} {M : jM} (h : jB X cc own nm ret rm) {x y : Int} (hd : decode cc pc = .ok (.iand, 1)) {z : Int} (hz : Int32.ofInt x &&& Int32.ofInt y = Int32.ofInt z) (hq : pc + 1 = q) (k : jJ X q lv (jI z :: st) n M ce sl) : jJ X pc lv (jI y :: jI x :: st) n M ce sl := by
  obtain ⟨p, l, e, R, s, m, args, below, meth, c, Q, D, b0, nL⟩ := X
  obtain ⟨hx, hb, hml, hown, hts, hK, hb0, hR, hnm, hr, hlk⟩ := h
  intro H locs ls hH hS hL
  subst hq
  refine lv_iand hx hb hd ?_
  have k := k H locs ls hH hS hL
  rwa [jI, ← hz] at k

theorem jk_lcmp {X : jX} {cc : ByteArray} {own nm : String} {ret : Option FieldType} {rm : Room} {pc q n ce sl : Nat} {lv : List (Option Value)} {st : List Value} {M : jM} (h : jB X cc own nm ret rm) {x y : Int64} {z : Int} (hd : decode cc pc = .ok (.lcmp, 1)) (hz : lg_cmp x y = Int32.ofInt z) (hq : pc + 1 = q) (k : jJ X q lv (jI z :: st) n M ce sl) : jJ X pc lv (.long y :: .long x :: st) n M ce sl := by
  obtain ⟨p, l, e, R, s, m, args, below, meth, c, Q, D, b0, nL⟩ := X
  obtain ⟨hx, hb, hml, hown, hts, hK, hb0, hR, hnm, hr, hlk⟩ := h
  intro H locs ls hH hS hL
  subst hq
  refine W.lcmp hx hb hd ?_
  have k := k H locs ls hH hS hL
  rwa [jI, ← hz] at k

theorem jk_dcmp {X : jX} {cc : ByteArray} {own nm : String} {ret : Option FieldType} {rm : Room} {pc q n ce sl : Nat} {lv : List (Option Value)} {st : List Value} {M : jM} (h : jB X cc own nm ret rm) {x y : UInt64} {op : CmpOp} {z : Int} (hd : decode cc pc = .ok (.dcmp op, 1)) (hz : Op.cmpValue (FP.dcmp x y) op = Int32.ofInt z) (hq : pc + 1 = q) (k : jJ X q lv (jI z :: st) n M ce sl) : jJ X pc lv (.double y :: .double x :: st) n M ce sl := by
  obtain ⟨p, l, e, R, s, m, args, below, meth, c, Q, D, b0, nL⟩ := X
  obtain ⟨hx, hb, hml, hown, hts, hK, hb0, hR, hnm, hr, hlk⟩ := h
  intro H locs ls hH hS hL
  subst hq
  refine lv_dcmp hx hb hd ?_
  have k := k H locs ls hH hS hL
  rwa [jI, ← hz] at k

theorem jk_fcmp {X : jX} {cc : ByteArray} {own nm : String} {ret : Option FieldType} {rm : Room} {pc q n ce sl : Nat} {lv : List (Option Value)} {st : List Value} {M : jM} (h : jB X cc own nm ret rm) {x y : UInt32} {op : CmpOp} {z : Int} (hd : decode cc pc = .ok (.fcmp op, 1)) (hz : Op.cmpValue (FP.fcmp x y) op = Int32.ofInt z) (hq : pc + 1 = q) (k : jJ X q lv (jI z :: st) n M ce sl) : jJ X pc lv (.float y :: .float x :: st) n M ce sl := by
  obtain ⟨p, l, e, R, s, m, args, below, meth, c, Q, D, b0, nL⟩ := X
  obtain ⟨hx, hb, hml, hown, hts, hK, hb0, hR, hnm, hr, hlk⟩ := h
  intro H locs ls hH hS hL
  subst hq
  refine lv_fcmp hx hb hd ?_
  have k := k H locs ls hH hS hL
  rwa [jI, ← hz] at k

theorem jk_i2d {X : jX} {cc : ByteArray} {own nm : String} {ret : Option FieldType} {rm : Room} {pc q n ce sl : Nat} {lv : List (Option Value)} {st : List Value} {M : jM} (h : jB X cc own nm ret rm) {x : Int} (hd : decode cc pc = .ok (.i2d, 1)) (hq : pc + 1 = q) (k : jJ X q lv (.double (FP.i2d (Int32.ofInt x)) :: st) n M ce sl) : jJ X pc lv (jI x :: st) n M ce sl := by
  obtain ⟨p, l, e, R, s, m, args, below, meth, c, Q, D, b0, nL⟩ := X
  obtain ⟨hx, hb, hml, hown, hts, hK, hb0, hR, hnm, hr, hlk⟩ := h
  intro H locs ls hH hS hL
  subst hq
  exact lv_i2d hx hb hd (k H locs ls hH hS hL)

theorem jk_l2d {X : jX} {cc : ByteArray} {own nm : String} {ret : Option FieldType} {rm : Room} {pc q n ce sl : Nat} {lv : List (Option Value)} {st : List Value} {M : jM} (h : jB X cc own nm ret rm) {x : Int64} (hd : decode cc pc = .ok (.l2d, 1)) (hq : pc + 1 = q) (k : jJ X q lv (.double (FP.l2d x) :: st) n M ce sl) : jJ X pc lv (.long x :: st) n M ce sl := by
  obtain ⟨p, l, e, R, s, m, args, below, meth, c, Q, D, b0, nL⟩ := X
  obtain ⟨hx, hb, hml, hown, hts, hK, hb0, hR, hnm, hr, hlk⟩ := h
  intro H locs ls hH hS hL
  subst hq
  exact lv_l2d hx hb hd (k H locs ls hH hS hL)

theorem jk_d2l {X : jX} {cc : ByteArray} {own nm : String} {ret : Option FieldType} {rm : Room} {pc q n ce sl : Nat} {lv : List (Option Value)} {st : List Value} {M : jM} (h : jB X cc own nm ret rm) {x : UInt64} (hd : decode cc pc = .ok (.d2l, 1)) (hq : pc + 1 = q) (k : jJ X q lv (.long (FP.d2l x) :: st) n M ce sl) : jJ X pc lv (.double x :: st) n M ce sl := by
  obtain ⟨p, l, e, R, s, m, args, below, meth, c, Q, D, b0, nL⟩ := X
  obtain ⟨hx, hb, hml, hown, hts, hK, hb0, hR, hnm, hr, hlk⟩ := h
  intro H locs ls hH hS hL
  subst hq
  exact lv_d2l hx hb hd (k H locs ls hH hS hL)

theorem jk_d2f {X : jX} {cc : ByteArray} {own nm : String} {ret : Option FieldType} {rm : Room} {pc q n ce sl : Nat} {lv : List (Option Value)} {st : List Value} {M : jM} (h : jB X cc own nm ret rm) {x : UInt64} (hd : decode cc pc = .ok (.d2f, 1)) (hn : vf_n32 (FP.d2f x)) (hq : pc + 1 = q) (k : jJ X q lv (.float (FP.d2f x) :: st) n M ce sl) : jJ X pc lv (.double x :: st) n M ce sl := by
  obtain ⟨p, l, e, R, s, m, args, below, meth, c, Q, D, b0, nL⟩ := X
  obtain ⟨hx, hb, hml, hown, hts, hK, hb0, hR, hnm, hr, hlk⟩ := h
  intro H locs ls hH hS hL
  subst hq
  exact lv_d2f hx hb hd hn (k H locs ls hH hS hL)

theorem jk_f2d {X : jX} {cc : ByteArray} {own nm : String} {ret : Option FieldType} {rm : Room} {pc q n ce sl : Nat} {lv : List (Option Value)} {st : List Value} {M : jM} (h : jB X cc own nm ret rm) {x : UInt32} (hd : decode cc pc = .ok (.f2d, 1)) (hn : vf_n64 (FP.f2d x)) (hq : pc + 1 = q) (k : jJ X q lv (.double (FP.f2d x) :: st) n M ce sl) : jJ X pc lv (.float x :: st) n M ce sl := by
  obtain ⟨p, l, e, R, s, m, args, below, meth, c, Q, D, b0, nL⟩ := X
  obtain ⟨hx, hb, hml, hown, hts, hK, hb0, hR, hnm, hr, hlk⟩ := h
  intro H locs ls hH hS hL
  subst hq
  exact lv_f2d hx hb hd hn (k H locs ls hH hS hL)

theorem jk_get {X : jX} {cc : ByteArray} {own nm : String} {ret : Option FieldType} {rm : Room} {pc q n ce sl : Nat} {lv : List (Option Value)} {st : List Value} {M : jM} (h : jB X cc own nm ret rm) {ix ci kf o : Nat} {fs : List Value} {v : Value} (hf : jFG own ix ci kf) (hd : decode cc pc = .ok (.getfield ix, 3)) (hM : M o = some (.inr (ci, fs))) (hv : fs[kf]? = some v) (hq : pc + 3 = q) (k : jJ X q lv (v :: st) n M ce sl) : jJ X pc lv (.ref o :: st) n M ce sl := by
  obtain ⟨p, l, e, R, s, m, args, below, meth, c, Q, D, b0, nL⟩ := X
  obtain ⟨hx, hb, hml, hown, hts, hK, hb0, hR, hnm, hr, hlk⟩ := h
  intro H locs ls hH hS hL
  subst hq
  obtain ⟨C, T, N, hC, hin, hlink, hkN⟩ := hf
  refine va_get (D := D) (ci := ci) (T := T) hx hb hts hin hown hK.1 (ws := [(o, .inr (ci, fs))]) (hH.obj hM) 0 rfl hC kf hkN (hts _ hlink) (fun _ h9 => h9) hv hd (k H locs ls hH hS hL)

theorem jk_iald {X : jX} {cc : ByteArray} {own nm : String} {ret : Option FieldType} {rm : Room} {pc q n ce sl : Nat} {lv : List (Option Value)} {st : List Value} {M : jM} (h : jB X cc own nm ret rm) {o len : Nat} {F : Nat → Value} {i : Int} {v : Value} (hd : decode cc pc = .ok (.iaload, 1)) (hM : M o = some (.inl (.int, len, F))) (h0 : 0 ≤ i) (h1 : i < len) (hlen : Nat.ble len 2147483647 = true) (hv : F i.toNat = v) (hq : pc + 1 = q) (k : jJ X q lv (v :: st) n M ce sl) : jJ X pc lv (jI i :: .ref o :: st) n M ce sl := by
  obtain ⟨p, l, e, R, s, m, args, below, meth, c, Q, D, b0, nL⟩ := X
  obtain ⟨hx, hb, hml, hown, hts, hK, hb0, hR, hnm, hr, hlk⟩ := h
  intro H locs ls hH hS hL
  subst hq; subst hv
  obtain ⟨cA, hA, -, hcell⟩ := (hH.2 _ _ hM).2
  obtain ⟨e1, e2⟩ := jI_ix h0 h1 hlen
  exact W.iald (v := F i.toNat) hx hb hcell (hA len F) (fun z => by cases z) (by rw [arrV_size]; exact e1) (by rw [e2]; exact arrV_read _ _ (show i.toNat < len by omega)) rfl rfl hd (k H locs ls hH hS hL)

theorem jk_cald {X : jX} {cc : ByteArray} {own nm : String} {ret : Option FieldType} {rm : Room} {pc q n ce sl : Nat} {lv : List (Option Value)} {st : List Value} {M : jM} (h : jB X cc own nm ret rm) {o len : Nat} {F : Nat → Value} {i : Int} {v : Value} (hd : decode cc pc = .ok (.caload, 1)) (hM : M o = some (.inl (.char, len, F))) (h0 : 0 ≤ i) (h1 : i < len) (hlen : Nat.ble len 2147483647 = true) (hv : F i.toNat = v) (hq : pc + 1 = q) (k : jJ X q lv (v :: st) n M ce sl) : jJ X pc lv (jI i :: .ref o :: st) n M ce sl := by
  obtain ⟨p, l, e, R, s, m, args, below, meth, c, Q, D, b0, nL⟩ := X
  obtain ⟨hx, hb, hml, hown, hts, hK, hb0, hR, hnm, hr, hlk⟩ := h
  intro H locs ls hH hS hL
  subst hq; subst hv
  obtain ⟨cA, hA, -, hcell⟩ := (hH.2 _ _ hM).2
  obtain ⟨e1, e2⟩ := jI_ix h0 h1 hlen
  exact W.cald (v := F i.toNat) hx hb hcell (hA len F) (fun z => by cases z) (by rw [arrV_size]; exact e1) (by rw [e2]; exact arrV_read _ _ (show i.toNat < len by omega)) rfl rfl hd (k H locs ls hH hS hL)

theorem jk_zald {X : jX} {cc : ByteArray} {own nm : String} {ret : Option FieldType} {rm : Room} {pc q n ce sl : Nat} {lv : List (Option Value)} {st : List Value} {M : jM} (h : jB X cc own nm ret rm) {o len : Nat} {F : Nat → Value} {i : Int} {v : Value} (hd : decode cc pc = .ok (.baload, 1)) (hM : M o = some (.inl (.boolean, len, F))) (h0 : 0 ≤ i) (h1 : i < len) (hlen : Nat.ble len 2147483647 = true) (hv : F i.toNat = v) (hq : pc + 1 = q) (k : jJ X q lv (v :: st) n M ce sl) : jJ X pc lv (jI i :: .ref o :: st) n M ce sl := by
  obtain ⟨p, l, e, R, s, m, args, below, meth, c, Q, D, b0, nL⟩ := X
  obtain ⟨hx, hb, hml, hown, hts, hK, hb0, hR, hnm, hr, hlk⟩ := h
  intro H locs ls hH hS hL
  subst hq; subst hv
  obtain ⟨cA, hA, -, hcell⟩ := (hH.2 _ _ hM).2
  obtain ⟨e1, e2⟩ := jI_ix h0 h1 hlen
  exact W.zald (v := F i.toNat) hx hb hcell (hA len F) (fun z => by cases z) (by rw [arrV_size]; exact e1) (by rw [e2]; exact arrV_read _ _ (show i.toNat < len by omega)) rfl rfl hd (k H locs ls hH hS hL)

theorem jk_aald {X : jX} {cc : ByteArray} {own nm : String} {ret : Option FieldType} {rm : Room} {pc q n ce sl : Nat} {lv : List (Option Value)} {st : List Value} {M : jM} (h : jB X cc own nm ret rm) {o len : Nat} {F : Nat → Value} {i : Int} {v : Value} {C : String} (hd : decode cc pc = .ok (.aaload, 1)) (hM : M o = some (.inl (.object C, len, F))) (h0 : 0 ≤ i) (h1 : i < len) (hlen : Nat.ble len 2147483647 = true) (hv : F i.toNat = v) (hq : pc + 1 = q) (k : jJ X q lv (v :: st) n M ce sl) : jJ X pc lv (jI i :: .ref o :: st) n M ce sl := by
  obtain ⟨p, l, e, R, s, m, args, below, meth, c, Q, D, b0, nL⟩ := X
  obtain ⟨hx, hb, hml, hown, hts, hK, hb0, hR, hnm, hr, hlk⟩ := h
  intro H locs ls hH hS hL
  subst hq; subst hv
  obtain ⟨cA, hA, -, hcell⟩ := (hH.2 _ _ hM).2
  obtain ⟨e1, e2⟩ := jI_ix h0 h1 hlen
  exact W.aald (v := F i.toNat) (ty := .object C) hx hb hcell (hA len F) rfl (fun z => by cases z) (by rw [arrV_size]; exact e1) (by rw [e2]; exact arrV_read _ _ (show i.toNat < len by omega)) rfl rfl hd (k H locs ls hH hS hL)

theorem jk_ialdI {X : jX} {cc : ByteArray} {own nm : String} {ret : Option FieldType} {rm : Room} {pc q n ce sl : Nat} {lv : List (Option Value)} {st : List Value} {M : jM} (h : jB X cc own nm ret rm) {o len : Nat} {f : Nat → Int} {i : Int} (hd : decode cc pc = .ok (.iaload, 1)) (hM : M o = some (.inl (.int, len, fun k => jI (f k)))) (h0 : 0 ≤ i) (h1 : i < len) (hlen : Nat.ble len 2147483647 = true) (hq : pc + 1 = q) (k : jJ X q lv (jI (f i.toNat) :: st) n M ce sl) : jJ X pc lv (jI i :: .ref o :: st) n M ce sl := by
  obtain ⟨p, l, e, R, s, m, args, below, meth, c, Q, D, b0, nL⟩ := X
  obtain ⟨hx, hb, hml, hown, hts, hK, hb0, hR, hnm, hr, hlk⟩ := h
  intro H locs ls hH hS hL
  subst hq
  obtain ⟨cA, hA, -, hcell⟩ := (hH.2 _ _ hM).2
  obtain ⟨e1, e2⟩ := jI_ix h0 h1 hlen
  exact W.iald (v := jI (f i.toNat)) hx hb hcell (hA len _) (fun z => by cases z) (by rw [arrV_size]; exact e1) (by rw [e2]; exact arrV_read _ _ (show i.toNat < len by omega)) rfl rfl hd (k H locs ls hH hS hL)

theorem jk_caldI {X : jX} {cc : ByteArray} {own nm : String} {ret : Option FieldType} {rm : Room} {pc q n ce sl : Nat} {lv : List (Option Value)} {st : List Value} {M : jM} (h : jB X cc own nm ret rm) {o len : Nat} {f : Nat → Int} {i : Int} (hd : decode cc pc = .ok (.caload, 1)) (hM : M o = some (.inl (.char, len, fun k => jI (f k)))) (h0 : 0 ≤ i) (h1 : i < len) (hlen : Nat.ble len 2147483647 = true) (hq : pc + 1 = q) (k : jJ X q lv (jI (f i.toNat) :: st) n M ce sl) : jJ X pc lv (jI i :: .ref o :: st) n M ce sl := by
  obtain ⟨p, l, e, R, s, m, args, below, meth, c, Q, D, b0, nL⟩ := X
  obtain ⟨hx, hb, hml, hown, hts, hK, hb0, hR, hnm, hr, hlk⟩ := h
  intro H locs ls hH hS hL
  subst hq
  obtain ⟨cA, hA, -, hcell⟩ := (hH.2 _ _ hM).2
  obtain ⟨e1, e2⟩ := jI_ix h0 h1 hlen
  exact W.cald (v := jI (f i.toNat)) hx hb hcell (hA len _) (fun z => by cases z) (by rw [arrV_size]; exact e1) (by rw [e2]; exact arrV_read _ _ (show i.toNat < len by omega)) rfl rfl hd (k H locs ls hH hS hL)

theorem jk_zaldI {X : jX} {cc : ByteArray} {own nm : String} {ret : Option FieldType} {rm : Room} {pc q n ce sl : Nat} {lv : List (Option Value)} {st : List Value} {M : jM} (h : jB X cc own nm ret rm) {o len : Nat} {f : Nat → Int} {i : Int} (hd : decode cc pc = .ok (.baload, 1)) (hM : M o = some (.inl (.boolean, len, fun k => jI (f k)))) (h0 : 0 ≤ i) (h1 : i < len) (hlen : Nat.ble len 2147483647 = true) (hq : pc + 1 = q) (k : jJ X q lv (jI (f i.toNat) :: st) n M ce sl) : jJ X pc lv (jI i :: .ref o :: st) n M ce sl := by
  obtain ⟨p, l, e, R, s, m, args, below, meth, c, Q, D, b0, nL⟩ := X
  obtain ⟨hx, hb, hml, hown, hts, hK, hb0, hR, hnm, hr, hlk⟩ := h
  intro H locs ls hH hS hL
  subst hq
  obtain ⟨cA, hA, -, hcell⟩ := (hH.2 _ _ hM).2
  obtain ⟨e1, e2⟩ := jI_ix h0 h1 hlen
  exact W.zald (v := jI (f i.toNat)) hx hb hcell (hA len _) (fun z => by cases z) (by rw [arrV_size]; exact e1) (by rw [e2]; exact arrV_read _ _ (show i.toNat < len by omega)) rfl rfl hd (k H locs ls hH hS hL)

theorem jk_if_eqB {X : jX} {cc : ByteArray} {own nm : String} {ret : Option FieldType} {rm : Room} {pc q n ce sl : Nat} {lv : List (Option Value)} {st : List Value} {M : jM} (h : jB X cc own nm ret rm) {p9 : Prop} [Decidable p9] {off : Int} {tgt : Nat} (hd : decode cc pc = .ok (.ifCond .eq off, 3)) (ht : (pc : Int) + off = (tgt : Int)) (hq : pc + 3 = q) (k1 : ¬ p9 → jJ X tgt lv st n M ce sl) (k2 : p9 → jJ X q lv st n M ce sl) : jJ X pc lv (jI (if p9 then 1 else 0) :: st) n M ce sl := by
  obtain ⟨p, l, e, R, s, m, args, below, meth, c, Q, D, b0, nL⟩ := X
  obtain ⟨hx, hb, hml, hown, hts, hK, hb0, hR, hnm, hr, hlk⟩ := h
  intro H locs ls hH hS hL
  subst hq
  by_cases hp9 : p9
  · rw [if_pos hp9]
    exact lv_if_eq hx hb hd ht (fun hc => absurd hc (by decide)) (fun hc => k2 hp9 H locs ls hH hS hL)
  · rw [if_neg hp9]
    exact lv_if_eq hx hb hd ht (fun hc => k1 hp9 H locs ls hH hS hL) (fun hc => absurd rfl hc)

theorem jk_if_neB {X : jX} {cc : ByteArray} {own nm : String} {ret : Option FieldType} {rm : Room} {pc q n ce sl : Nat} {lv : List (Option Value)} {st : List Value} {M : jM} (h : jB X cc own nm ret rm) {p9 : Prop} [Decidable p9] {off : Int} {tgt : Nat} (hd : decode cc pc = .ok (.ifCond .ne off, 3)) (ht : (pc : Int) + off = (tgt : Int)) (hq : pc + 3 = q) (k1 : p9 → jJ X tgt lv st n M ce sl) (k2 : ¬ p9 → jJ X q lv st n M ce sl) : jJ X pc lv (jI (if p9 then 1 else 0) :: st) n M ce sl := by
  obtain ⟨p, l, e, R, s, m, args, below, meth, c, Q, D, b0, nL⟩ := X
  obtain ⟨hx, hb, hml, hown, hts, hK, hb0, hR, hnm, hr, hlk⟩ := h
  intro H locs ls hH hS hL
  subst hq
  by_cases hp9 : p9
  · rw [if_pos hp9]
    exact lv_if_ne hx hb hd ht (fun hc => k1 hp9 H locs ls hH hS hL) (fun hc => absurd hc (by decide))
  · rw [if_neg hp9]
    exact lv_if_ne hx hb hd ht (fun hc => absurd rfl hc) (fun hc => k2 hp9 H locs ls hH hS hL)

theorem jk_alen {X : jX} {cc : ByteArray} {own nm : String} {ret : Option FieldType} {rm : Room} {pc q n ce sl : Nat} {lv : List (Option Value)} {st : List Value} {M : jM} (h : jB X cc own nm ret rm) {o len : Nat} {ty : FieldType} {F : Nat → Value} (hd : decode cc pc = .ok (.arraylength, 1)) (hM : M o = some (.inl (ty, len, F))) (hq : pc + 1 = q) (k : jJ X q lv (jI len :: st) n M ce sl) : jJ X pc lv (.ref o :: st) n M ce sl := by
  obtain ⟨p, l, e, R, s, m, args, below, meth, c, Q, D, b0, nL⟩ := X
  obtain ⟨hx, hb, hml, hown, hts, hK, hb0, hR, hnm, hr, hlk⟩ := h
  intro H locs ls hH hS hL
  subst hq
  obtain ⟨cA, hA, -, hcell⟩ := (hH.2 _ _ hM).2
  exact W.alen (n := Int32.ofInt len) hx hb hcell (hA len F) (by rw [arrV_size]; exact jI_len len) rfl rfl hd (k H locs ls hH hS hL)

theorem jk_iast {X : jX} {cc : ByteArray} {own nm : String} {ret : Option FieldType} {rm : Room} {pc q n ce sl : Nat} {lv : List (Option Value)} {st : List Value} {M : jM} (h : jB X cc own nm ret rm) {o len : Nat} {f : Nat → Int} {i v : Int} (hd : decode cc pc = .ok (.iastore, 1)) (hM : M o = some (.inl (.int, len, fun k => jI (f k)))) (h0 : 0 ≤ i) (h1 : i < len) (hlen : Nat.ble len 2147483647 = true) (hq : pc + 1 = q) (k : ∀ M2, jst M M2 o (.inl (.int, len, fun k => jI (jfup f i.toNat v k))) → jJ X q lv st n M2 ce sl) : jJ X pc lv (jI v :: jI i :: .ref o :: st) n M ce sl := by
  obtain ⟨p, l, e, R, s, m, args, below, meth, c, Q, D, b0, nL⟩ := X
  obtain ⟨hx, hb, hml, hown, hts, hK, hb0, hR, hnm, hr, hlk⟩ := h
  intro H locs ls hH hS hL
  subst hq
  obtain ⟨hbo, cA, hA, hRA, hcell⟩ := hH.2 _ _ hM
  obtain ⟨e1, e2⟩ := jI_ix h0 h1 hlen
  refine W.iast hx hb hcell (hA len _) (fun z => by cases z) (by rw [arrV_size]; exact e1) rfl rfl hd (fun H1 e z oq => ?_)
  rw [e2, arrV_store] at e
  exact k _ (jst_up M o _) H1 _ ls (hH.put hM z oq ⟨cA, hA, hRA, by rw [e]; exact congrArg (fun F => some (arrV cA len F)) (jfup_up f i.toNat v)⟩) (by rw [e2]; exact hS.put z oq hbo) hL

theorem jk_cast {X : jX} {cc : ByteArray} {own nm : String} {ret : Option FieldType} {rm : Room} {pc q n ce sl : Nat} {lv : List (Option Value)} {st : List Value} {M : jM} (h : jB X cc own nm ret rm) {o len : Nat} {f : Nat → Int} {i v : Int} (hd : decode cc pc = .ok (.castore, 1)) (hM : M o = some (.inl (.char, len, fun k => jI (f k)))) (h0 : 0 ≤ i) (h1 : i < len) (hlen : Nat.ble len 2147483647 = true) (hv0 : 0 ≤ v) (hv1 : v < 65536) (hq : pc + 1 = q) (k : ∀ M2, jst M M2 o (.inl (.char, len, fun k => jI (jfup f i.toNat v k))) → jJ X q lv st n M2 ce sl) : jJ X pc lv (jI v :: jI i :: .ref o :: st) n M ce sl := by
  obtain ⟨p, l, e, R, s, m, args, below, meth, c, Q, D, b0, nL⟩ := X
  obtain ⟨hx, hb, hml, hown, hts, hK, hb0, hR, hnm, hr, hlk⟩ := h
  intro H locs ls hH hS hL
  subst hq
  obtain ⟨hbo, cA, hA, hRA, hcell⟩ := hH.2 _ _ hM
  obtain ⟨e1, e2⟩ := jI_ix h0 h1 hlen
  refine W.cast hx hb hcell (hA len _) (fun z => by cases z) (by rw [arrV_size]; exact e1) rfl rfl hd (fun H1 e z oq => ?_)
  rw [jI_narC hv0 hv1] at e
  rw [e2, arrV_store] at e
  exact k _ (jst_up M o _) H1 _ ls (hH.put hM z oq ⟨cA, hA, hRA, by rw [e]; exact congrArg (fun F => some (arrV cA len F)) (jfup_up f i.toNat v)⟩) (by rw [e2]; exact hS.put z oq hbo) hL

theorem jk_zast {X : jX} {cc : ByteArray} {own nm : String} {ret : Option FieldType} {rm : Room} {pc q n ce sl : Nat} {lv : List (Option Value)} {st : List Value} {M : jM} (h : jB X cc own nm ret rm) {o len : Nat} {f : Nat → Int} {i v : Int} (hd : decode cc pc = .ok (.bastore, 1)) (hM : M o = some (.inl (.boolean, len, fun k => jI (f k)))) (h0 : 0 ≤ i) (h1 : i < len) (hlen : Nat.ble len 2147483647 = true) (hv0 : v = 0 ∨ v = 1) (hq : pc + 1 = q) (k : ∀ M2, jst M M2 o (.inl (.boolean, len, fun k => jI (jfup f i.toNat v k))) → jJ X q lv st n M2 ce sl) : jJ X pc lv (jI v :: jI i :: .ref o :: st) n M ce sl := by
  obtain ⟨p, l, e, R, s, m, args, below, meth, c, Q, D, b0, nL⟩ := X
  obtain ⟨hx, hb, hml, hown, hts, hK, hb0, hR, hnm, hr, hlk⟩ := h
  intro H locs ls hH hS hL
  subst hq
  obtain ⟨hbo, cA, hA, hRA, hcell⟩ := hH.2 _ _ hM
  obtain ⟨e1, e2⟩ := jI_ix h0 h1 hlen
  refine W.zast hx hb hcell (hA len _) (fun z => by cases z) (by rw [arrV_size]; exact e1) rfl rfl hd (fun H1 e z oq => ?_)
  rw [jI_narZ hv0] at e
  rw [e2, arrV_store] at e
  exact k _ (jst_up M o _) H1 _ ls (hH.put hM z oq ⟨cA, hA, hRA, by rw [e]; exact congrArg (fun F => some (arrV cA len F)) (jfup_up f i.toNat v)⟩) (by rw [e2]; exact hS.put z oq hbo) hL

theorem jk_aast {X : jX} {cc : ByteArray} {own nm : String} {ret : Option FieldType} {rm : Room} {pc q n ce sl : Nat} {lv : List (Option Value)} {st : List Value} {M : jM} (h : jB X cc own nm ret rm) {o len v ci : Nat} {g : Nat → Option Nat} {fs : List Value} {i : Int} {r : vw_C} (hd : decode cc pc = .ok (.aastore, 1)) (hr9 : vwCl[ci]? = some r) (hM : M o = some (.inl (.object r.1, len, fun k => va_rf (g k)))) (hv : M v = some (.inr (ci, fs))) (h0 : 0 ≤ i) (h1 : i < len) (hlen : Nat.ble len 2147483647 = true) (hq : pc + 1 = q) (k : ∀ M2, jst M M2 o (.inl (.object r.1, len, fun k => va_rf (va_up g i.toNat (some v) k))) → jJ X q lv st n M2 ce sl) : jJ X pc lv (.ref v :: jI i :: .ref o :: st) n M ce sl := by
  obtain ⟨p, l, e, R, s, m, args, below, meth, c, Q, D, b0, nL⟩ := X
  obtain ⟨hx, hb, hml, hown, hts, hK, hb0, hR, hnm, hr, hlk⟩ := h
  intro H locs ls hH hS hL
  subst hq
  obtain ⟨hbo, cA, hA, hRA, hcell⟩ := hH.2 _ _ hM
  obtain ⟨hbv, r', hr', cellV, g1, g2, g3, -⟩ := hH.2 _ _ hv
  obtain ⟨e1, e2⟩ := jI_ix h0 h1 hlen
  have hcls := (hK.1.1 ci r hr9).2
  obtain ⟨kA, comp, k1, k2, k3, -⟩ := id hRA
  have hcomp : comp = D.1 ci := Option.some.inj (k3.symm.trans hcls.1)
  subst hcomp
  obtain ⟨kC, hkC, -⟩ := hcls.2
  refine W.aast hx hb hcell (fun q h => by cases h) (fun h => by cases h) k1 k2 rfl hkC ⟨fun z => e1 (Or.inl z), by rw [arrV_size, e2]; show i.toNat < len; omega⟩ g1 (fun q h => by rw [g3] at h; cases h) (by rw [g2]; exact hkC) (by rw [g2]; exact va_assign hcls) rfl rfl hd (fun H1 e z oq => ?_)
  rw [e2, arrV_store] at e
  exact k _ (jst_up M o _) H1 _ ls (hH.put hM z oq ⟨cA, hA, hRA, by rw [e]; exact congrArg (fun F => some (arrV cA len F)) (jrup_up g i.toNat v)⟩) (by rw [e2]; exact hS.put z oq hbo) hL

theorem jk_put {X : jX} {cc : ByteArray} {own nm : String} {ret : Option FieldType} {rm : Room} {pc q n ce sl : Nat} {lv : List (Option Value)} {st : List Value} {M : jM} (h : jB X cc own nm ret rm) {ix ci kf o : Nat} {fs : List Value} {v : Value} (hf : jFP own ix ci kf false v) (hd : decode cc pc = .ok (.putfield ix, 3)) (hM : M o = some (.inr (ci, fs))) (hlt : kf < fs.length) (hq : pc + 3 = q) (k : ∀ M2, jst M M2 o (.inr (ci, fs.set kf v)) → jJ X q lv st n M2 ce sl) : jJ X pc lv (v :: .ref o :: st) n M ce sl := by
  obtain ⟨p, l, e, R, s, m, args, below, meth, c, Q, D, b0, nL⟩ := X
  obtain ⟨hx, hb, hml, hown, hts, hK, hb0, hR, hnm, hr, hlk⟩ := h
  intro H locs ls hH hS hL
  subst hq
  obtain ⟨C, T, N, ty0, ty, hC, hin, hlink, hkN, hty, hnm2, hfin, hdsc⟩ := hf
  obtain ⟨hbo, r, hr1, cell, q1, q2, q3, q4⟩ := hH.2 _ _ hM
  have hrr : r = (C, T, N) := Option.some.inj (hr1.symm.trans hC)
  subst hrr
  have hap := va_apart (own := own) hts hin ty0 hty hnm2 hK.1 hC
  obtain ⟨hSl, hfc, kC, hkC, hkind⟩ := hK.1.1 ci _ hC
  obtain ⟨cf, kf2, fi, f, hi, hsl⟩ := hSl kf hkN
  have hlay := hts _ (hin _ (u_in_lay hkN))
  unfold u_lay at hlay
  rw [if_neg (by rw [hfin]; decide)] at hlay
  have h6 := u_store hfc hkC hkind hlay hi hdsc.1 hdsc.2.1 hdsc.2.2
  have hst := (u_facts hfc hkC (u_lays hts hin hkN) hi).1
  refine W.putK hx hb (f := f) ⟨hown, hts _ hlink, ⟨_, _, _, hi⟩, hst⟩ (by rw [q2]; exact h6) q1 q3 (by rw [hsl]; exact k2_hasslot (q4 kf hkN)) rfl rfl hd (fun H1 e1 e2 e3 => ?_)
  rw [hsl] at e1 ⊢
  exact k _ (jst_up M o _) H1 _ ls (hH.put hM e2 e3 ⟨_, hC, t_OB.to (V := updV (vp_V fs) kf v) ⟨_, e1, q2, q3, t_set q4 hap hkN v⟩ (fun j _ => vp_updV_set hlt v j)⟩) (hS.put e2 e3 hbo) hL

theorem jk_putF {X : jX} {cc : ByteArray} {own nm : String} {ret : Option FieldType} {rm : Room} {pc q n ce sl : Nat} {lv : List (Option Value)} {st : List Value} {M : jM} (h : jB X cc own nm ret rm) {ix ci kf o : Nat} {fs : List Value} {v : Value} (hf : jFP own ix ci kf true v) (hd : decode cc pc = .ok (.putfield ix, 3)) (hini : nm = "<init>") (hdecl : jdecl ci kf own) (hM : M o = some (.inr (ci, fs))) (hlt : kf < fs.length) (hq : pc + 3 = q) (k : ∀ M2, jst M M2 o (.inr (ci, fs.set kf v)) → jJ X q lv st n M2 ce sl) : jJ X pc lv (v :: .ref o :: st) n M ce sl := by
  obtain ⟨p, l, e, R, s, m, args, below, meth, c, Q, D, b0, nL⟩ := X
  obtain ⟨hx, hb, hml, hown, hts, hK, hb0, hR, hnm, hr, hlk⟩ := h
  intro H locs ls hH hS hL
  subst hq
  obtain ⟨C, T, N, ty0, ty, hC, hin, hlink, hkN, hty, hnm2, hfin, hdsc⟩ := hf
  obtain ⟨hbo, r, hr1, cell, q1, q2, q3, q4⟩ := hH.2 _ _ hM
  have hrr : r = (C, T, N) := Option.some.inj (hr1.symm.trans hC)
  subst hrr
  have hap := va_apart (own := own) hts hin ty0 hty hnm2 hK.1 hC
  obtain ⟨hSl, hfc, kC, hkC, hkind⟩ := hK.1.1 ci _ hC
  obtain ⟨cf, kf2, fi, f, hi, hsl⟩ := hSl kf hkN
  have hlay := hts _ (hin _ (u_in_lay hkN))
  unfold u_lay at hlay
  rw [if_pos hfin] at hlay
  have hst := (u_facts hfc hkC (u_lays hts hin hkN) hi).1
  have hcf : m.cls = cf := by
    obtain ⟨_, _, c', _, _, _, -, -, hf', -, -, -, hown2, -⟩ := Cond.laysFinal_spec hlay
    have e1 : c' = cf := by have := hi.symm.trans hf'; simp at this; exact this.1.symm
    rw [hdecl _ hC] at hown2
    rw [← e1]; exact Option.some.inj (hown.symm.trans hown2)
  have h6 := u_fits hfc hkC hkind (Or.inr hlay) hi hdsc.1 hdsc.2.1 hdsc.2.2
  refine W.putFinK hx hb hown (hts _ hlink) hi hst hcf (hnm.trans hini) (by rw [q2]; exact h6) q1 q3 (by rw [hsl]; exact k2_hasslot (q4 kf hkN)) rfl rfl hd (fun H1 e1 e2 e3 => ?_)
  rw [hsl] at e1 ⊢
  exact k _ (jst_up M o _) H1 _ ls (hH.put hM e2 e3 ⟨_, hC, t_OB.to (V := updV (vp_V fs) kf v) ⟨_, e1, q2, q3, t_set q4 hap hkN v⟩ (fun j _ => vp_updV_set hlt v j)⟩) (hS.put e2 e3 hbo) hL

theorem jk_new {X : jX} {cc : ByteArray} {own nm : String} {ret : Option FieldType} {rm : Room} {pc q n ce sl : Nat} {lv : List (Option Value)} {st : List Value} {M : jM} (h : jB X cc own nm ret rm) {ix ci : Nat} {fs : List Value} (hf : jFN own ix ci fs) (hd : decode cc pc = .ok (.new ix, 3)) (hce : ce + 1 ≤ rm.cells) (hsl : sl + fs.length ≤ rm.slots) (hq : pc + 3 = q) (k : ∀ M2, jst M M2 n (.inr (ci, fs)) → jJ X q lv (.ref n :: st) (n + 1) M2 (ce + 1) (sl + fs.length)) : jJ X pc lv (st) n M ce sl := by
  obtain ⟨p, l, e, R, s, m, args, below, meth, c, Q, D, b0, nL⟩ := X
  obtain ⟨hx, hb, hml, hown, hts, hK, hb0, hR, hnm, hr, hlk⟩ := h
  intro H locs ls hH hS hL
  subst hq; subst hR
  obtain ⟨C, T, N, ty0, hC, hin, hty, hcl, hins, hini, hlen, hfs⟩ := hf
  rw [hlen] at hsl k
  have hKn := hK.1.1 ci _ hC
  have hz0 := hH.1
  refine W.newcK hx hb hown (hts _ hcl) (hts _ hins) (hts _ hini) rfl hd hce hsl hKn.2.1 hz0 (fun H1 kC hkC e1 z1 o1 => ?_)
  refine k _ (jst_up M n _) H1 _ ls (hH.push z1 o1 (by have := hS.1; omega) ⟨_, hC, (u_born ty0 hts hin hKn hkC e1 hty).to hfs⟩) ⟨by have := hS.1; omega, fun x h1 h2 => (o1 x (by have := hS.1; omega)).trans (hS.2.1 x h1 h2), hS.2.2⟩ hL

theorem jk_newa {X : jX} {cc : ByteArray} {own nm : String} {ret : Option FieldType} {rm : Room} {pc q n ce sl : Nat} {lv : List (Option Value)} {st : List Value} {M : jM} (h : jB X cc own nm ret rm) {at9 : ArrayType} {ty : FieldType} {N : Nat} (hd : decode cc pc = .ok (.newarray at9, 2)) (hty : newarray.typeOf at9 = ty) (hw : Cond.arrayClass ty ∈ wsL_law) (hN : Nat.ble N 100000 = true) (hce : ce + 1 ≤ rm.cells) (hsl : sl + N ≤ rm.slots) (hq : pc + 2 = q) (k : ∀ M2, jst M M2 n (.inl (ty, N, fun _ => defaultValue ty)) → jJ X q lv (.ref n :: st) (n + 1) M2 (ce + 1) (sl + N)) : jJ X pc lv (jI N :: st) n M ce sl := by
  obtain ⟨p, l, e, R, s, m, args, below, meth, c, Q, D, b0, nL⟩ := X
  obtain ⟨hx, hb, hml, hown, hts, hK, hb0, hR, hnm, hr, hlk⟩ := h
  intro H locs ls hH hS hL
  subst hq; subst hR; subst hty
  have hz0 := hH.1
  have hN' : N ≤ 100000 := Nat.le_of_ble_eq_true hN
  have hcb : componentBytes (newarray.typeOf at9) ≤ 8 := by cases at9 <;> decide
  refine va_newaK hx hb (hts _ hw) rfl hd rfl (jI_N0 hN') (jI_N1 hN') (Nat.le_trans (Nat.mul_le_mul hN' hcb) (by decide)) hce hsl hz0 (fun H1 cA e1 z1 o1 hAr hNm => ?_)
  refine k _ (jst_up M n _) H1 _ ls (hH.push z1 o1 (by have := hS.1; omega) ⟨cA, hAr, by cases at9 <;> exact hNm, e1⟩) ⟨by have := hS.1; omega, fun x h1 h2 => (o1 x (by have := hS.1; omega)).trans (hS.2.1 x h1 h2), hS.2.2⟩ hL

theorem jk_newq {X : jX} {cc : ByteArray} {own nm : String} {ret : Option FieldType} {rm : Room} {pc q n ce sl : Nat} {lv : List (Option Value)} {st : List Value} {M : jM} (h : jB X cc own nm ret rm) {ix N : Nat} (hd : decode cc pc = .ok (.anewarray ix, 3)) (hw : Cond.classLink own ix "EqualHeights$State" ∈ wsL_law) (hN : Nat.ble N 100000 = true) (hce : ce + 1 ≤ rm.cells) (hsl : sl + N ≤ rm.slots) (hq : pc + 3 = q) (k : ∀ M2, jst M M2 n (.inl (.object "EqualHeights$State", N, fun _ => .null)) → jJ X q lv (.ref n :: st) (n + 1) M2 (ce + 1) (sl + N)) : jJ X pc lv (jI N :: st) n M ce sl := by
  obtain ⟨p, l, e, R, s, m, args, below, meth, c, Q, D, b0, nL⟩ := X
  obtain ⟨hx, hb, hml, hown, hts, hK, hb0, hR, hnm, hr, hlk⟩ := h
  intro H locs ls hH hS hL
  subst hq; subst hR
  have hz0 := hH.1
  have hN' : N ≤ 100000 := Nat.le_of_ble_eq_true hN
  refine W.anew hx hb hown (hts _ hw) (va_AO.use hK.2.1) rfl hd rfl (jI_N0 hN') (by rw [jI_N1 hN']; omega) hce (by rw [jI_N1 hN']; exact hsl) (fun cA kA comp f1 f2 f3 f4 => ?_)
  rw [jI_N1 hN', hz0]
  generalize hH1 : H.push ({ cls := cA, slots := Array.replicate N .null, vm := .none } : Cell) = H1
  have z1 : H1.size = n + 1 := by rw [← hH1, Array.size_push, hz0]
  have e1 : H1[n]? = some (arrV cA N (fun _ => .null)) := by rw [← hH1, ← hz0, Array.getElem?_push_size, ← arrV_new]
  have o1 : ∀ x, x < n → H1[x]? = H[x]? := fun x hx => by
    rw [← hH1, Array.getElem?_push, if_neg (by omega)]
  refine k _ (jst_up M n _) H1 _ ls (hH.push z1 o1 (by have := hS.1; omega) ⟨cA, fun n z => ⟨fun k h => (by cases h), kA, f2, comp, f3⟩, ⟨kA, comp, f2, f3, f4, f1⟩, e1⟩) ⟨by have := hS.1; omega, fun x h1 h2 => (o1 x (by have := hS.1; omega)).trans (hS.2.1 x h1 h2), hS.2.2⟩ hL

theorem jk_objInit {X : jX} {cc : ByteArray} {own nm : String} {ret : Option FieldType} {rm : Room} {pc q n ce sl : Nat} {lv : List (Option Value)} {st : List Value} {M : jM} (h : jB X cc own nm ret rm) {ix a : Nat} (hd : decode cc pc = .ok (.invokespecial ix, 3)) (hl : Cond.methodLink own ix objectInit ∈ wsL_law) (hi : Cond.instanceMethod objectInit ∈ wsL_law) (hcd : Cond.code objectInit ⟨#[0xb1]⟩ 1 none ∈ wsL_law) (hfr : 1 ≤ rm.frames) (hlo : (st.map fun v => v.category).sum + 12 ≤ rm.locals) (hq : pc + 3 = q) (k : jJ X q lv (st) n M ce sl) : jJ X pc lv (.ref a :: st) n M ce sl := by
  obtain ⟨p, l, e, R, s, m, args, below, meth, c, Q, D, b0, nL⟩ := X
  obtain ⟨hx, hb, hml, hown, hts, hK, hb0, hR, hnm, hr, hlk⟩ := h
  intro H locs ls hH hS hL
  subst hq; subst hR
  refine W.objInit hx hb hown (hts _ hl) (hts _ hi) (hts _ hcd) rfl (by rw [hml]; exact hL.1) rfl hd hfr (by show 2 * 0 + _ + 12 ≤ _; omega) ?_
  exact k H locs ls hH hS hL

theorem jk_mmax {X : jX} {cc : ByteArray} {own nm : String} {ret : Option FieldType} {rm : Room} {pc q n ce sl : Nat} {lv : List (Option Value)} {st : List Value} {M : jM} (h : jB X cc own nm ret rm) {ix : Nat} {a b : Int} (hd : decode cc pc = .ok (.invokestatic ix, 3)) (hl : Cond.methodLink own ix Lib.Math.max.name ∈ wsL_law) (hs : Cond.static Lib.Math.max.name ∈ wsL_law) (hi : Cond.initialized "java/lang/Math" ∈ wsL_law) (hcd : Cond.code Lib.Math.max.name Lib.Math.max.code 2 (some .int) ∈ wsL_law) (hfr : 1 ≤ rm.frames) (hlo : (st.map fun v => v.category).sum + 13 ≤ rm.locals) (hce : ce ≤ rm.cells) (hsl : sl ≤ rm.slots) (ha : jRng a) (hb2 : jRng b) (hq : pc + 3 = q) (k : jJ X q lv (jI (if a < b then b else a) :: st) n M ce sl) : jJ X pc lv (jI b :: jI a :: st) n M ce sl := by
  obtain ⟨p, l, e, R, s, m, args, below, meth, c, Q, D, b0, nL⟩ := X
  obtain ⟨hx, hb, hml, hown, hts, hK, hb0, hR, hnm, hr, hlk⟩ := h
  intro H locs ls hH hS hL
  subst hq; subst hR
  refine va_mmax hx hb (hml.trans hL.1.symm) hown (hts _ hl) (hts _ hs) (hts _ hi) (hts _ hcd) hfr hlo hce hsl hd ?_
  have k := k H locs ls hH hS hL
  rwa [jI_max ha hb2] at k

theorem jk_mmin {X : jX} {cc : ByteArray} {own nm : String} {ret : Option FieldType} {rm : Room} {pc q n ce sl : Nat} {lv : List (Option Value)} {st : List Value} {M : jM} (h : jB X cc own nm ret rm) {ix : Nat} {a b : Int} (hd : decode cc pc = .ok (.invokestatic ix, 3)) (hl : Cond.methodLink own ix Lib.Math.min.name ∈ wsL_law) (hs : Cond.static Lib.Math.min.name ∈ wsL_law) (hi : Cond.initialized "java/lang/Math" ∈ wsL_law) (hcd : Cond.code Lib.Math.min.name Lib.Math.min.code 2 (some .int) ∈ wsL_law) (hfr : 1 ≤ rm.frames) (hlo : (st.map fun v => v.category).sum + 13 ≤ rm.locals) (hce : ce ≤ rm.cells) (hsl : sl ≤ rm.slots) (ha : jRng a) (hb2 : jRng b) (hq : pc + 3 = q) (k : jJ X q lv (jI (if b < a then b else a) :: st) n M ce sl) : jJ X pc lv (jI b :: jI a :: st) n M ce sl := by
  obtain ⟨p, l, e, R, s, m, args, below, meth, c, Q, D, b0, nL⟩ := X
  obtain ⟨hx, hb, hml, hown, hts, hK, hb0, hR, hnm, hr, hlk⟩ := h
  intro H locs ls hH hS hL
  subst hq; subst hR
  refine va_mmin hx hb (hml.trans hL.1.symm) hown (hts _ hl) (hts _ hs) (hts _ hi) (hts _ hcd) hfr hlo hce hsl hd ?_
  have k := k H locs ls hH hS hL
  rwa [jI_min ha hb2] at k

theorem jk_mabs {X : jX} {cc : ByteArray} {own nm : String} {ret : Option FieldType} {rm : Room} {pc q n ce sl : Nat} {lv : List (Option Value)} {st : List Value} {M : jM} (h : jB X cc own nm ret rm) {ix : Nat} {a : Int} (hd : decode cc pc = .ok (.invokestatic ix, 3)) (hl : Cond.methodLink own ix Lib.Math.abs.name ∈ wsL_law) (hs : Cond.static Lib.Math.abs.name ∈ wsL_law) (hi : Cond.initialized "java/lang/Math" ∈ wsL_law) (hcd : Cond.code Lib.Math.abs.name Lib.Math.abs.code 1 (some .int) ∈ wsL_law) (hfr : 1 ≤ rm.frames) (hlo : (st.map fun v => v.category).sum + 13 ≤ rm.locals) (hce : ce ≤ rm.cells) (hsl : sl ≤ rm.slots) (ha : jRng a) (hq : pc + 3 = q) (k : jJ X q lv (jI (if 0 ≤ a then a else -a) :: st) n M ce sl) : jJ X pc lv (jI a :: st) n M ce sl := by
  obtain ⟨p, l, e, R, s, m, args, below, meth, c, Q, D, b0, nL⟩ := X
  obtain ⟨hx, hb, hml, hown, hts, hK, hb0, hR, hnm, hr, hlk⟩ := h
  intro H locs ls hH hS hL
  subst hq; subst hR
  refine va_mabs hx hb (hml.trans hL.1.symm) hown (hts _ hl) (hts _ hs) (hts _ hi) (hts _ hcd) hfr hlo hce hsl hd ?_
  have k := k H locs ls hH hS hL
  rwa [jI_abs ha] at k

theorem jk_iret {X : jX} {cc : ByteArray} {own nm : String} {rm : Room} {pc n ce sl mc ms : Nat} {lv : List (Option Value)} {M : jM} {post : Option Value → Nat → jM → Prop} {a : Int} (h : jB X cc own nm (some .int) rm) (hR2 : jR X post mc ms) (hd : decode cc pc = .ok (.ireturn, 1)) (h1 : ce ≤ mc) (h2 : sl ≤ ms) (hp : post (some (jI a)) n M) : jJ X pc lv [jI a] n M ce sl := by
  obtain ⟨p, l, e, R, s, m, args, below, meth, c, Q, D, b0, nL⟩ := X
  obtain ⟨hx, hb, hml, hown, hts, hK, hb0, hR, hnm, hr, hlk⟩ := h
  intro H locs ls hH hS hL
  have hQ : Q = _ := hR2
  subst hQ
  refine W.widen h1 h2 ?_
  exact W.iret hx hb hr (fun t ht hW => ⟨⟨_, n, M, rfl, hp, (hH.moved hW.alike).heap ht⟩, hS.F ht⟩) hS.2.2 hd hlk

theorem jk_lret {X : jX} {cc : ByteArray} {own nm : String} {rm : Room} {pc n ce sl mc ms : Nat} {lv : List (Option Value)} {M : jM} {post : Option Value → Nat → jM → Prop} {a : Int64} (h : jB X cc own nm (some .long) rm) (hR2 : jR X post mc ms) (hd : decode cc pc = .ok (.lreturn, 1)) (h1 : ce ≤ mc) (h2 : sl ≤ ms) (hp : post (some (.long a)) n M) : jJ X pc lv [.long a] n M ce sl := by
  obtain ⟨p, l, e, R, s, m, args, below, meth, c, Q, D, b0, nL⟩ := X
  obtain ⟨hx, hb, hml, hown, hts, hK, hb0, hR, hnm, hr, hlk⟩ := h
  intro H locs ls hH hS hL
  have hQ : Q = _ := hR2
  subst hQ
  refine W.widen h1 h2 ?_
  exact W.lret hx hb hr (fun t ht hW => ⟨⟨_, n, M, rfl, hp, (hH.moved hW.alike).heap ht⟩, hS.F ht⟩) hS.2.2 hd hlk

theorem jk_fret {X : jX} {cc : ByteArray} {own nm : String} {rm : Room} {pc n ce sl mc ms : Nat} {lv : List (Option Value)} {M : jM} {post : Option Value → Nat → jM → Prop} {a : UInt32} (h : jB X cc own nm (some .float) rm) (hR2 : jR X post mc ms) (hd : decode cc pc = .ok (.freturn, 1)) (h1 : ce ≤ mc) (h2 : sl ≤ ms) (hp : post (some (.float a)) n M) : jJ X pc lv [.float a] n M ce sl := by
  obtain ⟨p, l, e, R, s, m, args, below, meth, c, Q, D, b0, nL⟩ := X
  obtain ⟨hx, hb, hml, hown, hts, hK, hb0, hR, hnm, hr, hlk⟩ := h
  intro H locs ls hH hS hL
  have hQ : Q = _ := hR2
  subst hQ
  refine W.widen h1 h2 ?_
  exact W.fret hx hb hr (fun t ht hW => ⟨⟨_, n, M, rfl, hp, (hH.moved hW.alike).heap ht⟩, hS.F ht⟩) hS.2.2 hd hlk

theorem jk_dret {X : jX} {cc : ByteArray} {own nm : String} {rm : Room} {pc n ce sl mc ms : Nat} {lv : List (Option Value)} {M : jM} {post : Option Value → Nat → jM → Prop} {a : UInt64} (h : jB X cc own nm (some .double) rm) (hR2 : jR X post mc ms) (hd : decode cc pc = .ok (.dreturn, 1)) (h1 : ce ≤ mc) (h2 : sl ≤ ms) (hp : post (some (.double a)) n M) : jJ X pc lv [.double a] n M ce sl := by
  obtain ⟨p, l, e, R, s, m, args, below, meth, c, Q, D, b0, nL⟩ := X
  obtain ⟨hx, hb, hml, hown, hts, hK, hb0, hR, hnm, hr, hlk⟩ := h
  intro H locs ls hH hS hL
  have hQ : Q = _ := hR2
  subst hQ
  refine W.widen h1 h2 ?_
  exact W.dret hx hb hr (fun t ht hW => ⟨⟨_, n, M, rfl, hp, (hH.moved hW.alike).heap ht⟩, hS.F ht⟩) hS.2.2 hd hlk

theorem jk_zret {X : jX} {cc : ByteArray} {own nm : String} {rm : Room} {pc n ce sl mc ms : Nat} {lv : List (Option Value)} {M : jM} {post : Option Value → Nat → jM → Prop} {a : Int} (h : jB X cc own nm (some .boolean) rm) (hR2 : jR X post mc ms) (hd : decode cc pc = .ok (.ireturn, 1)) (h1 : ce ≤ mc) (h2 : sl ≤ ms) (ha : a = 0 ∨ a = 1) (hp : post (some (jI a)) n M) : jJ X pc lv [jI a] n M ce sl := by
  obtain ⟨p, l, e, R, s, m, args, below, meth, c, Q, D, b0, nL⟩ := X
  obtain ⟨hx, hb, hml, hown, hts, hK, hb0, hR, hnm, hr, hlk⟩ := h
  intro H locs ls hH hS hL
  have hQ : Q = _ := hR2
  subst hQ
  refine W.widen h1 h2 ?_
  exact W.zret hx hb hr (jI_narZ ha) (fun t ht hW => ⟨⟨_, n, M, rfl, hp, (hH.moved hW.alike).heap ht⟩, hS.F ht⟩) hS.2.2 hd hlk

theorem jk_cret {X : jX} {cc : ByteArray} {own nm : String} {rm : Room} {pc n ce sl mc ms : Nat} {lv : List (Option Value)} {M : jM} {post : Option Value → Nat → jM → Prop} {a : Int} (h : jB X cc own nm (some .char) rm) (hR2 : jR X post mc ms) (hd : decode cc pc = .ok (.ireturn, 1)) (h1 : ce ≤ mc) (h2 : sl ≤ ms) (ha0 : 0 ≤ a) (ha1 : a < 65536) (hp : post (some (jI a)) n M) : jJ X pc lv [jI a] n M ce sl := by
  obtain ⟨p, l, e, R, s, m, args, below, meth, c, Q, D, b0, nL⟩ := X
  obtain ⟨hx, hb, hml, hown, hts, hK, hb0, hR, hnm, hr, hlk⟩ := h
  intro H locs ls hH hS hL
  have hQ : Q = _ := hR2
  subst hQ
  refine W.widen h1 h2 ?_
  exact W.zret hx hb hr (jI_narC ha0 ha1) (fun t ht hW => ⟨⟨_, n, M, rfl, hp, (hH.moved hW.alike).heap ht⟩, hS.F ht⟩) hS.2.2 hd hlk

theorem jk_vret {X : jX} {cc : ByteArray} {own nm : String} {rm : Room} {pc n ce sl mc ms : Nat} {lv : List (Option Value)} {M : jM} {post : Option Value → Nat → jM → Prop} (h : jB X cc own nm none rm) (hR2 : jR X post mc ms) (hd : decode cc pc = .ok (.return_, 1)) (h1 : ce ≤ mc) (h2 : sl ≤ ms) (hp : post none n M) : jJ X pc lv [] n M ce sl := by
  obtain ⟨p, l, e, R, s, m, args, below, meth, c, Q, D, b0, nL⟩ := X
  obtain ⟨hx, hb, hml, hown, hts, hK, hb0, hR, hnm, hr, hlk⟩ := h
  intro H locs ls hH hS hL
  have hQ : Q = _ := hR2
  subst hQ
  refine W.widen h1 h2 ?_
  exact W.vret hx hb hr (fun t ht hW => ⟨⟨_, n, M, rfl, hp, (hH.moved hW.alike).heap ht⟩, hS.F ht⟩) hS.2.2 hd hlk

theorem jk_aret {X : jX} {cc : ByteArray} {own nm C : String} {rm : Room} {pc n ce sl mc ms : Nat} {lv : List (Option Value)} {M : jM} {post : Option Value → Nat → jM → Prop} {a : Nat} (h : jB X cc own nm (some (.object C)) rm) (hR2 : jR X post mc ms) (hd : decode cc pc = .ok (.areturn, 1)) (h1 : ce ≤ mc) (h2 : sl ≤ ms) (hp : post (some (.ref a)) n M) : jJ X pc lv [.ref a] n M ce sl := by
  obtain ⟨p, l, e, R, s, m, args, below, meth, c, Q, D, b0, nL⟩ := X
  obtain ⟨hx, hb, hml, hown, hts, hK, hb0, hR, hnm, hr, hlk⟩ := h
  intro H locs ls hH hS hL
  have hQ : Q = _ := hR2
  subst hQ
  refine W.widen h1 h2 ?_
  exact W.aret hx hb hr (Or.inl ⟨C, rfl⟩) (Or.inr ⟨a, rfl⟩) (fun t ht hW => ⟨⟨_, n, M, rfl, hp, (hH.moved hW.alike).heap ht⟩, hS.F ht⟩) hS.2.2 hd hlk

theorem jk_callS {X : jX} {cc : ByteArray} {own nm : String} {ret : Option FieldType} {rm : Room} {pc q n ce sl : Nat} {lv : List (Option Value)} {st : List Value} {M : jM} (h : jB X cc own nm ret rm) {l9 : Launch} {D9 : va_G} {b9 : Nat} {y : MethodName} {c9 : ByteArray} {nL9 d9 d8 mc ms ix k9 : Nat} {ret9 : Option FieldType} {av rest : List Value} {post : Option Value → Nat → jM → Prop} (hX : jF X l9 D9 b9) (hc : jCtr l9 D9 b9 y c9 nL9 ret9 d9 mc ms (av) n M post) (hy : jMS y c9 nL9 ret9 k9) (hd : decode cc pc = .ok (.invokestatic ix, 3)) (hl : Cond.methodLink own ix y ∈ wsL_law) (hrm : rm.frames = d8 ∧ 33 * d8 ≤ rm.locals) (hdd : Nat.blt d9 d8 = true) (hn9 : Nat.ble nL9 14 = true) (hce : ce + mc ≤ rm.cells) (hsl : sl + ms ≤ rm.slots) (hav : av.length = k9) (hst : av.reverse ++ rest = st) (hcat : (rest.map fun v => v.category).sum ≤ 8) (hq : pc + 3 = q) (k : ∀ v n2 M2, post v n2 M2 → jJ X q lv (v.toList ++ rest) n2 M2 (ce + mc) (sl + ms)) : jJ X pc lv (st) n M ce sl := by
  obtain ⟨p, l, e, R, s, m, args, below, meth, c, Q, D, b0, nL⟩ := X
  obtain ⟨hx, hb, hml, hown, hts, hK, hb0, hR, hnm, hr, hlk⟩ := h
  intro H locs ls hH hS hL
  obtain ⟨hstat, hini, hcode, hy1, hy2, hy3⟩ := hy
  obtain ⟨rfl, rfl, rfl⟩ := hX
  subst hq; subst hst; subst hR
  have hroom : d9 + 1 ≤ R.frames ∧ 8 + (nL9 + 11) + 33 * d9 ≤ R.locals := by
    have h1 := Nat.le_of_ble_eq_true hdd
    have h2 := Nat.le_of_ble_eq_true hn9
    omega
  have hG : GoodIn wsL_law (Cond.code y c9 nL9 ret9 :: wsL_law) := jtGc hcode
  refine jk_run (va_runS (As := av) (n := k9) ⟨hx, hb, hml, hown, hts⟩ hc ⟨callB_of k9 hts hG rfl rfl rfl (hts _ hini) (hts _ hl) ⟨hy1, hy2, hy3⟩ hroom, hts _ hstat⟩ ⟨fun a U g mk z => ⟨z.1, z.2.1.call, z.2.2.1.call, z.2.2.2⟩, fun U hU hW => ⟨rfl, (hH.moved hW.alike).heap hU, hK.moved hW, by rw [hU]; exact Nat.le_trans hb0 hS.1⟩⟩ rfl hav hL.1 rfl (lv_room hcat) hd ⟨hce, hsl⟩) hS (fun v n2 M2 H1 locs1 hp hH1 hS1 => ?_)
  exact k v n2 M2 hp H1 locs1 ls hH1 hS1 hL

theorem jk_callV {X : jX} {cc : ByteArray} {own nm : String} {ret : Option FieldType} {rm : Room} {pc q n ce sl : Nat} {lv : List (Option Value)} {st : List Value} {M : jM} (h : jB X cc own nm ret rm) {o ci : Nat} {fs : List Value} {l9 : Launch} {D9 : va_G} {b9 : Nat} {y : MethodName} {c9 : ByteArray} {nL9 d9 d8 mc ms ix k9 : Nat} {ret9 : Option FieldType} {av rest : List Value} {post : Option Value → Nat → jM → Prop} (hX : jF X l9 D9 b9) (hc : jCtr l9 D9 b9 y c9 nL9 ret9 d9 mc ms (.ref o :: av) n M post) (hy : jMV y c9 nL9 ret9 k9 ci) (hM : M o = some (.inr (ci, fs))) (hd : decode cc pc = .ok (.invokevirtual ix, 3)) (hl : Cond.methodLink own ix y ∈ wsL_law) (hrm : rm.frames = d8 ∧ 33 * d8 ≤ rm.locals) (hdd : Nat.blt d9 d8 = true) (hn9 : Nat.ble nL9 14 = true) (hce : ce + mc ≤ rm.cells) (hsl : sl + ms ≤ rm.slots) (hav : av.length = k9) (hst : av.reverse ++ .ref o :: rest = st) (hcat : (rest.map fun v => v.category).sum ≤ 8) (hq : pc + 3 = q) (k : ∀ v n2 M2, post v n2 M2 → jJ X q lv (v.toList ++ rest) n2 M2 (ce + mc) (sl + ms)) : jJ X pc lv (st) n M ce sl := by
  obtain ⟨p, l, e, R, s, m, args, below, meth, c, Q, D, b0, nL⟩ := X
  obtain ⟨hx, hb, hml, hown, hts, hK, hb0, hR, hnm, hr, hlk⟩ := h
  intro H locs ls hH hS hL
  obtain ⟨hins, hsel, hini, hcode, hy1, hy2, hy3, r9, hr9, hr8⟩ := hy
  obtain ⟨rfl, rfl, rfl⟩ := hX
  subst hq; subst hst; subst hR
  have hroom : d9 + 1 ≤ R.frames ∧ 8 + (nL9 + 11) + 33 * d9 ≤ R.locals := by
    have h1 := Nat.le_of_ble_eq_true hdd
    have h2 := Nat.le_of_ble_eq_true hn9
    omega
  have hG : GoodIn wsL_law (Cond.code y c9 nL9 ret9 :: wsL_law) := jtGc hcode
  refine jk_run (va_runV (As := av) (n := k9) (C := y.cls) ⟨hx, hb, hml, hown, hts⟩ hc ⟨callB_of k9 hts hG rfl rfl rfl (hts _ hini) (hts _ hl) ⟨hy1, hy2, hy3⟩ hroom, hts _ hins, hts _ hsel⟩ ⟨fun a U g mk z => ⟨z.1, z.2.1.call, z.2.2.1.call, z.2.2.2⟩, hr8 ▸ va_recv hK.1 (hH.obj hM) hr9 (q0 := 0) rfl, fun U hU hW => ⟨rfl, (hH.moved hW.alike).heap hU, hK.moved hW, by rw [hU]; exact Nat.le_trans hb0 hS.1⟩⟩ rfl hav hL.1 rfl (lv_room hcat) hd ⟨hce, hsl⟩) hS (fun v n2 M2 H1 locs1 hp hH1 hS1 => ?_)
  exact k v n2 M2 hp H1 locs1 ls hH1 hS1 hL

theorem jk_callI {X : jX} {cc : ByteArray} {own nm : String} {ret : Option FieldType} {rm : Room} {pc q n ce sl : Nat} {lv : List (Option Value)} {st : List Value} {M : jM} (h : jB X cc own nm ret rm) {o : Nat} {l9 : Launch} {D9 : va_G} {b9 : Nat} {y : MethodName} {c9 : ByteArray} {nL9 d9 d8 mc ms ix k9 : Nat} {av rest : List Value} {post : Option Value → Nat → jM → Prop} (hX : jF X l9 D9 b9) (hc : jCtr l9 D9 b9 y c9 nL9 none d9 mc ms (.ref o :: av) n M post) (hy : jMI y c9 nL9 k9) (hd : decode cc pc = .ok (.invokespecial ix, 3)) (hl : Cond.methodLink own ix y ∈ wsL_law) (hrm : rm.frames = d8 ∧ 33 * d8 ≤ rm.locals) (hdd : Nat.blt d9 d8 = true) (hn9 : Nat.ble nL9 14 = true) (hce : ce + mc ≤ rm.cells) (hsl : sl + ms ≤ rm.slots) (hav : av.length = k9) (hst : av.reverse ++ .ref o :: rest = st) (hcat : (rest.map fun v => v.category).sum ≤ 8) (hq : pc + 3 = q) (k : ∀ v n2 M2, post v n2 M2 → jJ X q lv (v.toList ++ rest) n2 M2 (ce + mc) (sl + ms)) : jJ X pc lv (st) n M ce sl := by
  obtain ⟨p, l, e, R, s, m, args, below, meth, c, Q, D, b0, nL⟩ := X
  obtain ⟨hx, hb, hml, hown, hts, hK, hb0, hR, hnm, hr, hlk⟩ := h
  intro H locs ls hH hS hL
  obtain ⟨hins, hnam, hini, hcode, hy1, hy2, hy3⟩ := hy
  obtain ⟨rfl, rfl, rfl⟩ := hX
  subst hq; subst hst; subst hR
  have hroom : d9 + 1 ≤ R.frames ∧ 8 + (nL9 + 11) + 33 * d9 ≤ R.locals := by
    have h1 := Nat.le_of_ble_eq_true hdd
    have h2 := Nat.le_of_ble_eq_true hn9
    omega
  have hG : GoodIn wsL_law (Cond.code y c9 nL9 none :: wsL_law) := jtGc hcode
  refine jk_run (va_runI (As := av) (n := k9) ⟨hx, hb, hml, hown, hts⟩ hc ⟨callB_of k9 hts hG rfl rfl rfl (hts _ hini) (hts _ hl) ⟨hy1, hy2, hy3⟩ hroom, hnam, hts _ hins⟩ ⟨fun a U g mk z => ⟨z.1, z.2.1.call, z.2.2.1.call, z.2.2.2⟩, fun U hU hW => ⟨rfl, (hH.moved hW.alike).heap hU, hK.moved hW, by rw [hU]; exact Nat.le_trans hb0 hS.1⟩⟩ rfl hav hL.1 rfl (lv_room hcat) hd ⟨hce, hsl⟩) hS (fun v n2 M2 H1 locs1 hp hH1 hS1 => ?_)
  exact k v n2 M2 hp H1 locs1 ls hH1 hS1 hL

theorem jk_getN {X : jX} {cc : ByteArray} {own nm : String} {ret : Option FieldType} {rm : Room} {pc q n ce sl : Nat} {lv : List (Option Value)} {st : List Value} {M : jM} (h : jB X cc own nm ret rm) {ix ci kf o : Nat} {fs : List Value} {v : Value} (hf : jFGn own ix ci kf) (hd : decode cc pc = .ok (.getfield ix, 3)) (hM : M o = some (.inr (ci, fs))) (hv : fs[kf]? = some v) (hq : pc + 3 = q) (k : jJ X q lv (v :: st) n M ce sl) : jJ X pc lv (.ref o :: st) n M ce sl := by
  obtain ⟨p, l, e, R, s, m, args, below, meth, c, Q, D, b0, nL⟩ := X
  obtain ⟨hx, hb, hml, hown, hts, hK, hb0, hR, hnm, hr, hlk⟩ := h
  intro H locs ls hH hS hL
  subst hq
  obtain ⟨C, T, N, host, hC, hin, hlink, hkN⟩ := hf
  refine va_getN (D := D) (ci := ci) (T := T) hx hb hts hin hown hK.1 (ws := [(o, .inr (ci, fs))]) (hH.obj hM) 0 rfl hC kf hkN (va_Nw.use rfl (hK.2.2 _ hlink)) (fun _ h9 => h9) hv hd (k H locs ls hH hS hL)

theorem jk_putN {X : jX} {cc : ByteArray} {own nm : String} {ret : Option FieldType} {rm : Room} {pc q n ce sl : Nat} {lv : List (Option Value)} {st : List Value} {M : jM} (h : jB X cc own nm ret rm) {ix ci kf o : Nat} {fs : List Value} {v : Value} (hf : jFPn own ix ci kf v) (hd : decode cc pc = .ok (.putfield ix, 3)) (hM : M o = some (.inr (ci, fs))) (hlt : kf < fs.length) (hq : pc + 3 = q) (k : ∀ M2, jst M M2 o (.inr (ci, fs.set kf v)) → jJ X q lv st n M2 ce sl) : jJ X pc lv (v :: .ref o :: st) n M ce sl := by
  obtain ⟨p, l, e, R, s, m, args, below, meth, c, Q, D, b0, nL⟩ := X
  obtain ⟨hx, hb, hml, hown, hts, hK, hb0, hR, hnm, hr, hlk⟩ := h
  intro H locs ls hH hS hL
  subst hq
  obtain ⟨C, T, N, ty0, ty, host, hC, hin, hlink, hkN, hty, hnm2, hfin, hdsc⟩ := hf
  obtain ⟨hbo, r, hr1, cell, q1, q2, q3, q4⟩ := hH.2 _ _ hM
  have hrr : r = (C, T, N) := Option.some.inj (hr1.symm.trans hC)
  subst hrr
  have hap := va_apart (own := own) hts hin ty0 hty hnm2 hK.1 hC
  obtain ⟨hSl, hfc, kC, hkC, hkind⟩ := hK.1.1 ci _ hC
  obtain ⟨cf, kf2, fi, f, hi, hsl⟩ := hSl kf hkN
  have hlay := hts _ (hin _ (u_in_lay hkN))
  unfold u_lay at hlay
  rw [if_neg (by rw [hfin]; decide)] at hlay
  have h6 := u_store hfc hkC hkind hlay hi hdsc.1 hdsc.2.1 hdsc.2.2
  have hst := (u_facts hfc hkC (u_lays hts hin hkN) hi).1
  refine va_WputK hx hb (f := f) hown (va_Nw.use rfl (hK.2.2 _ hlink)) hi hst (by rw [q2]; exact h6) q1 q3 (by rw [hsl]; exact k2_hasslot (q4 kf hkN)) rfl rfl hd (fun H1 e1 e2 e3 => ?_)
  rw [hsl] at e1 ⊢
  exact k _ (jst_up M o _) H1 _ ls (hH.put hM e2 e3 ⟨_, hC, t_OB.to (V := updV (vp_V fs) kf v) ⟨_, e1, q2, q3, t_set q4 hap hkN v⟩ (fun j _ => vp_updV_set hlt v j)⟩) (hS.put e2 e3 hbo) hL

theorem jk_callSN {X : jX} {cc : ByteArray} {own nm : String} {ret : Option FieldType} {rm : Room} {pc q n ce sl : Nat} {lv : List (Option Value)} {st : List Value} {M : jM} (h : jB X cc own nm ret rm) {l9 : Launch} {D9 : va_G} {b9 : Nat} {y : MethodName} {c9 : ByteArray} {nL9 d9 d8 mc ms ix k9 : Nat} {ret9 : Option FieldType} {av rest : List Value} {post : Option Value → Nat → jM → Prop} (hX : jF X l9 D9 b9) (hc : jCtr l9 D9 b9 y c9 nL9 ret9 d9 mc ms (av) n M post) (hy : jMS y c9 nL9 ret9 k9) (hd : decode cc pc = .ok (.invokestatic ix, 3)) {host : String} (hl : Cond.methodLinkNest own ix y host ∈ jNest) (hrm : rm.frames = d8 ∧ 33 * d8 ≤ rm.locals) (hdd : Nat.blt d9 d8 = true) (hn9 : Nat.ble nL9 14 = true) (hce : ce + mc ≤ rm.cells) (hsl : sl + ms ≤ rm.slots) (hav : av.length = k9) (hst : av.reverse ++ rest = st) (hcat : (rest.map fun v => v.category).sum ≤ 8) (hq : pc + 3 = q) (k : ∀ v n2 M2, post v n2 M2 → jJ X q lv (v.toList ++ rest) n2 M2 (ce + mc) (sl + ms)) : jJ X pc lv (st) n M ce sl := by
  obtain ⟨p, l, e, R, s, m, args, below, meth, c, Q, D, b0, nL⟩ := X
  obtain ⟨hx, hb, hml, hown, hts, hK, hb0, hR, hnm, hr, hlk⟩ := h
  intro H locs ls hH hS hL
  obtain ⟨hstat, hini, hcode, hy1, hy2, hy3⟩ := hy
  obtain ⟨rfl, rfl, rfl⟩ := hX
  subst hq; subst hst; subst hR
  have hroom : d9 + 1 ≤ R.frames ∧ 8 + (nL9 + 11) + 33 * d9 ≤ R.locals := by
    have h1 := Nat.le_of_ble_eq_true hdd
    have h2 := Nat.le_of_ble_eq_true hn9
    omega
  have hG : GoodIn wsL_law (Cond.code y c9 nL9 ret9 :: wsL_law) := jtGc hcode
  refine jk_run (va_runSN (As := av) (n := k9) ⟨hx, hb, hml, hown, hts⟩ hc ⟨va_cnB k9 hts hG rfl rfl rfl (hK.2.2 _ hl) (hts _ hini) ⟨hy1, hy2, hy3⟩ hroom, hts _ hstat, trivial⟩ ⟨fun a U g mk z => ⟨z.1, z.2.1.call, z.2.2.1.call, z.2.2.2⟩, fun U hU hW => ⟨rfl, (hH.moved hW.alike).heap hU, hK.moved hW, by rw [hU]; exact Nat.le_trans hb0 hS.1⟩⟩ rfl hav hL.1 rfl (lv_room hcat) hd ⟨hce, hsl⟩) hS (fun v n2 M2 H1 locs1 hp hH1 hS1 => ?_)
  exact k v n2 M2 hp H1 locs1 ls hH1 hS1 hL

theorem jk_callVN {X : jX} {cc : ByteArray} {own nm : String} {ret : Option FieldType} {rm : Room} {pc q n ce sl : Nat} {lv : List (Option Value)} {st : List Value} {M : jM} (h : jB X cc own nm ret rm) {o ci : Nat} {fs : List Value} {l9 : Launch} {D9 : va_G} {b9 : Nat} {y : MethodName} {c9 : ByteArray} {nL9 d9 d8 mc ms ix k9 : Nat} {ret9 : Option FieldType} {av rest : List Value} {post : Option Value → Nat → jM → Prop} (hX : jF X l9 D9 b9) (hc : jCtr l9 D9 b9 y c9 nL9 ret9 d9 mc ms (.ref o :: av) n M post) (hy : jMV y c9 nL9 ret9 k9 ci) (hM : M o = some (.inr (ci, fs))) (hd : decode cc pc = .ok (.invokevirtual ix, 3)) {host : String} (hl : Cond.methodLinkNest own ix y host ∈ jNest) (hrm : rm.frames = d8 ∧ 33 * d8 ≤ rm.locals) (hdd : Nat.blt d9 d8 = true) (hn9 : Nat.ble nL9 14 = true) (hce : ce + mc ≤ rm.cells) (hsl : sl + ms ≤ rm.slots) (hav : av.length = k9) (hst : av.reverse ++ .ref o :: rest = st) (hcat : (rest.map fun v => v.category).sum ≤ 8) (hq : pc + 3 = q) (k : ∀ v n2 M2, post v n2 M2 → jJ X q lv (v.toList ++ rest) n2 M2 (ce + mc) (sl + ms)) : jJ X pc lv (st) n M ce sl := by
  obtain ⟨p, l, e, R, s, m, args, below, meth, c, Q, D, b0, nL⟩ := X
  obtain ⟨hx, hb, hml, hown, hts, hK, hb0, hR, hnm, hr, hlk⟩ := h
  intro H locs ls hH hS hL
  obtain ⟨hins, hsel, hini, hcode, hy1, hy2, hy3, r9, hr9, hr8⟩ := hy
  obtain ⟨rfl, rfl, rfl⟩ := hX
  subst hq; subst hst; subst hR
  have hroom : d9 + 1 ≤ R.frames ∧ 8 + (nL9 + 11) + 33 * d9 ≤ R.locals := by
    have h1 := Nat.le_of_ble_eq_true hdd
    have h2 := Nat.le_of_ble_eq_true hn9
    omega
  have hG : GoodIn wsL_law (Cond.code y c9 nL9 ret9 :: wsL_law) := jtGc hcode
  refine jk_run (va_runVN (As := av) (n := k9) (C := y.cls) ⟨hx, hb, hml, hown, hts⟩ hc ⟨va_cnB k9 hts hG rfl rfl rfl (hK.2.2 _ hl) (hts _ hini) ⟨hy1, hy2, hy3⟩ hroom, hts _ hins, hts _ hsel⟩ ⟨fun a U g mk z => ⟨z.1, z.2.1.call, z.2.2.1.call, z.2.2.2⟩, hr8 ▸ va_recv hK.1 (hH.obj hM) hr9 (q0 := 0) rfl, fun U hU hW => ⟨rfl, (hH.moved hW.alike).heap hU, hK.moved hW, by rw [hU]; exact Nat.le_trans hb0 hS.1⟩⟩ rfl hav hL.1 rfl (lv_room hcat) hd ⟨hce, hsl⟩) hS (fun v n2 M2 H1 locs1 hp hH1 hS1 => ?_)
  exact k v n2 M2 hp H1 locs1 ls hH1 hS1 hL

theorem jk_callIN {X : jX} {cc : ByteArray} {own nm : String} {ret : Option FieldType} {rm : Room} {pc q n ce sl : Nat} {lv : List (Option Value)} {st : List Value} {M : jM} (h : jB X cc own nm ret rm) {o : Nat} {l9 : Launch} {D9 : va_G} {b9 : Nat} {y : MethodName} {c9 : ByteArray} {nL9 d9 d8 mc ms ix k9 : Nat} {av rest : List Value} {post : Option Value → Nat → jM → Prop} (hX : jF X l9 D9 b9) (hc : jCtr l9 D9 b9 y c9 nL9 none d9 mc ms (.ref o :: av) n M post) (hy : jMI y c9 nL9 k9) (hd : decode cc pc = .ok (.invokespecial ix, 3)) {host : String} (hl : Cond.methodLinkNest own ix y host ∈ jNest) (hrm : rm.frames = d8 ∧ 33 * d8 ≤ rm.locals) (hdd : Nat.blt d9 d8 = true) (hn9 : Nat.ble nL9 14 = true) (hce : ce + mc ≤ rm.cells) (hsl : sl + ms ≤ rm.slots) (hav : av.length = k9) (hst : av.reverse ++ .ref o :: rest = st) (hcat : (rest.map fun v => v.category).sum ≤ 8) (hq : pc + 3 = q) (k : ∀ v n2 M2, post v n2 M2 → jJ X q lv (v.toList ++ rest) n2 M2 (ce + mc) (sl + ms)) : jJ X pc lv (st) n M ce sl := by
  obtain ⟨p, l, e, R, s, m, args, below, meth, c, Q, D, b0, nL⟩ := X
  obtain ⟨hx, hb, hml, hown, hts, hK, hb0, hR, hnm, hr, hlk⟩ := h
  intro H locs ls hH hS hL
  obtain ⟨hins, hnam, hini, hcode, hy1, hy2, hy3⟩ := hy
  obtain ⟨rfl, rfl, rfl⟩ := hX
  subst hq; subst hst; subst hR
  have hroom : d9 + 1 ≤ R.frames ∧ 8 + (nL9 + 11) + 33 * d9 ≤ R.locals := by
    have h1 := Nat.le_of_ble_eq_true hdd
    have h2 := Nat.le_of_ble_eq_true hn9
    omega
  have hG : GoodIn wsL_law (Cond.code y c9 nL9 none :: wsL_law) := jtGc hcode
  refine jk_run (va_runIN (As := av) (n := k9) ⟨hx, hb, hml, hown, hts⟩ hc ⟨va_cnB k9 hts hG rfl rfl rfl (hK.2.2 _ hl) (hts _ hini) ⟨hy1, hy2, hy3⟩ hroom, hnam, hts _ hins⟩ ⟨fun a U g mk z => ⟨z.1, z.2.1.call, z.2.2.1.call, z.2.2.2⟩, fun U hU hW => ⟨rfl, (hH.moved hW.alike).heap hU, hK.moved hW, by rw [hU]; exact Nat.le_trans hb0 hS.1⟩⟩ rfl hav hL.1 rfl (lv_room hcat) hd ⟨hce, hsl⟩) hS (fun v n2 M2 H1 locs1 hp hH1 hS1 => ?_)
  exact k v n2 M2 hp H1 locs1 ls hH1 hS1 hL

