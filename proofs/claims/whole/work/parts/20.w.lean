/-! EqualHeights: the whole object -/
theorem jk_astore_nN {X : jX} {cc : ByteArray} {own nm : String} {ret : Option FieldType} {rm : Room} {pc q n ce sl : Nat} {lv : List (Option Value)} {st : List Value} {M : jM} (h : jB X cc own nm ret rm) {kk : Fin 4} {lv2 : List (Option Value)} (hd : decode cc pc = .ok (.astore_n kk, 1)) (hc : jcat lv (kk : Nat) = true) (hi : (kk : Nat) < lv.length) (h2 : lv.set (kk : Nat) (some .null) = lv2) (hq : pc + 1 = q) (k : jJ X q lv2 st n M ce sl) : jJ X pc lv (.null :: st) n M ce sl := by
  obtain ⟨p, l, e, R, s, m, args, below, meth, c, Q, D, b0, nL⟩ := X
  obtain ⟨hx, hb, hml, hown, hts, hK, hb0, hR, hnm, hr, hlk⟩ := h
  intro H locs ls hH hS hL
  subst hq; subst h2
  exact lv_astore_nN (lv := jas 0 lv) hx hb hd rfl hL.has (by rw [← hL.2.2.1]; exact hi) rfl (fun ls2 h2 => k H locs ls2 hH hS (hL.set1 hc h2))
def jlo (M M2 : jM) (lo h k : Nat) : Prop := ∀ q : Nat, q < lo → (q < h ∨ h + k ≤ q) → M2 q = M q
theorem jout.lo {M M2 : jM} {lo b k h m : Nat} (ho : jout M M2 b k) (h1 : h ≤ b) (h2 : b + k ≤ h + m) : jlo M M2 lo h m := fun q _ hq => ho q (by omega)
theorem jlo.tr {M M2 M3 : jM} {lo h k : Nat} (a : jlo M M2 lo h k) (b : jlo M2 M3 lo h k) : jlo M M3 lo h k := fun q h1 h2 => (b q h1 h2).trans (a q h1 h2)
theorem jlo.rf (M : jM) (lo h k : Nat) : jlo M M lo h k := fun _ _ _ => rfl
theorem jPic.keepl {M M2 : jM} {b lo h k : Nat} {L : List jC} (hp : jPic M b L) (ho : jlo M M2 lo h k) (m : Nat) (hm : L.length = m) (h1 : b + m ≤ lo) (h2 : b + m ≤ h ∨ h + k ≤ b) : jPic M2 b L := fun j x hx => by
  have hl := (List.getElem?_eq_some_iff.mp hx).1
  rw [ho _ (by omega) (by omega)]
  exact hp j x hx
def dyP (M : jM) (n lo : Nat) (L : List Nat) (f : Nat → TS) : Prop := (∀ a ∈ L, lo ≤ a ∧ a + 26 ≤ n ∧ stP M a (f a) ∧ stQ (f a)) ∧ ∀ a ∈ L, ∀ b ∈ L, a ≠ b → a + 26 ≤ b ∨ b + 26 ≤ a
theorem dyP.keep {M M2 : jM} {n lo b k : Nat} {L : List Nat} {f : Nat → TS} (h : dyP M n lo L f) (ho : jout M M2 b k) (hb : b + k ≤ lo) : dyP M2 n lo L f := ⟨fun a ha => ⟨(h.1 a ha).1, (h.1 a ha).2.1, (h.1 a ha).2.2.1.keep ho (Or.inr (Nat.le_trans hb (h.1 a ha).1)), (h.1 a ha).2.2.2⟩, h.2⟩
abbrev fup9 (f : Nat → TS) (a : Nat) (x : TS) : Nat → TS := fun q => if q = a then x else f q
theorem dyP.put {M M2 : jM} {n lo a : Nat} {L : List Nat} {f : Nat → TS} {x : TS} (h : dyP M n lo L f) (ha : a ∈ L) (ho : jout M M2 a 26) (hs : stP M2 a x) (hq : stQ x) : dyP M2 n lo L (fup9 f a x) := ⟨fun b hb => by
  obtain ⟨h1, h2, h3, h4⟩ := h.1 b hb
  by_cases e : b = a
  · subst e
    simp only [fup9, if_true]
    exact ⟨h1, h2, hs, hq⟩
  · simp only [fup9, if_neg e]
    exact ⟨h1, h2, h3.keep ho (h.2 b hb a ha e), h4⟩, h.2⟩
theorem dyP.new {M M2 : jM} {n lo : Nat} {L : List Nat} {f : Nat → TS} {x : TS} (h : dyP M n lo L f) (hn : lo ≤ n) (ho : ∀ q, lo ≤ q → q < n → M2 q = M q) (hs : stP M2 n x) (hq : stQ x) : dyP M2 (n + 26) lo (n :: L) (fup9 f n x) ∧ n ∉ L := by
  have hnot : n ∉ L := fun z => by have := (h.1 n z).2.1; omega
  have hk : ∀ b ∈ L, stP M2 b (f b) := fun b hb => by
    obtain ⟨h1, h2, h3, h4⟩ := h.1 b hb
    have hp : ∀ {c : Nat} {K : List jC} (m : Nat), jPic M c K → K.length = m → lo ≤ c → c + m ≤ n → jPic M2 c K := fun {c K} m hp hm h5 h6 j y hy => by
      have hl := (List.getElem?_eq_some_iff.mp hy).1
      rw [ho _ (by omega) (by omega)]
      exact hp j y hy
    exact ⟨hp 2 h3.1 rfl (by omega) (by omega), hp 3 h3.2.1 rfl (by omega) (by omega), hp 1 h3.2.2.1 rfl (by omega) (by omega), hp 8 h3.2.2.2.1 rfl (by omega) (by omega), hp 8 h3.2.2.2.2.1 rfl (by omega) (by omega), hp 4 h3.2.2.2.2.2 rfl (by omega) (by omega)⟩
  refine ⟨⟨fun b hb => ?_, fun b hb c hc hbc => ?_⟩, hnot⟩
  · by_cases e : b = n
    · subst e
      simp only [fup9, if_true]
      exact ⟨hn, Nat.le_refl _, hs, hq⟩
    · have hb2 : b ∈ L := by rcases List.mem_cons.mp hb with z | z; exact absurd z e; exact z
      obtain ⟨h1, h2, h3, h4⟩ := h.1 b hb2
      simp only [fup9, if_neg e]
      exact ⟨h1, by omega, hk b hb2, h4⟩
  · rcases List.mem_cons.mp hb with rfl | hb <;> rcases List.mem_cons.mp hc with rfl | hc
    · exact absurd rfl hbc
    · have := (h.1 c hc).2.1; omega
    · have := (h.1 b hb).2.1; omega
    · exact h.2 b hb c hc hbc
def rgI (nx : Int) (j : Nat) : Nat := ((nx + 6 - j) % 7).toNat
def ehL (e : Nat) : List jC := [oB 8 [.ref (e + 1), .ref (e + 27), .ref (e + 28), .ref (e + 30), .ref (e + 32), .ref (e + 33)]]
/-- which States stand in the ring and in the slots -/
def rsQ (g gs : Nat → Option Nat) (nx hl : Int) (hk : Nat → TS) (sl : Nat → Option TS) (pr : Option TS) (L : List Nat) (f : Nat → TS) : Prop :=
  (∀ k a, k < 7 → g k = some a → a ∈ L) ∧ (∀ j k a, j < 7 → k < 7 → g j = some a → g k = some a → j = k) ∧
  (∀ j : Nat, (j : Int) < hl → ∃ a, g (rgI nx j) = some a ∧ f a = hk j) ∧
  (∀ i, i < 2 → (gs i = none ∧ sl i = none) ∨ ∃ a, gs i = some a ∧ a ∈ L ∧ sl i = some (f a) ∧ ∀ k, k < 7 → g k ≠ some a) ∧
  (∀ i k a, i < 2 → k < 2 → gs i = some a → gs k = some a → i = k) ∧
  (∀ y, pr = some y → ∃ a, g nx.toNat = some a ∧ f a = y)
def ehP (M : jM) (n e lo : Nat) (x : TS) (hl : Int) (hk : Nat → TS) (sl : Nat → Option TS) (sg : Nat → Int) (len : Int) (pr : Option TS) : Prop :=
  ∃ (g gs : Nat → Option Nat) (nx at9 kd fi se ti : Int) (tr : TC) (L : List Nat) (f : Nat → TS),
    jPic M e (ehL e) ∧ stP M (e + 1) x ∧ jPic M (e + 27) [aS 2 gs] ∧ jPic M (e + 28) (hsL (e + 28) g nx hl) ∧ jPic M (e + 30) (pdL (e + 30) sg len) ∧ jPic M (e + 32) (rdL (e + 30) at9 kd fi se ti) ∧ jPic M (e + 33) (cfP (e + 33) tr) ∧ dyP M n lo L f ∧
    rsQ g gs nx hl hk sl pr L f ∧ stQ x ∧ pdQ sg len ∧ cfQ tr ∧ (0 ≤ nx ∧ nx < 7) ∧ (0 ≤ hl ∧ hl ≤ 6) ∧ e + 41 ≤ lo ∧ lo ≤ n
section EHP
variable {M M2 : jM} {n e lo : Nat} {x : TS} {hl : Int} {hk : Nat → TS} {sl : Nat → Option TS} {sg : Nat → Int} {len : Int} {pr : Option TS}
theorem ehP.e (h : ehP M n e lo x hl hk sl sg len pr) : jPic M e (ehL e) := by
  obtain ⟨g, gs, nx, at9, kd, fi, se, ti, tr, L, f, h1, -⟩ := h
  exact h1
theorem ehP.s (h : ehP M n e lo x hl hk sl sg len pr) : stP M (e + 1) x := by
  obtain ⟨g, gs, nx, at9, kd, fi, se, ti, tr, L, f, h1, h2, -⟩ := h
  exact h2
theorem ehP.l (h : ehP M n e lo x hl hk sl sg len pr) : ∃ gs, jPic M (e + 27) [aS 2 gs] := by
  obtain ⟨g, gs, nx, at9, kd, fi, se, ti, tr, L, f, h1, h2, h3, -⟩ := h
  exact ⟨gs, h3⟩
theorem ehP.h (h : ehP M n e lo x hl hk sl sg len pr) : ∃ g nx, jPic M (e + 28) (hsL (e + 28) g nx hl) ∧ (0 ≤ nx ∧ nx < 7) ∧ (0 ≤ hl ∧ hl ≤ 6) := by
  obtain ⟨g, gs, nx, at9, kd, fi, se, ti, tr, L, f, h1, h2, h3, h4, h5, h6, h7, h8, h9, q1, q2, q3, q4, q5, q6, q7⟩ := h
  exact ⟨g, nx, h4, q4, q5⟩
theorem ehP.d (h : ehP M n e lo x hl hk sl sg len pr) : jPic M (e + 30) (pdL (e + 30) sg len) := by
  obtain ⟨g, gs, nx, at9, kd, fi, se, ti, tr, L, f, h1, h2, h3, h4, h5, -⟩ := h
  exact h5
theorem ehP.r (h : ehP M n e lo x hl hk sl sg len pr) : ∃ at9 kd fi se ti, jPic M (e + 32) (rdL (e + 30) at9 kd fi se ti) := by
  obtain ⟨g, gs, nx, at9, kd, fi, se, ti, tr, L, f, h1, h2, h3, h4, h5, h6, -⟩ := h
  exact ⟨_, _, _, _, _, h6⟩
theorem ehP.c (h : ehP M n e lo x hl hk sl sg len pr) : ∃ tr, jPic M (e + 33) (cfP (e + 33) tr) ∧ cfQ tr := by
  obtain ⟨g, gs, nx, at9, kd, fi, se, ti, tr, L, f, h1, h2, h3, h4, h5, h6, h7, h8, h9, q1, q2, q3, q4, q5, q6, q7⟩ := h
  exact ⟨tr, h7, q3⟩
theorem ehP.q (h : ehP M n e lo x hl hk sl sg len pr) : stQ x ∧ pdQ sg len ∧ (0 ≤ hl ∧ hl ≤ 6) ∧ e + 41 ≤ lo ∧ lo ≤ n := by
  obtain ⟨g, gs, nx, at9, kd, fi, se, ti, tr, L, f, h1, h2, h3, h4, h5, h6, h7, h8, h9, q1, q2, q3, q4, q5, q6, q7⟩ := h
  exact ⟨q1, q2, q5, q6, q7⟩
theorem ehP.now {x2 : TS} (h : ehP M n e lo x hl hk sl sg len pr) (hs : stP M2 (e + 1) x2) (hq : stQ x2) (ho : jout M M2 (e + 1) 26) : ehP M2 n e lo x2 hl hk sl sg len pr := by
  obtain ⟨g, gs, nx, at9, kd, fi, se, ti, tr, L, f, h1, h2, h3, h4, h5, h6, h7, h8, h9, q1, q2, q3, q4, q5, q6, q7⟩ := h
  exact ⟨g, gs, nx, at9, kd, fi, se, ti, tr, L, f, h1.keep ho 1 rfl (by omega), hs, h3.keep ho 1 rfl (by omega), h4.keep ho 2 rfl (by omega), h5.keep ho 2 rfl (by omega), h6.keep ho 1 rfl (by omega), h7.keep ho 8 rfl (by omega), h8.keep ho (by omega), h9, hq, q2, q3, q4, q5, q6, q7⟩
theorem ehP.rdr {at9 kd fi se ti : Int} (h : ehP M n e lo x hl hk sl sg len pr) (hr : jPic M2 (e + 32) (rdL (e + 30) at9 kd fi se ti)) (ho : jout M M2 (e + 32) 1) : ehP M2 n e lo x hl hk sl sg len pr := by
  obtain ⟨g, gs, nx, -, -, -, -, -, tr, L, f, h1, h2, h3, h4, h5, h6, h7, h8, h9, q1, q2, q3, q4, q5, q6, q7⟩ := h
  exact ⟨g, gs, nx, at9, kd, fi, se, ti, tr, L, f, h1.keep ho 1 rfl (by omega), h2.keep ho (by omega), h3.keep ho 1 rfl (by omega), h4.keep ho 2 rfl (by omega), h5.keep ho 2 rfl (by omega), hr, h7.keep ho 8 rfl (by omega), h8.keep ho (by omega), h9, q1, q2, q3, q4, q5, q6, q7⟩
theorem ehP.pdr {sg2 : Nat → Int} {len2 : Int} (h : ehP M n e lo x hl hk sl sg len pr) (hr : jPic M2 (e + 30) (pdL (e + 30) sg2 len2)) (hq : pdQ sg2 len2) (ho : jout M M2 (e + 30) 2) : ehP M2 n e lo x hl hk sl sg2 len2 pr := by
  obtain ⟨g, gs, nx, at9, kd, fi, se, ti, tr, L, f, h1, h2, h3, h4, h5, h6, h7, h8, h9, q1, q2, q3, q4, q5, q6, q7⟩ := h
  exact ⟨g, gs, nx, at9, kd, fi, se, ti, tr, L, f, h1.keep ho 1 rfl (by omega), h2.keep ho (by omega), h3.keep ho 1 rfl (by omega), h4.keep ho 2 rfl (by omega), hr, h6.keep ho 1 rfl (by omega), h7.keep ho 8 rfl (by omega), h8.keep ho (by omega), h9, q1, hq, q3, q4, q5, q6, q7⟩
theorem ehP.trl {tr2 : TC} (h : ehP M n e lo x hl hk sl sg len pr) (hr : jPic M2 (e + 33) (cfP (e + 33) tr2)) (hq : cfQ tr2) (ho : jout M M2 (e + 33) 8) : ehP M2 n e lo x hl hk sl sg len pr := by
  obtain ⟨g, gs, nx, at9, kd, fi, se, ti, tr, L, f, h1, h2, h3, h4, h5, h6, h7, h8, h9, q1, q2, q3, q4, q5, q6, q7⟩ := h
  exact ⟨g, gs, nx, at9, kd, fi, se, ti, tr2, L, f, h1.keep ho 1 rfl (by omega), h2.keep ho (by omega), h3.keep ho 1 rfl (by omega), h4.keep ho 2 rfl (by omega), h5.keep ho 2 rfl (by omega), h6.keep ho 1 rfl (by omega), hr, h8.keep ho (by omega), h9, q1, q2, hq, q4, q5, q6, q7⟩
end EHP
abbrev rcH (r hl : Int) : Int := if 0 ≤ r then jmn (hl + 1) 6 else hl
abbrev rcK (r : Int) (x : TS) (hk : Nat → TS) : Nat → TS := if 0 ≤ r then (fun j => if j = 0 then x else hk (j - 1)) else hk
theorem rgI_0 {nx : Int} (h : 0 ≤ nx ∧ nx < 7) : rgI ((nx + 1) % 7) 0 = nx.toNat := by
  unfold rgI
  omega
theorem rgI_s {nx : Int} (h : 0 ≤ nx ∧ nx < 7) {j : Nat} (hj : j < 6) : rgI ((nx + 1) % 7) (j + 1) = rgI nx j := by
  unfold rgI
  omega
theorem rgI_n {nx : Int} (h : 0 ≤ nx ∧ nx < 7) {j : Nat} (hj : j < 6) : rgI nx j ≠ nx.toNat := by
  unfold rgI
  omega
theorem rgI_lt {nx : Int} (j : Nat) : rgI nx j < 7 := by
  unfold rgI
  omega
theorem rgI_b {nx : Int} (h : 0 ≤ nx ∧ nx < 7) (j : Nat) : rgI (((nx + 7) - 1) % 7) j = rgI nx (j + 1) := by
  unfold rgI
  omega

theorem rsQ_keep {g gs : Nat → Option Nat} {nx hl : Int} {hk : Nat → TS} {sl : Nat → Option TS} {L : List Nat} {f : Nat → TS} {y : TS} (h : rsQ g gs nx hl hk sl (some y) L f) (hn : 0 ≤ nx ∧ nx < 7) (hh : 0 ≤ hl ∧ hl ≤ 6) : rsQ g gs ((nx + 1) % 7) (jmn (hl + 1) 6) (fun j => if j = 0 then y else hk (j - 1)) sl none L f := by
  obtain ⟨a1, a2, a3, a4, a5, a6⟩ := h
  refine ⟨a1, a2, fun j hj => ?_, a4, a5, fun y hy => by cases hy⟩
  cases j with
  | zero =>
    rw [rgI_0 hn]
    simp only [if_true]
    exact a6 y rfl
  | succ j =>
    have hj2 : ((j + 1 : Nat) : Int) < hl + 1 ∧ ((j + 1 : Nat) : Int) < 6 := by
      have : ((j + 1 : Nat) : Int) < (if 6 < hl + 1 then 6 else hl + 1) := hj
      split at this <;> omega
    rw [rgI_s hn (by omega)]
    simp only [Nat.add_one_ne_zero, if_false, Nat.add_sub_cancel]
    exact a3 j (by omega)
theorem rsQ_none {g gs : Nat → Option Nat} {nx hl : Int} {hk : Nat → TS} {sl : Nat → Option TS} {L : List Nat} {f : Nat → TS} {pr : Option TS} (h : rsQ g gs nx hl hk sl pr L f) : rsQ g gs nx hl hk sl none L f := ⟨h.1, h.2.1, h.2.2.1, h.2.2.2.1, h.2.2.2.2.1, fun y hy => by cases hy⟩
/-- the ring's place is written over -/
theorem rsQ_old {g gs : Nat → Option Nat} {nx hl : Int} {hk : Nat → TS} {sl : Nat → Option TS} {L : List Nat} {f : Nat → TS} {pr : Option TS} {y : TS} {a : Nat} (h : rsQ g gs nx hl hk sl pr L f) (hn : 0 ≤ nx ∧ nx < 7) (hh : 0 ≤ hl ∧ hl ≤ 6) (hg : g nx.toNat = some a) : rsQ g gs nx hl hk sl (some y) L (fup9 f a y) := by
  obtain ⟨a1, a2, a3, a4, a5, a6⟩ := h
  refine ⟨a1, a2, fun j hj => ?_, fun i hi => ?_, a5, fun z hz => ⟨a, hg, by cases hz; simp [fup9]⟩⟩
  · obtain ⟨b, h1, h2⟩ := a3 j hj
    refine ⟨b, h1, ?_⟩
    have hne : b ≠ a := fun z => by
      subst z
      exact rgI_n hn (by omega) (a2 _ _ b (rgI_lt j) (by omega) h1 hg)
    simp only [fup9, if_neg hne]
    exact h2
  · rcases a4 i hi with z | ⟨b, h1, h2, h3, h4⟩
    · exact Or.inl z
    · refine Or.inr ⟨b, h1, h2, ?_, h4⟩
      have hne : b ≠ a := fun z => by
        subst z
        exact h4 nx.toNat (by omega) hg
      simp only [fup9, if_neg hne]
      exact h3
theorem rsQ_new {g gs : Nat → Option Nat} {nx hl : Int} {hk : Nat → TS} {sl : Nat → Option TS} {L : List Nat} {f : Nat → TS} {pr : Option TS} {y : TS} {a : Nat} (h : rsQ g gs nx hl hk sl pr L f) (hn : 0 ≤ nx ∧ nx < 7) (hh : 0 ≤ hl ∧ hl ≤ 6) (hg : g nx.toNat = none) (ha : a ∉ L) : rsQ (va_up g nx.toNat (some a)) gs nx hl hk sl (some y) (a :: L) (fup9 f a y) := by
  obtain ⟨a1, a2, a3, a4, a5, a6⟩ := h
  have hu : ∀ k b, va_up g nx.toNat (some a) k = some b → (k = nx.toNat ∧ b = a) ∨ (k ≠ nx.toNat ∧ g k = some b) := fun k b hb => by
    unfold va_up at hb
    by_cases e : k = nx.toNat
    · rw [if_pos e] at hb
      exact Or.inl ⟨e, (Option.some.inj hb).symm⟩
    · rw [if_neg e] at hb
      exact Or.inr ⟨e, hb⟩
  have hneq : ∀ {b : Nat}, b ∈ L → b ≠ a := fun hb z => ha (z ▸ hb)
  refine ⟨fun k b hk hb => ?_, fun j k b hj hk h1 h2 => ?_, fun j hj => ?_, fun i hi => ?_, a5, fun z hz => ⟨a, by simp [va_up], by cases hz; simp [fup9]⟩⟩
  · rcases hu k b hb with ⟨-, rfl⟩ | ⟨-, z⟩
    · exact List.mem_cons_self
    · exact List.mem_cons_of_mem _ (a1 k b hk z)
  · rcases hu j b h1 with ⟨z1, z2⟩ | ⟨z1, z2⟩ <;> rcases hu k b h2 with ⟨w1, w2⟩ | ⟨w1, w2⟩
    · omega
    · exact absurd z2 (hneq (a1 k b hk w2))
    · exact absurd w2 (hneq (a1 j b hj z2))
    · exact a2 j k b hj hk z2 w2
  · obtain ⟨b, h1, h2⟩ := a3 j hj
    refine ⟨b, ?_, ?_⟩
    · unfold va_up
      rw [if_neg (rgI_n hn (by omega))]
      exact h1
    · simp only [fup9, if_neg (hneq (a1 _ b (rgI_lt j) h1))]
      exact h2
  · rcases a4 i hi with z | ⟨b, h1, h2, h3, h4⟩
    · exact Or.inl z
    · refine Or.inr ⟨b, h1, List.mem_cons_of_mem _ h2, ?_, fun k hk hb => ?_⟩
      · simp only [fup9, if_neg (hneq h2)]
        exact h3
      · rcases hu k b hb with ⟨-, z⟩ | ⟨-, z⟩
        · exact hneq h2 z
        · exact h4 k hk z
