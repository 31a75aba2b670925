/-! EqualHeights: the whole object -/
theorem jk_astore_nN {X : jX} {cc : ByteArray} {own nm : String} {ret : Option FieldType} {rm : Room} {pc q n ce sl : Nat} {lv : List (Option Value)} {st : List Value} {M : jM} (h : jB X cc own nm ret rm) {kk : Fin 4} {lv2 : List (Option Value)} (hd : decode cc pc = .ok (.astore_n kk, 1)) (hc : jcat lv (kk : Nat) = true) (hi : (kk : Nat) < lv.length) (h2 : lv.set (kk : Nat) (some .null) = lv2) (hq : pc + 1 = q) (k : jJ X q lv2 st n M ce sl) : jJ X pc lv (.null :: st) n M ce sl := by
  obtain ⟨p, l, e, R, s, m, args, below, meth, c, Q, D, b0, nL⟩ := X
  obtain ⟨hx, hb, hml, hown, hts, hK, hb0, hR, hnm, hr, hlk⟩ := h
  intro H locs ls hH hS hL
  subst hq; subst h2
  exact lv_astore_nN (lv := jas 0 lv) hx hb hd rfl hL.has (by rw [← hL.2.2.1]; exact hi) rfl (fun ls2 h2 => k H locs ls2 hH hS (hL.set1 hc h2))
def jlo (M M2 : jM) (lo h k : Nat) : Prop := ∀ q : Nat, q < lo → (q < h ∨ h + k ≤ q) → M2 q = M q
theorem jout.lo {M M2 : jM} {lo b k h m : Nat} (ho : jout M M2 b k) (h1 : h ≤ b) (h2 : b + k ≤ h + m) : jlo M M2 lo h m := fun q _ hq => ho q (by omega)
theorem jlo.tr {M M2 M3 : jM} {lo h k : Nat} (a : jlo M M2 lo h k) (b : jlo M2 M3 lo h k) : jlo M M3 lo h k := fun q h1 h2 => (b q h1 h2).trans (a q h1 h2)
theorem jlo.rf (M : jM) (lo h k : Nat) : jlo M M lo h k := fun _ _ _ => rfl
theorem jPic.keepl {M M2 : jM} {b lo h k : Nat} {L : List jC} (hp : jPic M b L) (ho : jlo M M2 lo h k) (m : Nat) (hm : L.length = m) (h1 : b + m ≤ lo) (h2 : b + m ≤ h ∨ h + k ≤ b) : jPic M2 b L := fun j x hx => by
  have hl := (List.getElem?_eq_some_iff.mp hx).1
  rw [ho _ (by omega) (by omega)]
  exact hp j x hx
def dyP (M : jM) (n lo : Nat) (L : List Nat) (f : Nat → TS) : Prop := (∀ a ∈ L, lo ≤ a ∧ a + 26 ≤ n ∧ stP M a (f a) ∧ stQ (f a)) ∧ ∀ a ∈ L, ∀ b ∈ L, a ≠ b → a + 26 ≤ b ∨ b + 26 ≤ a
theorem dyP.keep {M M2 : jM} {n lo b k : Nat} {L : List Nat} {f : Nat → TS} (h : dyP M n lo L f) (ho : jout M M2 b k) (hb : b + k ≤ lo) : dyP M2 n lo L f := ⟨fun a ha => ⟨(h.1 a ha).1, (h.1 a ha).2.1, (h.1 a ha).2.2.1.keep ho (Or.inr (Nat.le_trans hb (h.1 a ha).1)), (h.1 a ha).2.2.2⟩, h.2⟩
abbrev fup9 (f : Nat → TS) (a : Nat) (x : TS) : Nat → TS := fun q => if q = a then x else f q
theorem dyP.put {M M2 : jM} {n lo a : Nat} {L : List Nat} {f : Nat → TS} {x : TS} (h : dyP M n lo L f) (ha : a ∈ L) (ho : jout M M2 a 26) (hs : stP M2 a x) (hq : stQ x) : dyP M2 n lo L (fup9 f a x) := ⟨fun b hb => by
  obtain ⟨h1, h2, h3, h4⟩ := h.1 b hb
  by_cases e : b = a
  · subst e
    simp only [fup9, if_true]
    exact ⟨h1, h2, hs, hq⟩
  · simp only [fup9, if_neg e]
    exact ⟨h1, h2, h3.keep ho (h.2 b hb a ha e), h4⟩, h.2⟩
theorem dyP.new {M M2 : jM} {n lo : Nat} {L : List Nat} {f : Nat → TS} {x : TS} (h : dyP M n lo L f) (hn : lo ≤ n) (ho : ∀ q, lo ≤ q → q < n → M2 q = M q) (hs : stP M2 n x) (hq : stQ x) : dyP M2 (n + 26) lo (n :: L) (fup9 f n x) ∧ n ∉ L := by
  have hnot : n ∉ L := fun z => by have := (h.1 n z).2.1; omega
  have hk : ∀ b ∈ L, stP M2 b (f b) := fun b hb => by
    obtain ⟨h1, h2, h3, h4⟩ := h.1 b hb
    have hp : ∀ {c : Nat} {K : List jC} (m : Nat), jPic M c K → K.length = m → lo ≤ c → c + m ≤ n → jPic M2 c K := fun {c K} m hp hm h5 h6 j y hy => by
      have hl := (List.getElem?_eq_some_iff.mp hy).1
      rw [ho _ (by omega) (by omega)]
      exact hp j y hy
    exact ⟨hp 2 h3.1 rfl (by omega) (by omega), hp 3 h3.2.1 rfl (by omega) (by omega), hp 1 h3.2.2.1 rfl (by omega) (by omega), hp 8 h3.2.2.2.1 rfl (by omega) (by omega), hp 8 h3.2.2.2.2.1 rfl (by omega) (by omega), hp 4 h3.2.2.2.2.2 rfl (by omega) (by omega)⟩
  refine ⟨⟨fun b hb => ?_, fun b hb c hc hbc => ?_⟩, hnot⟩
  · by_cases e : b = n
    · subst e
      simp only [fup9, if_true]
      exact ⟨hn, Nat.le_refl _, hs, hq⟩
    · have hb2 : b ∈ L := by rcases List.mem_cons.mp hb with z | z; exact absurd z e; exact z
      obtain ⟨h1, h2, h3, h4⟩ := h.1 b hb2
      simp only [fup9, if_neg e]
      exact ⟨h1, by omega, hk b hb2, h4⟩
  · rcases List.mem_cons.mp hb with e1 | e1 <;> rcases List.mem_cons.mp hc with e2 | e2
    · exact absurd (e1.trans e2.symm) hbc
    · have := (h.1 c e2).2.1; omega
    · have := (h.1 b e1).2.1; omega
    · exact h.2 b e1 c e2 hbc
def rgI (nx : Int) (j : Nat) : Nat := ((nx + 6 - j) % 7).toNat
def ehL (e : Nat) : List jC := [oB 8 [.ref (e + 1), .ref (e + 27), .ref (e + 28), .ref (e + 30), .ref (e + 32), .ref (e + 33)]]
/-- which States stand in the ring and in the slots -/
def rsQ (g gs : Nat → Option Nat) (nx hl : Int) (hk : Nat → TS) (sl : Nat → Option TS) (pr : Option TS) (L : List Nat) (f : Nat → TS) : Prop :=
  (∀ k a, k < 7 → g k = some a → a ∈ L) ∧ (∀ j k a, j < 7 → k < 7 → g j = some a → g k = some a → j = k) ∧
  (∀ j : Nat, (j : Int) < hl → ∃ a, g (rgI nx j) = some a ∧ f a = hk j) ∧
  (∀ i, i < 2 → (gs i = none ∧ sl i = none) ∨ ∃ a, gs i = some a ∧ a ∈ L ∧ sl i = some (f a) ∧ ∀ k, k < 7 → g k ≠ some a) ∧
  (∀ i k a, i < 2 → k < 2 → gs i = some a → gs k = some a → i = k) ∧
  (∀ y, pr = some y → ∃ a, g nx.toNat = some a ∧ f a = y)
def ehP (M : jM) (n e lo : Nat) (x : TS) (hl : Int) (hk : Nat → TS) (sl : Nat → Option TS) (sg : Nat → Int) (len : Int) (pr : Option TS) : Prop :=
  ∃ (g gs : Nat → Option Nat) (nx at9 kd fi se ti : Int) (tr : TC) (L : List Nat) (f : Nat → TS),
    jPic M e (ehL e) ∧ stP M (e + 1) x ∧ jPic M (e + 27) [aS 2 gs] ∧ jPic M (e + 28) (hsL (e + 28) g nx hl) ∧ jPic M (e + 30) (pdL (e + 30) sg len) ∧ jPic M (e + 32) (rdL (e + 30) at9 kd fi se ti) ∧ jPic M (e + 33) (cfP (e + 33) tr) ∧ dyP M n lo L f ∧
    rsQ g gs nx hl hk sl pr L f ∧ stQ x ∧ pdQ sg len ∧ cfQ tr ∧ (0 ≤ nx ∧ nx < 7) ∧ (0 ≤ hl ∧ hl ≤ 6) ∧ e + 41 ≤ lo ∧ lo ≤ n
section EHP
variable {M M2 : jM} {n e lo : Nat} {x : TS} {hl : Int} {hk : Nat → TS} {sl : Nat → Option TS} {sg : Nat → Int} {len : Int} {pr : Option TS}
theorem ehP.ob (h : ehP M n e lo x hl hk sl sg len pr) : jPic M e (ehL e) := by
  obtain ⟨g, gs, nx, at9, kd, fi, se, ti, tr, L, f, h1, -⟩ := h
  exact h1
theorem ehP.st (h : ehP M n e lo x hl hk sl sg len pr) : stP M (e + 1) x := by
  obtain ⟨g, gs, nx, at9, kd, fi, se, ti, tr, L, f, h1, h2, -⟩ := h
  exact h2
theorem ehP.sls (h : ehP M n e lo x hl hk sl sg len pr) : ∃ gs, jPic M (e + 27) [aS 2 gs] := by
  obtain ⟨g, gs, nx, at9, kd, fi, se, ti, tr, L, f, h1, h2, h3, -⟩ := h
  exact ⟨gs, h3⟩
theorem ehP.his (h : ehP M n e lo x hl hk sl sg len pr) : ∃ g nx, jPic M (e + 28) (hsL (e + 28) g nx hl) ∧ (0 ≤ nx ∧ nx < 7) ∧ (0 ≤ hl ∧ hl ≤ 6) := by
  obtain ⟨g, gs, nx, at9, kd, fi, se, ti, tr, L, f, h1, h2, h3, h4, h5, h6, h7, h8, h9, q1, q2, q3, q4, q5, q6, q7⟩ := h
  exact ⟨g, nx, h4, q4, q5⟩
theorem ehP.pd (h : ehP M n e lo x hl hk sl sg len pr) : jPic M (e + 30) (pdL (e + 30) sg len) := by
  obtain ⟨g, gs, nx, at9, kd, fi, se, ti, tr, L, f, h1, h2, h3, h4, h5, -⟩ := h
  exact h5
theorem ehP.rd (h : ehP M n e lo x hl hk sl sg len pr) : ∃ at9 kd fi se ti, jPic M (e + 32) (rdL (e + 30) at9 kd fi se ti) := by
  obtain ⟨g, gs, nx, at9, kd, fi, se, ti, tr, L, f, h1, h2, h3, h4, h5, h6, -⟩ := h
  exact ⟨_, _, _, _, _, h6⟩
theorem ehP.tri (h : ehP M n e lo x hl hk sl sg len pr) : ∃ tr, jPic M (e + 33) (cfP (e + 33) tr) ∧ cfQ tr := by
  obtain ⟨g, gs, nx, at9, kd, fi, se, ti, tr, L, f, h1, h2, h3, h4, h5, h6, h7, h8, h9, q1, q2, q3, q4, q5, q6, q7⟩ := h
  exact ⟨tr, h7, q3⟩
theorem ehP.qs (h : ehP M n e lo x hl hk sl sg len pr) : stQ x ∧ pdQ sg len ∧ (0 ≤ hl ∧ hl ≤ 6) ∧ e + 41 ≤ lo ∧ lo ≤ n := by
  obtain ⟨g, gs, nx, at9, kd, fi, se, ti, tr, L, f, h1, h2, h3, h4, h5, h6, h7, h8, h9, q1, q2, q3, q4, q5, q6, q7⟩ := h
  exact ⟨q1, q2, q5, q6, q7⟩
theorem ehP.now {x2 : TS} (h : ehP M n e lo x hl hk sl sg len pr) (hs : stP M2 (e + 1) x2) (hq : stQ x2) (ho : jout M M2 (e + 1) 26) : ehP M2 n e lo x2 hl hk sl sg len pr := by
  obtain ⟨g, gs, nx, at9, kd, fi, se, ti, tr, L, f, h1, h2, h3, h4, h5, h6, h7, h8, h9, q1, q2, q3, q4, q5, q6, q7⟩ := h
  exact ⟨g, gs, nx, at9, kd, fi, se, ti, tr, L, f, h1.keep ho 1 rfl (by omega), hs, h3.keep ho 1 rfl (by omega), h4.keep ho 2 rfl (by omega), h5.keep ho 2 rfl (by omega), h6.keep ho 1 rfl (by omega), h7.keep ho 8 rfl (by omega), h8.keep ho (by omega), h9, hq, q2, q3, q4, q5, q6, q7⟩
theorem ehP.rdr {at9 kd fi se ti : Int} (h : ehP M n e lo x hl hk sl sg len pr) (hr : jPic M2 (e + 32) (rdL (e + 30) at9 kd fi se ti)) (ho : jout M M2 (e + 32) 1) : ehP M2 n e lo x hl hk sl sg len pr := by
  obtain ⟨g, gs, nx, -, -, -, -, -, tr, L, f, h1, h2, h3, h4, h5, h6, h7, h8, h9, q1, q2, q3, q4, q5, q6, q7⟩ := h
  exact ⟨g, gs, nx, at9, kd, fi, se, ti, tr, L, f, h1.keep ho 1 rfl (by omega), h2.keep ho (by omega), h3.keep ho 1 rfl (by omega), h4.keep ho 2 rfl (by omega), h5.keep ho 2 rfl (by omega), hr, h7.keep ho 8 rfl (by omega), h8.keep ho (by omega), h9, q1, q2, q3, q4, q5, q6, q7⟩
theorem ehP.pdr {sg2 : Nat → Int} {len2 : Int} (h : ehP M n e lo x hl hk sl sg len pr) (hr : jPic M2 (e + 30) (pdL (e + 30) sg2 len2)) (hq : pdQ sg2 len2) (ho : jout M M2 (e + 30) 2) : ehP M2 n e lo x hl hk sl sg2 len2 pr := by
  obtain ⟨g, gs, nx, at9, kd, fi, se, ti, tr, L, f, h1, h2, h3, h4, h5, h6, h7, h8, h9, q1, q2, q3, q4, q5, q6, q7⟩ := h
  exact ⟨g, gs, nx, at9, kd, fi, se, ti, tr, L, f, h1.keep ho 1 rfl (by omega), h2.keep ho (by omega), h3.keep ho 1 rfl (by omega), h4.keep ho 2 rfl (by omega), hr, h6.keep ho 1 rfl (by omega), h7.keep ho 8 rfl (by omega), h8.keep ho (by omega), h9, q1, hq, q3, q4, q5, q6, q7⟩
theorem ehP.trl {tr2 : TC} (h : ehP M n e lo x hl hk sl sg len pr) (hr : jPic M2 (e + 33) (cfP (e + 33) tr2)) (hq : cfQ tr2) (ho : jout M M2 (e + 33) 8) : ehP M2 n e lo x hl hk sl sg len pr := by
  obtain ⟨g, gs, nx, at9, kd, fi, se, ti, tr, L, f, h1, h2, h3, h4, h5, h6, h7, h8, h9, q1, q2, q3, q4, q5, q6, q7⟩ := h
  exact ⟨g, gs, nx, at9, kd, fi, se, ti, tr2, L, f, h1.keep ho 1 rfl (by omega), h2.keep ho (by omega), h3.keep ho 1 rfl (by omega), h4.keep ho 2 rfl (by omega), h5.keep ho 2 rfl (by omega), h6.keep ho 1 rfl (by omega), hr, h8.keep ho (by omega), h9, q1, q2, hq, q4, q5, q6, q7⟩
end EHP
abbrev rcH (r hl : Int) : Int := if 0 ≤ r then jmn (hl + 1) 6 else hl
abbrev rcK (r : Int) (x : TS) (hk : Nat → TS) : Nat → TS := if 0 ≤ r then (fun j => if j = 0 then x else hk (j - 1)) else hk
theorem rgI_0 {nx : Int} (h : 0 ≤ nx ∧ nx < 7) : rgI ((nx + 1) % 7) 0 = nx.toNat := by
  unfold rgI
  omega
theorem rgI_s {nx : Int} (h : 0 ≤ nx ∧ nx < 7) {j : Nat} (hj : j < 6) : rgI ((nx + 1) % 7) (j + 1) = rgI nx j := by
  unfold rgI
  omega
theorem rgI_n {nx : Int} (h : 0 ≤ nx ∧ nx < 7) {j : Nat} (hj : j < 6) : rgI nx j ≠ nx.toNat := by
  unfold rgI
  omega
theorem rgI_lt {nx : Int} (j : Nat) : rgI nx j < 7 := by
  unfold rgI
  omega
theorem jlo.stq {M M2 M3 : jM} {lo a k o : Nat} {e : jC} (h : jlo M M2 lo a k) (s : jst M2 M3 o e) (hq : lo ≤ o ∨ (a ≤ o ∧ o < a + k)) : jlo M M3 lo a k := fun q h1 h2 => (s.2 q (by omega)).trans (h q h1 h2)
theorem jlo.trq {M M2 M3 : jM} {lo a k b m : Nat} (h : jlo M M2 lo a k) (s : jout M2 M3 b m) (hq : lo ≤ b ∨ (a ≤ b ∧ b + m ≤ a + k)) : jlo M M3 lo a k := fun q h1 h2 => (s q (by omega)).trans (h q h1 h2)
def jin (M M2 : jM) (lo n : Nat) : Prop := ∀ q : Nat, lo ≤ q → q < n → M2 q = M q
theorem jin.rf (M : jM) (lo n : Nat) : jin M M lo n := fun _ _ _ => rfl
theorem jin.stq {M M2 M3 : jM} {lo n o : Nat} {e : jC} (h : jin M M2 lo n) (s : jst M2 M3 o e) (hq : o < lo ∨ n ≤ o) : jin M M3 lo n := fun q h1 h2 => (s.2 q (by omega)).trans (h q h1 h2)
theorem jin.trq {M M2 M3 : jM} {lo n b m : Nat} (h : jin M M2 lo n) (s : jout M2 M3 b m) (hq : b + m ≤ lo ∨ n ≤ b) : jin M M3 lo n := fun q h1 h2 => (s q (by omega)).trans (h q h1 h2)
theorem rgI_l {nx : Int} (h : 0 ≤ nx ∧ nx < 7) : ((nx + 7 - 1) % 7).toNat = rgI nx 0 := by
  unfold rgI
  omega
theorem rgI_b {nx : Int} (h : 0 ≤ nx ∧ nx < 7) (j : Nat) : rgI ((nx + 7 - 1) % 7) j = rgI nx (j + 1) := by
  unfold rgI
  omega

theorem rsQ_keep {g gs : Nat → Option Nat} {nx hl : Int} {hk : Nat → TS} {sl : Nat → Option TS} {L : List Nat} {f : Nat → TS} {y : TS} (h : rsQ g gs nx hl hk sl (some y) L f) (hn : 0 ≤ nx ∧ nx < 7) (hh : 0 ≤ hl ∧ hl ≤ 6) : rsQ g gs ((nx + 1) % 7) (jmn (hl + 1) 6) (fun j => if j = 0 then y else hk (j - 1)) sl none L f := by
  obtain ⟨a1, a2, a3, a4, a5, a6⟩ := h
  refine ⟨a1, a2, fun j hj => ?_, a4, a5, fun y hy => by cases hy⟩
  cases j with
  | zero =>
    rw [rgI_0 hn]
    simp only [if_true]
    exact a6 y rfl
  | succ j =>
    have hj2 : ((j + 1 : Nat) : Int) < hl + 1 ∧ ((j + 1 : Nat) : Int) < 6 := by
      have : ((j + 1 : Nat) : Int) < (if 6 < hl + 1 then 6 else hl + 1) := hj
      split at this <;> omega
    rw [rgI_s hn (by omega)]
    simp only [Nat.add_one_ne_zero, if_false, Nat.add_sub_cancel]
    exact a3 j (by omega)
theorem rsQ_none {g gs : Nat → Option Nat} {nx hl : Int} {hk : Nat → TS} {sl : Nat → Option TS} {L : List Nat} {f : Nat → TS} {pr : Option TS} (h : rsQ g gs nx hl hk sl pr L f) : rsQ g gs nx hl hk sl none L f := ⟨h.1, h.2.1, h.2.2.1, h.2.2.2.1, h.2.2.2.2.1, fun y hy => by cases hy⟩
/-- the ring's place is written over -/
theorem rsQ_old {g gs : Nat → Option Nat} {nx hl : Int} {hk : Nat → TS} {sl : Nat → Option TS} {L : List Nat} {f : Nat → TS} {pr : Option TS} {y : TS} {a : Nat} (h : rsQ g gs nx hl hk sl pr L f) (hn : 0 ≤ nx ∧ nx < 7) (hh : 0 ≤ hl ∧ hl ≤ 6) (hg : g nx.toNat = some a) : rsQ g gs nx hl hk sl (some y) L (fup9 f a y) := by
  obtain ⟨a1, a2, a3, a4, a5, a6⟩ := h
  refine ⟨a1, a2, fun j hj => ?_, fun i hi => ?_, a5, fun z hz => ⟨a, hg, by cases hz; simp [fup9]⟩⟩
  · obtain ⟨b, h1, h2⟩ := a3 j hj
    refine ⟨b, h1, ?_⟩
    have hne : b ≠ a := fun z => by
      subst z
      exact rgI_n hn (by omega) (a2 _ _ b (rgI_lt j) (by omega) h1 hg)
    simp only [fup9, if_neg hne]
    exact h2
  · rcases a4 i hi with z | ⟨b, h1, h2, h3, h4⟩
    · exact Or.inl z
    · refine Or.inr ⟨b, h1, h2, ?_, h4⟩
      have hne : b ≠ a := fun z => by
        subst z
        exact h4 nx.toNat (by omega) hg
      simp only [fup9, if_neg hne]
      exact h3
theorem rsQ_new {g gs : Nat → Option Nat} {nx hl : Int} {hk : Nat → TS} {sl : Nat → Option TS} {L : List Nat} {f : Nat → TS} {pr : Option TS} {y : TS} {a : Nat} (h : rsQ g gs nx hl hk sl pr L f) (hn : 0 ≤ nx ∧ nx < 7) (hh : 0 ≤ hl ∧ hl ≤ 6) (hg : g nx.toNat = none) (ha : a ∉ L) : rsQ (va_up g nx.toNat (some a)) gs nx hl hk sl (some y) (a :: L) (fup9 f a y) := by
  obtain ⟨a1, a2, a3, a4, a5, a6⟩ := h
  have hu : ∀ k b, va_up g nx.toNat (some a) k = some b → (k = nx.toNat ∧ b = a) ∨ (k ≠ nx.toNat ∧ g k = some b) := fun k b hb => by
    unfold va_up at hb
    by_cases e : k = nx.toNat
    · rw [if_pos e] at hb
      exact Or.inl ⟨e, (Option.some.inj hb).symm⟩
    · rw [if_neg e] at hb
      exact Or.inr ⟨e, hb⟩
  have hneq : ∀ {b : Nat}, b ∈ L → b ≠ a := fun hb z => ha (z ▸ hb)
  refine ⟨fun k b hk hb => ?_, fun j k b hj hk h1 h2 => ?_, fun j hj => ?_, fun i hi => ?_, a5, fun z hz => ⟨a, by simp [va_up], by cases hz; simp [fup9]⟩⟩
  · rcases hu k b hb with ⟨-, rfl⟩ | ⟨-, z⟩
    · exact List.mem_cons_self
    · exact List.mem_cons_of_mem _ (a1 k b hk z)
  · rcases hu j b h1 with ⟨z1, z2⟩ | ⟨z1, z2⟩ <;> rcases hu k b h2 with ⟨w1, w2⟩ | ⟨w1, w2⟩
    · omega
    · exact absurd z2 (hneq (a1 k b hk w2))
    · exact absurd w2 (hneq (a1 j b hj z2))
    · exact a2 j k b hj hk z2 w2
  · obtain ⟨b, h1, h2⟩ := a3 j hj
    refine ⟨b, ?_, ?_⟩
    · unfold va_up
      rw [if_neg (rgI_n hn (by omega))]
      exact h1
    · simp only [fup9, if_neg (hneq (a1 _ b (rgI_lt j) h1))]
      exact h2
  · rcases a4 i hi with z | ⟨b, h1, h2, h3, h4⟩
    · exact Or.inl z
    · refine Or.inr ⟨b, h1, List.mem_cons_of_mem _ h2, ?_, fun k hk hb => ?_⟩
      · simp only [fup9, if_neg (hneq h2)]
        exact h3
      · rcases hu k b hb with ⟨-, z⟩ | ⟨-, z⟩
        · exact hneq h2 z
        · exact h4 k hk z

theorem rsQ_back {g gs : Nat → Option Nat} {nx hl : Int} {hk : Nat → TS} {sl : Nat → Option TS} {L : List Nat} {f : Nat → TS} {pr : Option TS} (h : rsQ g gs nx hl hk sl pr L f) (hn : 0 ≤ nx ∧ nx < 7) (hh : 0 < hl) : rsQ g gs ((nx + 7 - 1) % 7) (hl - 1) (fun j => hk (j + 1)) sl none L f := by
  obtain ⟨a1, a2, a3, a4, a5, a6⟩ := h
  refine ⟨a1, a2, fun j hj => ?_, a4, a5, fun y hy => by cases hy⟩
  rw [rgI_b hn]
  exact a3 (j + 1) (by omega)
theorem dyP.new2 {M M2 : jM} {n lo : Nat} {L : List Nat} {f : Nat → TS} {x : TS} (h : dyP M n lo L f) (hn : lo ≤ n) (ho : jin M M2 lo n) (hs : stP M2 n x) (hq : stQ x) : dyP M2 (n + 26) lo (n :: L) (fup9 f n x) := (h.new hn ho hs hq).1
theorem dyP.nin {M : jM} {n lo : Nat} {L : List Nat} {f : Nat → TS} (h : dyP M n lo L f) : n ∉ L := fun z => by have := (h.1 n z).2.1; omega

set_option maxHeartbeats 4000000 in
set_option maxRecDepth 100000 in
theorem c_X3_init {l : Launch} {D : va_G} {b0 : Nat} {M : jM} {r : Nat} (hH : jPic M r [oB 2 [.null, jI 0, jI 0]]) : jCtr l D b0 yX3_init cX3_init 1 none 1 1 7 [.ref r] (r + 1) M (fun v n2 M2 => none = v ∧ r + 2 = n2 ∧ jPic M2 r (hsL r (fun _ => none) 0 0) ∧ jout M M2 r 2) := by
  refine jctr (lv := [some (.ref r)]) RX3 "<init>" rfl rfl (by decide) (Nat.le_of_ble_eq_true rfl) rfl ?_
  intro X h hR hX
  have ho := jout.rf M r 2
  refine jk_aload_n (q := 1) h dX3_init_0 rfl rfl ?_
  refine jk_objInit (q := 4) h dX3_init_1 ml_X3_3 ko_i ko_c (Nat.le_of_ble_eq_true rfl) (Nat.le_of_ble_eq_true rfl) rfl ?_
  refine jk_aload_n (q := 5) h dX3_init_4 rfl rfl ?_
  refine jk_bipush (q := 7) h dX3_init_5 (by decide) rfl ?_
  refine jk_newq (q := 10) h dX3_init_7 kq_X3_11 rfl (Nat.le_of_ble_eq_true rfl) (Nat.le_of_ble_eq_true rfl) rfl (fun M_1 s_1 => ?_)
  have s_1 : jst _ _ _ (aS 7 (fun _ => none)) := s_1
  have hH := hH.snoc s_1
  have ho := ho.st (i := 1) s_1 (by omega)
  refine jk_putF (q := 13) h (fp_X3_13 _) dX3_init_10 rfl fd_X3_0 (hH.at 0 rfl) (Nat.le_of_ble_eq_true rfl) rfl (fun M_2 s_2 => ?_)
  have hH := hH.put (i := 0) s_2 rfl
  have ho := ho.st (i := 0) s_2 (by omega)
  exact jk_vret h hR dX3_init_13 (Nat.le_of_ble_eq_true rfl) (Nat.le_of_ble_eq_true rfl) ⟨rfl, rfl, hH, ho⟩

set_option maxHeartbeats 4000000 in
set_option maxRecDepth 100000 in
theorem c_X3_prepare {l : Launch} {D : va_G} {b0 : Nat} {n : Nat} {M : jM} {e lo : Nat} {x : TS} {hl : Int} {hk : Nat → TS} {sl : Nat → Option TS} {sg : Nat → Int} {len : Int} {pr : Option TS} (hW : ehP M n e lo x hl hk sl sg len pr) : jCtr l D b0 yX3_prepare cX3_prepare 3 none 4 26 479 [.ref (e + 28), .ref (e + 1)] n M (fun v n2 M2 => none = v ∧ n ≤ n2 ∧ n2 ≤ n + 26 ∧ ehP M2 n2 e lo x hl hk sl sg len (some x) ∧ jlo M M2 lo e 41 ∧ M2 (e + 27) = M (e + 27)) := by
  refine jctr (lv := [some (.ref (e + 28)), some (.ref (e + 1)), none]) RX3 "prepare" rfl rfl (by decide) (Nat.le_of_ble_eq_true rfl) rfl ?_
  intro X h hR hX
  obtain ⟨g, gs, nx, at9, kd, fi, se, ti, tr, L, f, hE, hNw, hL, hH, hD, hR9, hC, hdy, hrs, hsQ, hpQ, hcQ, hnx, hhl, hlo1, hlo2⟩ := id hW
  obtain ⟨hS, hT, hN, hA, hB, hP⟩ := hNw
  have hj := jlo.rf M lo e 41
  have hi := jin.rf M lo n
  have hL0 := hL
  refine jk_aload_n (q := 1) h dX3_prepare_0 rfl rfl ?_
  refine jk_get (q := 4) h fg_X3_17 dX3_prepare_1 (hH.at 0 rfl) rfl rfl ?_
  refine jk_if_lt (q := 7) (tgt := 19) h dX3_prepare_4 (by decide) rfl ⟨by omega, by omega⟩ (fun c4 => ?_) (fun c4 => ?_)
  · omega
  · refine jk_aload_n (q := 8) h dX3_prepare_7 rfl rfl ?_
    refine jk_get (q := 11) h fg_X3_17 dX3_prepare_8 (hH.at 0 rfl) rfl rfl ?_
    refine jk_aload_n (q := 12) h dX3_prepare_11 rfl rfl ?_
    refine jk_get (q := 15) h fg_X3_13 dX3_prepare_12 (hH.at 0 rfl) rfl rfl ?_
    refine jk_alen (q := 16) h dX3_prepare_15 (hH.at 1 rfl) rfl ?_
    refine jk_icmp_lt (q := 19) (tgt := 20) h dX3_prepare_16 (by decide) rfl ⟨by omega, by omega⟩ ⟨by omega, by omega⟩ (fun c16 => ?_) (fun c16 => ?_)
    · refine jk_aload_n (q := 21) h dX3_prepare_20 rfl rfl ?_
      refine jk_get (q := 24) h fg_X3_13 dX3_prepare_21 (hH.at 0 rfl) rfl rfl ?_
      refine jk_aload_n (q := 25) h dX3_prepare_24 rfl rfl ?_
      refine jk_get (q := 28) h fg_X3_17 dX3_prepare_25 (hH.at 0 rfl) rfl rfl ?_
      rcases hg9 : g nx.toNat with _ | a9
      · refine jk_aald (q := 29) h dX3_prepare_28 (hH.at 1 rfl) (by omega) (by omega) rfl (v := .null) (by show va_rf (g _) = _; rw [hg9]; rfl) rfl ?_
        refine jk_astore_nN (q := 30) h dX3_prepare_29 rfl (Nat.le_of_ble_eq_true rfl) rfl rfl ?_
        refine jk_aload_nN (q := 31) h dX3_prepare_30 rfl rfl ?_
        refine jk_nonnullN (q := 34) h dX3_prepare_31 rfl ?_
        refine jk_new (q := 37) h nw_X3_11 dX3_prepare_34 (Nat.le_of_ble_eq_true rfl) (Nat.le_of_ble_eq_true rfl) rfl (fun M_1 s_1 => ?_)
        have hE := hE.other s_1 1 rfl (by omega)
        have hS := hS.other s_1 2 rfl (by omega)
        have hT := hT.other s_1 3 rfl (by omega)
        have hN := hN.other s_1 1 rfl (by omega)
        have hA := hA.other s_1 8 rfl (by omega)
        have hB := hB.other s_1 8 rfl (by omega)
        have hP := hP.other s_1 4 rfl (by omega)
        have hL := hL.other s_1 1 rfl (by omega)
        have hH := hH.other s_1 2 rfl (by omega)
        have hD := hD.other s_1 2 rfl (by omega)
        have hR9 := hR9.other s_1 1 rfl (by omega)
        have hC := hC.other s_1 8 rfl (by omega)
        have hZ := jPic.one s_1
        have hj := hj.stq s_1 (by omega)
        have hi := hi.stq s_1 (by omega)
        refine jk_dup (q := 38) h dX3_prepare_37 rfl rfl ?_
        refine jk_callIN (q := 41) h hX (c_X7_init hZ) mi_X7_init dX3_prepare_38 ml_X3_21 ⟨rfl, Nat.le_refl _⟩ rfl rfl (Nat.le_of_ble_eq_true rfl) (Nat.le_of_ble_eq_true rfl) rfl rfl (Nat.le_of_ble_eq_true rfl) rfl (fun v9 n9 M_2 hp9 => ?_)
        obtain ⟨rfl, rfl, hst9, o_2⟩ := hp9
        have hE := hE.keep o_2 1 rfl (by omega)
        have hS := hS.keep o_2 2 rfl (by omega)
        have hT := hT.keep o_2 3 rfl (by omega)
        have hN := hN.keep o_2 1 rfl (by omega)
        have hA := hA.keep o_2 8 rfl (by omega)
        have hB := hB.keep o_2 8 rfl (by omega)
        have hP := hP.keep o_2 4 rfl (by omega)
        have hL := hL.keep o_2 1 rfl (by omega)
        have hH := hH.keep o_2 2 rfl (by omega)
        have hD := hD.keep o_2 2 rfl (by omega)
        have hR9 := hR9.keep o_2 1 rfl (by omega)
        have hC := hC.keep o_2 8 rfl (by omega)
        have hj := hj.trq o_2 (by omega)
        have hi := hi.trq o_2 (by omega)
        have hZ := hst9.1
        refine jk_astore_n (q := 42) h dX3_prepare_41 rfl (Nat.le_of_ble_eq_true rfl) rfl rfl ?_
        refine jk_aload_n (q := 43) h dX3_prepare_42 rfl rfl ?_
        refine jk_get (q := 46) h fg_X3_13 dX3_prepare_43 (hH.at 0 rfl) rfl rfl ?_
        refine jk_aload_n (q := 47) h dX3_prepare_46 rfl rfl ?_
        refine jk_get (q := 50) h fg_X3_17 dX3_prepare_47 (hH.at 0 rfl) rfl rfl ?_
        refine jk_aload_n (q := 51) h dX3_prepare_50 rfl rfl ?_
        refine jk_aast (q := 52) (ci := 6) (r := (RX7, TX7, 3)) h dX3_prepare_51 rfl (hH.at 1 rfl) (hZ.at 0 rfl) (by omega) (by omega) rfl rfl (fun M_3 s_3 => ?_)
        have hE := hE.other s_3 1 rfl (by omega)
        have hS := hS.other s_3 2 rfl (by omega)
        have hT := hT.other s_3 3 rfl (by omega)
        have hN := hN.other s_3 1 rfl (by omega)
        have hA := hA.other s_3 8 rfl (by omega)
        have hB := hB.other s_3 8 rfl (by omega)
        have hP := hP.other s_3 4 rfl (by omega)
        have hL := hL.other s_3 1 rfl (by omega)
        have hH := hH.put (i := 1) s_3 rfl
        have hD := hD.other s_3 2 rfl (by omega)
        have hR9 := hR9.other s_3 1 rfl (by omega)
        have hC := hC.other s_3 8 rfl (by omega)
        have hZ := hZ.other s_3 2 rfl (by omega)
        have hj := hj.stq s_3 (by omega)
        have hi := hi.stq s_3 (by omega)
        have hst9 := hst9.keep (jst.out s_3) (by omega)
        refine jk_aload_n (q := 53) h dX3_prepare_52 rfl rfl ?_
        refine jk_aload_n (q := 54) h dX3_prepare_53 rfl rfl ?_
        refine jk_callV (q := 57) h hX (c_X7_copyFrom hst9 ⟨hS, hT, hN, hA, hB, hP⟩ (by omega)) mv_X7_copyFrom (hZ.at 0 rfl) dX3_prepare_54 ml_X3_22 ⟨rfl, Nat.le_refl _⟩ rfl rfl (Nat.le_of_ble_eq_true rfl) (Nat.le_of_ble_eq_true rfl) rfl rfl (Nat.le_of_ble_eq_true rfl) rfl (fun v9 n9 M_4 hp9 => ?_)
        obtain ⟨rfl, rfl, hst9, o_4⟩ := hp9
        have hE := hE.keep o_4 1 rfl (by omega)
        have hS := hS.keep o_4 2 rfl (by omega)
        have hT := hT.keep o_4 3 rfl (by omega)
        have hN := hN.keep o_4 1 rfl (by omega)
        have hA := hA.keep o_4 8 rfl (by omega)
        have hB := hB.keep o_4 8 rfl (by omega)
        have hP := hP.keep o_4 4 rfl (by omega)
        have hL := hL.keep o_4 1 rfl (by omega)
        have hH := hH.keep o_4 2 rfl (by omega)
        have hD := hD.keep o_4 2 rfl (by omega)
        have hR9 := hR9.keep o_4 1 rfl (by omega)
        have hC := hC.keep o_4 8 rfl (by omega)
        have hj := hj.trq o_4 (by omega)
        have hi := hi.trq o_4 (by omega)
        have hoc := o_4
        exact jk_vret h hR dX3_prepare_57 (Nat.le_of_ble_eq_true rfl) (Nat.le_of_ble_eq_true rfl) (by first | exact ⟨rfl, Nat.le_refl _, by omega, ⟨g, gs, nx, at9, kd, fi, se, ti, tr, L, fup9 f a9 x, hE, ⟨hS, hT, hN, hA, hB, hP⟩, hL, hH, hD, hR9, hC, hdy.put haL hoc hst9 hsQ, rsQ_old hrs hnx hhl hg9, hsQ, hpQ, hcQ, hnx, hhl, hlo1, hlo2⟩, hj, (hL.at 0 rfl).trans (hL0.at 0 rfl).symm⟩ | exact ⟨rfl, by omega, Nat.le_refl _, ⟨_, gs, nx, at9, kd, fi, se, ti, tr, _, fup9 f n x, hE, ⟨hS, hT, hN, hA, hB, hP⟩, hL, hH, hD, hR9, hC, hdy.new2 hlo2 hi hst9 hsQ, rsQ_new hrs hnx hhl hg9 hdy.nin, hsQ, hpQ, hcQ, hnx, hhl, hlo1, (by omega)⟩, hj, (hL.at 0 rfl).trans (hL0.at 0 rfl).symm⟩)
      · refine jk_aald (q := 29) h dX3_prepare_28 (hH.at 1 rfl) (by omega) (by omega) rfl (v := .ref a9) (by show va_rf (g _) = _; rw [hg9]; rfl) rfl ?_
        have haL := hrs.1 _ _ (by omega) hg9
        obtain ⟨ha1, ha2, hst9, haq⟩ := hdy.1 a9 haL
        have hZ := hst9.1
        have hi := jin.rf M lo lo
        refine jk_astore_n (q := 30) h dX3_prepare_29 rfl (Nat.le_of_ble_eq_true rfl) rfl rfl ?_
        refine jk_aload_n (q := 31) h dX3_prepare_30 rfl rfl ?_
        refine jk_nonnull (q := 34) (tgt := 52) h dX3_prepare_31 (by decide) ?_
        refine jk_aload_n (q := 53) h dX3_prepare_52 rfl rfl ?_
        refine jk_aload_n (q := 54) h dX3_prepare_53 rfl rfl ?_
        refine jk_callV (q := 57) h hX (c_X7_copyFrom hst9 ⟨hS, hT, hN, hA, hB, hP⟩ (by omega)) mv_X7_copyFrom (hZ.at 0 rfl) dX3_prepare_54 ml_X3_22 ⟨rfl, Nat.le_refl _⟩ rfl rfl (Nat.le_of_ble_eq_true rfl) (Nat.le_of_ble_eq_true rfl) rfl rfl (Nat.le_of_ble_eq_true rfl) rfl (fun v9 n9 M_5 hp9 => ?_)
        obtain ⟨rfl, rfl, hst9, o_5⟩ := hp9
        have hE := hE.keep o_5 1 rfl (by omega)
        have hS := hS.keep o_5 2 rfl (by omega)
        have hT := hT.keep o_5 3 rfl (by omega)
        have hN := hN.keep o_5 1 rfl (by omega)
        have hA := hA.keep o_5 8 rfl (by omega)
        have hB := hB.keep o_5 8 rfl (by omega)
        have hP := hP.keep o_5 4 rfl (by omega)
        have hL := hL.keep o_5 1 rfl (by omega)
        have hH := hH.keep o_5 2 rfl (by omega)
        have hD := hD.keep o_5 2 rfl (by omega)
        have hR9 := hR9.keep o_5 1 rfl (by omega)
        have hC := hC.keep o_5 8 rfl (by omega)
        have hj := hj.trq o_5 (by omega)
        have hi := hi.trq o_5 (by omega)
        have hoc := o_5
        exact jk_vret h hR dX3_prepare_57 (Nat.le_of_ble_eq_true rfl) (Nat.le_of_ble_eq_true rfl) (by first | exact ⟨rfl, Nat.le_refl _, by omega, ⟨g, gs, nx, at9, kd, fi, se, ti, tr, L, fup9 f a9 x, hE, ⟨hS, hT, hN, hA, hB, hP⟩, hL, hH, hD, hR9, hC, hdy.put haL hoc hst9 hsQ, rsQ_old hrs hnx hhl hg9, hsQ, hpQ, hcQ, hnx, hhl, hlo1, hlo2⟩, hj, (hL.at 0 rfl).trans (hL0.at 0 rfl).symm⟩ | exact ⟨rfl, by omega, Nat.le_refl _, ⟨_, gs, nx, at9, kd, fi, se, ti, tr, _, fup9 f n x, hE, ⟨hS, hT, hN, hA, hB, hP⟩, hL, hH, hD, hR9, hC, hdy.new2 hlo2 hi hst9 hsQ, rsQ_new hrs hnx hhl hg9 hdy.nin, hsQ, hpQ, hcQ, hnx, hhl, hlo1, (by omega)⟩, hj, (hL.at 0 rfl).trans (hL0.at 0 rfl).symm⟩)
    · omega

set_option maxHeartbeats 4000000 in
set_option maxRecDepth 100000 in
theorem c_X3_keep {l : Launch} {D : va_G} {b0 : Nat} {n : Nat} {M : jM} {e lo : Nat} {x : TS} {hl : Int} {hk : Nat → TS} {sl : Nat → Option TS} {sg : Nat → Int} {len : Int} {y : TS} (hW : ehP M n e lo x hl hk sl sg len (some y)) : jCtr l D b0 yX3_keep cX3_keep 1 none 1 0 0 [.ref (e + 28)] n M (fun v n2 M2 => none = v ∧ n = n2 ∧ ehP M2 n e lo x (jmn (hl + 1) 6) (fun j => if j = 0 then y else hk (j - 1)) sl sg len none ∧ jout M M2 (e + 28) 2) := by
  refine jctr (lv := [some (.ref (e + 28))]) RX3 "keep" rfl rfl (by decide) (Nat.le_of_ble_eq_true rfl) rfl ?_
  intro X h hR hX
  obtain ⟨g, gs, nx, at9, kd, fi, se, ti, tr, L, f, hE, hNw, hL, hH, hD, hR9, hC, hdy, hrs, hsQ, hpQ, hcQ, hnx, hhl, hlo1, hlo2⟩ := id hW
  obtain ⟨hS, hT, hN, hA, hB, hP⟩ := hNw
  have hj := jout.rf M (e + 28) 2
  refine jk_aload_n (q := 1) h dX3_keep_0 rfl rfl ?_
  refine jk_aload_n (q := 2) h dX3_keep_1 rfl rfl ?_
  refine jk_get (q := 5) h fg_X3_17 dX3_keep_2 (hH.at 0 rfl) rfl rfl ?_
  refine jk_iconst (q := 6) h dX3_keep_5 rfl ?_
  refine jk_iadd (q := 7) h dX3_keep_6 rfl ?_
  refine jk_bipush (q := 9) h dX3_keep_7 (by decide) rfl ?_
  refine jk_irem (q := 10) h dX3_keep_9 (by omega) (by omega) (by omega) (by omega) rfl ?_
  refine jk_put (q := 13) h (fp_X3_17 _) dX3_keep_10 (hH.at 0 rfl) (Nat.le_of_ble_eq_true rfl) rfl (fun M_1 s_1 => ?_)
  have hE := hE.other s_1 1 rfl (by omega)
  have hS := hS.other s_1 2 rfl (by omega)
  have hT := hT.other s_1 3 rfl (by omega)
  have hN := hN.other s_1 1 rfl (by omega)
  have hA := hA.other s_1 8 rfl (by omega)
  have hB := hB.other s_1 8 rfl (by omega)
  have hP := hP.other s_1 4 rfl (by omega)
  have hL := hL.other s_1 1 rfl (by omega)
  have hH := hH.put (i := 0) s_1 rfl
  have hD := hD.other s_1 2 rfl (by omega)
  have hR9 := hR9.other s_1 1 rfl (by omega)
  have hC := hC.other s_1 8 rfl (by omega)
  have hj := hj.st (i := 0) s_1 (by omega)
  refine jk_aload_n (q := 14) h dX3_keep_13 rfl rfl ?_
  refine jk_aload_n (q := 15) h dX3_keep_14 rfl rfl ?_
  refine jk_get (q := 18) h fg_X3_26 dX3_keep_15 (hH.at 0 rfl) rfl rfl ?_
  refine jk_iconst (q := 19) h dX3_keep_18 rfl ?_
  refine jk_iadd (q := 20) h dX3_keep_19 rfl ?_
  refine jk_bipush (q := 22) h dX3_keep_20 (by decide) rfl ?_
  refine jk_mmin (q := 25) h dX3_keep_22 ml_X3_29 km_min_s km_i km_min_c (Nat.le_of_ble_eq_true rfl) (Nat.le_of_ble_eq_true rfl) (Nat.le_of_ble_eq_true rfl) (Nat.le_of_ble_eq_true rfl) ⟨by omega, by omega⟩ ⟨by omega, by omega⟩ rfl ?_
  refine jk_put (q := 28) h (fp_X3_26 _) dX3_keep_25 (hH.at 0 rfl) (Nat.le_of_ble_eq_true rfl) rfl (fun M_2 s_2 => ?_)
  have hE := hE.other s_2 1 rfl (by omega)
  have hS := hS.other s_2 2 rfl (by omega)
  have hT := hT.other s_2 3 rfl (by omega)
  have hN := hN.other s_2 1 rfl (by omega)
  have hA := hA.other s_2 8 rfl (by omega)
  have hB := hB.other s_2 8 rfl (by omega)
  have hP := hP.other s_2 4 rfl (by omega)
  have hL := hL.other s_2 1 rfl (by omega)
  have hH := hH.put (i := 0) s_2 rfl
  have hD := hD.other s_2 2 rfl (by omega)
  have hR9 := hR9.other s_2 1 rfl (by omega)
  have hC := hC.other s_2 8 rfl (by omega)
  have hj := hj.st (i := 0) s_2 (by omega)
  exact jk_vret h hR dX3_keep_28 (Nat.le_of_ble_eq_true rfl) (Nat.le_of_ble_eq_true rfl) ⟨rfl, rfl, ⟨g, gs, ((nx + 1) % 7), at9, kd, fi, se, ti, tr, L, f, hE, ⟨hS, hT, hN, hA, hB, hP⟩, hL, hH, hD, hR9, hC, (hdy.keep hj (by omega)), rsQ_keep hrs hnx hhl, hsQ, hpQ, hcQ, ⟨by omega, by omega⟩, ⟨by show 0 ≤ (if 6 < hl + 1 then 6 else hl + 1); split <;> omega, by show (if 6 < hl + 1 then 6 else hl + 1) ≤ 6; split <;> omega⟩, hlo1, hlo2⟩, hj⟩

set_option maxHeartbeats 4000000 in
set_option maxRecDepth 100000 in
theorem c_X3_bringBack {l : Launch} {D : va_G} {b0 : Nat} {n : Nat} {M : jM} {e lo : Nat} {x : TS} {hl : Int} {hk : Nat → TS} {sl : Nat → Option TS} {sg : Nat → Int} {len : Int} {pr : Option TS} (hW : ehP M n e lo x hl hk sl sg len pr) (hh0 : 0 < hl) : jCtr l D b0 yX3_bringBack cX3_bringBack 4 none 4 0 0 [.ref (e + 28), .ref (e + 1)] n M (fun v n2 M2 => none = v ∧ n = n2 ∧ ehP M2 n e lo (hk 0) (hl - 1) (fun j => hk (j + 1)) sl sg len none ∧ jlo M M2 lo e 41) := by
  refine jctr (lv := [some (.ref (e + 28)), some (.ref (e + 1)), none, none]) RX3 "bringBack" rfl rfl (by decide) (Nat.le_of_ble_eq_true rfl) rfl ?_
  intro X h hR hX
  obtain ⟨g, gs, nx, at9, kd, fi, se, ti, tr, L, f, hE, hNw, hL, hH, hD, hR9, hC, hdy, hrs, hsQ, hpQ, hcQ, hnx, hhl, hlo1, hlo2⟩ := id hW
  obtain ⟨hS, hT, hN, hA, hB, hP⟩ := hNw
  have hj := jlo.rf M lo e 41
  refine jk_aload_n (q := 1) h dX3_bringBack_0 rfl rfl ?_
  refine jk_get (q := 4) h fg_X3_17 dX3_bringBack_1 (hH.at 0 rfl) rfl rfl ?_
  refine jk_bipush (q := 6) h dX3_bringBack_4 (by decide) rfl ?_
  refine jk_iadd (q := 7) h dX3_bringBack_6 rfl ?_
  refine jk_iconst (q := 8) h dX3_bringBack_7 rfl ?_
  refine jk_isub (q := 9) h dX3_bringBack_8 rfl ?_
  refine jk_bipush (q := 11) h dX3_bringBack_9 (by decide) rfl ?_
  refine jk_irem (q := 12) h dX3_bringBack_11 (by omega) (by omega) (by omega) (by omega) rfl ?_
  refine jk_istore_n (q := 13) h dX3_bringBack_12 rfl (Nat.le_of_ble_eq_true rfl) rfl rfl ?_
  refine jk_aload_n (q := 14) h dX3_bringBack_13 rfl rfl ?_
  refine jk_get (q := 17) h fg_X3_26 dX3_bringBack_14 (hH.at 0 rfl) rfl rfl ?_
  refine jk_if_le (q := 20) (tgt := 33) h dX3_bringBack_17 (by decide) rfl ⟨by omega, by omega⟩ (fun c17 => ?_) (fun c17 => ?_)
  · omega
  · refine jk_iload_n (q := 21) h dX3_bringBack_20 rfl rfl ?_
    refine jk_if_lt (q := 24) (tgt := 33) h dX3_bringBack_21 (by decide) rfl ⟨by omega, by omega⟩ (fun c21 => ?_) (fun c21 => ?_)
    · omega
    · refine jk_iload_n (q := 25) h dX3_bringBack_24 rfl rfl ?_
      refine jk_aload_n (q := 26) h dX3_bringBack_25 rfl rfl ?_
      refine jk_get (q := 29) h fg_X3_13 dX3_bringBack_26 (hH.at 0 rfl) rfl rfl ?_
      refine jk_alen (q := 30) h dX3_bringBack_29 (hH.at 1 rfl) rfl ?_
      refine jk_icmp_lt (q := 33) (tgt := 34) h dX3_bringBack_30 (by decide) rfl ⟨by omega, by omega⟩ ⟨by omega, by omega⟩ (fun c30 => ?_) (fun c30 => ?_)
      · refine jk_aload_n (q := 35) h dX3_bringBack_34 rfl rfl ?_
        refine jk_get (q := 38) h fg_X3_13 dX3_bringBack_35 (hH.at 0 rfl) rfl rfl ?_
        refine jk_iload_n (q := 39) h dX3_bringBack_38 rfl rfl ?_
        rcases hg9 : g ((nx + 7 - 1) % 7).toNat with _ | a9
        · exfalso
          obtain ⟨a8, h8, h7⟩ := hrs.2.2.1 0 (by omega)
          rw [← rgI_l hnx] at h8
          rw [hg9] at h8
          cases h8
        · refine jk_aald (q := 40) h dX3_bringBack_39 (hH.at 1 rfl) (by omega) (by omega) rfl (v := .ref a9) (by show va_rf (g _) = _; rw [hg9]; rfl) rfl ?_
          have haL := hrs.1 _ _ (by omega) hg9
          obtain ⟨ha1, ha2, hst9, haq⟩ := hdy.1 a9 haL
          have hZ := hst9.1
          have hfa : f a9 = hk 0 := by
            obtain ⟨a8, h8, h7⟩ := hrs.2.2.1 0 (by omega)
            rw [← rgI_l hnx] at h8
            rw [hg9] at h8
            cases h8
            exact h7
          rw [hfa] at hst9 haq
          refine jk_astore_n (q := 41) h dX3_bringBack_40 rfl (Nat.le_of_ble_eq_true rfl) rfl rfl ?_
          refine jk_aload_n (q := 42) h dX3_bringBack_41 rfl rfl ?_
          refine jk_nonnull (q := 45) (tgt := 46) h dX3_bringBack_42 (by decide) ?_
          refine jk_aload_n (q := 47) h dX3_bringBack_46 rfl rfl ?_
          refine jk_aload_n (q := 48) h dX3_bringBack_47 rfl rfl ?_
          refine jk_callV (q := 51) h hX (c_X7_copyFrom ⟨hS, hT, hN, hA, hB, hP⟩ hst9 (by omega)) mv_X7_copyFrom (hS.at 0 rfl) dX3_bringBack_48 ml_X3_22 ⟨rfl, Nat.le_refl _⟩ rfl rfl (Nat.le_of_ble_eq_true rfl) (Nat.le_of_ble_eq_true rfl) rfl rfl (Nat.le_of_ble_eq_true rfl) rfl (fun v9 n9 M_1 hp9 => ?_)
          obtain ⟨rfl, rfl, hNw, o_1⟩ := hp9
          have hE := hE.keep o_1 1 rfl (by omega)
          have hL := hL.keep o_1 1 rfl (by omega)
          have hH := hH.keep o_1 2 rfl (by omega)
          have hD := hD.keep o_1 2 rfl (by omega)
          have hR9 := hR9.keep o_1 1 rfl (by omega)
          have hC := hC.keep o_1 8 rfl (by omega)
          have hj := hj.trq o_1 (by omega)
          have hoc := o_1
          obtain ⟨hS, hT, hN, hA, hB, hP⟩ := hNw
          have hdy := hdy.keep hoc (by omega)
          refine jk_aload_n (q := 52) h dX3_bringBack_51 rfl rfl ?_
          refine jk_iload_n (q := 53) h dX3_bringBack_52 rfl rfl ?_
          refine jk_put (q := 56) h (fp_X3_17 _) dX3_bringBack_53 (hH.at 0 rfl) (Nat.le_of_ble_eq_true rfl) rfl (fun M_2 s_2 => ?_)
          have hE := hE.other s_2 1 rfl (by omega)
          have hS := hS.other s_2 2 rfl (by omega)
          have hT := hT.other s_2 3 rfl (by omega)
          have hN := hN.other s_2 1 rfl (by omega)
          have hA := hA.other s_2 8 rfl (by omega)
          have hB := hB.other s_2 8 rfl (by omega)
          have hP := hP.other s_2 4 rfl (by omega)
          have hL := hL.other s_2 1 rfl (by omega)
          have hH := hH.put (i := 0) s_2 rfl
          have hD := hD.other s_2 2 rfl (by omega)
          have hR9 := hR9.other s_2 1 rfl (by omega)
          have hC := hC.other s_2 8 rfl (by omega)
          have hj := hj.stq s_2 (by omega)
          refine jk_aload_n (q := 57) h dX3_bringBack_56 rfl rfl ?_
          refine jk_dup (q := 58) h dX3_bringBack_57 rfl rfl ?_
          refine jk_get (q := 61) h fg_X3_26 dX3_bringBack_58 (hH.at 0 rfl) rfl rfl ?_
          refine jk_iconst (q := 62) h dX3_bringBack_61 rfl ?_
          refine jk_isub (q := 63) h dX3_bringBack_62 rfl ?_
          refine jk_put (q := 66) h (fp_X3_26 _) dX3_bringBack_63 (hH.at 0 rfl) (Nat.le_of_ble_eq_true rfl) rfl (fun M_3 s_3 => ?_)
          have hE := hE.other s_3 1 rfl (by omega)
          have hS := hS.other s_3 2 rfl (by omega)
          have hT := hT.other s_3 3 rfl (by omega)
          have hN := hN.other s_3 1 rfl (by omega)
          have hA := hA.other s_3 8 rfl (by omega)
          have hB := hB.other s_3 8 rfl (by omega)
          have hP := hP.other s_3 4 rfl (by omega)
          have hL := hL.other s_3 1 rfl (by omega)
          have hH := hH.put (i := 0) s_3 rfl
          have hD := hD.other s_3 2 rfl (by omega)
          have hR9 := hR9.other s_3 1 rfl (by omega)
          have hC := hC.other s_3 8 rfl (by omega)
          have hj := hj.stq s_3 (by omega)
          exact jk_vret h hR dX3_bringBack_66 (Nat.le_of_ble_eq_true rfl) (Nat.le_of_ble_eq_true rfl) ⟨rfl, rfl, ⟨g, gs, ((nx + 7 - 1) % 7), at9, kd, fi, se, ti, tr, L, f, hE, ⟨hS, hT, hN, hA, hB, hP⟩, hL, hH, hD, hR9, hC, ((hdy.keep (jst.out s_2) (by omega)).keep (jst.out s_3) (by omega)), rsQ_back hrs hnx hh0, haq, hpQ, hcQ, ⟨by omega, by omega⟩, ⟨by omega, by omega⟩, hlo1, hlo2⟩, hj⟩
      · omega
