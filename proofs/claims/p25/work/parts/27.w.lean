/-! carryOut, save, restore, fewest, a new object -/
abbrev oFi (sg : Nat → Int) (len i : Int) : Int := nmV sg len (i + 1)
abbrev oSe (sg : Nat → Int) (len i : Int) : Int := nmV sg len (nmE sg len (i + 1) + 1)
abbrev oTi (sg : Nat → Int) (len i : Int) : Int := tmV sg len (nmE sg len (nmE sg len (i + 1) + 1))
abbrev nxO (sg : Nat → Int) (len a : Int) : Int := if sgA sg len (oE sg len a) = 59 then oE sg len a + 1 else oE sg len a
def coQ (sg : Nat → Int) (len : Int) : Nat → Int → Int → TS → Int → TS → Prop
  | 0, a, k, x, r, x2 => r = k ∧ x2 = x
  | f + 1, a, k, x, r, x2 => (¬ oK sg len a ∧ r = k ∧ x2 = x) ∨ (oK sg len a ∧ ∃ r1 x1, stQ x1 ∧ foQ x (sgA sg len a) (oFi sg len a) (oSe sg len a) (oTi sg len a) r1 x1 ∧ ((r1 < 0 ∧ r = k ∧ x2 = x1) ∨ (0 ≤ r1 ∧ coQ sg len f (nxO sg len a) (k + 1) x1 r x2)))
section COQ
variable {sg : Nat → Int} {len a k : Int} {y : TS}
theorem coQ_0 (h : 80 ≤ k) : coQ sg len (80 - k).toNat a k y k y := by
  rw [show (80 - k).toNat = 0 by omega]
  exact ⟨rfl, rfl⟩
theorem coQ_n (h : k < 80) (h2 : ¬ oK sg len a) : coQ sg len (80 - k).toNat a k y k y := by
  rw [show (80 - k).toNat = (80 - (k + 1)).toNat + 1 by omega]
  exact Or.inl ⟨h2, rfl, rfl⟩
theorem coQ_f {r1 : Int} {y1 : TS} (h : k < 80) (h2 : oK sg len a) (h9 : stQ y1) (h3 : foQ y (sgA sg len a) (oFi sg len a) (oSe sg len a) (oTi sg len a) r1 y1) (h4 : r1 < 0) : coQ sg len (80 - k).toNat a k y k y1 := by
  rw [show (80 - k).toNat = (80 - (k + 1)).toNat + 1 by omega]
  exact Or.inr ⟨h2, r1, y1, h9, h3, Or.inl ⟨h4, rfl, rfl⟩⟩
theorem coQ_s {r1 r : Int} {y1 x2 : TS} (h : k < 80) (h2 : oK sg len a) (h9 : stQ y1) (h3 : foQ y (sgA sg len a) (oFi sg len a) (oSe sg len a) (oTi sg len a) r1 y1) (h4 : 0 ≤ r1) (h5 : coQ sg len (80 - (k + 1)).toNat (nxO sg len a) (k + 1) y1 r x2) : coQ sg len (80 - k).toNat a k y r x2 := by
  rw [show (80 - k).toNat = (80 - (k + 1)).toNat + 1 by omega]
  exact Or.inr ⟨h2, r1, y1, h9, h3, Or.inr ⟨h4, h5⟩⟩
theorem foQ_o {fi se ti r : Int} {x2 : TS} (h : oF sg len a fi se ti) (h2 : foQ y (sgA sg len a) fi se ti r x2) : foQ y (sgA sg len a) (oFi sg len a) (oSe sg len a) (oTi sg len a) r x2 := by
  obtain ⟨h3, h4⟩ := h
  rcases h2 with ⟨e, h⟩ | ⟨e, h⟩ | ⟨e, h⟩ | ⟨e, h⟩ | ⟨e, h⟩ | ⟨e, h⟩
  · have h5 := h3 (by omega)
    obtain ⟨h6, h7⟩ := h4 e
    subst h5; subst h6; subst h7
    exact Or.inl ⟨e, h⟩
  · have h5 := h3 (by omega)
    subst h5
    exact Or.inr (Or.inl ⟨e, h⟩)
  · exact Or.inr (Or.inr (Or.inl ⟨e, h⟩))
  · have h5 := h3 (by omega)
    subst h5
    exact Or.inr (Or.inr (Or.inr (Or.inl ⟨e, h⟩)))
  · have h5 := h3 (by omega)
    subst h5
    exact Or.inr (Or.inr (Or.inr (Or.inr (Or.inl ⟨e, h⟩))))
  · have h5 := h3 (by omega)
    subst h5
    exact Or.inr (Or.inr (Or.inr (Or.inr (Or.inr ⟨e, h⟩))))
theorem oK_k (h : oK sg len a) : sgA sg len a = 43 ∨ sgA sg len a = 45 ∨ sgA sg len a = 97 ∨ sgA sg len a = 98 ∨ sgA sg len a = 99 ∨ sgA sg len a = 112 := by
  unfold oK at h
  omega
theorem oK_t {fi se ti : Int} (h : oK sg len a) (hf : oF sg len a fi se ti) (e : sgA sg len a = 43) : 0 ≤ ti ∧ ti ≤ 9 := by
  have h1 := (hf.2 e).2
  have h2 : rwK sg len (a + 1) := by
    rcases h with z | z | z
    · omega
    · exact z.2
    · omega
  obtain ⟨q1, q2, q3, q4⟩ := h2
  subst h1
  unfold tmK at q4
  unfold tmV
  split <;> omega
theorem oF_r {fi se ti : Int} (hf : oF sg len a fi se ti) : (sgA sg len a ≠ 97 → jRng fi) ∧ (sgA sg len a = 43 → jRng se) := by
  refine ⟨fun h => ?_, fun h => ?_⟩
  · rw [hf.1 h]
    have := nmV_bd sg len (a + 1)
    exact ⟨by omega, by omega⟩
  · rw [(hf.2 h).1]
    have := nmV_bd sg len (nmE sg len (a + 1) + 1)
    exact ⟨by omega, by omega⟩
theorem nxO_bd (h : pdQ sg len) (h0 : 0 ≤ a) (h1 : a ≤ 80) : 0 ≤ nxO sg len a ∧ nxO sg len a ≤ 80 := by
  have h2 := o_E h h0 h1
  unfold nxO
  split
  · have h3 := sgA_lt (i := oE sg len a) h (by omega)
    have h4 := h.2
    omega
  · omega
theorem ftS_bd (h : pdQ sg len) : ∀ (f : Nat) {i : Int}, 0 ≤ i → i ≤ 80 → -6 ≤ ftS sg len f i ∧ ftS sg len f i ≤ 80
  | 0, i, h0, h1 => ⟨by show -6 ≤ i; omega, h1⟩
  | f + 1, i, h0, h1 => by
    have h2 := o_E h h0 h1
    unfold ftS
    split
    · split
      · omega
      · split
        · omega
        · have h3 := sgA_lt (i := oE sg len i) h (by omega)
          have h4 := h.2
          exact ftS_bd h f (by omega) (by omega)
    · omega
end COQ
