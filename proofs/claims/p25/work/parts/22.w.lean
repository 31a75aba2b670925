/-! the bits of floating numbers -/
def vb64 (r : UInt64) : Bool := decide (r &&& 0x7fffffffffffffff ≤ 0x7ff0000000000000)
def vb32 (r : UInt32) : Bool := decide (r &&& 0x7fffffff ≤ 0x7f800000)
theorem vb64_t {r : UInt64} (h : vb64 r = true) : vf_n64 r := by
  show _ ≤ _
  exact of_decide_eq_true h
theorem vb32_t {r : UInt32} (h : vb32 r = true) : vf_n32 r := by
  show _ ≤ _
  exact of_decide_eq_true h
abbrev d1 : UInt64 := 0x3ff0000000000000
abbrev d2 : UInt64 := 4611686018427387904
def cvD (o : CmpOp) (x y : UInt64) : Int := (Op.cmpValue (FP.dcmp x y) o).toInt
theorem cvD_e (o : CmpOp) (x y : UInt64) : Op.cmpValue (FP.dcmp x y) o = Int32.ofInt (cvD o x y) := (Int32.ofInt_toInt _).symm
theorem cvD_r (o : CmpOp) (x y : UInt64) : jRng (cvD o x y) := jRng_of _
def cvF (o : CmpOp) (x y : UInt32) : Int := (Op.cmpValue (FP.fcmp x y) o).toInt
theorem cvF_e (o : CmpOp) (x y : UInt32) : Op.cmpValue (FP.fcmp x y) o = Int32.ofInt (cvF o x y) := (Int32.ofInt_toInt _).symm
theorem cvF_r (o : CmpOp) (x y : UInt32) : jRng (cvF o x y) := jRng_of _
def bA : Nat → UInt64 → Int64 → Option (UInt64 × Int64)
  | 0, s, e => some (s, e)
  | f + 1, s, e => if 0 ≤ cvD .g s d1 then some (s, e) else if vb64 (FP.dmul s d2) = true then bA f (FP.dmul s d2) (e - Int64.ofNat 1) else none
def bB : Nat → UInt64 → Int64 → Option (UInt64 × Int64)
  | 0, s, e => some (s, e)
  | f + 1, s, e => if cvD .l s d2 < 0 then some (s, e) else if vb64 (FP.ddiv s d2) = true then bB f (FP.ddiv s d2) (e + Int64.ofNat 1) else none
abbrev bT (fb : Int) : UInt64 := FP.l2d (Int64.ofNat 1 <<< ((Int32.ofInt fb).toInt64 &&& 63))
def bF (x : UInt64) (bias fb : Int) : Option Int64 :=
  if cvD .g x 0 ≤ 0 then some (Int64.ofNat 0) else
  match bA 64 x (Int32.ofInt bias).toInt64 with
  | none => none
  | some (s1, e1) => match bB 64 s1 e1 with
    | none => none
    | some (s2, e2) => if vb64 (FP.dsub s2 d1) = true ∧ vb64 (FP.dmul (FP.dsub s2 d1) (bT fb)) = true then some ((e2 <<< ((Int32.ofInt fb).toInt64 &&& 63)) + FP.d2l (FP.dmul (FP.dsub s2 d1) (bT fb))) else none
theorem bF_c {x : UInt64} {bias fb : Int} {z : Int64} (h : bF x bias fb = some z) : (cvD .g x 0 ≤ 0 ∧ z = Int64.ofNat 0) ∨ (0 < cvD .g x 0 ∧ ∃ s1 e1 s2 e2, bA 64 x (Int32.ofInt bias).toInt64 = some (s1, e1) ∧ bB 64 s1 e1 = some (s2, e2) ∧ vf_n64 (FP.dsub s2 d1) ∧ vf_n64 (FP.dmul (FP.dsub s2 d1) (bT fb)) ∧ z = (e2 <<< ((Int32.ofInt fb).toInt64 &&& 63)) + FP.d2l (FP.dmul (FP.dsub s2 d1) (bT fb))) := by
  unfold bF at h
  split at h
  · rename_i h1
    exact Or.inl ⟨h1, (Option.some.inj h).symm⟩
  · rename_i h1
    refine Or.inr ⟨by omega, ?_⟩
    split at h
    · exact absurd h (by simp)
    · rename_i s1 e1 h2
      split at h
      · exact absurd h (by simp)
      · rename_i s2 e2 h3
        split at h
        · rename_i h4
          exact ⟨s1, e1, s2, e2, h2, h3, vb64_t h4.1, vb64_t h4.2, (Option.some.inj h).symm⟩
        · exact absurd h (by simp)
theorem bA_i {i : Int} {s s1 : UInt64} {e e1 : Int64} (h0 : 0 ≤ i) (h : bA (64 - i).toNat s e = some (s1, e1)) : (64 ≤ i → s = s1 ∧ e = e1) ∧ (i < 64 → 0 ≤ cvD .g s d1 → s = s1 ∧ e = e1) ∧ (i < 64 → cvD .g s d1 < 0 → vf_n64 (FP.dmul s d2) ∧ bA (64 - (i + 1)).toNat (FP.dmul s d2) (e - Int64.ofNat 1) = some (s1, e1)) := by
  refine ⟨fun hi => ?_, fun hi hc => ?_, fun hi hc => ?_⟩
  · rw [show (64 - i).toNat = 0 by omega] at h
    have := Option.some.inj h
    exact ⟨congrArg Prod.fst this, congrArg Prod.snd this⟩
  · rw [show (64 - i).toNat = (64 - (i + 1)).toNat + 1 by omega] at h
    unfold bA at h
    rw [if_pos hc] at h
    have := Option.some.inj h
    exact ⟨congrArg Prod.fst this, congrArg Prod.snd this⟩
  · rw [show (64 - i).toNat = (64 - (i + 1)).toNat + 1 by omega] at h
    rw [bA, if_neg (by omega)] at h
    split at h
    · rename_i h2
      exact ⟨vb64_t h2, h⟩
    · exact absurd h (by simp)
theorem bB_i {i : Int} {s s1 : UInt64} {e e1 : Int64} (h0 : 0 ≤ i) (h : bB (64 - i).toNat s e = some (s1, e1)) : (64 ≤ i → s = s1 ∧ e = e1) ∧ (i < 64 → cvD .l s d2 < 0 → s = s1 ∧ e = e1) ∧ (i < 64 → ¬ cvD .l s d2 < 0 → vf_n64 (FP.ddiv s d2) ∧ bB (64 - (i + 1)).toNat (FP.ddiv s d2) (e + Int64.ofNat 1) = some (s1, e1)) := by
  refine ⟨fun hi => ?_, fun hi hc => ?_, fun hi hc => ?_⟩
  · rw [show (64 - i).toNat = 0 by omega] at h
    have := Option.some.inj h
    exact ⟨congrArg Prod.fst this, congrArg Prod.snd this⟩
  · rw [show (64 - i).toNat = (64 - (i + 1)).toNat + 1 by omega] at h
    unfold bB at h
    rw [if_pos hc] at h
    have := Option.some.inj h
    exact ⟨congrArg Prod.fst this, congrArg Prod.snd this⟩
  · rw [show (64 - i).toNat = (64 - (i + 1)).toNat + 1 by omega] at h
    rw [bB, if_neg hc] at h
    split at h
    · rename_i h2
      exact ⟨vb64_t h2, h⟩
    · exact absurd h (by simp)
/-- what share and height want of two numbers -/
def shC (g r : Nat) : Bool := vb64 (FP.ddiv (FP.i2d (Int32.ofInt g)) (FP.i2d (Int32.ofInt r))) && vb32 (FP.d2f (FP.ddiv (FP.i2d (Int32.ofInt g)) (FP.i2d (Int32.ofInt r)))) && vb64 (FP.f2d (FP.d2f (FP.ddiv (FP.i2d (Int32.ofInt g)) (FP.i2d (Int32.ofInt r))))) && decide (cvF .l (FP.d2f (FP.ddiv (FP.i2d (Int32.ofInt g)) (FP.i2d (Int32.ofInt r)))) (FP.d2f (FP.ddiv (FP.i2d (Int32.ofInt g)) (FP.i2d (Int32.ofInt r)))) = 0) && decide ((bF (FP.f2d (FP.d2f (FP.ddiv (FP.i2d (Int32.ofInt g)) (FP.i2d (Int32.ofInt r))))) 127 23).map (fun z => z.toInt32) = some (FP.d2f (FP.ddiv (FP.i2d (Int32.ofInt g)) (FP.i2d (Int32.ofInt r)))).toInt32)
def heC (g r : Nat) : Bool := vb64 (FP.ddiv (FP.i2d (Int32.ofInt g)) (FP.i2d (Int32.ofInt r))) && decide (cvD .l (FP.ddiv (FP.i2d (Int32.ofInt g)) (FP.i2d (Int32.ofInt r))) (FP.ddiv (FP.i2d (Int32.ofInt g)) (FP.i2d (Int32.ofInt r))) = 0) && decide (bF (FP.ddiv (FP.i2d (Int32.ofInt g)) (FP.i2d (Int32.ofInt r))) 1023 52 = some (FP.ddiv (FP.i2d (Int32.ofInt g)) (FP.i2d (Int32.ofInt r))).toInt64)
theorem heA : (List.range 11).all (fun r => r == 0 || (List.range 61).all (fun g => heC g r)) = true := by decide +kernel

theorem shA : (List.range 61).all (fun r => r == 0 || (List.range (r + 1)).all (fun g => shC g r)) = true := by decide +kernel