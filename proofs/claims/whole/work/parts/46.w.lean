/-! THE CLAIM OUT OF ONE WALK OF THE LAW'S BODY. Your part is whole_start (and what it stands on); all else here is the same for every law, but numbers. -/
def R_law : String := "EqualHeightsLaw"
def lw_P (b : Addr) (xs : List Int32) (args : Array Value) (s : State) : Prop := args = #[.ref b] ∧ s.IntsAt b xs ∧ xs.length ≤ 3072 ∧ (Jvm.Cond.and given_1 narrow_1).before args s = true
/-- what a walk over the start with the record d0 says of its end, said of the start itself -/
theorem lw_closed {s t : State} {o : Outcome} {d0 : Drawn} {L : List Loc} {k n : Nat} (hd0 : s.drawn.sameBut d0 lw_cs) (hv : ∃ v, o = .returned v) (hW : (s.setDrawn d0).WarmedH t.vm) (hs : (s.setDrawn d0).sameButNew ({ t with vm := s.vm } : State) L k n) : State.butDraws s t lw_cs (fun t1 => Framed s o t1 L k n) := by
  have h2 : t.drawn = d0 := congrArg State.drawn hs.1
  refine ⟨⟨hv, hW, State.sameButNew.setDrawn hs s.drawn⟩, ?_, by decide⟩
  rw [h2]
  exact hd0
def lw_Q (_ : Array Value) (s : State) (o : Outcome) (t : State) : Prop := o = .returned (some (.int 1)) ∧ State.butDraws s t lw_cs (fun t1 => Framed s o t1 [] 600000 7302250)
def lw_Z (below : List Frame) (a : Array Value) (s : State) : State → Prop := fun t => ∃ o, t.status = .running ∧ Ended t below o ∧ lw_Q a s o t
/-- the law's own end, with 1 on the stack, nothing written that was there before, its room as the claim has it; d0: the record of draws at this point (at the entry s.drawn: begin with 'refine W.base ?_' and 'have hd0 := Drawn.sameBut.refl s.drawn lw_cs') -/
theorem lw_ret {p : Program} {l : Launch} {e : Env} {s : State} {m : MethodId} {below : List Frame} {meth : Method} {c : Code} {b : Nat} {d0 : Drawn} (hd0 : s.drawn.sameBut d0 lw_cs) (hx : p.tables.exec = Jvm.exec) (hb : c.code = code) (hr : meth.sig.returnType = ret) (hlocks : meth.locks = false) {pc : Nat} {H : Heap} {ls : Array Slot} (hdg : decode code pc = .ok (.ireturn, 1)) : W p l e room_1 (s.setDrawn d0) m #[Value.ref b] below meth c H [] 600000 7302250 (lw_Z below #[Value.ref b] s) (F0 m pc ls [.int 1]) := by
  intro T hT X
  obtain ⟨fs, hret, hrun, hended, hW, hframe⟩ := X.leave (v := some (.int 1)) (hlocks := hlocks) (fun h => by rw [hr] at h; cases h)
  have hmeth' : T.vm.method? m = some meth := X.method'
  refine ⟨T.setFrames fs, ?_, .returned (some (.int 1)), hrun, hended, rfl, lw_closed hd0 ⟨_, rfl⟩ hW hframe⟩
  jvm_step X.here [X.here.top, hx, hb, hdg, hmeth', hr, ret, narrow_b1]
  (try refine ⟨rfl, ?_⟩); (try refine ⟨rfl, ?_⟩)
  first | (intro acts; rw [hret _ acts rfl rfl rfl]) | rw [hret _ _ rfl rfl rfl]
  exact Steps.refl _
/-- what holds at the law's entry: the machine, the code, the tables' words (any of lw_tbl by 'hts w (by decide +kernel)'), the script of L ints xs at the cell b, what the Statement gives of the start (any of its parts by flat_of_before) -/
def lw_At (p : Program) (s : State) (m : MethodId) (meth : Method) (c : Code) (b L : Nat) (xs : Nat → Int32) : Prop :=
  p.tables.exec = Jvm.exec ∧ c.code = code ∧ meth.sig.returnType = ret ∧ c.maxLocals = 4 ∧ s.vm.findClass R_law = some m.cls ∧ (∀ w ∈ lw_tbl, w.before #[Value.ref b] s = true) ∧ va_X b L xs s s.heap ∧ b < s.heap.size ∧ meth.locks = false ∧ (Jvm.Cond.and given_1 narrow_1).before #[Value.ref b] s = true
/-! the law: its script, its end, what holds between two calls -/
def jS (X : jX) (b L : Nat) (xs : Nat → Int32) : Prop := match X with
  | (_, _, _, R, s, _, args, below, _, _, Q, _, b0, _) => va_X b L xs s s.heap ∧ b < s.heap.size ∧ b0 = s.heap.size ∧ R = room_1 ∧ args = #[Value.ref b] ∧ Q = lw_Z below #[Value.ref b] s
abbrev sc (xs : Nat → Int32) (z : Int) : Int := (xs z.toNat).toInt
theorem jk_sld {X : jX} {cc : ByteArray} {own nm : String} {ret : Option FieldType} {rm : Room} {pc q n ce sl : Nat} {lv : List (Option Value)} {st : List Value} {M : jM} (h : jB X cc own nm ret rm) {b L : Nat} {xs : Nat → Int32} (hs : jS X b L xs) {i : Int} (h0 : 0 ≤ i) (h1 : i < L) (hL : L ≤ 3072) (hd : decode cc pc = .ok (.iaload, 1)) (hq : pc + 1 = q) (k : jJ X q lv (jI (sc xs i) :: st) n M ce sl) : jJ X pc lv (jI i :: .ref b :: st) n M ce sl := by
  obtain ⟨p, l, e, R, s, m, args, below, meth, c, Q, D, b0, nL⟩ := X
  obtain ⟨hx, hb, hml, hown, hts, hK, hb0, hR, hnm, hr, hlk⟩ := h
  obtain ⟨hX, hbl, he0, -⟩ := hs
  intro H locs ls hH hS hL9
  subst hq
  obtain ⟨e1, e2⟩ := jI_ix (len := L) h0 h1 (by rw [Nat.ble_eq]; omega)
  have k := k H locs ls hH hS hL9
  rw [show jI (sc xs i) = Value.int (xs i.toNat) from (jI_of _).symm, ← e2] at k
  exact va_sld (A := fun q => b0 ≤ q) hx hb hX hbl (Nat.not_le.mpr (by omega)) hS (i := Int32.ofInt i) e1 hd k
theorem jk_slen {X : jX} {cc : ByteArray} {own nm : String} {ret : Option FieldType} {rm : Room} {pc q n ce sl : Nat} {lv : List (Option Value)} {st : List Value} {M : jM} (h : jB X cc own nm ret rm) {b L : Nat} {xs : Nat → Int32} (hs : jS X b L xs) (hd : decode cc pc = .ok (.arraylength, 1)) (hq : pc + 1 = q) (k : jJ X q lv (jI (L : Int) :: st) n M ce sl) : jJ X pc lv (.ref b :: st) n M ce sl := by
  obtain ⟨p, l, e, R, s, m, args, below, meth, c, Q, D, b0, nL⟩ := X
  obtain ⟨hx, hb, hml, hown, hts, hK, hb0, hR, hnm, hr, hlk⟩ := h
  obtain ⟨hX, hbl, he0, -⟩ := hs
  intro H locs ls hH hS hL9
  subst hq
  have k := k H locs ls hH hS hL9
  rw [show jI (L : Int) = Value.int (Int32.ofNat L) from rfl] at k
  exact va_slen (A := fun q => b0 ≤ q) hx hb hX hbl (Nat.not_le.mpr (by omega)) hS hd k
theorem jk_icmp_same {X : jX} {cc : ByteArray} {own nm : String} {ret : Option FieldType} {rm : Room} {pc n ce sl : Nat} {lv : List (Option Value)} {st : List Value} {M : jM} (h : jB X cc own nm ret rm) {a off : Int} {tgt : Nat} (hd : decode cc pc = .ok (.if_icmp .eq off, 3)) (ht : (pc : Int) + off = (tgt : Int)) (k : jJ X tgt lv st n M ce sl) : jJ X pc lv (jI a :: jI a :: st) n M ce sl := by
  obtain ⟨p, l, e, R, s, m, args, below, meth, c, Q, D, b0, nL⟩ := X
  obtain ⟨hx, hb, hml, hown, hts, hK, hb0, hR, hnm, hr, hlk⟩ := h
  intro H locs ls hH hS hL
  exact lv_icmp_eq hx hb hd ht (fun hc => k H locs ls hH hS hL) (fun hc => absurd rfl hc)
theorem lg_cmp_s (x : Int64) : lg_cmp x x = Int32.ofInt 0 := by
  unfold lg_cmp
  simp
theorem jk_ret1 {X : jX} {nm : String} {pc n ce sl : Nat} {lv : List (Option Value)} {M : jM} (h : jB X cL_law RL nm ret room_1) {b L : Nat} {xs : Nat → Int32} (hs : jS X b L xs) (hd : decode cL_law pc = .ok (.ireturn, 1)) (hce : ce ≤ 600000) (hsl : sl ≤ 7302250) : jJ X pc lv [jI 1] n M ce sl := by
  obtain ⟨p, l, e, R, s, m, args, below, meth, c, Q, D, b0, nL⟩ := X
  obtain ⟨hx, hb, hml, hown, hts, hK, hb0, hR, hnm, hr, hlk⟩ := h
  obtain ⟨hX, hbl, he0, hR2, ha, hQ⟩ := hs
  intro H locs ls hH hS hL
  subst hR2 ha hQ he0
  refine va_forget (fun q hq => hS.2.2 q hq) ?_
  refine W.widen hce hsl ?_
  refine W.base ?_
  exact lw_ret (Drawn.sameBut.refl s.drawn lw_cs) hx hb hr hlk hd
theorem cnQ_u {x : TS} {len hl w r r2 : Int} (h : cnQ x len hl w r) (h2 : cnQ x len hl w r2) : r2 = r := by
  have hw : w = 0 ∨ w = 1 ∨ w = 2 ∨ w = 3 ∨ w = 4 ∨ w = 5 ∨ w = 6 ∨ w = 7 ∨ w = 8 ∨ w = 9 ∨ w = 10 ∨ w = 11 ∨ w = 12 ∨ w = 13 ∨ w = 14 ∨ ¬ (0 ≤ w ∧ w ≤ 14) := by omega
  rcases hw with e | e | e | e | e | e | e | e | e | e | e | e | e | e | e | e
  · exact (h2.1 e).trans (h.1 e).symm
  · exact (h2.2.1 e).trans (h.2.1 e).symm
  · exact (h2.2.2.1 e).trans (h.2.2.1 e).symm
  · exact (h2.2.2.2.1 e).trans (h.2.2.2.1 e).symm
  · exact (h2.2.2.2.2.1 e).trans (h.2.2.2.2.1 e).symm
  · exact (h2.2.2.2.2.2.1 e).trans (h.2.2.2.2.2.1 e).symm
  · exact (h2.2.2.2.2.2.2.1 e).trans (h.2.2.2.2.2.2.1 e).symm
  · exact (h2.2.2.2.2.2.2.2.1 e).trans (h.2.2.2.2.2.2.2.1 e).symm
  · exact (h2.2.2.2.2.2.2.2.2.1 e).trans (h.2.2.2.2.2.2.2.2.1 e).symm
  · exact (h2.2.2.2.2.2.2.2.2.2.1 e).trans (h.2.2.2.2.2.2.2.2.2.1 e).symm
  · exact (h2.2.2.2.2.2.2.2.2.2.2.1 e).trans (h.2.2.2.2.2.2.2.2.2.2.1 e).symm
  · exact (h2.2.2.2.2.2.2.2.2.2.2.2.1 e).trans (h.2.2.2.2.2.2.2.2.2.2.2.1 e).symm
  · exact (h2.2.2.2.2.2.2.2.2.2.2.2.2.1 e).trans (h.2.2.2.2.2.2.2.2.2.2.2.2.1 e).symm
  · exact (h2.2.2.2.2.2.2.2.2.2.2.2.2.2.1 e).trans (h.2.2.2.2.2.2.2.2.2.2.2.2.2.1 e).symm
  · exact (h2.2.2.2.2.2.2.2.2.2.2.2.2.2.2.1 e).trans (h.2.2.2.2.2.2.2.2.2.2.2.2.2.2.1 e).symm
  · exact (h2.2.2.2.2.2.2.2.2.2.2.2.2.2.2.2 e).trans (h.2.2.2.2.2.2.2.2.2.2.2.2.2.2.2 e).symm
theorem ehP.keepm {M M2 : jM} {n e lo b k : Nat} {x : TS} {hl : Int} {hk : Nat → TS} {sl : Nat → Option TS} {sg : Nat → Int} {len : Int} {pr : Option TS} (h : ehP M n e lo x hl hk sl sg len pr) (ho : jout M M2 b k) (h1 : e + 41 ≤ b) (h2 : b + k ≤ lo) : ehP M2 n e lo x hl hk sl sg len pr := by
  obtain ⟨g, gs, nx, at9, kd, fi, se, ti, tr, L, f, hE, hS, hL, hH, hD, hR, hC, hdy, hz⟩ := h
  exact ⟨g, gs, nx, at9, kd, fi, se, ti, tr, L, f, hE.keep ho 1 rfl (by omega), hS.keep ho (by omega), hL.keep ho 1 rfl (by omega), hH.keep ho 2 rfl (by omega), hD.keep ho 2 rfl (by omega), hR.keep ho 1 rfl (by omega), hC.keep ho 8 rfl (by omega), hdy.keep ho h2, hz⟩
def lgI (k : Nat) (x : TS) : Prop := inQ x ∧ x.2.2.1.2 ≤ 800 * (k : Int)
theorem lgI.up {k : Nat} {x : TS} (h : lgI k x) : lgI (k + 1) x := ⟨h.1, by have := h.2; omega⟩
def lgH (k : Nat) (x : TS) (hl : Int) (hk : Nat → TS) (sl : Nat → Option TS) : Prop := lgI k x ∧ (∀ j : Nat, (j : Int) < hl → lgI k (hk j)) ∧ ∀ (i : Nat) (y : TS), i < 2 → sl i = some y → lgI k y
theorem lgH.up {k : Nat} {x : TS} {hl : Int} {hk : Nat → TS} {sl : Nat → Option TS} (h : lgH k x hl hk sl) : lgH (k + 1) x hl hk sl := ⟨h.1.up, fun j hj => (h.2.1 j hj).up, fun i y h1 h2 => (h.2.2 i y h1 h2).up⟩
theorem lgH.rc {k : Nat} {x x2 : TS} {hl r : Int} {hk : Nat → TS} {sl : Nat → Option TS} (h : lgH k x hl hk sl) (h2 : lgI (k + 1) x2) : lgH (k + 1) x2 (rcH r hl) (rcK r x hk) sl := by
  refine ⟨h2, ?_, h.up.2.2⟩
  unfold rcH rcK
  by_cases hr : 0 ≤ r
  · rw [if_pos hr, if_pos hr]
    intro j hj
    by_cases hj0 : j = 0
    · subst hj0
      exact h.1.up
    · show lgI (k + 1) (if j = 0 then x else hk (j - 1))
      rw [if_neg hj0]
      refine (h.2.1 (j - 1) ?_).up
      unfold jmn at hj
      split at hj <;> omega
  · rw [if_neg hr, if_neg hr]
    exact h.up.2.1
theorem lgI.ch {k : Nat} {x x2 : TS} {q v r : Int} (h : lgI k x) (hc : chQ x q v r x2) : lgI (k + 1) x2 := ⟨chQ_in h.1 hc, by
  have h2 := h.2
  rcases hc with ⟨-, -, rfl⟩ | ⟨-, -, rfl⟩
  · omega
  · show x.2.2.1.2 ≤ _
    omega⟩
theorem lgI.ad {k : Nat} {x x2 : TS} {p q r : Int} (h : lgI k x) (hc : adQ x p q r x2) : lgI (k + 1) x2 := ⟨adQ_in h.1 hc, by
  have h2 := h.2
  have h3 := adQ_ch hc
  omega⟩
theorem lgI.dr {k : Nat} {x x2 : TS} {p r : Int} (h : lgI k x) (hc : drQ x p r x2) : lgI (k + 1) x2 := ⟨drQ_in h.1 hc, by
  have h2 := h.2
  rcases hc with ⟨-, -, rfl⟩ | ⟨-, -, rfl⟩
  · omega
  · show nch x.2.2.1.1 x.2.2.1.2 ≤ _
    unfold nch
    split <;> omega⟩
theorem lgI.an {k : Nat} {x x2 : TS} {r : Int} (hx : stQ x) (h : lgI k x) (hc : anQ x r x2) : lgI (k + 1) x2 := ⟨anQ_in hx h.1 hc, by
  have h2 := h.2
  rcases hc with ⟨-, -, rfl⟩ | ⟨-, -, A, B, p, rfl, -⟩
  · omega
  · show (0 : Int) ≤ _
    omega⟩
theorem coQ_in {sg : Nat → Int} {len : Int} : ∀ {f : Nat} {a j r : Int} {x x2 : TS}, stQ x → inQ x → coQ sg len f a j x r x2 → inQ x2 ∧ x2.2.2.1.2 ≤ x.2.2.1.2 + 9 * f ∧ stQ x2
  | 0, a, j, r, x, x2, hx, hi, h => by
    obtain ⟨-, rfl⟩ := h
    exact ⟨hi, by omega, hx⟩
  | f + 1, a, j, r, x, x2, hx, hi, h => by
    rcases h with ⟨-, -, rfl⟩ | ⟨ho, r1, x1, hq1, hf, h⟩
    · exact ⟨hi, by omega, hx⟩
    · have h1 := foQ_in hx hi hf
      have h2 := foQ_c hx (fun z => (oTi_b ho z).2) hf
      rcases h with ⟨-, -, rfl⟩ | ⟨-, h⟩
      · exact ⟨h1, by omega, hq1⟩
      · obtain ⟨a1, a2, a3⟩ := coQ_in hq1 h1 h
        exact ⟨a1, by omega, a3⟩
theorem lgI.co {k : Nat} {x x2 : TS} {sg : Nat → Int} {len r : Int} (hx : stQ x) (h : lgI k x) (hc : coQ sg len 80 0 0 x r x2) : lgI (k + 1) x2 := by
  obtain ⟨a1, a2, -⟩ := coQ_in hx h.1 hc
  have h2 := h.2
  exact ⟨a1, by omega⟩
def lgW (M : jM) (n e : Nat) (x : TS) (hl : Int) (hk : Nat → TS) (sl : Nat → Option TS) (sg : Nat → Int) (len : Int) (k : Nat) : Prop := ehP M n e (e + 50) x hl hk sl sg len none ∧ moP M (e + 41) x hl hk sl sg len ∧ lgH k x hl hk sl
abbrev lgL (b e : Nat) (i : Int) : List (Option Value) := [some (.ref b), some (.ref e), some (.ref (e + 41)), some (jI i)]
/-- the road on, behind a call of both -/
def lgK (X : jX) (b e : Nat) (i : Int) (k : Nat) : Prop := ∀ (n2 : Nat) (M2 : jM) (x2 : TS) (hl2 : Int) (hk2 : Nat → TS) (sl2 : Nat → Option TS) (sg2 : Nat → Int) (len2 : Int), lgW M2 n2 e x2 hl2 hk2 sl2 sg2 len2 (k + 1) → jJ X 813 (lgL b e i) [] n2 M2 (50 + 26 * (k + 1)) (5662 + 479 * (k + 1))
theorem moP.rcv {M : jM} {m : Nat} {x : TS} {hl : Int} {hk : Nat → TS} {sl : Nat → Option TS} {sg : Nat → Int} {len : Int} (h : moP M m x hl hk sl sg len) : ∃ fs, M m = some (.inr (9, fs)) := by
  obtain ⟨σ, τ, ps, sv, hd9, pd, a9, od, on, lf, h1, h2⟩ := h
  exact ⟨_, h1.at 0 rfl⟩
theorem and_31 (x : Int) : ∃ z : Int, (0 ≤ z ∧ z ≤ 31) ∧ Int32.ofInt x &&& Int32.ofInt 31 = Int32.ofInt z := by
  refine ⟨(Int32.ofInt x &&& Int32.ofInt 31).toInt, ?_, (Int32.ofInt_toInt _).symm⟩
  have e : (Int32.ofInt x &&& Int32.ofInt 31).toInt = ((Int32.ofInt x).toBitVec &&& 31#32).toInt := rfl
  rw [e]
  have h : ((Int32.ofInt x).toBitVec &&& 31#32).toNat ≤ 31 := by
    rw [BitVec.toNat_and]
    exact Nat.and_le_right
  rw [BitVec.toInt_eq_toNat_of_lt (by omega)]
  omega
