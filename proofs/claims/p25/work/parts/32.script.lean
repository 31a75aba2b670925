/-! the law: its script, contracts of what reads it -/
def jT (X : jX) (b L : Nat) (xs : Nat → Int32) : Prop := match X with
  | (_, _, _, _, s, _, _, _, _, _, _, _, b0, _) => va_X b L xs s s.heap ∧ b < b0
abbrev sc (xs : Nat → Int32) (z : Int) : Int := (xs z.toNat).toInt
theorem jk_sld {X : jX} {cc : ByteArray} {own nm : String} {ret : Option FieldType} {rm : Room} {pc q n ce sl : Nat} {lv : List (Option Value)} {st : List Value} {M : jM} (h : jB X cc own nm ret rm) {b L : Nat} {xs : Nat → Int32} (hs : jT X b L xs) {i : Int} (h0 : 0 ≤ i) (h1 : i < L) (hL : L ≤ 260) (hd : decode cc pc = .ok (.iaload, 1)) (hq : pc + 1 = q) (k : jJ X q lv (jI (sc xs i) :: st) n M ce sl) : jJ X pc lv (jI i :: .ref b :: st) n M ce sl := by
  obtain ⟨p, l, e, R, s, m, args, below, meth, c, Q, D, b0, nL⟩ := X
  obtain ⟨hx, hb, hml, hown, hts, hK, hb0, hR, hnm, hr, hlk⟩ := h
  obtain ⟨hX, hbl⟩ := hs
  intro H locs ls hH hS hL9
  subst hq
  obtain ⟨e1, e2⟩ := jI_ix (len := L) h0 h1 (by rw [Nat.ble_eq]; omega)
  have k := k H locs ls hH hS hL9
  rw [show jI (sc xs i) = Value.int (xs i.toNat) from (jI_of _).symm, ← e2] at k
  exact va_sld (A := fun q => b0 ≤ q) hx hb hX (Nat.lt_of_lt_of_le hbl hb0) (Nat.not_le.mpr hbl) hS (i := Int32.ofInt i) e1 hd k
theorem jk_slen {X : jX} {cc : ByteArray} {own nm : String} {ret : Option FieldType} {rm : Room} {pc q n ce sl : Nat} {lv : List (Option Value)} {st : List Value} {M : jM} (h : jB X cc own nm ret rm) {b L : Nat} {xs : Nat → Int32} (hs : jT X b L xs) (hd : decode cc pc = .ok (.arraylength, 1)) (hq : pc + 1 = q) (k : jJ X q lv (jI (L : Int) :: st) n M ce sl) : jJ X pc lv (.ref b :: st) n M ce sl := by
  obtain ⟨p, l, e, R, s, m, args, below, meth, c, Q, D, b0, nL⟩ := X
  obtain ⟨hx, hb, hml, hown, hts, hK, hb0, hR, hnm, hr, hlk⟩ := h
  obtain ⟨hX, hbl⟩ := hs
  intro H locs ls hH hS hL9
  subst hq
  have k := k H locs ls hH hS hL9
  rw [show jI (L : Int) = Value.int (Int32.ofNat L) from rfl] at k
  exact va_slen (A := fun q => b0 ≤ q) hx hb hX (Nat.lt_of_lt_of_le hbl hb0) (Nat.not_le.mpr hbl) hS hd k
def jPcT (D : va_G) (b0 b L : Nat) (xs : Nat → Int32) (av : List Value) (n : Nat) (M : jM) : Array Value → State → Prop := va_Pc av (fun U => (jHold D b0 U n M U.heap ∧ jK D U ∧ b0 ≤ U.heap.size) ∧ va_X b L xs U U.heap ∧ b < b0)
def jCtrT (l : Launch) (D : va_G) (b0 b L : Nat) (xs : Nat → Int32) (y : MethodName) (cc : ByteArray) (nL : Nat) (ret : Option FieldType) (d mc ms : Nat) (av : List Value) (n : Nat) (M : jM) (post : Option Value → Nat → jM → Prop) : Prop :=
  Met l y (Cond.code y cc nL ret :: wsL_law) (jrm d mc ms) (jPcT D b0 b L xs av n M) (jQc D b0 post) mc ms (fun q => b0 ≤ q)
theorem jctrT {l : Launch} {D : va_G} {b0 b L : Nat} {xs : Nat → Int32} {y : MethodName} {cc : ByteArray} {nL : Nat} {ret : Option FieldType} {d mc ms : Nat} {av : List Value} {n : Nat} {M : jM} {post : Option Value → Nat → jM → Prop} {lv : List (Option Value)} (own nm : String) (hown : y.cls = own) (hname : y.name = nm) (hy : plainName y.cls = true) (hlen : (lg_sl av).length ≤ nL) (hlv : jflat av ++ List.replicate (nL - (jflat av).length) none = lv)
    (body : ∀ X : jX, jB X cc own nm ret (jrm d mc ms) → jR X post mc ms → jF X l D b0 → jT X b L xs → jJ X 0 lv [] n M 0 0) : jCtrT l D b0 b L xs y cc nL ret d mc ms av n M post := by
  subst hown; subst hname
  refine Met.ofW (cc := cc) (maxL := nL) (ret := ret) hy rfl ?_
  intro p e s m args below meth c s₁ B hml hv
  obtain ⟨rfl, ⟨hH, hK, hb0⟩, hT⟩ := hv
  have hts0 := atoms_spec (ws := Cond.code y cc nL ret :: wsL_law) B.pre
  have hbd := body (p, l, e, jrm d mc ms, s, m, av.toArray, below, meth, c, MQ below (jQc D b0 post) av.toArray s mc ms (fun q => b0 ≤ q), D, b0, nL)
    ⟨B.exec, B.bytes, hml, findClass_of_methodNamed B.named, fun w hw => hts0 w (List.mem_cons_of_mem _ hw), hK, hb0, rfl, (name_of_methodNamed B.named B.method).1, B.returns, B.notSynchronized⟩ rfl ⟨rfl, rfl, rfl⟩ hT
  rw [lg_entry_eq]
  exact hbd s.heap [] _ hH va_S.rf (jL_entry av hlen hlv)
theorem jk_callT {X : jX} {cc : ByteArray} {own nm : String} {ret : Option FieldType} {rm : Room} {pc q n ce sl : Nat} {lv : List (Option Value)} {st : List Value} {M : jM} (h : jB X cc own nm ret rm) {l9 : Launch} {D9 : va_G} {b9 b L : Nat} {xs : Nat → Int32} {y : MethodName} {c9 : ByteArray} {nL9 d9 d8 mc ms ix k9 : Nat} {ret9 : Option FieldType} {av rest : List Value} {post : Option Value → Nat → jM → Prop} (hX : jF X l9 D9 b9) (hT : jT X b L xs) (hc : jCtrT l9 D9 b9 b L xs y c9 nL9 ret9 d9 mc ms (av) n M post) (hy : jMS y c9 nL9 ret9 k9) (hd : decode cc pc = .ok (.invokestatic ix, 3)) (hl : Cond.methodLink own ix y ∈ wsL_law) (hrm : rm.frames = d8 ∧ 33 * d8 ≤ rm.locals) (hdd : Nat.blt d9 d8 = true) (hn9 : Nat.ble nL9 14 = true) (hce : ce + mc ≤ rm.cells) (hsl : sl + ms ≤ rm.slots) (hav : av.length = k9) (hst : av.reverse ++ rest = st) (hcat : (rest.map fun v => v.category).sum ≤ 8) (hq : pc + 3 = q) (k : ∀ v n2 M2, post v n2 M2 → jJ X q lv (v.toList ++ rest) n2 M2 (ce + mc) (sl + ms)) : jJ X pc lv (st) n M ce sl := by
  obtain ⟨p, l, e, R, s, m, args, below, meth, c, Q, D, b0, nL⟩ := X
  obtain ⟨hx, hb, hml, hown, hts, hK, hb0, hR, hnm, hr, hlk⟩ := h
  intro H locs ls hH hS hL
  obtain ⟨hstat, hini, hcode, hy1, hy2, hy3⟩ := hy
  obtain ⟨rfl, rfl, rfl⟩ := hX
  obtain ⟨hXs, hbl⟩ := hT
  subst hq; subst hst; subst hR
  have hroom : d9 + 1 ≤ R.frames ∧ 8 + (nL9 + 11) + 33 * d9 ≤ R.locals := by
    have h1 := Nat.le_of_ble_eq_true hdd
    have h2 := Nat.le_of_ble_eq_true hn9
    omega
  have hG : GoodIn wsL_law (Cond.code y c9 nL9 ret9 :: wsL_law) := jtGc hcode
  refine jk_run (va_runS (As := av) (n := k9) ⟨hx, hb, hml, hown, hts⟩ hc ⟨callB_of k9 hts hG rfl rfl rfl (hts _ hini) (hts _ hl) ⟨hy1, hy2, hy3⟩ hroom, hts _ hstat⟩ ⟨fun a U g mk z => ⟨z.1, ⟨z.2.1.1.call, z.2.1.2.1.call, z.2.1.2.2⟩, va_X.moved (u := U) (U := U.calling g mk a) (Vm.Alike.refl U.vm) z.2.2.1, z.2.2.2⟩, fun U hU hW => ⟨rfl, ⟨(hH.moved hW.alike).heap hU, hK.moved hW, by rw [hU]; exact Nat.le_trans hb0 hS.1⟩, va_X.moved hW.alike (hXs.kept (by rw [hU]; exact hS.2.1 b (Nat.lt_of_lt_of_le hbl hb0) (Nat.not_le.mpr hbl))), hbl⟩⟩ rfl hav hL.1 rfl (lv_room hcat) hd ⟨hce, hsl⟩) hS (fun v n2 M2 H1 locs1 hp hH1 hS1 => ?_)
  exact k v n2 M2 hp H1 locs1 ls hH1 hS1 hL
theorem and_max (x : Int) : ∃ z : Int, (0 ≤ z ∧ z ≤ 2147483647) ∧ Int32.ofInt x &&& Int32.ofInt 2147483647 = Int32.ofInt z := by
  refine ⟨(Int32.ofInt x &&& Int32.ofInt 2147483647).toInt, ?_, (Int32.ofInt_toInt _).symm⟩
  have e : (Int32.ofInt x &&& Int32.ofInt 2147483647).toInt = ((Int32.ofInt x).toBitVec &&& 2147483647#32).toInt := rfl
  rw [e]
  have h : ((Int32.ofInt x).toBitVec &&& 2147483647#32).toNat ≤ 2147483647 := by
    rw [BitVec.toNat_and]
    exact Nat.and_le_right
  rw [BitVec.toInt_eq_toNat_of_lt (by omega)]
  omega
theorem lg_cmp_s (x : Int64) : lg_cmp x x = Int32.ofInt 0 := by
  unfold lg_cmp
  simp

set_option maxHeartbeats 4000000 in
set_option maxRecDepth 100000 in
theorem c_L_low {l : Launch} {D : va_G} {b0 : Nat} {n : Nat} {M : jM} {x d : Int} (hd : 0 < d ∧ d ≤ 2147483647) : jCtr l D b0 yL_low cL_low 2 (some .int) 0 0 0 [jI x, jI d] n M (fun v n2 M2 => ∃ z : Int, some (jI z) = v ∧ n = n2 ∧ M = M2 ∧ 0 ≤ z ∧ z < d) := by
  refine jctr (lv := [some (jI x), some (jI d)]) RL "low" rfl rfl (by decide) (Nat.le_of_ble_eq_true rfl) rfl ?_
  intro X h hR hX
  obtain ⟨z, hz, hze⟩ := and_max x
  refine jk_iload_n (q := 1) h dL_low_0 rfl rfl ?_
  refine jk_ldc (q := 3) h dL_low_1 kc_L_7 rfl ?_
  refine jk_iand (q := 4) h dL_low_3 hze rfl ?_
  refine jk_iload_n (q := 5) h dL_low_4 rfl rfl ?_
  refine jk_irem (q := 6) h dL_low_5 hz.1 hz.2 hd.1 hd.2 rfl ?_
  exact jk_iret h hR dL_low_6 (Nat.le_of_ble_eq_true rfl) (Nat.le_of_ble_eq_true rfl) ⟨_, rfl, rfl, rfl, Int.emod_nonneg _ (by omega), Int.emod_lt_of_pos _ hd.1⟩

set_option maxHeartbeats 4000000 in
set_option maxRecDepth 100000 in
theorem c_L_cell {l : Launch} {D : va_G} {b0 : Nat} {n : Nat} {M : jM} {b L : Nat} {xs : Nat → Int32} (hL : L ≤ 260) {k : Int} (hk : 0 ≤ k ∧ k ≤ 300) : jCtrT l D b0 b L xs yL_cell cL_cell 2 (some .int) 0 0 0 [.ref b, jI k] n M (fun v n2 M2 => ∃ z : Int, some (jI z) = v ∧ n = n2 ∧ M = M2) := by
  refine jctrT (lv := [some (.ref b), some (jI k)]) RL "cell" rfl rfl (by decide) (Nat.le_of_ble_eq_true rfl) rfl ?_
  intro X h hR hX hT
  refine jk_iload_n (q := 1) h dL_cell_0 rfl rfl ?_
  refine jk_aload_n (q := 2) h dL_cell_1 rfl rfl ?_
  refine jk_slen (q := 3) h hT dL_cell_2 rfl ?_
  refine jk_icmp_ge (q := 6) (tgt := 12) h dL_cell_3 (by decide) rfl ⟨by omega, by omega⟩ ⟨by omega, by omega⟩ (fun c3 => ?_) (fun c3 => ?_)
  · refine jk_ldc (q := 14) h dL_cell_12 kc_L_8 rfl ?_
    refine jk_iload_n (q := 15) h dL_cell_14 rfl rfl ?_
    refine jk_imul (q := 16) h dL_cell_15 rfl ?_
    refine jk_sipush (q := 19) h dL_cell_16 (by decide) rfl ?_
    refine jk_iadd (q := 20) h dL_cell_19 rfl ?_
    exact jk_iret h hR dL_cell_20 (Nat.le_of_ble_eq_true rfl) (Nat.le_of_ble_eq_true rfl) ⟨_, rfl, rfl, rfl⟩
  · refine jk_aload_n (q := 7) h dL_cell_6 rfl rfl ?_
    refine jk_iload_n (q := 8) h dL_cell_7 rfl rfl ?_
    refine jk_sld (q := 9) h hT (by omega) (by omega) hL dL_cell_8 rfl ?_
    refine jk_goto (q := 12) (tgt := 20) h dL_cell_9 (by decide) ?_
    exact jk_iret h hR dL_cell_20 (Nat.le_of_ble_eq_true rfl) (Nat.le_of_ble_eq_true rfl) ⟨_, rfl, rfl, rfl⟩
