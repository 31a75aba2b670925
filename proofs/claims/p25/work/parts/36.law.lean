/-! THE CLAIM OUT OF ONE WALK OF THE LAW'S BODY. Your part is whole_start (and what it stands on); all else here is the same for every law, but numbers. -/
def R_law : String := "EqualHeightsLaw"
def lw_P (b : Addr) (xs : List Int32) (args : Array Value) (s : State) : Prop := args = #[.ref b] ∧ s.IntsAt b xs ∧ xs.length ≤ 260 ∧ (Jvm.Cond.and given_1 narrow_1).before args s = true
/-- what a walk over the start with the record d0 says of its end, said of the start itself -/
theorem lw_closed {s t : State} {o : Outcome} {d0 : Drawn} {L : List Loc} {k n : Nat} (hd0 : s.drawn.sameBut d0 lw_cs) (hv : ∃ v, o = .returned v) (hW : (s.setDrawn d0).WarmedH t.vm) (hs : (s.setDrawn d0).sameButNew ({ t with vm := s.vm } : State) L k n) : State.butDraws s t lw_cs (fun t1 => Framed s o t1 L k n) := by
  have h2 : t.drawn = d0 := congrArg State.drawn hs.1
  refine ⟨⟨hv, hW, State.sameButNew.setDrawn hs s.drawn⟩, ?_, by decide⟩
  rw [h2]
  exact hd0
def lw_Q (_ : Array Value) (s : State) (o : Outcome) (t : State) : Prop := o = .returned (some (.int 1)) ∧ State.butDraws s t lw_cs (fun t1 => Framed s o t1 [] 600000 7302250)
def lw_Z (below : List Frame) (a : Array Value) (s : State) : State → Prop := fun t => ∃ o, t.status = .running ∧ Ended t below o ∧ lw_Q a s o t
/-- the law's own end, with 1 on the stack, nothing written that was there before, its room as the claim has it; d0: the record of draws at this point (at the entry s.drawn: begin with 'refine W.base ?_' and 'have hd0 := Drawn.sameBut.refl s.drawn lw_cs') -/
theorem lw_ret {p : Program} {l : Launch} {e : Env} {s : State} {m : MethodId} {below : List Frame} {meth : Method} {c : Code} {b : Nat} {d0 : Drawn} (hd0 : s.drawn.sameBut d0 lw_cs) (hx : p.tables.exec = Jvm.exec) (hb : c.code = code) (hr : meth.sig.returnType = ret) (hlocks : meth.locks = false) {pc : Nat} {H : Heap} {ls : Array Slot} (hdg : decode code pc = .ok (.ireturn, 1)) : W p l e room_1 (s.setDrawn d0) m #[Value.ref b] below meth c H [] 600000 7302250 (lw_Z below #[Value.ref b] s) (F0 m pc ls [.int 1]) := by
  intro T hT X
  obtain ⟨fs, hret, hrun, hended, hW, hframe⟩ := X.leave (v := some (.int 1)) (hlocks := hlocks) (fun h => by rw [hr] at h; cases h)
  have hmeth' : T.vm.method? m = some meth := X.method'
  refine ⟨T.setFrames fs, ?_, .returned (some (.int 1)), hrun, hended, rfl, lw_closed hd0 ⟨_, rfl⟩ hW hframe⟩
  jvm_step X.here [X.here.top, hx, hb, hdg, hmeth', hr, ret, narrow_b1]
  (try refine ⟨rfl, ?_⟩); (try refine ⟨rfl, ?_⟩)
  first | (intro acts; rw [hret _ acts rfl rfl rfl]) | rw [hret _ _ rfl rfl rfl]
  exact Steps.refl _
/-- what holds at the law's entry: the machine, the code, the tables' words (any of lw_tbl by 'hts w (by decide +kernel)'), the script of L ints xs at the cell b, what the Statement gives of the start (any of its parts by flat_of_before) -/
def lw_At (p : Program) (s : State) (m : MethodId) (meth : Method) (c : Code) (b L : Nat) (xs : Nat → Int32) : Prop :=
  p.tables.exec = Jvm.exec ∧ c.code = code ∧ meth.sig.returnType = ret ∧ c.maxLocals = 9 ∧ s.vm.findClass R_law = some m.cls ∧ (∀ w ∈ lw_tbl, w.before #[Value.ref b] s = true) ∧ va_X b L xs s s.heap ∧ b < s.heap.size ∧ meth.locks = false ∧ (Jvm.Cond.and given_1 narrow_1).before #[Value.ref b] s = true
/-! the law: what its turns rest on -/
def jS (X : jX) (b L : Nat) (xs : Nat → Int32) : Prop := match X with
  | (_, _, _, R, s, _, args, below, _, _, Q, _, b0, _) => va_X b L xs s s.heap ∧ b < s.heap.size ∧ b0 = s.heap.size ∧ R = room_1 ∧ args = #[Value.ref b] ∧ Q = lw_Z below #[Value.ref b] s
theorem jS.T {X : jX} {b L : Nat} {xs : Nat → Int32} (h : jS X b L xs) : jT X b L xs := by
  obtain ⟨p, l, e, R, s, m, args, below, meth, c, Q, D, b0, nL⟩ := X
  obtain ⟨h1, h2, h3, -⟩ := h
  exact ⟨h1, by omega⟩
theorem jk_ret1 {X : jX} {nm : String} {pc n ce sl : Nat} {lv : List (Option Value)} {M : jM} (h : jB X cL_law RL nm ret room_1) {b L : Nat} {xs : Nat → Int32} (hs : jS X b L xs) (hd : decode cL_law pc = .ok (.ireturn, 1)) (hce : ce ≤ 600000) (hsl : sl ≤ 7302250) : jJ X pc lv [jI 1] n M ce sl := by
  obtain ⟨p, l, e, R, s, m, args, below, meth, c, Q, D, b0, nL⟩ := X
  obtain ⟨hx, hb, hml, hown, hts, hK, hb0, hR, hnm, hr, hlk⟩ := h
  obtain ⟨hX, hbl, he0, hR2, ha, hQ⟩ := hs
  intro H locs ls hH hS hL
  subst hR2 ha hQ he0
  refine va_forget (fun q hq => hS.2.2 q hq) ?_
  refine W.widen hce hsl ?_
  refine W.base ?_
  exact lw_ret (Drawn.sameBut.refl s.drawn lw_cs) hx hb hr hlk hd
theorem st_n {x : TS} (h : x.2.2.1.1 = 0) : stlR x = -6 := if_neg (by omega)
theorem st_p {x : TS} (h : 0 < x.2.2.1.1) : stlR x = if x.1 3 * x.2.2.1.1 < 100 * x.2.2.1.2 then 1 else 0 := if_pos h
theorem bo_n {x : TS} (h : x.2.2.1.1 = 0) : botR x 0 99 0 99 1 = -6 := by
  unfold botR
  rw [if_pos ⟨⟨by decide, by decide, by decide⟩, ⟨by decide, by decide, by decide⟩, by decide⟩, if_neg (by decide), if_neg (by omega)]
theorem sh_n {x : TS} (h : x.2.2.1.1 = 0) : shrR x 1 0 9 = -6 := by
  unfold shrR
  rw [if_pos ⟨Or.inr rfl, by decide, by decide, by decide⟩, if_neg (by omega)]
theorem wr_n {x : TS} (h : x.2.2.1.1 = 0) : wrsR x 0 0 = -6 := by
  unfold wrsR
  rw [if_pos ⟨Or.inl rfl, by decide⟩, if_neg (by omega)]
theorem tr_n {x : TS} (hx : stQ x) : estR x 1 0 99 4 = x.2.1.2.2 := by
  rw [qe_4 (Or.inr rfl) ⟨by decide, by decide, by decide⟩, qt_all hx]
abbrev lgV (b e : Nat) (t k : Int) : List (Option Value) := [some (.ref b), some (.ref e), some (jI 1), some (jI t), some (jI k), none, none, none, none]
abbrev lgE (M : jM) (n e : Nat) (x : TS) (hl : Int) (hk : Nat → TS) : Prop := ehP M n e (e + 41) x hl hk (fun _ => none) jz 0 none

set_option maxHeartbeats 4000000 in
set_option maxRecDepth 100000 in
theorem lq_body {X : jX} {nm : String} {l : Launch} {D : va_G} {b0 b L : Nat} {xs : Nat → Int32} (h : jB X cL_law RL nm ret room_1) (hX : jF X l D b0) (hT : jT X b L xs) (hL : L ≤ 260) {e n k : Nat} {M : jM} {t : Int} (ht : t ≤ 40) (hkt : (k : Int) < t) {x : TS} {hl : Int} {hk9 : Nat → TS} (hW : lgE M n e x hl hk9) (hG : lgH k x hl hk9) (jn346 : ∀ (n2 : Nat) (M2 : jM) (x2 : TS) (hl2 : Int) (hk2 : Nat → TS), lgE M2 n2 e x2 hl2 hk2 → lgH (k + 1) x2 hl2 hk2 → jJ X 346 (lgV b e t k) [] n2 M2 (41 + 26 * (k + 1)) (800 + 479 * (k + 1))) : jJ X 42 (lgV b e t k) [] n M (41 + 26 * k) (800 + 479 * k) := by
  have hE := hW.ob
  have hx := hW.qs.1
  have hh6 := hW.qs.2.2.1
  have hz := hx.2.1.2.2
  have hch := hx.2.2.2.1
  have hcc := hG.1.2
  refine jk_aload_n (q := 43) h dL_law_42 rfl rfl ?_
  refine jk_bipush (q := 45) h dL_law_43 (by decide) rfl ?_
  refine jk_callV (q := 48) h hX (c_X9_count hW ⟨by omega, by omega⟩) mv_X9_count (hE.at 0 rfl) dL_law_45 ml_L_15 ⟨rfl, by decide⟩ rfl rfl (by show _ ≤ (600000 : Nat); omega) (by show _ ≤ (7302250 : Nat); omega) rfl rfl (Nat.le_of_ble_eq_true rfl) rfl (fun v9 n9 M9 hp9 => ?_)
  obtain ⟨r9, rfl, rfl, rfl, hq9⟩ := hp9
  obtain rfl := cn_14 hq9
  refine jk_istore (q := 50) h dL_law_48 rfl (Nat.le_of_ble_eq_true rfl) rfl rfl ?_
  refine jk_aload_n (q := 51) h dL_law_50 rfl rfl ?_
  refine jk_iconst (q := 52) h dL_law_51 rfl ?_
  refine jk_callV (q := 55) h hX (c_X9_count hW ⟨by omega, by omega⟩) mv_X9_count (hE.at 0 rfl) dL_law_52 ml_L_15 ⟨rfl, by decide⟩ rfl rfl (by show _ ≤ (600000 : Nat); omega) (by show _ ≤ (7302250 : Nat); omega) rfl rfl (Nat.le_of_ble_eq_true rfl) rfl (fun v9 n9 M9 hp9 => ?_)
  obtain ⟨r9, rfl, rfl, rfl, hq9⟩ := hp9
  obtain rfl := cn_0 hq9
  refine jk_istore (q := 57) h dL_law_55 rfl (Nat.le_of_ble_eq_true rfl) rfl rfl ?_
  refine jk_aload_n (q := 58) h dL_law_57 rfl rfl ?_
  refine jk_iconst (q := 59) h dL_law_58 rfl ?_
  refine jk_callV (q := 62) h hX (c_X9_count hW ⟨by omega, by omega⟩) mv_X9_count (hE.at 0 rfl) dL_law_59 ml_L_15 ⟨rfl, by decide⟩ rfl rfl (by show _ ≤ (600000 : Nat); omega) (by show _ ≤ (7302250 : Nat); omega) rfl rfl (Nat.le_of_ble_eq_true rfl) rfl (fun v9 n9 M9 hp9 => ?_)
  obtain ⟨r9, rfl, rfl, rfl, hq9⟩ := hp9
  obtain rfl := cn_2 hq9
  refine jk_istore (q := 64) h dL_law_62 rfl (Nat.le_of_ble_eq_true rfl) rfl rfl ?_
  refine jk_aload_n (q := 65) h dL_law_64 rfl rfl ?_
  refine jk_aload_n (q := 66) h dL_law_65 rfl rfl ?_
  refine jk_iconst (q := 67) h dL_law_66 rfl ?_
  refine jk_iload (q := 69) h dL_law_67 rfl rfl ?_
  refine jk_imul (q := 70) h dL_law_69 rfl ?_
  refine jk_callT (q := 73) h hX hT (c_L_act hL hW ⟨by omega, by omega⟩ (by omega)) ms_L_act dL_law_70 ml_L_64 ⟨rfl, by decide⟩ rfl rfl (by show _ ≤ (600000 : Nat); omega) (by show _ ≤ (7302250 : Nat); omega) rfl rfl (Nat.le_of_ble_eq_true rfl) rfl (fun v9 n_a M_a hp9 => ?_)
  obtain ⟨r, x2, hl2, hk2, rfl, hn1, hn2, hW2, hac, hj9⟩ := hp9
  obtain ⟨hr, hneg, hstep⟩ := hac
  have hG2 := hstep _ hG
  have hE := hW2.ob
  have hx2 := hW2.qs.1
  have hz2 := hx2.2.1.2.2
  have hh2 := hW2.qs.2.2.1
  have hch2 := hx2.2.2.2.1
  have hN2 := hx2.2.2.1
  have hg2 := hG2.1.1
  have hs2 := hx2.1.2.2.2
  have hc2 := hG2.1.2
  refine jk_istore (q := 75) h dL_law_73 rfl (Nat.le_of_ble_eq_true rfl) rfl rfl ?_
  have jn111 : jJ X 111 [some (.ref (b)), some (.ref (e)), some (jI (1)), some (jI (t)), some (jI (k)), none, none, none, none] [] n_a M_a (41 + 26 * (k + 1)) (800 + 479 * (k + 1)) := by
    refine jk_aload_n (q := 112) h dL_law_111 rfl rfl ?_
    refine jk_iconst (q := 113) h dL_law_112 rfl ?_
    refine jk_callV (q := 116) h hX (c_X9_count hW2 ⟨by omega, by omega⟩) mv_X9_count (hE.at 0 rfl) dL_law_113 ml_L_15 ⟨rfl, by decide⟩ rfl rfl (by show _ ≤ (600000 : Nat); omega) (by show _ ≤ (7302250 : Nat); omega) rfl rfl (Nat.le_of_ble_eq_true rfl) rfl (fun v9 n9 M9 hp9 => ?_)
    obtain ⟨r9, rfl, rfl, rfl, hq9⟩ := hp9
    obtain rfl := cn_0 hq9
    refine jk_bipush (q := 118) h dL_law_116 (by decide) rfl ?_
    refine jk_icmp_gt (q := 121) (tgt := 125) h dL_law_118 (by decide) rfl ⟨by omega, by omega⟩ ⟨by omega, by omega⟩ (fun c118 => ?_) (fun c118 => ?_)
    · omega
    · refine jk_iconst (q := 122) h dL_law_121 rfl ?_
      refine jk_goto (q := 125) (tgt := 126) h dL_law_122 (by decide) ?_
      refine jk_istore_n (q := 127) h dL_law_126 rfl (Nat.le_of_ble_eq_true rfl) rfl rfl ?_
      refine jk_aload_n (q := 128) h dL_law_127 rfl rfl ?_
      refine jk_iconst (q := 129) h dL_law_128 rfl ?_
      refine jk_callV (q := 132) h hX (c_X9_count hW2 ⟨by omega, by omega⟩) mv_X9_count (hE.at 0 rfl) dL_law_129 ml_L_15 ⟨rfl, by decide⟩ rfl rfl (by show _ ≤ (600000 : Nat); omega) (by show _ ≤ (7302250 : Nat); omega) rfl rfl (Nat.le_of_ble_eq_true rfl) rfl (fun v9 n9 M9 hp9 => ?_)
      obtain ⟨r9, rfl, rfl, rfl, hq9⟩ := hp9
      obtain rfl := cn_1 hq9
      refine jk_if_ne (q := 135) (tgt := 237) h dL_law_132 (by decide) rfl ⟨by omega, by omega⟩ (fun c132 => ?_) (fun c132 => ?_)
      · have hp2 : 0 < x2.2.2.1.1 := by omega
        have hml := jmulb (x := x2.1 3) (y := x2.2.2.1.1) (A := 100) (B := 60) hs2.1 hs2.2 hN2.1 hN2.2
        refine jk_iload_n (q := 238) h dL_law_237 rfl rfl ?_
        refine jk_if_eq (q := 241) (tgt := 298) h dL_law_238 (by decide) rfl ⟨by omega, by omega⟩ (fun c238 => ?_) (fun c238 => ?_)
        · omega
        · refine jk_aload_n (q := 242) h dL_law_241 rfl rfl ?_
          refine jk_iconst (q := 243) h dL_law_242 rfl ?_
          refine jk_callS (q := 246) h hX (c_L_column hW2 hg2 hp2 (Or.inl rfl)) ms_L_column dL_law_243 ml_L_71 ⟨rfl, by decide⟩ rfl rfl (by show _ ≤ (600000 : Nat); omega) (by show _ ≤ (7302250 : Nat); omega) rfl rfl (Nat.le_of_ble_eq_true rfl) rfl (fun v9 n9 M9 hp9 => ?_)
          obtain ⟨rfl, rfl, rfl⟩ := hp9
          refine jk_if_eq (q := 249) (tgt := 298) h dL_law_246 (by decide) rfl ⟨by omega, by omega⟩ (fun c246 => ?_) (fun c246 => ?_)
          · omega
          · refine jk_aload_n (q := 250) h dL_law_249 rfl rfl ?_
            refine jk_iconst (q := 251) h dL_law_250 rfl ?_
            refine jk_callS (q := 254) h hX (c_L_column hW2 hg2 hp2 (Or.inr rfl)) ms_L_column dL_law_251 ml_L_71 ⟨rfl, by decide⟩ rfl rfl (by show _ ≤ (600000 : Nat); omega) (by show _ ≤ (7302250 : Nat); omega) rfl rfl (Nat.le_of_ble_eq_true rfl) rfl (fun v9 n9 M9 hp9 => ?_)
            obtain ⟨rfl, rfl, rfl⟩ := hp9
            refine jk_if_eq (q := 257) (tgt := 298) h dL_law_254 (by decide) rfl ⟨by omega, by omega⟩ (fun c254 => ?_) (fun c254 => ?_)
            · omega
            · refine jk_aload_n (q := 258) h dL_law_257 rfl rfl ?_
              refine jk_aload_n (q := 259) h dL_law_258 rfl rfl ?_
              refine jk_iconst (q := 260) h dL_law_259 rfl ?_
              refine jk_iload (q := 262) h dL_law_260 rfl rfl ?_
              refine jk_imul (q := 263) h dL_law_262 rfl ?_
              refine jk_iconst (q := 264) h dL_law_263 rfl ?_
              refine jk_iadd (q := 265) h dL_law_264 rfl ?_
              refine jk_callT (q := 268) h hX hT (c_L_cell hL ⟨by omega, by omega⟩) ms_L_cell dL_law_265 ml_L_38 ⟨rfl, by decide⟩ rfl rfl (by show _ ≤ (600000 : Nat); omega) (by show _ ≤ (7302250 : Nat); omega) rfl rfl (Nat.le_of_ble_eq_true rfl) rfl (fun v9 n9 M9 hp9 => ?_)
              obtain ⟨za, rfl, rfl, rfl⟩ := hp9
              refine jk_bipush (q := 270) h dL_law_268 (by decide) rfl ?_
              refine jk_callS (q := 273) h hX (c_L_low ⟨by omega, by omega⟩) ms_L_low dL_law_270 ml_L_44 ⟨rfl, by decide⟩ rfl rfl (by show _ ≤ (600000 : Nat); omega) (by show _ ≤ (7302250 : Nat); omega) rfl rfl (Nat.le_of_ble_eq_true rfl) rfl (fun v9 n9 M9 hp9 => ?_)
              obtain ⟨z1, rfl, rfl, rfl, hz1⟩ := hp9
              refine jk_aload_n (q := 274) h dL_law_273 rfl rfl ?_
              refine jk_iconst (q := 275) h dL_law_274 rfl ?_
              refine jk_iload (q := 277) h dL_law_275 rfl rfl ?_
              refine jk_imul (q := 278) h dL_law_277 rfl ?_
              refine jk_iconst (q := 279) h dL_law_278 rfl ?_
              refine jk_iadd (q := 280) h dL_law_279 rfl ?_
              refine jk_callT (q := 283) h hX hT (c_L_cell hL ⟨by omega, by omega⟩) ms_L_cell dL_law_280 ml_L_38 ⟨rfl, by decide⟩ rfl rfl (by show _ ≤ (600000 : Nat); omega) (by show _ ≤ (7302250 : Nat); omega) rfl rfl (Nat.le_of_ble_eq_true rfl) rfl (fun v9 n9 M9 hp9 => ?_)
              obtain ⟨zb, rfl, rfl, rfl⟩ := hp9
              refine jk_bipush (q := 285) h dL_law_283 (by decide) rfl ?_
              refine jk_callS (q := 288) h hX (c_L_low ⟨by omega, by omega⟩) ms_L_low dL_law_285 ml_L_44 ⟨rfl, by decide⟩ rfl rfl (by show _ ≤ (600000 : Nat); omega) (by show _ ≤ (7302250 : Nat); omega) rfl rfl (Nat.le_of_ble_eq_true rfl) rfl (fun v9 n9 M9 hp9 => ?_)
              obtain ⟨z2, rfl, rfl, rfl, hz2⟩ := hp9
              refine jk_callS (q := 291) h hX (c_L_estimates hW2 hg2 hp2 ⟨by omega, by omega⟩ ⟨by omega, by omega⟩) ms_L_estimates dL_law_288 ml_L_75 ⟨rfl, by decide⟩ rfl rfl (by show _ ≤ (600000 : Nat); omega) (by show _ ≤ (7302250 : Nat); omega) rfl rfl (Nat.le_of_ble_eq_true rfl) rfl (fun v9 n9 M9 hp9 => ?_)
              obtain ⟨rfl, rfl, rfl⟩ := hp9
              refine jk_if_eq (q := 294) (tgt := 298) h dL_law_291 (by decide) rfl ⟨by omega, by omega⟩ (fun c291 => ?_) (fun c291 => ?_)
              · omega
              · refine jk_iconst (q := 295) h dL_law_294 rfl ?_
                refine jk_goto (q := 298) (tgt := 299) h dL_law_295 (by decide) ?_
                refine jk_istore_n (q := 300) h dL_law_299 rfl (Nat.le_of_ble_eq_true rfl) rfl rfl ?_
                refine jk_iload_n (q := 301) h dL_law_300 rfl rfl ?_
                refine jk_if_eq (q := 304) (tgt := 344) h dL_law_301 (by decide) rfl ⟨by omega, by omega⟩ (fun c301 => ?_) (fun c301 => ?_)
                · omega
                · refine jk_aload_n (q := 305) h dL_law_304 rfl rfl ?_
                  refine jk_iconst (q := 306) h dL_law_305 rfl ?_
                  refine jk_callV (q := 309) h hX (c_X9_count hW2 ⟨by omega, by omega⟩) mv_X9_count (hE.at 0 rfl) dL_law_306 ml_L_15 ⟨rfl, by decide⟩ rfl rfl (by show _ ≤ (600000 : Nat); omega) (by show _ ≤ (7302250 : Nat); omega) rfl rfl (Nat.le_of_ble_eq_true rfl) rfl (fun v9 n9 M9 hp9 => ?_)
                  obtain ⟨r9, rfl, rfl, rfl, hq9⟩ := hp9
                  obtain rfl := cn_3 hq9
                  rw [st_p hp2]
                  refine jk_bipush (q := 311) h dL_law_309 (by decide) rfl ?_
                  refine jk_aload_n (q := 312) h dL_law_311 rfl rfl ?_
                  refine jk_iconst (q := 313) h dL_law_312 rfl ?_
                  refine jk_callV (q := 316) h hX (c_X9_count hW2 ⟨by omega, by omega⟩) mv_X9_count (hE.at 0 rfl) dL_law_313 ml_L_15 ⟨rfl, by decide⟩ rfl rfl (by show _ ≤ (600000 : Nat); omega) (by show _ ≤ (7302250 : Nat); omega) rfl rfl (Nat.le_of_ble_eq_true rfl) rfl (fun v9 n9 M9 hp9 => ?_)
                  obtain ⟨r9, rfl, rfl, rfl, hq9⟩ := hp9
                  obtain rfl := cn_2 hq9
                  refine jk_imul (q := 317) h dL_law_316 rfl ?_
                  refine jk_aload_n (q := 318) h dL_law_317 rfl rfl ?_
                  refine jk_bipush (q := 320) h dL_law_318 (by decide) rfl ?_
                  refine jk_callV (q := 323) h hX (c_X9_count hW2 ⟨by omega, by omega⟩) mv_X9_count (hE.at 0 rfl) dL_law_320 ml_L_15 ⟨rfl, by decide⟩ rfl rfl (by show _ ≤ (600000 : Nat); omega) (by show _ ≤ (7302250 : Nat); omega) rfl rfl (Nat.le_of_ble_eq_true rfl) rfl (fun v9 n9 M9 hp9 => ?_)
                  obtain ⟨r9, rfl, rfl, rfl, hq9⟩ := hp9
                  obtain rfl := cn_12 hq9
                  refine jk_aload_n (q := 324) h dL_law_323 rfl rfl ?_
                  refine jk_iconst (q := 325) h dL_law_324 rfl ?_
                  refine jk_callV (q := 328) h hX (c_X9_count hW2 ⟨by omega, by omega⟩) mv_X9_count (hE.at 0 rfl) dL_law_325 ml_L_15 ⟨rfl, by decide⟩ rfl rfl (by show _ ≤ (600000 : Nat); omega) (by show _ ≤ (7302250 : Nat); omega) rfl rfl (Nat.le_of_ble_eq_true rfl) rfl (fun v9 n9 M9 hp9 => ?_)
                  obtain ⟨r9, rfl, rfl, rfl, hq9⟩ := hp9
                  obtain rfl := cn_1 hq9
                  refine jk_imul (q := 329) h dL_law_328 rfl ?_
                  refine jk_icmp_le (q := 332) (tgt := 336) h dL_law_329 (by decide) rfl ⟨by omega, by omega⟩ ⟨by omega, by omega⟩ (fun c329 => ?_) (fun c329 => ?_)
                  · refine jk_iconst (q := 337) h dL_law_336 rfl ?_
                    refine jk_icmp_ne (q := 340) (tgt := 344) h dL_law_337 (by decide) rfl ⟨by split <;> omega, by split <;> omega⟩ ⟨by omega, by omega⟩ (fun c337 => ?_) (fun c337 => ?_)
                    · (split at c337 <;> omega)
                    · refine jk_iconst (q := 341) h dL_law_340 rfl ?_
                      refine jk_goto (q := 344) (tgt := 345) h dL_law_341 (by decide) ?_
                      refine jk_istore_n (q := 346) h dL_law_345 rfl (Nat.le_of_ble_eq_true rfl) rfl rfl ?_
                      refine jk_wid (ce2 := 41 + 26 * (k + 1)) (sl2 := 800 + 479 * (k + 1)) (by omega) (by omega) ?_
                      exact jk_weak (jwk_s rfl (jwk_s rfl (jwk_s rfl (jwk_s rfl (jwk_s rfl (jwk_n (jwk_n (jwk_n (jwk_n jwk_0))))))))) (jn346 _ _ _ _ _ hW2 hG2)
                  · refine jk_iconst (q := 333) h dL_law_332 rfl ?_
                    refine jk_goto (q := 336) (tgt := 337) h dL_law_333 (by decide) ?_
                    refine jk_icmp_ne (q := 340) (tgt := 344) h dL_law_337 (by decide) rfl ⟨by split <;> omega, by split <;> omega⟩ ⟨by omega, by omega⟩ (fun c337 => ?_) (fun c337 => ?_)
                    · (split at c337 <;> omega)
                    · refine jk_iconst (q := 341) h dL_law_340 rfl ?_
                      refine jk_goto (q := 344) (tgt := 345) h dL_law_341 (by decide) ?_
                      refine jk_istore_n (q := 346) h dL_law_345 rfl (Nat.le_of_ble_eq_true rfl) rfl rfl ?_
                      refine jk_wid (ce2 := 41 + 26 * (k + 1)) (sl2 := 800 + 479 * (k + 1)) (by omega) (by omega) ?_
                      exact jk_weak (jwk_s rfl (jwk_s rfl (jwk_s rfl (jwk_s rfl (jwk_s rfl (jwk_n (jwk_n (jwk_n (jwk_n jwk_0))))))))) (jn346 _ _ _ _ _ hW2 hG2)
      · have hn0 : x2.2.2.1.1 = 0 := by omega
        have hcz := hg2.z hn0
        refine jk_iload_n (q := 136) h dL_law_135 rfl rfl ?_
        refine jk_if_eq (q := 139) (tgt := 232) h dL_law_136 (by decide) rfl ⟨by omega, by omega⟩ (fun c136 => ?_) (fun c136 => ?_)
        · omega
        · refine jk_aload_n (q := 140) h dL_law_139 rfl rfl ?_
          refine jk_iconst (q := 141) h dL_law_140 rfl ?_
          refine jk_callV (q := 144) h hX (c_X9_count hW2 ⟨by omega, by omega⟩) mv_X9_count (hE.at 0 rfl) dL_law_141 ml_L_15 ⟨rfl, by decide⟩ rfl rfl (by show _ ≤ (600000 : Nat); omega) (by show _ ≤ (7302250 : Nat); omega) rfl rfl (Nat.le_of_ble_eq_true rfl) rfl (fun v9 n9 M9 hp9 => ?_)
          obtain ⟨r9, rfl, rfl, rfl, hq9⟩ := hp9
          obtain rfl := cn_3 hq9
          rw [st_n hn0]
          refine jk_bipush (q := 146) h dL_law_144 (by decide) rfl ?_
          refine jk_icmp_ne (q := 149) (tgt := 232) h dL_law_146 (by decide) rfl ⟨by omega, by omega⟩ ⟨by omega, by omega⟩ (fun c146 => ?_) (fun c146 => ?_)
          · omega
          · refine jk_aload_n (q := 150) h dL_law_149 rfl rfl ?_
            refine jk_iconst (q := 151) h dL_law_150 rfl ?_
            refine jk_callV (q := 154) h hX (c_X9_count hW2 ⟨by omega, by omega⟩) mv_X9_count (hE.at 0 rfl) dL_law_151 ml_L_15 ⟨rfl, by decide⟩ rfl rfl (by show _ ≤ (600000 : Nat); omega) (by show _ ≤ (7302250 : Nat); omega) rfl rfl (Nat.le_of_ble_eq_true rfl) rfl (fun v9 n9 M9 hp9 => ?_)
            obtain ⟨r9, rfl, rfl, rfl, hq9⟩ := hp9
            obtain rfl := cn_2 hq9
            refine jk_if_ne (q := 157) (tgt := 232) h dL_law_154 (by decide) rfl ⟨by omega, by omega⟩ (fun c154 => ?_) (fun c154 => ?_)
            · omega
            · refine jk_aload_n (q := 158) h dL_law_157 rfl rfl ?_
              refine jk_iconst (q := 159) h dL_law_158 rfl ?_
              refine jk_iconst (q := 160) h dL_law_159 rfl ?_
              refine jk_bipush (q := 162) h dL_law_160 (by decide) rfl ?_
              refine jk_iconst (q := 163) h dL_law_162 rfl ?_
              refine jk_callV (q := 166) h hX (c_X9_estimate hW2 ⟨by omega, by omega⟩ ⟨by omega, by omega⟩ ⟨by omega, by omega⟩ ⟨by omega, by omega⟩) mv_X9_estimate (hE.at 0 rfl) dL_law_163 ml_L_9 ⟨rfl, by decide⟩ rfl rfl (by show _ ≤ (600000 : Nat); omega) (by show _ ≤ (7302250 : Nat); omega) rfl rfl (Nat.le_of_ble_eq_true rfl) rfl (fun v9 n9 M9 hp9 => ?_)
              obtain ⟨rfl, rfl, rfl⟩ := hp9
              rw [qe_n (Or.inl rfl) ⟨by decide, by decide, by decide⟩ hn0]
              refine jk_bipush (q := 168) h dL_law_166 (by decide) rfl ?_
              refine jk_icmp_ne (q := 171) (tgt := 232) h dL_law_168 (by decide) rfl ⟨by omega, by omega⟩ ⟨by omega, by omega⟩ (fun c168 => ?_) (fun c168 => ?_)
              · omega
              · refine jk_aload_n (q := 172) h dL_law_171 rfl rfl ?_
                refine jk_iconst (q := 173) h dL_law_172 rfl ?_
                refine jk_bipush (q := 175) h dL_law_173 (by decide) rfl ?_
                refine jk_iconst (q := 176) h dL_law_175 rfl ?_
                refine jk_bipush (q := 178) h dL_law_176 (by decide) rfl ?_
                refine jk_iconst (q := 179) h dL_law_178 rfl ?_
                refine jk_callV (q := 182) h hX (c_X9_both hW2 ⟨by omega, by omega⟩ ⟨by omega, by omega⟩ ⟨by omega, by omega⟩ ⟨by omega, by omega⟩ ⟨by omega, by omega⟩) mv_X9_both (hE.at 0 rfl) dL_law_179 ml_L_34 ⟨rfl, by decide⟩ rfl rfl (by show _ ≤ (600000 : Nat); omega) (by show _ ≤ (7302250 : Nat); omega) rfl rfl (Nat.le_of_ble_eq_true rfl) rfl (fun v9 n9 M9 hp9 => ?_)
                obtain ⟨rfl, rfl, rfl⟩ := hp9
                rw [bo_n hn0]
                refine jk_bipush (q := 184) h dL_law_182 (by decide) rfl ?_
                refine jk_icmp_ne (q := 187) (tgt := 232) h dL_law_184 (by decide) rfl ⟨by omega, by omega⟩ ⟨by omega, by omega⟩ (fun c184 => ?_) (fun c184 => ?_)
                · omega
                · refine jk_aload_n (q := 188) h dL_law_187 rfl rfl ?_
                  refine jk_iconst (q := 189) h dL_law_188 rfl ?_
                  refine jk_iconst (q := 190) h dL_law_189 rfl ?_
                  refine jk_bipush (q := 192) h dL_law_190 (by decide) rfl ?_
                  refine jk_callV (q := 195) h hX (c_X9_share hW2 ⟨by omega, by omega⟩ ⟨by omega, by omega⟩ ⟨by omega, by omega⟩ hg2.1) mv_X9_share (hE.at 0 rfl) dL_law_192 ml_L_68 ⟨rfl, by decide⟩ rfl rfl (by show _ ≤ (600000 : Nat); omega) (by show _ ≤ (7302250 : Nat); omega) rfl rfl (Nat.le_of_ble_eq_true rfl) rfl (fun v9 n9 M9 hp9 => ?_)
                  obtain ⟨rfl, rfl, rfl⟩ := hp9
                  rw [sh_n hn0]
                  refine jk_bipush (q := 197) h dL_law_195 (by decide) rfl ?_
                  refine jk_icmp_ne (q := 200) (tgt := 232) h dL_law_197 (by decide) rfl ⟨by omega, by omega⟩ ⟨by omega, by omega⟩ (fun c197 => ?_) (fun c197 => ?_)
                  · omega
                  · refine jk_aload_n (q := 201) h dL_law_200 rfl rfl ?_
                    refine jk_iconst (q := 202) h dL_law_201 rfl ?_
                    refine jk_iconst (q := 203) h dL_law_202 rfl ?_
                    refine jk_callV (q := 206) h hX (c_X9_worst hW2 ⟨by omega, by omega⟩ ⟨by omega, by omega⟩) mv_X9_worst (hE.at 0 rfl) dL_law_203 ml_L_26 ⟨rfl, by decide⟩ rfl rfl (by show _ ≤ (600000 : Nat); omega) (by show _ ≤ (7302250 : Nat); omega) rfl rfl (Nat.le_of_ble_eq_true rfl) rfl (fun v9 n9 M9 hp9 => ?_)
                    obtain ⟨rfl, rfl, rfl⟩ := hp9
                    rw [wr_n hn0]
                    refine jk_bipush (q := 208) h dL_law_206 (by decide) rfl ?_
                    refine jk_icmp_ne (q := 211) (tgt := 232) h dL_law_208 (by decide) rfl ⟨by omega, by omega⟩ ⟨by omega, by omega⟩ (fun c208 => ?_) (fun c208 => ?_)
                    · omega
                    · refine jk_aload_n (q := 212) h dL_law_211 rfl rfl ?_
                      refine jk_iconst (q := 213) h dL_law_212 rfl ?_
                      refine jk_iconst (q := 214) h dL_law_213 rfl ?_
                      refine jk_bipush (q := 216) h dL_law_214 (by decide) rfl ?_
                      refine jk_iconst (q := 217) h dL_law_216 rfl ?_
                      refine jk_callV (q := 220) h hX (c_X9_estimate hW2 ⟨by omega, by omega⟩ ⟨by omega, by omega⟩ ⟨by omega, by omega⟩ ⟨by omega, by omega⟩) mv_X9_estimate (hE.at 0 rfl) dL_law_217 ml_L_9 ⟨rfl, by decide⟩ rfl rfl (by show _ ≤ (600000 : Nat); omega) (by show _ ≤ (7302250 : Nat); omega) rfl rfl (Nat.le_of_ble_eq_true rfl) rfl (fun v9 n9 M9 hp9 => ?_)
                      obtain ⟨rfl, rfl, rfl⟩ := hp9
                      rw [tr_n hx2]
                      refine jk_aload_n (q := 221) h dL_law_220 rfl rfl ?_
                      refine jk_iconst (q := 222) h dL_law_221 rfl ?_
                      refine jk_callV (q := 225) h hX (c_X9_count hW2 ⟨by omega, by omega⟩) mv_X9_count (hE.at 0 rfl) dL_law_222 ml_L_15 ⟨rfl, by decide⟩ rfl rfl (by show _ ≤ (600000 : Nat); omega) (by show _ ≤ (7302250 : Nat); omega) rfl rfl (Nat.le_of_ble_eq_true rfl) rfl (fun v9 n9 M9 hp9 => ?_)
                      obtain ⟨r9, rfl, rfl, rfl, hq9⟩ := hp9
                      obtain rfl := cn_0 hq9
                      refine jk_icmp_ne (q := 228) (tgt := 232) h dL_law_225 (by decide) rfl ⟨by omega, by omega⟩ ⟨by omega, by omega⟩ (fun c225 => ?_) (fun c225 => ?_)
                      · omega
                      · refine jk_iconst (q := 229) h dL_law_228 rfl ?_
                        refine jk_goto (q := 232) (tgt := 233) h dL_law_229 (by decide) ?_
                        refine jk_istore_n (q := 234) h dL_law_233 rfl (Nat.le_of_ble_eq_true rfl) rfl rfl ?_
                        refine jk_goto (q := 237) (tgt := 346) h dL_law_234 (by decide) ?_
                        refine jk_wid (ce2 := 41 + 26 * (k + 1)) (sl2 := 800 + 479 * (k + 1)) (by omega) (by omega) ?_
                        exact jk_weak (jwk_s rfl (jwk_s rfl (jwk_s rfl (jwk_s rfl (jwk_s rfl (jwk_n (jwk_n (jwk_n (jwk_n jwk_0))))))))) (jn346 _ _ _ _ _ hW2 hG2)
  refine jk_iload (q := 77) h dL_law_75 rfl rfl ?_
  refine jk_if_ge (q := 80) (tgt := 111) h dL_law_77 (by decide) rfl ⟨by omega, by omega⟩ (fun c77 => ?_) (fun c77 => ?_)
  · refine jk_wid (ce2 := 41 + 26 * (k + 1)) (sl2 := 800 + 479 * (k + 1)) (by omega) (by omega) ?_
    exact jk_weak (jwk_s rfl (jwk_s rfl (jwk_s rfl (jwk_s rfl (jwk_s rfl (jwk_n (jwk_n (jwk_n (jwk_n jwk_0))))))))) (jn111  )
  · refine jk_aload_n (q := 81) h dL_law_80 rfl rfl ?_
    refine jk_bipush (q := 83) h dL_law_81 (by decide) rfl ?_
    refine jk_callV (q := 86) h hX (c_X9_count hW2 ⟨by omega, by omega⟩) mv_X9_count (hE.at 0 rfl) dL_law_83 ml_L_15 ⟨rfl, by decide⟩ rfl rfl (by show _ ≤ (600000 : Nat); omega) (by show _ ≤ (7302250 : Nat); omega) rfl rfl (Nat.le_of_ble_eq_true rfl) rfl (fun v9 n9 M9 hp9 => ?_)
    obtain ⟨r9, rfl, rfl, rfl, hq9⟩ := hp9
    obtain rfl := cn_14 hq9
    refine jk_iload (q := 88) h dL_law_86 rfl rfl ?_
    refine jk_icmp_ne (q := 91) (tgt := 125) h dL_law_88 (by decide) rfl ⟨by omega, by omega⟩ ⟨by omega, by omega⟩ (fun c88 => ?_) (fun c88 => ?_)
    · exact absurd (hneg (by omega)).1 c88
    · refine jk_aload_n (q := 92) h dL_law_91 rfl rfl ?_
      refine jk_iconst (q := 93) h dL_law_92 rfl ?_
      refine jk_callV (q := 96) h hX (c_X9_count hW2 ⟨by omega, by omega⟩) mv_X9_count (hE.at 0 rfl) dL_law_93 ml_L_15 ⟨rfl, by decide⟩ rfl rfl (by show _ ≤ (600000 : Nat); omega) (by show _ ≤ (7302250 : Nat); omega) rfl rfl (Nat.le_of_ble_eq_true rfl) rfl (fun v9 n9 M9 hp9 => ?_)
      obtain ⟨r9, rfl, rfl, rfl, hq9⟩ := hp9
      obtain rfl := cn_0 hq9
      refine jk_iload (q := 98) h dL_law_96 rfl rfl ?_
      refine jk_icmp_ne (q := 101) (tgt := 125) h dL_law_98 (by decide) rfl ⟨by omega, by omega⟩ ⟨by omega, by omega⟩ (fun c98 => ?_) (fun c98 => ?_)
      · exact absurd (by rw [(hneg (by omega)).2]) c98
      · refine jk_aload_n (q := 102) h dL_law_101 rfl rfl ?_
        refine jk_iconst (q := 103) h dL_law_102 rfl ?_
        refine jk_callV (q := 106) h hX (c_X9_count hW2 ⟨by omega, by omega⟩) mv_X9_count (hE.at 0 rfl) dL_law_103 ml_L_15 ⟨rfl, by decide⟩ rfl rfl (by show _ ≤ (600000 : Nat); omega) (by show _ ≤ (7302250 : Nat); omega) rfl rfl (Nat.le_of_ble_eq_true rfl) rfl (fun v9 n9 M9 hp9 => ?_)
        obtain ⟨r9, rfl, rfl, rfl, hq9⟩ := hp9
        obtain rfl := cn_2 hq9
        refine jk_iload (q := 108) h dL_law_106 rfl rfl ?_
        refine jk_icmp_ne (q := 111) (tgt := 125) h dL_law_108 (by decide) rfl ⟨by omega, by omega⟩ ⟨by omega, by omega⟩ (fun c108 => ?_) (fun c108 => ?_)
        · exact absurd (by rw [(hneg (by omega)).2]) c108
        · refine jk_wid (ce2 := 41 + 26 * (k + 1)) (sl2 := 800 + 479 * (k + 1)) (by omega) (by omega) ?_
          exact jk_weak (jwk_s rfl (jwk_s rfl (jwk_s rfl (jwk_s rfl (jwk_s rfl (jwk_n (jwk_n (jwk_n (jwk_n jwk_0))))))))) (jn111  )
