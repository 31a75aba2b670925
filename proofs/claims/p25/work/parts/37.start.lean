/-! the law: its loop, its start -/
set_option maxHeartbeats 4000000 in
set_option maxRecDepth 100000 in
theorem lq_loop {X : jX} {nm : String} {l : Launch} {D : va_G} {b0 b L : Nat} {xs : Nat → Int32} (h : jB X cL_law RL nm ret room_1) (hX : jF X l D b0) (hs : jS X b L xs) (hL : L ≤ 260) {e : Nat} {t : Int} (ht0 : 0 ≤ t) (ht : t ≤ 40) : ∀ (d k : Nat) (hkt : (k : Int) ≤ t) (hd : t - (k : Int) < d) (n : Nat) (M : jM) (x : TS) (hl : Int) (hk9 : Nat → TS) (hW : lgE M n e x hl hk9) (hG : lgH k x hl hk9), jJ X 32 (lgV b e t k) [] n M (41 + 26 * k) (800 + 479 * k)
  | 0, k, hkt, hd => by omega
  | d + 1, k, hkt, hd => by
    intro n M x hl hk9 hW hG
    refine jk_iload (q := 34) h dL_law_32 rfl rfl ?_
    refine jk_iload_n (q := 35) h dL_law_34 rfl rfl ?_
    refine jk_icmp_ge (q := 38) (tgt := 352) h dL_law_35 (by decide) rfl ⟨by omega, by omega⟩ ⟨by omega, by omega⟩ (fun c35 => ?_) (fun c35 => ?_)
    · refine jk_iload_n (q := 353) h dL_law_352 rfl rfl ?_
      exact jk_ret1 h hs dL_law_353 (by omega) (by omega)
    · refine jk_iload_n (q := 39) h dL_law_38 rfl rfl ?_
      refine jk_if_eq (q := 42) (tgt := 352) h dL_law_39 (by decide) rfl ⟨by omega, by omega⟩ (fun c39 => ?_) (fun c39 => ?_)
      · omega
      · refine lq_body h hX hs.T hL ht (by omega) hW hG (fun n2 M2 x2 hl2 hk2 hW2 hG2 => ?_)
        refine jk_iinc (q := 349) h dL_law_346 rfl rfl rfl rfl ?_
        refine jk_goto (q := 352) (tgt := 32) h dL_law_349 (by decide) ?_
        exact lq_loop h hX hs hL ht0 ht d (k + 1) (by omega) (by omega) n2 M2 x2 hl2 hk2 hW2 hG2
theorem lgH_0 {hk : Nat → TS} : lgH (0 : Nat) ts0 0 hk := ⟨⟨gdQ_0, by decide⟩, fun j hj => absurd hj (by omega)⟩
set_option maxHeartbeats 4000000 in
set_option maxRecDepth 100000 in
theorem lq_start {X : jX} {nm : String} {l : Launch} {D : va_G} {b0 b L : Nat} {xs : Nat → Int32} (h : jB X cL_law RL nm ret room_1) (hX : jF X l D b0) (hs : jS X b L xs) (hL : L ≤ 260) {e : Nat} {M : jM} : jJ X 0 [some (.ref b), none, none, none, none, none, none, none, none] [] e M 0 0 := by
  have hT := hs.T
  refine jk_new (q := 3) h nw_L_10 dL_law_0 (Nat.le_of_ble_eq_true rfl) (Nat.le_of_ble_eq_true rfl) rfl (fun M_1 s_1 => ?_)
  have hE := jPic.one s_1
  refine jk_dup (q := 4) h dL_law_3 rfl rfl ?_
  refine jk_callI (q := 7) h hX (c_X9_init (hk := fun _ => ts0) hE) mi_X9_init dL_law_4 ml_L_63 ⟨rfl, by decide⟩ rfl rfl (Nat.le_of_ble_eq_true rfl) (Nat.le_of_ble_eq_true rfl) rfl rfl (Nat.le_of_ble_eq_true rfl) rfl (fun v9 n9 M_2 hp9 => ?_)
  obtain ⟨rfl, rfl, hIn, o_2⟩ := hp9
  have hW := hIn M_2 (e + 41) (e + 41) (Nat.le_refl _) (Nat.le_refl _) (fun q h1 h2 => rfl)
  refine jk_astore_n (q := 8) h dL_law_7 rfl (Nat.le_of_ble_eq_true rfl) rfl rfl ?_
  refine jk_iconst (q := 9) h dL_law_8 rfl ?_
  refine jk_istore_n (q := 10) h dL_law_9 rfl (Nat.le_of_ble_eq_true rfl) rfl rfl ?_
  have jn28 : ∀ t : Int, 0 ≤ t → t ≤ 40 → jJ X 28 [some (.ref b), some (.ref e), some (jI 1), none, none, none, none, none, none] [jI t] (e + 41) M_2 41 800 := by
    intro t ht0 ht
    refine jk_istore_n (q := 29) h dL_law_28 rfl (Nat.le_of_ble_eq_true rfl) rfl rfl ?_
    refine jk_iconst (q := 30) h dL_law_29 rfl ?_
    refine jk_istore (q := 32) h dL_law_30 rfl (Nat.le_of_ble_eq_true rfl) rfl rfl ?_
    exact lq_loop h hX hs hL ht0 ht 41 0 (by omega) (by omega) (e + 41) M_2 ts0 0 (fun _ => ts0) hW lgH_0
  refine jk_aload_n (q := 11) h dL_law_10 rfl rfl ?_
  refine jk_slen (q := 12) h hT dL_law_11 rfl ?_
  refine jk_iconst (q := 13) h dL_law_12 rfl ?_
  refine jk_idiv (q := 14) h dL_law_13 (by omega) (by omega) (by omega) (by omega) rfl ?_
  refine jk_bipush (q := 16) h dL_law_14 (by decide) rfl ?_
  refine jk_icmp_le (q := 19) (tgt := 24) h dL_law_16 (by decide) rfl ⟨by omega, by omega⟩ ⟨by omega, by omega⟩ (fun c16 => ?_) (fun c16 => ?_)
  · refine jk_aload_n (q := 25) h dL_law_24 rfl rfl ?_
    refine jk_slen (q := 26) h hT dL_law_25 rfl ?_
    refine jk_iconst (q := 27) h dL_law_26 rfl ?_
    refine jk_idiv (q := 28) h dL_law_27 (by omega) (by omega) (by omega) (by omega) rfl ?_
    exact jk_wid (Nat.le_of_ble_eq_true rfl) (Nat.le_of_ble_eq_true rfl) (jn28 _ (by omega) c16)
  · refine jk_bipush (q := 21) h dL_law_19 (by decide) rfl ?_
    refine jk_goto (q := 24) (tgt := 28) h dL_law_21 (by decide) ?_
    exact jk_wid (Nat.le_of_ble_eq_true rfl) (Nat.le_of_ble_eq_true rfl) (jn28 40 (by omega) (by omega))

/-! the law: its entry -/
set_option maxHeartbeats 4000000 in
set_option maxRecDepth 100000 in
theorem lq_known {s : State} {b : Nat} (hts2 : ∀ w ∈ wsL_law, w.before #[Value.ref b] s = true) : ∃ (dC : Nat → ClassId) (dI : Nat → Nat → Nat), ∀ (k : Nat) (q : vw_C), vwCl[k]? = some q → u_Kn s q.1 q.2.1 q.2.2 (dC k) (dI k) := by
  obtain ⟨c0, i0, h0⟩ := u_known (C := RX0) (T := TX0) (N := 5) (n := 5) hts2 ilX0 (hts2 _ (kwm 49 (by decide +kernel) (by decide +kernel)))
  obtain ⟨c1, i1, h1⟩ := u_known (C := RX2) (T := TX2) (N := 9) (n := 9) hts2 ilX2 (hts2 _ (kwm 55 (by decide +kernel) (by decide +kernel)))
  obtain ⟨c2, i2, h2⟩ := u_known (C := RX3) (T := TX3) (N := 3) (n := 3) hts2 ilX3 (hts2 _ (kwm 144 (by decide +kernel) (by decide +kernel)))
  obtain ⟨c3, i3, h3⟩ := u_known (C := RX4) (T := TX4) (N := 2) (n := 2) hts2 ilX4 (hts2 _ (kwm 162 (by decide +kernel) (by decide +kernel)))
  obtain ⟨c4, i4, h4⟩ := u_known (C := RX5) (T := TX5) (N := 4) (n := 4) hts2 ilX5 (hts2 _ (kwm 91 (by decide +kernel) (by decide +kernel)))
  obtain ⟨c5, i5, h5⟩ := u_known (C := RX6) (T := TX6) (N := 6) (n := 6) hts2 ilX6 (hts2 _ (kwm 176 (by decide +kernel) (by decide +kernel)))
  obtain ⟨c6, i6, h6⟩ := u_known (C := RX7) (T := TX7) (N := 3) (n := 3) hts2 ilX7 (hts2 _ (kwm 21 (by decide +kernel) (by decide +kernel)))
  obtain ⟨c7, i7, h7⟩ := u_known (C := RX8) (T := TX8) (N := 3) (n := 3) hts2 ilX8 (hts2 _ (kwm 27 (by decide +kernel) (by decide +kernel)))
  obtain ⟨c8, i8, h8⟩ := u_known (C := RX9) (T := TX9) (N := 6) (n := 6) hts2 ilX9 (hts2 _ (kwm 13 (by decide +kernel) (by decide +kernel)))
  refine ⟨fun k => match k with | 0 => c0 | 1 => c1 | 2 => c2 | 3 => c3 | 4 => c4 | 5 => c5 | 6 => c6 | 7 => c7 | _ => c8, fun k => match k with | 0 => i0 | 1 => i1 | 2 => i2 | 3 => i3 | 4 => i4 | 5 => i5 | 6 => i6 | 7 => i7 | _ => i8, fun k q hq => ?_⟩
  match k, hq with
  | 0, hq => cases hq; exact h0
  | 1, hq => cases hq; exact h1
  | 2, hq => cases hq; exact h2
  | 3, hq => cases hq; exact h3
  | 4, hq => cases hq; exact h4
  | 5, hq => cases hq; exact h5
  | 6, hq => cases hq; exact h6
  | 7, hq => cases hq; exact h7
  | 8, hq => cases hq; exact h8
  | k + 9, hq => exact absurd hq (by simp [vwCl])
theorem lq_onT {w : Cond} (h : jisN w = true) : w.onTables = true := by
  cases w <;> first | rfl | (simp [jisN] at h)
theorem whole_start {p : Program} {e : Env} {s : State} {m : MethodId} {below : List Frame} {meth : Method} {c : Code} (l : Launch) (hflags : l.flags = flags0) {b L : Nat} {xs : Nat → Int32} (hL : L ≤ 260) (C0 : lw_At p s m meth c b L xs) : W p l e room_1 s m #[Value.ref b] below meth c s.heap [] 0 0 (lw_Z below #[Value.ref b] s) (entryFrame m ([Value.ref b] : List Value).toArray 9) := by
  obtain ⟨hx, hb, hr, hml, hown, hts, hX, hbl, hlocks, hgv⟩ := id C0
  have hts2 : ∀ w ∈ wsL_law, w.before #[Value.ref b] s = true := fun w hw => hts w (List.mem_filter.mp hw).1
  obtain ⟨dC, dI, hKc⟩ := lq_known hts2
  have hK : jK (dC, dI) s := ⟨⟨hKc, fun k q h => by simp at h⟩, va_AO.of (hts _ (List.mem_append_right _ (List.mem_of_getElem? (i := 142) (by decide +kernel)))), fun w hw => va_Nw.of (lq_onT (List.mem_filter.mp hw).2) (hts w (List.mem_append_right _ (List.mem_filter.mp hw).1))⟩
  have h := lq_start (X := (p, l, e, room_1, s, m, #[Value.ref b], below, meth, c, lw_Z below #[Value.ref b] s, (dC, dI), s.heap.size, 9)) (nm := meth.name) (l := l) (D := (dC, dI)) (b0 := s.heap.size) (e := s.heap.size) (M := fun _ => none) ⟨hx, hb, hml, hown, hts2, hK, Nat.le_refl _, rfl, rfl, hr, hlocks⟩ ⟨rfl, rfl, rfl⟩ ⟨hX, hbl, rfl, rfl, rfl, rfl⟩ hL
  rw [lg_entry_eq]
  exact h s.heap [] _ ⟨rfl, fun q e h => by cases h⟩ va_S.rf (jL_entry [.ref b] (Nat.le_of_ble_eq_true rfl) rfl)

set_option maxHeartbeats 4000000 in
theorem lw_walk (l : Launch) (hflags : l.flags = flags0) (b : Addr) (xs : List Int32) : MetFree l x (headSpec (Jvm.Cond.code x code maxLocals ret :: tables_1) room_1) (lw_P b xs) (fun _ _ _ _ _ => True) lw_Q := by
  refine MetFree.of_bodyS (code := code) (maxLocals := maxLocals) (ret := ret) (by decide) ?_ ?_
  · intro args s m h hn
    obtain ⟨meth, c, h1, h2, h3, h4, h5, h6, -, -⟩ := Cond.code_spec hn (atoms_spec (ws := Jvm.Cond.code x code maxLocals ret :: tables_1) h _ List.mem_cons_self)
    exact ⟨meth, c, h1, h2, h3, h4, h5, h6⟩
  · intro p e s m args below meth c s₁ B hml0 hP _
    obtain ⟨rfl, hx, hbd, hgv⟩ := hP
    obtain ⟨scr, harrAt, hlist, hof, hsmall⟩ := hx
    obtain ⟨hcb, hkn, -, -⟩ := State.arrayAt?_spec harrAt
    have hown : s.vm.findClass R_law = some m.cls := findClass_of_methodNamed B.named
    have hts0 : ∀ c ∈ (Jvm.Cond.code x code maxLocals ret :: tables_1), c.before #[Value.ref b] s = true := atoms_spec (ws := Jvm.Cond.code x code maxLocals ret :: tables_1) B.pre
    have hts : ∀ w ∈ lw_tbl, w.before #[Value.ref b] s = true := k2_hts_sels lw_privs (fun w hw => hts0 w (List.mem_cons_of_mem _ hw)) lw_privs_ok
    have hml : c.maxLocals = 9 := B.maxLocals_eq (hts0 _ List.mem_cons_self)
    have X₀ : Stand p l e room_1 s m #[Value.ref b] below meth c s₁ [] 0 0 := Stand.of_body B
    have hh0 : s₁.heap = s.heap := by rw [B.state]; rfl
    have hsz : scr.slots.size = xs.length := by rw [← Array.length_toList, hlist, List.length_map]
    have hval : ∀ j : Nat, j < xs.length → scr.slots[j]? = some (.int (xs.getD j 0)) := fun j hj => by
      rw [← Array.getElem?_toList, hlist]
      simp [hj]
    have hbl : b < s.heap.size := (Array.getElem?_eq_some_iff.mp hcb).1
    have hX : va_X b xs.length (fun j => xs.getD j 0) s s.heap := ⟨scr, hcb, hof, hkn, hsz, hval⟩
    have K : W p l e room_1 s m #[Value.ref b] below meth c s₁.heap [] 0 0 (lw_Z below #[Value.ref b] s) (entryFrame m ([Value.ref b] : List Value).toArray 9) := by
      rw [hh0]
      exact whole_start l hflags hbd ⟨B.exec, B.bytes, B.returns, hml, hown, hts, hX, hbl, B.notSynchronized, hgv⟩
    obtain ⟨t, a1, o, b1, b2, b3⟩ := K s₁ rfl X₀
    exact ⟨t, o, a1, b1, b2, b3⟩
theorem lw_pre_spec {args : Array Value} {s : State} (h : (Jvm.Cond.and given_1 narrow_1).before args s = true) (hr : rest_1_c.before args s = true) : ∃ (b : Addr) (xs : List Int32), lw_P b xs args s := by
  have hs := flat_of_before _ h
  have hq := flat_of_before _ hr
  have hc : (Cond.count 1).before args s = true := hs _ (by decide +kernel)
  have harr : (Cond.arrayOf (.arg 0) .int).before args s = true := hs _ (by decide +kernel)
  have hle : (Cond.le (.length (.arg 0)) (.int 260)).before args s = true := hs _ (by decide +kernel)
  have hlen : (Cond.isInt (.length (.arg 0))).before args s = true := hq _ (by decide +kernel)
  have hall : (Cond.all (.arg 0) (.isInt (.elem (.arg 0) (.index 0)))).before args s = true := hq _ (by decide +kernel)
  obtain ⟨b, xs, hb, hx⟩ := State.ints_of_pre rfl harr hlen hall
  have hsm : xs.length < 2 ^ 31 := hx.choose_spec.2.2.2
  have hev : (Term.length (.arg 0)).eval args s none [] s = some (.int xs.length.toInt32) := hx.length_eval hb
  have hv := Cond.le_ints hev (show (Term.int 260).eval args s none [] s = some (.int 260) from rfl)
  have hd : xs.length.toInt32 ≤ 260 := by
    simpa [Cond.before, Cond.holds, hv] using hle
  have hN : xs.length ≤ 260 := (Int32.ofNat_le_ofNat hsm (by decide)).mp (show Int32.ofNat xs.length ≤ Int32.ofNat 260 from hd)
  exact ⟨b, xs, Cond.one_arg hc (show args[0]? = some (.ref b) from hb), hx, hN, h⟩
theorem lw_comes (l : Launch) (hflags : l.flags = flags0) : Comes l x (Jvm.Cond.code x code maxLocals ret :: tables_1) room_1 (fun tb e args s => Calls_1 tb e args s ∧ rest_1 tb e args s ∧ Pre_1 tb e args s)
    (fun _ _ args s o t => lw_Q args s o t) := by
  intro p e ha hc hk s m args below hf hfit hheap happ hpre
  obtain ⟨b, xs, hP⟩ := lw_pre_spec hpre.2.2 hpre.2.1
  obtain ⟨k, o, h1, h2, h3, hQ⟩ := lw_walk l hflags b xs p e ha hc hk s m args below hf ((Spec.applies_iff_loose hf).mp happ).1 hP trivial
  exact ⟨k, o, h1, h2, h3, hQ⟩
theorem lw_frame {s t : State} {o : Outcome} {args : Array Value} (h : State.butDraws s t lw_cs (fun t1 => Framed s o t1 [] 600000 7302250)) :
    State.butDraws s t [Jvm.Choice.named "NaN.bits"] (fun t1 => Framed s o t1 (fieldLocs frame_1_writes args s ++ arrayLocs frame_1_arrays args s ++ staticLocs frame_1_statics s) 600000 7302250) := h
theorem lw_limb (L : Cond) (hL : ∀ (args : Array Value) (s t : State), L.after args s (.returned (some (.int 1))) t = true) :
    ArmFor flags0 classFile x code maxLocals ret World_1 tables_1 room_1 Calls_1 rest_1 Pre_1
      (fun tb e a s o t => postC L tb e a s o t ∧ State.butDraws s t [Jvm.Choice.named "NaN.bits"] (fun t1 => Framed s o t1 (fieldLocs frame_1_writes a s ++ arrayLocs frame_1_arrays a s ++ staticLocs frame_1_statics s) 600000 7302250)) := by
  intro l hflags _ _ p e ha hc hk s m args below hf hfit hheap happ hpre
  obtain ⟨k, o, h1, h2, h3, rfl, hF⟩ := lw_comes l hflags p e ha hc hk s m args below hf hfit hheap happ hpre
  exact ⟨k, _, h1, h2, h3, hL args s _, lw_frame hF⟩
theorem i_vc : Claimed_1_1 ∧ Claimed_1_2 := ⟨lw_limb limb_1_1 (fun args s t => by simp [limb_1_1, Cond.after, Cond.holds, Cond.value]), lw_limb limb_1_2 (fun args s t => Cond.after_iff.mpr (by
  first | (rw [show limb_1_2 = Cond.eq .result (.int 1) from rfl, Cond.eq_ints (x := 1) (y := 1) rfl rfl]; simp; done) | (simp [limb_1_2, Cond.value, Term.eval]; done)))⟩
