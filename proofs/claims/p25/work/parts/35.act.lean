/-! the law: act -/
def lgI (k : Int) (x : TS) : Prop := gdQ x ∧ x.2.2.1.2 ≤ k
theorem lgI.up {k : Int} {x : TS} (h : lgI k x) : lgI (k + 1) x := ⟨h.1, by have := h.2; omega⟩
def lgH (k : Int) (x : TS) (hl : Int) (hk : Nat → TS) : Prop := lgI k x ∧ ∀ j : Nat, (j : Int) < hl → lgI k (hk j)
theorem lgH.up {k : Int} {x : TS} {hl : Int} {hk : Nat → TS} (h : lgH k x hl hk) : lgH (k + 1) x hl hk := ⟨h.1.up, fun j hj => (h.2 j hj).up⟩
theorem lgH.rc {k : Int} {x x2 : TS} {hl r : Int} {hk : Nat → TS} (h : lgH k x hl hk) (h2 : lgI (k + 1) x2) : lgH (k + 1) x2 (rcH r hl) (rcK r x hk) := by
  refine ⟨h2, ?_⟩
  unfold rcH rcK
  by_cases hr : 0 ≤ r
  · rw [if_pos hr, if_pos hr]
    intro j hj
    by_cases hj0 : j = 0
    · subst hj0
      exact h.1.up
    · show lgI (k + 1) (if j = 0 then x else hk (j - 1))
      rw [if_neg hj0]
      refine (h.2 (j - 1) ?_).up
      unfold jmn at hj
      split at hj <;> omega
  · rw [if_neg hr, if_neg hr]
    exact h.up.2
def acQ (x : TS) (hl : Int) (hk : Nat → TS) (r : Int) (x2 : TS) (hl2 : Int) (hk2 : Nat → TS) : Prop := (-6 ≤ r ∧ r ≤ 100) ∧ (r < 0 → hl2 = hl ∧ x2 = x) ∧ ∀ k : Int, lgH k x hl hk → lgH (k + 1) x2 hl2 hk2
theorem rcH_n {r hl : Int} (h : r < 0) : rcH r hl = hl := if_neg (by omega)
theorem acQ_ch {x x2 : TS} {hl : Int} {hk : Nat → TS} {q v r : Int} (hx : stQ x) (h : chQ x q v r x2) : acQ x hl hk r x2 (rcH r hl) (rcK r x hk) := by
  have h1 := chQ_r hx h
  refine ⟨by omega, fun hr => ⟨rcH_n hr, ?_⟩, fun k hg => hg.rc ⟨hg.1.1.ch h, ?_⟩⟩
  · rcases h with ⟨-, -, e⟩ | ⟨h2, e, -⟩
    · exact e
    · exfalso
      have h3 := seQ_up (f := x.1) hx.1 h2
      obtain ⟨⟨a1, a2⟩, ⟨b1, b2⟩, ⟨c1, c2⟩, d1, d2⟩ := hx.1
      have hq : q.toNat = 0 ∨ q.toNat = 1 ∨ q.toNat = 2 ∨ q.toNat = 3 := by omega
      rcases hq with z | z | z | z <;> rw [z] at e <;> omega
  · have h2 := hg.1.2
    rcases h with ⟨-, -, rfl⟩ | ⟨-, -, rfl⟩
    · omega
    · show x.2.2.1.2 ≤ _
      omega
theorem acQ_ad {x x2 : TS} {hl : Int} {hk : Nat → TS} {p q r : Int} (hx : stQ x) (h : adQ x p q r x2) : acQ x hl hk r x2 (rcH r hl) (rcK r x hk) := by
  have hz := hx.2.1.2.2
  refine ⟨?_, fun hr => ⟨rcH_n hr, ?_⟩, fun k hg => hg.rc ⟨hg.1.1.ad hx h, ?_⟩⟩
  · rcases h with ⟨-, e, -⟩ | ⟨-, -, e, -⟩ | ⟨-, -, e, -⟩ <;> omega
  · rcases h with ⟨-, -, e⟩ | ⟨-, -, -, e⟩ | ⟨-, -, e, -⟩
    · exact e
    · exact e
    · omega
  · have h2 := hg.1.2
    have h3 := adQ_ch h
    omega
theorem acQ_dr {x x2 : TS} {hl : Int} {hk : Nat → TS} {p r : Int} (hx : stQ x) (h : drQ x p r x2) : acQ x hl hk r x2 (rcH r hl) (rcK r x hk) := by
  have h1 := drQ_r hx h
  refine ⟨by omega, fun hr => ⟨rcH_n hr, ?_⟩, fun k hg => hg.rc ⟨hg.1.1.dr hx h, ?_⟩⟩
  · rcases h with ⟨-, -, e⟩ | ⟨a, e, -⟩
    · exact e
    · omega
  · have h2 := hg.1.2
    rcases h with ⟨-, -, rfl⟩ | ⟨-, -, rfl⟩
    · omega
    · show nch x.2.2.1.1 x.2.2.1.2 ≤ _
      unfold nch
      split <;> omega
theorem acQ_an {x x2 : TS} {hl : Int} {hk : Nat → TS} {r : Int} (hx : stQ x) (h : anQ x r x2) : acQ x hl hk r x2 (rcH r hl) (rcK r x hk) := by
  have h1 := anQ_r hx h
  refine ⟨by omega, fun hr => ⟨rcH_n hr, ?_⟩, fun k hg => hg.rc ⟨hg.1.1.an hx h, ?_⟩⟩
  · rcases h with ⟨-, -, e⟩ | ⟨a, e, -⟩
    · exact e
    · omega
  · have h2 := hg.1.2
    have h3 := hx.2.2.2.1
    rcases h with ⟨-, -, rfl⟩ | ⟨-, -, A, B, p, rfl, -⟩
    · omega
    · show (0 : Int) ≤ _
      omega
theorem acQ_un {x : TS} {hl : Int} {hk : Nat → TS} (h0 : 0 < hl) (h6 : hl ≤ 6) : acQ x hl hk (hl - 1) (hk 0) (hl - 1) (fun j => hk (j + 1)) :=
  ⟨by omega, fun hr => by omega, fun k hg => ⟨(hg.2 0 (by omega)).up, fun j hj => (hg.2 (j + 1) (by omega)).up⟩⟩
theorem acQ_un0 {x : TS} {hl : Int} {hk : Nat → TS} : acQ x hl hk (-5) x hl hk := ⟨by omega, fun _ => ⟨rfl, rfl⟩, fun k hg => hg.up⟩

set_option maxHeartbeats 4000000 in
set_option maxRecDepth 100000 in
theorem c_L_act {l : Launch} {D : va_G} {b0 : Nat} {n : Nat} {M : jM} {b L : Nat} {xs : Nat → Int32} (hL : L ≤ 260) {e lo : Nat} {x : TS} {hl : Int} {hk : Nat → TS} {sl : Nat → Option TS} {sg : Nat → Int} {len : Int} (hW : ehP M n e lo x hl hk sl sg len none) {k : Int} (hk9 : 0 ≤ k ∧ k ≤ 200) (hcc : x.2.2.1.2 ≤ 9999999) : jCtrT l D b0 b L xs yL_act cL_act 5 (some .int) 6 26 479 [.ref e, .ref b, jI k] n M (fun v n2 M2 => ∃ (r : Int) (x2 : TS) (hl2 : Int) (hk2 : Nat → TS), some (jI r) = v ∧ n ≤ n2 ∧ n2 ≤ n + 26 ∧ ehP M2 n2 e lo x2 hl2 hk2 sl sg len none ∧ acQ x hl hk r x2 hl2 hk2 ∧ jlo M M2 lo e 41) := by
  refine jctrT (lv := [some (.ref e), some (.ref b), some (jI k), none, none]) RL "act" rfl rfl (by decide) (Nat.le_of_ble_eq_true rfl) rfl ?_
  intro X h hR hX hT
  have hx := hW.qs.1
  have hE := hW.ob
  have hh6 := hW.qs.2.2.1
  refine jk_aload_n (q := 1) h dL_act_0 rfl rfl ?_
  refine jk_iload_n (q := 2) h dL_act_1 rfl rfl ?_
  refine jk_iconst (q := 3) h dL_act_2 rfl ?_
  refine jk_iadd (q := 4) h dL_act_3 rfl ?_
  refine jk_callT (q := 7) h hX hT (c_L_cell hL ⟨by omega, by omega⟩) ms_L_cell dL_act_4 ml_L_38 ⟨rfl, Nat.le_refl _⟩ rfl rfl (Nat.le_of_ble_eq_true rfl) (Nat.le_of_ble_eq_true rfl) rfl rfl (Nat.le_of_ble_eq_true rfl) rfl (fun v9 n9 M9 hp9 => ?_)
  obtain ⟨za, rfl, rfl, rfl⟩ := hp9
  refine jk_istore_n (q := 8) h dL_act_7 rfl (Nat.le_of_ble_eq_true rfl) rfl rfl ?_
  refine jk_aload_n (q := 9) h dL_act_8 rfl rfl ?_
  refine jk_iload_n (q := 10) h dL_act_9 rfl rfl ?_
  refine jk_iconst (q := 11) h dL_act_10 rfl ?_
  refine jk_iadd (q := 12) h dL_act_11 rfl ?_
  refine jk_callT (q := 15) h hX hT (c_L_cell hL ⟨by omega, by omega⟩) ms_L_cell dL_act_12 ml_L_38 ⟨rfl, Nat.le_refl _⟩ rfl rfl (Nat.le_of_ble_eq_true rfl) (Nat.le_of_ble_eq_true rfl) rfl rfl (Nat.le_of_ble_eq_true rfl) rfl (fun v9 n9 M9 hp9 => ?_)
  obtain ⟨zb, rfl, rfl, rfl⟩ := hp9
  refine jk_istore (q := 17) h dL_act_15 rfl (Nat.le_of_ble_eq_true rfl) rfl rfl ?_
  refine jk_aload_n (q := 18) h dL_act_17 rfl rfl ?_
  refine jk_iload_n (q := 19) h dL_act_18 rfl rfl ?_
  refine jk_callT (q := 22) h hX hT (c_L_cell hL ⟨by omega, by omega⟩) ms_L_cell dL_act_19 ml_L_38 ⟨rfl, Nat.le_refl _⟩ rfl rfl (Nat.le_of_ble_eq_true rfl) (Nat.le_of_ble_eq_true rfl) rfl rfl (Nat.le_of_ble_eq_true rfl) rfl (fun v9 n9 M9 hp9 => ?_)
  obtain ⟨zk, rfl, rfl, rfl⟩ := hp9
  refine jk_bipush (q := 24) h dL_act_22 (by decide) rfl ?_
  refine jk_callS (q := 27) h hX (c_L_low ⟨by omega, by omega⟩) ms_L_low dL_act_24 ml_L_44 ⟨rfl, Nat.le_refl _⟩ rfl rfl (Nat.le_of_ble_eq_true rfl) (Nat.le_of_ble_eq_true rfl) rfl rfl (Nat.le_of_ble_eq_true rfl) rfl (fun v9 n9 M9 hp9 => ?_)
  obtain ⟨zs, rfl, rfl, rfl, hzs⟩ := hp9
  have jn92 : jJ X 92 [some (.ref (e)), some (.ref (b)), some (jI (k)), some (jI (za)), some (jI (zb))] [] n M 0 0 := by
    refine jk_aload_n (q := 93) h dL_act_92 rfl rfl ?_
    refine jk_iload_n (q := 94) h dL_act_93 rfl rfl ?_
    refine jk_bipush (q := 96) h dL_act_94 (by decide) rfl ?_
    refine jk_callS (q := 99) h hX (c_L_low ⟨by omega, by omega⟩) ms_L_low dL_act_96 ml_L_44 ⟨rfl, Nat.le_refl _⟩ rfl rfl (Nat.le_of_ble_eq_true rfl) (Nat.le_of_ble_eq_true rfl) rfl rfl (Nat.le_of_ble_eq_true rfl) rfl (fun v9 n9 M9 hp9 => ?_)
    obtain ⟨z1, rfl, rfl, rfl, hz1⟩ := hp9
    refine jk_iconst (q := 100) h dL_act_99 rfl ?_
    refine jk_imul (q := 101) h dL_act_100 rfl ?_
    refine jk_iload (q := 103) h dL_act_101 rfl rfl ?_
    refine jk_bipush (q := 105) h dL_act_103 (by decide) rfl ?_
    refine jk_callS (q := 108) h hX (c_L_low ⟨by omega, by omega⟩) ms_L_low dL_act_105 ml_L_44 ⟨rfl, Nat.le_refl _⟩ rfl rfl (Nat.le_of_ble_eq_true rfl) (Nat.le_of_ble_eq_true rfl) rfl rfl (Nat.le_of_ble_eq_true rfl) rfl (fun v9 n9 M9 hp9 => ?_)
    obtain ⟨z2, rfl, rfl, rfl, hz2⟩ := hp9
    refine jk_callV (q := 111) h hX (c_X9_insert hW ⟨by omega, by omega⟩ ⟨by omega, by omega⟩ hcc) mv_X9_insert (hE.at 0 rfl) dL_act_108 ml_L_47 ⟨rfl, Nat.le_refl _⟩ rfl rfl (Nat.le_of_ble_eq_true rfl) (Nat.le_of_ble_eq_true rfl) rfl rfl (Nat.le_of_ble_eq_true rfl) rfl (fun v9 n9 M_7 hp9 => ?_)
    obtain ⟨r, x2, rfl, hn1, hn2, hW2, hsp, hj9⟩ := hp9
    exact jk_iret h hR dL_act_111 (Nat.le_of_ble_eq_true rfl) (Nat.le_of_ble_eq_true rfl) ⟨r, x2, _, _, rfl, hn1, hn2, hW2, acQ_ad hx hsp, hj9⟩
  have jn112 : jJ X 112 [some (.ref (e)), some (.ref (b)), some (jI (k)), some (jI (za)), some (jI (zb))] [] n M 0 0 := by
    refine jk_aload_n (q := 113) h dL_act_112 rfl rfl ?_
    refine jk_iload_n (q := 114) h dL_act_113 rfl rfl ?_
    refine jk_bipush (q := 116) h dL_act_114 (by decide) rfl ?_
    refine jk_callS (q := 119) h hX (c_L_low ⟨by omega, by omega⟩) ms_L_low dL_act_116 ml_L_44 ⟨rfl, Nat.le_refl _⟩ rfl rfl (Nat.le_of_ble_eq_true rfl) (Nat.le_of_ble_eq_true rfl) rfl rfl (Nat.le_of_ble_eq_true rfl) rfl (fun v9 n9 M9 hp9 => ?_)
    obtain ⟨z1, rfl, rfl, rfl, hz1⟩ := hp9
    refine jk_iload (q := 121) h dL_act_119 rfl rfl ?_
    refine jk_bipush (q := 123) h dL_act_121 (by decide) rfl ?_
    refine jk_callS (q := 126) h hX (c_L_low ⟨by omega, by omega⟩) ms_L_low dL_act_123 ml_L_44 ⟨rfl, Nat.le_refl _⟩ rfl rfl (Nat.le_of_ble_eq_true rfl) (Nat.le_of_ble_eq_true rfl) rfl rfl (Nat.le_of_ble_eq_true rfl) rfl (fun v9 n9 M9 hp9 => ?_)
    obtain ⟨z2, rfl, rfl, rfl, hz2⟩ := hp9
    refine jk_callV (q := 129) h hX (c_X9_insert hW ⟨by omega, by omega⟩ ⟨by omega, by omega⟩ hcc) mv_X9_insert (hE.at 0 rfl) dL_act_126 ml_L_47 ⟨rfl, Nat.le_refl _⟩ rfl rfl (Nat.le_of_ble_eq_true rfl) (Nat.le_of_ble_eq_true rfl) rfl rfl (Nat.le_of_ble_eq_true rfl) rfl (fun v9 n9 M_10 hp9 => ?_)
    obtain ⟨r, x2, rfl, hn1, hn2, hW2, hsp, hj9⟩ := hp9
    exact jk_iret h hR dL_act_129 (Nat.le_of_ble_eq_true rfl) (Nat.le_of_ble_eq_true rfl) ⟨r, x2, _, _, rfl, hn1, hn2, hW2, acQ_ad hx hsp, hj9⟩
  have jn130 : jJ X 130 [some (.ref (e)), some (.ref (b)), some (jI (k)), some (jI (za)), some (jI (zb))] [] n M 0 0 := by
    refine jk_aload_n (q := 131) h dL_act_130 rfl rfl ?_
    refine jk_iload_n (q := 132) h dL_act_131 rfl rfl ?_
    refine jk_bipush (q := 134) h dL_act_132 (by decide) rfl ?_
    refine jk_callS (q := 137) h hX (c_L_low ⟨by omega, by omega⟩) ms_L_low dL_act_134 ml_L_44 ⟨rfl, Nat.le_refl _⟩ rfl rfl (Nat.le_of_ble_eq_true rfl) (Nat.le_of_ble_eq_true rfl) rfl rfl (Nat.le_of_ble_eq_true rfl) rfl (fun v9 n9 M9 hp9 => ?_)
    obtain ⟨z1, rfl, rfl, rfl, hz1⟩ := hp9
    refine jk_callV (q := 140) h hX (c_X9_remove hW ⟨by omega, by omega⟩ hcc) mv_X9_remove (hE.at 0 rfl) dL_act_137 ml_L_50 ⟨rfl, Nat.le_refl _⟩ rfl rfl (Nat.le_of_ble_eq_true rfl) (Nat.le_of_ble_eq_true rfl) rfl rfl (Nat.le_of_ble_eq_true rfl) rfl (fun v9 n9 M_12 hp9 => ?_)
    obtain ⟨r, x2, rfl, hn1, hn2, hW2, hsp, hj9⟩ := hp9
    exact jk_iret h hR dL_act_140 (Nat.le_of_ble_eq_true rfl) (Nat.le_of_ble_eq_true rfl) ⟨r, x2, _, _, rfl, hn1, hn2, hW2, acQ_dr hx hsp, hj9⟩
  refine jk_case (0) (fun c27_0 => ?_) (fun c27_0 => ?_)
  · refine jk_tabIn (q := 0) (tgt := 92) h dL_act_27 ⟨by omega, by omega⟩ (by omega) (by omega) (by rw [c27_0]; try rfl) (by decide) ?_
    exact jk_weak (jwk_s rfl (jwk_s rfl (jwk_s rfl (jwk_s rfl (jwk_s rfl jwk_0))))) (jn92  )
  refine jk_case (1) (fun c27_1 => ?_) (fun c27_1 => ?_)
  · refine jk_tabIn (q := 0) (tgt := 92) h dL_act_27 ⟨by omega, by omega⟩ (by omega) (by omega) (by rw [c27_1]; try rfl) (by decide) ?_
    exact jk_weak (jwk_s rfl (jwk_s rfl (jwk_s rfl (jwk_s rfl (jwk_s rfl jwk_0))))) (jn92  )
  refine jk_case (2) (fun c27_2 => ?_) (fun c27_2 => ?_)
  · refine jk_tabIn (q := 0) (tgt := 92) h dL_act_27 ⟨by omega, by omega⟩ (by omega) (by omega) (by rw [c27_2]; try rfl) (by decide) ?_
    exact jk_weak (jwk_s rfl (jwk_s rfl (jwk_s rfl (jwk_s rfl (jwk_s rfl jwk_0))))) (jn92  )
  refine jk_case (3) (fun c27_3 => ?_) (fun c27_3 => ?_)
  · refine jk_tabIn (q := 0) (tgt := 92) h dL_act_27 ⟨by omega, by omega⟩ (by omega) (by omega) (by rw [c27_3]; try rfl) (by decide) ?_
    exact jk_weak (jwk_s rfl (jwk_s rfl (jwk_s rfl (jwk_s rfl (jwk_s rfl jwk_0))))) (jn92  )
  refine jk_case (4) (fun c27_4 => ?_) (fun c27_4 => ?_)
  · refine jk_tabIn (q := 0) (tgt := 92) h dL_act_27 ⟨by omega, by omega⟩ (by omega) (by omega) (by rw [c27_4]; try rfl) (by decide) ?_
    exact jk_weak (jwk_s rfl (jwk_s rfl (jwk_s rfl (jwk_s rfl (jwk_s rfl jwk_0))))) (jn92  )
  refine jk_case (5) (fun c27_5 => ?_) (fun c27_5 => ?_)
  · refine jk_tabIn (q := 0) (tgt := 92) h dL_act_27 ⟨by omega, by omega⟩ (by omega) (by omega) (by rw [c27_5]; try rfl) (by decide) ?_
    exact jk_weak (jwk_s rfl (jwk_s rfl (jwk_s rfl (jwk_s rfl (jwk_s rfl jwk_0))))) (jn92  )
  refine jk_case (6) (fun c27_6 => ?_) (fun c27_6 => ?_)
  · refine jk_tabIn (q := 0) (tgt := 92) h dL_act_27 ⟨by omega, by omega⟩ (by omega) (by omega) (by rw [c27_6]; try rfl) (by decide) ?_
    exact jk_weak (jwk_s rfl (jwk_s rfl (jwk_s rfl (jwk_s rfl (jwk_s rfl jwk_0))))) (jn92  )
  refine jk_case (7) (fun c27_7 => ?_) (fun c27_7 => ?_)
  · refine jk_tabIn (q := 0) (tgt := 112) h dL_act_27 ⟨by omega, by omega⟩ (by omega) (by omega) (by rw [c27_7]; try rfl) (by decide) ?_
    exact jk_weak (jwk_s rfl (jwk_s rfl (jwk_s rfl (jwk_s rfl (jwk_s rfl jwk_0))))) (jn112  )
  refine jk_case (8) (fun c27_8 => ?_) (fun c27_8 => ?_)
  · refine jk_tabIn (q := 0) (tgt := 112) h dL_act_27 ⟨by omega, by omega⟩ (by omega) (by omega) (by rw [c27_8]; try rfl) (by decide) ?_
    exact jk_weak (jwk_s rfl (jwk_s rfl (jwk_s rfl (jwk_s rfl (jwk_s rfl jwk_0))))) (jn112  )
  refine jk_case (9) (fun c27_9 => ?_) (fun c27_9 => ?_)
  · refine jk_tabIn (q := 0) (tgt := 130) h dL_act_27 ⟨by omega, by omega⟩ (by omega) (by omega) (by rw [c27_9]; try rfl) (by decide) ?_
    exact jk_weak (jwk_s rfl (jwk_s rfl (jwk_s rfl (jwk_s rfl (jwk_s rfl jwk_0))))) (jn130  )
  refine jk_case (10) (fun c27_10 => ?_) (fun c27_10 => ?_)
  · refine jk_tabIn (q := 0) (tgt := 130) h dL_act_27 ⟨by omega, by omega⟩ (by omega) (by omega) (by rw [c27_10]; try rfl) (by decide) ?_
    exact jk_weak (jwk_s rfl (jwk_s rfl (jwk_s rfl (jwk_s rfl (jwk_s rfl jwk_0))))) (jn130  )
  refine jk_case (11) (fun c27_11 => ?_) (fun c27_11 => ?_)
  · refine jk_tabIn (q := 0) (tgt := 141) h dL_act_27 ⟨by omega, by omega⟩ (by omega) (by omega) (by rw [c27_11]; try rfl) (by decide) ?_
    refine jk_aload_n (q := 142) h dL_act_141 rfl rfl ?_
    refine jk_iload_n (q := 143) h dL_act_142 rfl rfl ?_
    refine jk_iconst (q := 144) h dL_act_143 rfl ?_
    refine jk_callS (q := 147) h hX (c_L_low ⟨by omega, by omega⟩) ms_L_low dL_act_144 ml_L_44 ⟨rfl, Nat.le_refl _⟩ rfl rfl (Nat.le_of_ble_eq_true rfl) (Nat.le_of_ble_eq_true rfl) rfl rfl (Nat.le_of_ble_eq_true rfl) rfl (fun v9 n9 M9 hp9 => ?_)
    obtain ⟨z1, rfl, rfl, rfl, hz1⟩ := hp9
    refine jk_iload (q := 149) h dL_act_147 rfl rfl ?_
    refine jk_bipush (q := 151) h dL_act_149 (by decide) rfl ?_
    refine jk_callS (q := 154) h hX (c_L_low ⟨by omega, by omega⟩) ms_L_low dL_act_151 ml_L_44 ⟨rfl, Nat.le_refl _⟩ rfl rfl (Nat.le_of_ble_eq_true rfl) (Nat.le_of_ble_eq_true rfl) rfl rfl (Nat.le_of_ble_eq_true rfl) rfl (fun v9 n9 M9 hp9 => ?_)
    obtain ⟨z2, rfl, rfl, rfl, hz2⟩ := hp9
    refine jk_callV (q := 157) h hX (c_X9_set hW ⟨by omega, by omega⟩ ⟨by omega, by omega⟩) mv_X9_set (hE.at 0 rfl) dL_act_154 ml_L_53 ⟨rfl, Nat.le_refl _⟩ rfl rfl (Nat.le_of_ble_eq_true rfl) (Nat.le_of_ble_eq_true rfl) rfl rfl (Nat.le_of_ble_eq_true rfl) rfl (fun v9 n9 M_15 hp9 => ?_)
    obtain ⟨r, x2, rfl, hn1, hn2, hW2, hsp, hj9⟩ := hp9
    exact jk_iret h hR dL_act_157 (Nat.le_of_ble_eq_true rfl) (Nat.le_of_ble_eq_true rfl) ⟨r, x2, _, _, rfl, hn1, hn2, hW2, acQ_ch hx hsp, hj9⟩
  refine jk_case (12) (fun c27_12 => ?_) (fun c27_12 => ?_)
  · refine jk_tabIn (q := 0) (tgt := 158) h dL_act_27 ⟨by omega, by omega⟩ (by omega) (by omega) (by rw [c27_12]; try rfl) (by decide) ?_
    refine jk_aload_n (q := 159) h dL_act_158 rfl rfl ?_
    refine jk_callV (q := 162) h hX (c_X9_undo hW) mv_X9_undo (hE.at 0 rfl) dL_act_159 ml_L_56 ⟨rfl, Nat.le_refl _⟩ rfl rfl (Nat.le_of_ble_eq_true rfl) (Nat.le_of_ble_eq_true rfl) rfl rfl (Nat.le_of_ble_eq_true rfl) rfl (fun v9 n9 M_16 hp9 => ?_)
    obtain ⟨r, rfl, rfl, hd9, hj9⟩ := hp9
    exact jk_iret h hR dL_act_162 (Nat.le_of_ble_eq_true rfl) (Nat.le_of_ble_eq_true rfl) (by rcases hd9 with ⟨a1, rfl, hW2⟩ | ⟨a1, rfl, hW2⟩; exact ⟨_, _, _, _, rfl, Nat.le_refl _, by omega, hW2, acQ_un0, hj9⟩; exact ⟨_, _, _, _, rfl, Nat.le_refl _, by omega, hW2, acQ_un a1 hh6.2, hj9⟩)
  refine jk_tabOut (q := 0) (tgt := 163) h dL_act_27 ⟨by omega, by omega⟩ (by omega) (by decide) ?_
  refine jk_aload_n (q := 164) h dL_act_163 rfl rfl ?_
  refine jk_callV (q := 167) h hX (c_X9_analyse hW) mv_X9_analyse (hE.at 0 rfl) dL_act_164 ml_L_60 ⟨rfl, Nat.le_refl _⟩ rfl rfl (Nat.le_of_ble_eq_true rfl) (Nat.le_of_ble_eq_true rfl) rfl rfl (Nat.le_of_ble_eq_true rfl) rfl (fun v9 n9 M_17 hp9 => ?_)
  obtain ⟨r, x2, rfl, hn1, hn2, hW2, hsp, hj9⟩ := hp9
  exact jk_iret h hR dL_act_167 (Nat.le_of_ble_eq_true rfl) (Nat.le_of_ble_eq_true rfl) ⟨r, x2, _, _, rfl, hn1, hn2, hW2, acQ_an hx hsp, hj9⟩
