/-! the law: its loop -/
set_option maxHeartbeats 4000000 in
set_option maxRecDepth 100000 in
theorem lq_loop {X : jX} {nm : String} {l : Launch} {D : va_G} {b0 b L : Nat} {xs : Nat → Int32} (h : jB X cL_law RL nm ret room_1) (hX : jF X l D b0) (hs : jS X b L xs) (hL : L ≤ 3072) {e : Nat} : ∀ (d k : Nat) (i : Int) (hi : i = 6 * (k : Int)) (hiL : i ≤ L) (hd : (L : Int) - i < d) (n : Nat) (M : jM) (x : TS) (hl : Int) (hk9 : Nat → TS) (sl : Nat → Option TS) (sg : Nat → Int) (len : Int) (hG : lgW M n e x hl hk9 sl sg len k), jJ X 18 (lgL b e i) [] n M (50 + 26 * k) (5662 + 479 * k)
  | 0, k, i, hi, hiL, hd => by omega
  | d + 1, k, i, hi, hiL, hd => by
    intro n M x hl hk9 sl sg len hG
    refine jk_iload_n (q := 19) h dL_law_18 rfl rfl ?_
    refine jk_aload_n (q := 20) h dL_law_19 rfl rfl ?_
    refine jk_slen (q := 21) h hs dL_law_20 rfl ?_
    refine jk_bipush (q := 23) h dL_law_21 (by decide) rfl ?_
    refine jk_isub (q := 24) h dL_law_23 rfl ?_
    refine jk_icmp_gt (q := 27) (tgt := 819) h dL_law_24 (by decide) rfl ⟨by omega, by omega⟩ ⟨by omega, by omega⟩ (fun c24 => ?_) (fun c24 => ?_)
    · refine jk_iconst (q := 820) h dL_law_819 rfl ?_
      exact jk_ret1 h hs dL_law_820 (by omega) (by omega)
    · have hi0 : 0 ≤ i := by omega
      have hi6 : i + 6 ≤ L := by omega
      have hk : k < 512 := by omega
      have kk : lgK X b e i k := fun n2 M2 x2 hl2 hk2 sl2 sg2 len2 hG2 => by
        refine jk_iinc (q := 816) h dL_law_813 rfl rfl rfl rfl ?_
        refine jk_goto (q := 819) (tgt := 18) h dL_law_816 (by decide) ?_
        exact lq_loop h hX hs hL d (k + 1) (i + 6) (by omega) (by omega) (by omega) n2 M2 x2 hl2 hk2 sl2 sg2 len2 hG2
      refine jk_aload_n (q := 28) h dL_law_27 rfl rfl ?_
      refine jk_iload_n (q := 29) h dL_law_28 rfl rfl ?_
      refine jk_sld (q := 30) h hs (by omega) (by omega) hL dL_law_29 rfl ?_
      refine jk_bipush (q := 32) h dL_law_30 (by decide) rfl ?_
      obtain ⟨z, hz, hze⟩ := and_31 (sc xs i)
      refine jk_iand (q := 33) h dL_law_32 hze rfl ?_
      refine jk_case (0) (fun c9 => ?_) (fun c0 => ?_)
      · exact jk_tabIn (q := 0) (tgt := 136) h dL_law_33 ⟨by omega, by omega⟩ (by omega) (by omega) (by rw [c9]; rfl) (by decide) (lq_0 h hX hs hL (by omega) (by omega) (by omega) hG kk)
      refine jk_case (1) (fun c9 => ?_) (fun c1 => ?_)
      · exact jk_tabIn (q := 0) (tgt := 169) h dL_law_33 ⟨by omega, by omega⟩ (by omega) (by omega) (by rw [c9]; rfl) (by decide) (lq_1 h hX hs hL (by omega) (by omega) (by omega) hG kk)
      refine jk_case (2) (fun c9 => ?_) (fun c2 => ?_)
      · exact jk_tabIn (q := 0) (tgt := 202) h dL_law_33 ⟨by omega, by omega⟩ (by omega) (by omega) (by rw [c9]; rfl) (by decide) (lq_2 h hX hs hL (by omega) (by omega) (by omega) hG kk)
      refine jk_case (3) (fun c9 => ?_) (fun c3 => ?_)
      · exact jk_tabIn (q := 0) (tgt := 225) h dL_law_33 ⟨by omega, by omega⟩ (by omega) (by omega) (by rw [c9]; rfl) (by decide) (lq_3 h hX hs hL (by omega) (by omega) (by omega) hG kk)
      refine jk_case (4) (fun c9 => ?_) (fun c4 => ?_)
      · exact jk_tabIn (q := 0) (tgt := 238) h dL_law_33 ⟨by omega, by omega⟩ (by omega) (by omega) (by rw [c9]; rfl) (by decide) (lq_4 h hX hs hL (by omega) (by omega) (by omega) hG kk)
      refine jk_case (5) (fun c9 => ?_) (fun c5 => ?_)
      · exact jk_tabIn (q := 0) (tgt := 271) h dL_law_33 ⟨by omega, by omega⟩ (by omega) (by omega) (by rw [c9]; rfl) (by decide) (lq_5 h hX hs hL (by omega) (by omega) (by omega) hG kk)
      refine jk_case (6) (fun c9 => ?_) (fun c6 => ?_)
      · exact jk_tabIn (q := 0) (tgt := 314) h dL_law_33 ⟨by omega, by omega⟩ (by omega) (by omega) (by rw [c9]; rfl) (by decide) (lq_6 h hX hs hL (by omega) (by omega) (by omega) hG kk)
      refine jk_case (7) (fun c9 => ?_) (fun c7 => ?_)
      · exact jk_tabIn (q := 0) (tgt := 357) h dL_law_33 ⟨by omega, by omega⟩ (by omega) (by omega) (by rw [c9]; rfl) (by decide) (lq_7 h hX hs hL (by omega) (by omega) (by omega) hG kk)
      refine jk_case (8) (fun c9 => ?_) (fun c8 => ?_)
      · exact jk_tabIn (q := 0) (tgt := 390) h dL_law_33 ⟨by omega, by omega⟩ (by omega) (by omega) (by rw [c9]; rfl) (by decide) (lq_8 h hX hs hL (by omega) (by omega) (by omega) hG kk)
      refine jk_case (9) (fun c9 => ?_) (fun c9 => ?_)
      · exact jk_tabIn (q := 0) (tgt := 413) h dL_law_33 ⟨by omega, by omega⟩ (by omega) (by omega) (by rw [c9]; rfl) (by decide) (lq_9 h hX hs hL (by omega) (by omega) (by omega) hG kk)
      refine jk_case (10) (fun c9 => ?_) (fun c10 => ?_)
      · exact jk_tabIn (q := 0) (tgt := 466) h dL_law_33 ⟨by omega, by omega⟩ (by omega) (by omega) (by rw [c9]; rfl) (by decide) (lq_10 h hX hs hL (by omega) (by omega) (by omega) hG kk)
      refine jk_case (11) (fun c9 => ?_) (fun c11 => ?_)
      · exact jk_tabIn (q := 0) (tgt := 529) h dL_law_33 ⟨by omega, by omega⟩ (by omega) (by omega) (by rw [c9]; rfl) (by decide) (lq_11 h hX hs hL (by omega) (by omega) (by omega) hG kk)
      refine jk_case (12) (fun c9 => ?_) (fun c12 => ?_)
      · exact jk_tabIn (q := 0) (tgt := 572) h dL_law_33 ⟨by omega, by omega⟩ (by omega) (by omega) (by rw [c9]; rfl) (by decide) (lq_12 h hX hs hL (by omega) (by omega) (by omega) hG kk)
      refine jk_case (13) (fun c9 => ?_) (fun c13 => ?_)
      · exact jk_tabIn (q := 0) (tgt := 596) h dL_law_33 ⟨by omega, by omega⟩ (by omega) (by omega) (by rw [c9]; rfl) (by decide) (lq_13 h hX hs hL (by omega) (by omega) (by omega) hG kk)
      refine jk_case (14) (fun c9 => ?_) (fun c14 => ?_)
      · exact jk_tabIn (q := 0) (tgt := 629) h dL_law_33 ⟨by omega, by omega⟩ (by omega) (by omega) (by rw [c9]; rfl) (by decide) (lq_14 h hX hs hL (by omega) (by omega) (by omega) hG kk)
      refine jk_case (15) (fun c9 => ?_) (fun c15 => ?_)
      · exact jk_tabIn (q := 0) (tgt := 662) h dL_law_33 ⟨by omega, by omega⟩ (by omega) (by omega) (by rw [c9]; rfl) (by decide) (lq_15 h hX hs hL (by omega) (by omega) (by omega) hG kk)
      refine jk_case (16) (fun c9 => ?_) (fun c16 => ?_)
      · exact jk_tabIn (q := 0) (tgt := 715) h dL_law_33 ⟨by omega, by omega⟩ (by omega) (by omega) (by rw [c9]; rfl) (by decide) (lq_16 h hX hs hL (by omega) (by omega) (by omega) hG kk)
      refine jk_case (17) (fun c9 => ?_) (fun c17 => ?_)
      · exact jk_tabIn (q := 0) (tgt := 728) h dL_law_33 ⟨by omega, by omega⟩ (by omega) (by omega) (by rw [c9]; rfl) (by decide) (lq_17 h hX hs hL (by omega) (by omega) (by omega) hG kk)
      refine jk_case (18) (fun c9 => ?_) (fun c18 => ?_)
      · exact jk_tabIn (q := 0) (tgt := 741) h dL_law_33 ⟨by omega, by omega⟩ (by omega) (by omega) (by rw [c9]; rfl) (by decide) (lq_18 h hX hs hL (by omega) (by omega) (by omega) hG kk)
      refine jk_case (19) (fun c9 => ?_) (fun c19 => ?_)
      · exact jk_tabIn (q := 0) (tgt := 754) h dL_law_33 ⟨by omega, by omega⟩ (by omega) (by omega) (by rw [c9]; rfl) (by decide) (lq_19 h hX hs hL (by omega) (by omega) (by omega) hG kk)
      refine jk_case (20) (fun c9 => ?_) (fun c20 => ?_)
      · exact jk_tabIn (q := 0) (tgt := 767) h dL_law_33 ⟨by omega, by omega⟩ (by omega) (by omega) (by rw [c9]; rfl) (by decide) (lq_20 h hX hs hL (by omega) (by omega) (by omega) hG kk)
      refine jk_case (21) (fun c9 => ?_) (fun c21 => ?_)
      · exact jk_tabIn (q := 0) (tgt := 790) h dL_law_33 ⟨by omega, by omega⟩ (by omega) (by omega) (by rw [c9]; rfl) (by decide) (lq_21 h hX hs hL (by omega) (by omega) (by omega) hG kk)
      refine jk_tabOut (q := 0) (tgt := 813) h dL_law_33 ⟨by omega, by omega⟩ (by omega) (by decide) ?_
      exact jk_wid (by omega) (by omega) (kk n M x hl hk9 sl sg len ⟨hG.1, hG.2.1, hG.2.2.up⟩)
theorem lgH_0 {hk : Nat → TS} : lgH 0 ts0 0 hk (fun _ => none) := ⟨⟨ts0_in, by decide⟩, fun j hj => absurd hj (by omega), fun i y _ hy => absurd hy (by simp)⟩
set_option maxHeartbeats 4000000 in
set_option maxRecDepth 100000 in
theorem lq_start {X : jX} {nm : String} {l : Launch} {D : va_G} {b0 b L : Nat} {xs : Nat → Int32} (h : jB X cL_law RL nm ret room_1) (hX : jF X l D b0) (hs : jS X b L xs) (hL : L ≤ 3072) {e : Nat} {M : jM} : jJ X 0 [some (.ref b), none, none, none] [] e M 0 0 := by
  refine jk_new (q := 3) h nw_L_7 dL_law_0 (Nat.le_of_ble_eq_true rfl) (Nat.le_of_ble_eq_true rfl) rfl (fun M_1 s_1 => ?_)
  have hE := jPic.one s_1
  refine jk_dup (q := 4) h dL_law_3 rfl rfl ?_
  refine jk_callI (q := 7) h hX (c_X9_init (hk := fun _ => ts0) hE) mi_X9_init dL_law_4 ml_L_9 ⟨rfl, by decide⟩ rfl rfl (Nat.le_of_ble_eq_true rfl) (Nat.le_of_ble_eq_true rfl) rfl rfl (Nat.le_of_ble_eq_true rfl) rfl (fun v9 n9 M_2 hp9 => ?_)
  obtain ⟨rfl, rfl, hIn, o_2⟩ := hp9
  refine jk_astore_n (q := 8) h dL_law_7 rfl (Nat.le_of_ble_eq_true rfl) rfl rfl ?_
  refine jk_new (q := 11) h nw_L_10 dL_law_8 (Nat.le_of_ble_eq_true rfl) (Nat.le_of_ble_eq_true rfl) rfl (fun M_3 s_3 => ?_)
  have hM := jPic.one s_3
  refine jk_dup (q := 12) h dL_law_11 rfl rfl ?_
  refine jk_callI (q := 15) h hX (c_X10_init (hk := fun _ => ts0) hM) mi_X10_init dL_law_12 ml_L_12 ⟨rfl, by decide⟩ rfl rfl (Nat.le_of_ble_eq_true rfl) (Nat.le_of_ble_eq_true rfl) rfl rfl (Nat.le_of_ble_eq_true rfl) rfl (fun v9 n9 M_4 hp9 => ?_)
  obtain ⟨rfl, rfl, hV, o_4⟩ := hp9
  have hW := hIn M_4 (e + 41 + 9) (e + 50) (by omega) (by omega) (fun q h1 h2 => (o_4 q (by omega)).trans (s_3.2 q (by omega)))
  refine jk_astore_n (q := 16) h dL_law_15 rfl (Nat.le_of_ble_eq_true rfl) rfl rfl ?_
  refine jk_iconst (q := 17) h dL_law_16 rfl ?_
  refine jk_istore_n (q := 18) h dL_law_17 rfl (Nat.le_of_ble_eq_true rfl) rfl rfl ?_
  exact jk_wid (Nat.le_of_ble_eq_true rfl) (Nat.le_of_ble_eq_true rfl) (lq_loop h hX hs hL (L + 1) 0 0 (by decide) (by omega) (by omega) (e + 41 + 9) M_4 ts0 0 (fun _ => ts0) (fun _ => none) jz 0 ⟨hW, hV, lgH_0⟩)
