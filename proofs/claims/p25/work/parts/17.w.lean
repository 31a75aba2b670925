def lrQ (f : Nat → Int) (sz mc mb : Int) (x : TC) : Prop := x.1 = hcS f sz ∧ cmQ x.1 mc x.2.2.2.1 x.2.1 x.2.2.1 ∧ x.2.2.2.2.2.2.2.2 = (if sm (lfS x.1 x.2.1 x.2.2.2.1) 100 < mb then sm (lfS x.1 x.2.1 x.2.2.2.1) 100 else mb) ∧ bkQ (lfS x.1 x.2.1 x.2.2.2.1) (sm (lfS x.1 x.2.1 x.2.2.2.1) 100) x.2.2.2.2.2.2.2.2 x.2.2.2.2.1 x.2.2.2.2.2.1 x.2.2.2.2.2.2.1 x.2.2.2.2.2.2.2.1
theorem cmQ_sum {had cv cr : Nat → Int} {m n : Int} (h : cmQ had m n cv cr) : smI cr n + sm (lfS had cv n) 100 = sm had 100 := by
  obtain ⟨h1, a1, a2, a3, a4, a5⟩ := h
  have hn : ((n.toNat : Nat) : Int) = n := by omega
  have e := lfS_sum (had := had) (cv := cv) (cr := cr) (c := n.toNat) (fun k hk => h1 k (by omega)) (fun j k hj hk he => by
    have h9 : rnk had (cv k).toNat < rnk had (cv j).toNat := a4 j k hj (by omega)
    rw [he] at h9
    omega)
  rw [hn] at e
  unfold smI
  omega
theorem hcS_all {f : Nat → Int} {sz : Int} (h : jrF f 0 99) (h0 : 0 ≤ sz) : sm (hcS f sz) 100 = sz := by
  have e := hcS_sum h (z := sz.toNat)
  rwa [show ((sz.toNat : Nat) : Int) = sz by omega] at e
theorem lfS_all {had cv : Nat → Int} {cn : Int} (h : jrF had 0 60) : 0 ≤ sm (lfS had cv cn) 100 := sm_mono (lfS_0 h) (m := 0) (n := 100) (by omega)
theorem bkQ_le {lf : Nat → Int} (h : ∀ k, 0 ≤ lf k) {all mb : Int} {lo hi br un : Nat → Int} (hmb : 1 ≤ mb) (a : bkQ lf all (if all < mb then all else mb) lo hi br un) : ∀ k : Nat, (k : Int) < (if all < mb then all else mb) → lo k ≤ hi k := fun k hk => by
  have h1 : (if all < mb then all else mb) ≤ all := by split <;> omega
  exact bS_le h (a k hk) (stB_lt (by omega) h1 k)

set_option maxHeartbeats 4000000 in
set_option maxRecDepth 100000 in
theorem c_X2_learn {l : Launch} {D : va_G} {b0 : Nat} {n : Nat} {M : jM} {c : Nat} {x : TC} (hC : jPic M c (cfP c x)) (hO : cfQ x) {t : Nat} {y : TT} (hT : jPic M t (tbP t y)) (hy : tbQ y) (hd : c + 8 ≤ t ∨ t + 3 ≤ c) {q mc mb : Int} (hq : q = 0 ∨ q = 1) (hmc : 0 ≤ mc ∧ mc ≤ 6) (hmb : 1 ≤ mb ∧ mb ≤ 10) : jCtr l D b0 yX2_learn cX2_learn 5 none 2 0 0 [.ref c, .ref t, jI q, jI mc, jI mb] n M (fun v9 n2 M2 => none = v9 ∧ n = n2 ∧ ∃ x2 : TC, jPic M2 c (cfP c x2) ∧ cfQ x2 ∧ lrQ (colT y q) y.2.2 mc mb x2 ∧ jout M M2 c 8) := by
  refine jctr (lv := [some (.ref c), some (.ref t), some (jI q), some (jI mc), some (jI mb)]) RX2 "learn" rfl rfl (by decide) (Nat.le_of_ble_eq_true rfl) rfl ?_
  intro X h hR hX
  have ho := jout.rf M c 8
  obtain ⟨hhad, hcv, hcr, hcn, hlo, hhi, hbr, hun, hbn, hlh⟩ := id hO
  obtain ⟨hya, hyb, hys⟩ := id hy
  have hhb : jrF (hcS (colT y q) y.2.2) 0 60 := fun k => by { have := hcS_bd (f := colT y q) hys.1 k; omega }
  refine jk_aload_n (q := 1) h dX2_learn_0 rfl rfl ?_
  refine jk_aload_n (q := 2) h dX2_learn_1 rfl rfl ?_
  refine jk_iload_n (q := 3) h dX2_learn_2 rfl rfl ?_
  refine jk_callV (q := 6) h hX (c_X2_countValues hC hT hy hd hq) mv_X2_countValues (hC.at 0 rfl) dX2_learn_3 ml_X2_33 ⟨rfl, Nat.le_refl _⟩ rfl rfl (Nat.le_of_ble_eq_true rfl) (Nat.le_of_ble_eq_true rfl) rfl rfl (Nat.le_of_ble_eq_true rfl) rfl (fun v9 n9 M_1 hp9 => ?_)
  obtain ⟨rfl, rfl, hC, o_1⟩ := hp9
  have hT := hT.keep o_1 3 rfl (by omega)
  have ho := ho.tr o_1 (by omega) (by omega)
  refine jk_aload_n (q := 7) h dX2_learn_6 rfl rfl ?_
  refine jk_iload_n (q := 8) h dX2_learn_7 rfl rfl ?_
  refine jk_callV (q := 11) h hX (c_X2_chooseCommon hC hhb hcv hcr hmc) mv_X2_chooseCommon (hC.at 0 rfl) dX2_learn_8 ml_X2_37 ⟨rfl, Nat.le_refl _⟩ rfl rfl (Nat.le_of_ble_eq_true rfl) (Nat.le_of_ble_eq_true rfl) rfl rfl (Nat.le_of_ble_eq_true rfl) rfl (fun v9 n9 M_2 hp9 => ?_)
  obtain ⟨rfl, rfl, cn2, cv2, cr2, hC, hcm, hF1, hF2, o_2⟩ := hp9
  have hT := hT.keep o_2 3 rfl (by omega)
  have ho := ho.tr o_2 (by omega) (by omega)
  have hcn2 := And.intro hcm.2.1 hcm.2.2.1
  have hsum := cmQ_sum hcm
  rw [hcS_all (colT_F hy) hys.1] at hsum
  have hal := lfS_all (cv := cv2) (cn := cn2) hhb
  refine jk_aload_n (q := 12) h dX2_learn_11 rfl rfl ?_
  refine jk_aload_n (q := 13) h dX2_learn_12 rfl rfl ?_
  refine jk_getN (q := 16) h fg_X2_41 dX2_learn_13 (hT.at 0 rfl) rfl rfl ?_
  refine jk_iload (q := 18) h dX2_learn_16 rfl rfl ?_
  refine jk_callV (q := 21) h hX (c_X2_cutBuckets hC hhb hF1 hF2 ⟨hcn2.1, Int.le_trans hcn2.2 hmc.2⟩ hlo hhi hbr rfl hsum rfl hys hal hmb) mv_X2_cutBuckets (hC.at 0 rfl) dX2_learn_18 ml_X2_47 ⟨rfl, Nat.le_refl _⟩ rfl rfl (Nat.le_of_ble_eq_true rfl) (Nat.le_of_ble_eq_true rfl) rfl rfl (Nat.le_of_ble_eq_true rfl) rfl (fun v9 n9 M_3 hp9 => ?_)
  obtain ⟨rfl, rfl, lo2, hi2, br2, un2, hC, hbk, hF3, hF4, hF5, o_3⟩ := hp9
  have hT := hT.keep o_3 3 rfl (by omega)
  have ho := ho.tr o_3 (by omega) (by omega)
  exact jk_vret h hR dX2_learn_21 (Nat.le_of_ble_eq_true rfl) (Nat.le_of_ble_eq_true rfl) ⟨rfl, rfl, (hcS (colT y q) y.2.2, cv2, cr2, cn2, lo2, hi2, br2, un2, if sm (lfS (hcS (colT y q) y.2.2) cv2 cn2) 100 < mb then sm (lfS (hcS (colT y q) y.2.2) cv2 cn2) 100 else mb), hC, ⟨hhb, hF1, hF2, ⟨hcn2.1, Int.le_trans hcn2.2 hmc.2⟩, hF3, hF4, hF5, trivial, by show 0 ≤ (if sm (lfS (hcS (colT y q) y.2.2) cv2 cn2) 100 < mb then sm (lfS (hcS (colT y q) y.2.2) cv2 cn2) 100 else mb) ∧ (if sm (lfS (hcS (colT y q) y.2.2) cv2 cn2) 100 < mb then sm (lfS (hcS (colT y q) y.2.2) cv2 cn2) 100 else mb) ≤ 10; split <;> omega, bkQ_le (lfS_0 hhb) hmb.1 hbk⟩, ⟨rfl, hcm, rfl, hbk⟩, ho⟩

abbrev cnt (y : TT) (r : Nat) : Int := rlk y.1 y.2.1 y.2.2 (y.1 r) (y.2.1 r)
def rk3 (c a b : Int) : Int := (c * 100 + (99 - a)) * 100 + (99 - b)
def prk (y : TT) (r : Nat) : Int := rk3 (cnt y r) (y.1 r) (y.2.1 r)
abbrev ppp (y : TT) (ab : Int) : Nat → Prop := fun r => 2 ≤ cnt y r ∧ prk y r < ab
abbrev prR (y : TT) : Int → Prop := fun s => ∃ r : Nat, (r : Int) < y.2.2 ∧ 2 ≤ cnt y r ∧ s = prk y r
theorem cnt_bd {y : TT} (h : tbQ y) (r : Nat) : 0 ≤ cnt y r ∧ cnt y r ≤ 60 := by
  have h1 := smI_01 (p := fun k => y.1 k = y.1 r ∧ y.2.1 k = y.2.1 r) h.2.2.1
  have h2 := h.2.2.2
  exact ⟨h1.1, Int.le_trans h1.2 h2⟩
def pmQ (y : TT) (m n : Int) (pa pb pr : Nat → Int) : Prop := (∀ k : Nat, (k : Int) < n → ∃ r : Nat, (r : Int) < y.2.2 ∧ pa k = y.1 r ∧ pb k = y.2.1 r ∧ pr k = cnt y r) ∧ CSq (prR y) m n (fun k => rk3 (pr k) (pa k) (pb k))
theorem pmQ_eq {y : TT} (hy : tbQ y) {m n n2 : Int} {pa pb pr pa2 pb2 pr2 : Nat → Int} (h : pmQ y m n pa pb pr) (h2 : pmQ y m n2 pa2 pb2 pr2) : n = n2 ∧ ∀ k : Nat, (k : Int) < n → pa k = pa2 k ∧ pb k = pb2 k ∧ pr k = pr2 k := by
  have hn := CSq_n h.2 h2.2
  refine ⟨hn, fun k hk => ?_⟩
  have e := CSq_eq h.2 h2.2 k hk (by omega)
  obtain ⟨r, a1, a2, a3, a4⟩ := h.1 k hk
  obtain ⟨r2, b1, b2, b3, b4⟩ := h2.1 k (by omega)
  have c1 := hy.1 r
  have c2 := hy.2.1 r
  have c3 := hy.1 r2
  have c4 := hy.2.1 r2
  simp only [rk3] at e
  omega
def ppI (y : TT) (i last : Int) (pa pb pr : Nat → Int) : Prop := (∀ k : Nat, (k : Int) < i → ∃ r : Nat, (r : Int) < y.2.2 ∧ 2 ≤ cnt y r ∧ pa k = y.1 r ∧ pb k = y.2.1 r ∧ pr k = cnt y r) ∧ (∀ j k : Nat, j < k → (k : Int) < i → rk3 (pr k) (pa k) (pb k) < rk3 (pr j) (pa j) (pb j)) ∧ (∀ k : Nat, (k : Int) < i → last ≤ rk3 (pr k) (pa k) (pb k)) ∧ (∀ r : Nat, (r : Int) < y.2.2 → 2 ≤ cnt y r → (∃ k : Nat, (k : Int) < i ∧ rk3 (pr k) (pa k) (pb k) = prk y r) ∨ prk y r < last) ∧ 0 < last ∧ last ≤ 1000000
theorem ppI_0 {y : TT} (hy : tbQ y) {pa pb pr : Nat → Int} : ppI y 0 1000000 pa pb pr := by
  refine ⟨fun k hk => absurd hk (by omega), fun j k _ hk => absurd hk (by omega), fun k hk => absurd hk (by omega), fun r hr h2 => Or.inr ?_, by omega, by omega⟩
  have h1 := cnt_bd hy r
  have h3 := hy.1 r
  have h4 := hy.2.1 r
  unfold prk rk3
  omega
theorem ppI_s {y : TT} (hy : tbQ y) {i last nr : Int} {pa pb pr : Nat → Int} (hi : 0 ≤ i) (h : ppI y i last pa pb pr) (he : nr = mxI (ppp y last) (prk y) y.2.2) (hn : nr ≠ 0) : ppI y (i + 1) nr (jfup pa i.toNat (99 - nr / 100 % 100)) (jfup pb i.toNat (99 - nr % 100)) (jfup pr i.toNat (nr / 100 / 100)) ∧ (0 ≤ 99 - nr / 100 % 100 ∧ 99 - nr / 100 % 100 ≤ 99) ∧ (0 ≤ 99 - nr % 100 ∧ 99 - nr % 100 ≤ 99) ∧ (0 ≤ nr / 100 / 100 ∧ nr / 100 / 100 ≤ 60) := by
  obtain ⟨a1, a2, a3, a4, a5, a6⟩ := h
  obtain ⟨s1, s2, s3⟩ := mxS_spec (p := ppp y last) (r := prk y) y.2.2.toNat
  have he2 : nr = mxS (ppp y last) (prk y) y.2.2.toNat := he
  rw [← he2] at s1 s2 s3
  rcases s2 with s2 | ⟨r, hr, hp, e⟩
  · exact absurd s2 hn
  have c1 := hy.1 r
  have c2 := hy.2.1 r
  have c3 := cnt_bd hy r
  have e2 : nr = (cnt y r * 100 + (99 - y.1 r)) * 100 + (99 - y.2.1 r) := e
  have ea : 99 - nr / 100 % 100 = y.1 r := by omega
  have eb : 99 - nr % 100 = y.2.1 r := by omega
  have ec : nr / 100 / 100 = cnt y r := by omega
  have ern : rk3 (nr / 100 / 100) (99 - nr / 100 % 100) (99 - nr % 100) = nr := by rw [ea, eb, ec]; exact e2.symm
  have hold : ∀ k : Nat, (k : Int) < i → jfup pa i.toNat (99 - nr / 100 % 100) k = pa k ∧ jfup pb i.toNat (99 - nr % 100) k = pb k ∧ jfup pr i.toNat (nr / 100 / 100) k = pr k := fun k hk => ⟨jfup_n _ _ (by omega), jfup_n _ _ (by omega), jfup_n _ _ (by omega)⟩
  refine ⟨⟨fun k hk => ?_, fun j k hj hk => ?_, fun k hk => ?_, fun w hw h2 => ?_, by omega, by have := hp.2; omega⟩, by omega, by omega, by omega⟩
  · by_cases hki : (k : Int) < i
    · obtain ⟨o1, o2, o3⟩ := hold k hki
      rw [o1, o2, o3]
      exact a1 k hki
    · have hk2 : k = i.toNat := by omega
      subst hk2
      rw [jfup_s, jfup_s, jfup_s]
      exact ⟨r, by omega, hp.1, ea, eb, ec⟩
  · by_cases hki : (k : Int) < i
    · obtain ⟨o1, o2, o3⟩ := hold k hki
      obtain ⟨q1, q2, q3⟩ := hold j (by omega)
      rw [o1, o2, o3, q1, q2, q3]
      exact a2 j k hj hki
    · have hk2 : k = i.toNat := by omega
      subst hk2
      obtain ⟨q1, q2, q3⟩ := hold j (by omega)
      rw [jfup_s, jfup_s, jfup_s, q1, q2, q3, ern]
      have := a3 j (by omega)
      have := hp.2
      omega
  · by_cases hki : (k : Int) < i
    · obtain ⟨o1, o2, o3⟩ := hold k hki
      rw [o1, o2, o3]
      have := a3 k hki
      have := hp.2
      omega
    · have hk2 : k = i.toNat := by omega
      subst hk2
      rw [jfup_s, jfup_s, jfup_s, ern]
      exact Int.le_refl _
  · rcases a4 w hw h2 with ⟨k, hk, ek⟩ | hl
    · obtain ⟨o1, o2, o3⟩ := hold k hk
      exact Or.inl ⟨k, by omega, by rw [o1, o2, o3]; exact ek⟩
    · have h3 := s3 w (by omega) ⟨h2, hl⟩
      rcases Int.lt_or_le (prk y w) nr with g | g
      · exact Or.inr g
      · exact Or.inl ⟨i.toNat, by omega, by rw [jfup_s, jfup_s, jfup_s, ern]; omega⟩
theorem ppI_e {y : TT} (hy : tbQ y) {i last m : Int} {pa pb pr : Nat → Int} (hi : 0 ≤ i) (hm : i ≤ m) (h : ppI y i last pa pb pr) (hz : i = m ∨ mxI (ppp y last) (prk y) y.2.2 = 0) : pmQ y m i pa pb pr := by
  obtain ⟨a1, a2, a3, a4, a5, a6⟩ := h
  refine ⟨fun k hk => ?_, hi, hm, fun k hk => ?_, a2, fun s hs => ?_⟩
  · obtain ⟨r, h1, h2, h3, h4, h5⟩ := a1 k hk
    exact ⟨r, h1, h3, h4, h5⟩
  · obtain ⟨r, h1, h2, h3, h4, h5⟩ := a1 k hk
    exact ⟨r, h1, h2, by show rk3 _ _ _ = _; rw [h3, h4, h5]; rfl⟩
  · obtain ⟨r, h1, h2, rfl⟩ := hs
    rcases a4 r h1 h2 with ⟨k, hk, ek⟩ | hl
    · exact Or.inl ⟨k, hk, ek⟩
    · right
      rcases hz with hz | hz
      · exact ⟨hz, fun k hk => Int.lt_of_lt_of_le hl (a3 k hk)⟩
      · exfalso
        obtain ⟨s1, s2, s3⟩ := mxS_spec (p := ppp y last) (r := prk y) y.2.2.toNat
        have h3 := s3 r (by omega) ⟨h2, hl⟩
        have e0 : mxS (ppp y last) (prk y) y.2.2.toNat = 0 := hz
        rw [e0] at h3
        have c1 := hy.1 r
        have c2 := hy.2.1 r
        unfold prk rk3 at h3
        omega
theorem mx_nr {p : Nat → Prop} [DecidablePred p] {r : Nat → Int} {z ab : Int} (hab : 0 ≤ ab) (h : ∀ k : Nat, p k → r k ≤ ab) : 0 ≤ mxI p r z ∧ mxI p r z ≤ ab := by
  obtain ⟨s1, s2, -⟩ := mxS_spec (p := p) (r := r) z.toNat
  refine ⟨s1, ?_⟩
  show mxS p r z.toNat ≤ ab
  rcases s2 with e | ⟨k, -, hp, e⟩
  · omega
  · rw [e]; exact h k hp

set_option maxHeartbeats 4000000 in
set_option maxRecDepth 100000 in
theorem c_X5_nextRank {l : Launch} {D : va_G} {b0 : Nat} {n : Nat} {M : jM} {t : Nat} {y : TT} (hT : jPic M t (tbP t y)) (hy : tbQ y) {ab : Int} (hab : 0 < ab ∧ ab ≤ 1000000) : jCtr l D b0 yX5_nextRank cX5_nextRank 8 (some .int) 1 0 0 [.ref t, jI ab] n M (jrd n M (mxI (ppp y ab) (prk y) y.2.2)) := by
  refine jctr (lv := [some (.ref t), some (jI ab), none, none, none, none, none, none]) RX5 "nextRank" rfl rfl (by decide) (Nat.le_of_ble_eq_true rfl) rfl ?_
  intro X h hR hX
  obtain ⟨hya, hyb, hys⟩ := id hy
  refine jk_iconst (q := 1) h dX5_nextRank_0 rfl ?_
  refine jk_istore_n (q := 2) h dX5_nextRank_1 rfl (Nat.le_of_ble_eq_true rfl) rfl rfl ?_
  refine jk_iconst (q := 3) h dX5_nextRank_2 rfl ?_
  refine jk_istore_n (q := 4) h dX5_nextRank_3 rfl (Nat.le_of_ble_eq_true rfl) rfl rfl ?_
  have lp4 : ∀ (k9 : Nat) (w : Int) (i : Int) (hi9 : 0 ≤ i) (hi2 : i ≤ y.2.2) (hw : w = mxI (ppp y ab) (prk y) i) (hw2 : 0 ≤ w ∧ w ≤ 1000000) (hk9 : (y.2.2 - i).toNat = k9), jJ X 4 [some (.ref (t)), some (jI (ab)), some (jI (w)), some (jI (i)), none, none, none, none] [] n M 0 0 := by
    intro k9
    induction k9 using Nat.strongRecOn with
    | _ k9 ih4 =>
      intro w i hi9 hi2 hw hw2 hk9
      have hai := hya i.toNat
      have hbi := hyb i.toNat
      have hct := cnt_bd hy i.toNat
      refine jk_iload_n (q := 5) h dX5_nextRank_4 rfl rfl ?_
      refine jk_aload_n (q := 6) h dX5_nextRank_5 rfl rfl ?_
      refine jk_getN (q := 9) h fg_X5_30 dX5_nextRank_6 (hT.at 0 rfl) rfl rfl ?_
      refine jk_icmp_ge (q := 12) (tgt := 84) h dX5_nextRank_9 (by decide) rfl ⟨by omega, by omega⟩ ⟨by omega, by omega⟩ (fun c9 => ?_) (fun c9 => ?_)
      · have hi3 : i = y.2.2 := by omega
        subst hi3
        refine jk_iload_n (q := 85) h dX5_nextRank_84 rfl rfl ?_
        exact jk_iret h hR dX5_nextRank_85 (Nat.le_of_ble_eq_true rfl) (Nat.le_of_ble_eq_true rfl) (jrd_of hw.symm)
      · refine jk_aload_n (q := 13) h dX5_nextRank_12 rfl rfl ?_
        refine jk_iload_n (q := 14) h dX5_nextRank_13 rfl rfl ?_
        refine jk_callV (q := 17) h hX (c_X8_rowsLike hT ⟨by omega, by omega⟩ hya hyb ⟨by omega, by omega⟩) mv_X8_rowsLike (hT.at 0 rfl) dX5_nextRank_14 ml_X5_35 ⟨rfl, Nat.le_refl _⟩ rfl rfl (Nat.le_of_ble_eq_true rfl) (Nat.le_of_ble_eq_true rfl) rfl rfl (Nat.le_of_ble_eq_true rfl) rfl (fun v9 n9 M9 hp9 => ?_)
        obtain ⟨rfl, rfl, rfl⟩ := hp9
        refine jk_top (st2 := [jI (cnt y i.toNat)]) rfl ?_
        refine jk_istore (q := 19) h dX5_nextRank_17 rfl (Nat.le_of_ble_eq_true rfl) rfl rfl ?_
        refine jk_bipush (q := 21) h dX5_nextRank_19 (by decide) rfl ?_
        refine jk_aload_n (q := 22) h dX5_nextRank_21 rfl rfl ?_
        refine jk_iload_n (q := 23) h dX5_nextRank_22 rfl rfl ?_
        refine jk_iconst (q := 24) h dX5_nextRank_23 rfl ?_
        refine jk_callV (q := 27) h hX (c_X8_value hT ⟨by omega, by omega⟩ ⟨by omega, by omega⟩ ⟨by omega, by omega⟩) mv_X8_value (hT.at 0 rfl) dX5_nextRank_24 ml_X5_39 ⟨rfl, Nat.le_refl _⟩ rfl rfl (Nat.le_of_ble_eq_true rfl) (Nat.le_of_ble_eq_true rfl) rfl rfl (Nat.le_of_ble_eq_true rfl) rfl (fun v9 n9 M9 hp9 => ?_)
        obtain ⟨rfl, rfl, rfl⟩ := hp9
        refine jk_isub (q := 28) h dX5_nextRank_27 rfl ?_
        refine jk_top (st2 := [jI (99 - y.1 i.toNat)]) (by rw [if_pos (by omega), if_pos rfl]; try rfl) ?_
        refine jk_istore (q := 30) h dX5_nextRank_28 rfl (Nat.le_of_ble_eq_true rfl) rfl rfl ?_
        refine jk_bipush (q := 32) h dX5_nextRank_30 (by decide) rfl ?_
        refine jk_aload_n (q := 33) h dX5_nextRank_32 rfl rfl ?_
        refine jk_iload_n (q := 34) h dX5_nextRank_33 rfl rfl ?_
        refine jk_iconst (q := 35) h dX5_nextRank_34 rfl ?_
        refine jk_callV (q := 38) h hX (c_X8_value hT ⟨by omega, by omega⟩ ⟨by omega, by omega⟩ ⟨by omega, by omega⟩) mv_X8_value (hT.at 0 rfl) dX5_nextRank_35 ml_X5_39 ⟨rfl, Nat.le_refl _⟩ rfl rfl (Nat.le_of_ble_eq_true rfl) (Nat.le_of_ble_eq_true rfl) rfl rfl (Nat.le_of_ble_eq_true rfl) rfl (fun v9 n9 M9 hp9 => ?_)
        obtain ⟨rfl, rfl, rfl⟩ := hp9
        refine jk_isub (q := 39) h dX5_nextRank_38 rfl ?_
        refine jk_top (st2 := [jI (99 - y.2.1 i.toNat)]) (by rw [if_pos (by omega), if_neg (by decide)]; try rfl) ?_
        refine jk_istore (q := 41) h dX5_nextRank_39 rfl (Nat.le_of_ble_eq_true rfl) rfl rfl ?_
        refine jk_iload (q := 43) h dX5_nextRank_41 rfl rfl ?_
        refine jk_bipush (q := 45) h dX5_nextRank_43 (by decide) rfl ?_
        refine jk_imul (q := 46) h dX5_nextRank_45 rfl ?_
        refine jk_iload (q := 48) h dX5_nextRank_46 rfl rfl ?_
        refine jk_iadd (q := 49) h dX5_nextRank_48 rfl ?_
        refine jk_bipush (q := 51) h dX5_nextRank_49 (by decide) rfl ?_
        refine jk_imul (q := 52) h dX5_nextRank_51 rfl ?_
        refine jk_iload (q := 54) h dX5_nextRank_52 rfl rfl ?_
        refine jk_iadd (q := 55) h dX5_nextRank_54 rfl ?_
        refine jk_name (fun rk hrk => ?_)
        have hrk2 : rk = prk y i.toNat := hrk
        have hrk3 : 0 ≤ rk ∧ rk ≤ 1000000 := by { rw [hrk2]; unfold prk rk3; omega }
        refine jk_istore (q := 57) h dX5_nextRank_55 rfl (Nat.le_of_ble_eq_true rfl) rfl rfl ?_
        refine jk_iload (q := 59) h dX5_nextRank_57 rfl rfl ?_
        refine jk_iconst (q := 60) h dX5_nextRank_59 rfl ?_
        refine jk_icmp_lt (q := 63) (tgt := 78) h dX5_nextRank_60 (by decide) rfl ⟨by omega, by omega⟩ ⟨by omega, by omega⟩ (fun c60 => ?_) (fun c60 => ?_)
        · refine jk_iinc (q := 81) h dX5_nextRank_78 rfl rfl rfl rfl ?_
          refine jk_goto (q := 84) (tgt := 4) h dX5_nextRank_81 (by decide) ?_
          exact jk_weak (jwk_s rfl (jwk_s rfl (jwk_s rfl (jwk_s rfl (jwk_n (jwk_n (jwk_n (jwk_n jwk_0)))))))) (ih4 _ (by omega) _ _ (by omega) (by omega) (by rw [mxI_s hi9, ← hw]; first | (rw [if_pos ⟨⟨by omega, by omega⟩, by omega⟩]; exact hrk2) | (rw [if_neg (fun z => by have := z.1.1; have := z.1.2; have := z.2; omega)])) (by omega) rfl)
        · refine jk_iload (q := 65) h dX5_nextRank_63 rfl rfl ?_
          refine jk_iload_n (q := 66) h dX5_nextRank_65 rfl rfl ?_
          refine jk_icmp_ge (q := 69) (tgt := 78) h dX5_nextRank_66 (by decide) rfl ⟨by omega, by omega⟩ ⟨by omega, by omega⟩ (fun c66 => ?_) (fun c66 => ?_)
          · refine jk_iinc (q := 81) h dX5_nextRank_78 rfl rfl rfl rfl ?_
            refine jk_goto (q := 84) (tgt := 4) h dX5_nextRank_81 (by decide) ?_
            exact jk_weak (jwk_s rfl (jwk_s rfl (jwk_s rfl (jwk_s rfl (jwk_n (jwk_n (jwk_n (jwk_n jwk_0)))))))) (ih4 _ (by omega) _ _ (by omega) (by omega) (by rw [mxI_s hi9, ← hw]; first | (rw [if_pos ⟨⟨by omega, by omega⟩, by omega⟩]; exact hrk2) | (rw [if_neg (fun z => by have := z.1.1; have := z.1.2; have := z.2; omega)])) (by omega) rfl)
          · refine jk_iload (q := 71) h dX5_nextRank_69 rfl rfl ?_
            refine jk_iload_n (q := 72) h dX5_nextRank_71 rfl rfl ?_
            refine jk_icmp_le (q := 75) (tgt := 78) h dX5_nextRank_72 (by decide) rfl ⟨by omega, by omega⟩ ⟨by omega, by omega⟩ (fun c72 => ?_) (fun c72 => ?_)
            · refine jk_iinc (q := 81) h dX5_nextRank_78 rfl rfl rfl rfl ?_
              refine jk_goto (q := 84) (tgt := 4) h dX5_nextRank_81 (by decide) ?_
              exact jk_weak (jwk_s rfl (jwk_s rfl (jwk_s rfl (jwk_s rfl (jwk_n (jwk_n (jwk_n (jwk_n jwk_0)))))))) (ih4 _ (by omega) _ _ (by omega) (by omega) (by rw [mxI_s hi9, ← hw]; first | (rw [if_pos ⟨⟨by omega, by omega⟩, by omega⟩]; exact hrk2) | (rw [if_neg (fun z => by have := z.1.1; have := z.1.2; have := z.2; omega)])) (by omega) rfl)
            · refine jk_iload (q := 77) h dX5_nextRank_75 rfl rfl ?_
              refine jk_istore_n (q := 78) h dX5_nextRank_77 rfl (Nat.le_of_ble_eq_true rfl) rfl rfl ?_
              refine jk_iinc (q := 81) h dX5_nextRank_78 rfl rfl rfl rfl ?_
              refine jk_goto (q := 84) (tgt := 4) h dX5_nextRank_81 (by decide) ?_
              exact jk_weak (jwk_s rfl (jwk_s rfl (jwk_s rfl (jwk_s rfl (jwk_n (jwk_n (jwk_n (jwk_n jwk_0)))))))) (ih4 _ (by omega) _ _ (by omega) (by omega) (by rw [mxI_s hi9, ← hw]; first | (rw [if_pos ⟨⟨by omega, by omega⟩, by omega⟩]; exact hrk2) | (rw [if_neg (fun z => by have := z.1.1; have := z.1.2; have := z.2; omega)])) (by omega) rfl)
  exact jk_weak (jwk_s rfl (jwk_s rfl (jwk_s rfl (jwk_s rfl (jwk_n (jwk_n (jwk_n (jwk_n jwk_0)))))))) (lp4 _ _ _ (by omega) (by omega) rfl (by omega) rfl)

set_option maxHeartbeats 4000000 in
set_option maxRecDepth 100000 in
theorem c_X5_learn {l : Launch} {D : va_G} {b0 : Nat} {n : Nat} {M : jM} {c : Nat} {x : TP} (hP : jPic M c (pfP c x)) (hO : pfQ x) {t : Nat} {y : TT} (hT : jPic M t (tbP t y)) (hy : tbQ y) (hd : c + 4 ≤ t ∨ t + 3 ≤ c) {m9 : Int} (hm9 : 0 ≤ m9 ∧ m9 ≤ 6) : jCtr l D b0 yX5_learn cX5_learn 5 none 2 0 0 [.ref c, .ref t, jI m9] n M (fun v n2 M2 => none = v ∧ n = n2 ∧ ∃ x2 : TP, jPic M2 c (pfP c x2) ∧ pfQ x2 ∧ pmQ y m9 x2.2.2.2 x2.1 x2.2.1 x2.2.2.1 ∧ jout M M2 c 4) := by
  refine jctr (lv := [some (.ref c), some (.ref t), some (jI m9), none, none]) RX5 "learn" rfl rfl (by decide) (Nat.le_of_ble_eq_true rfl) rfl ?_
  intro X h hR hX
  have ho := jout.rf M c 4
  obtain ⟨hpa, hpb, hpr, hpn⟩ := id hO
  refine jk_aload_n (q := 1) h dX5_learn_0 rfl rfl ?_
  refine jk_iconst (q := 2) h dX5_learn_1 rfl ?_
  refine jk_put (q := 5) h (fp_X5_21 _) dX5_learn_2 (hP.at 0 rfl) (Nat.le_of_ble_eq_true rfl) rfl (fun M_1 s_1 => ?_)
  have hP := hP.put (i := 0) s_1 rfl
  have hT := hT.other s_1 3 rfl (by omega)
  have ho := ho.st (i := 0) s_1 (by omega)
  refine jk_ldc (q := 7) h dX5_learn_5 kc_X5_25 rfl ?_
  refine jk_istore_n (q := 8) h dX5_learn_7 rfl (Nat.le_of_ble_eq_true rfl) rfl rfl ?_
  refine jk_iconst (q := 9) h dX5_learn_8 rfl ?_
  refine jk_istore (q := 11) h dX5_learn_9 rfl (Nat.le_of_ble_eq_true rfl) rfl rfl ?_
  have lp11 : ∀ (k9 : Nat) (la : Int) (i : Int) (pa : Nat → Int) (pb : Nat → Int) (pr : Nat → Int) (M9 : jM) (hi9 : 0 ≤ i) (him : i ≤ m9) (hP : jPic M9 c (pfL c pa pb pr i)) (hT : jPic M9 t (tbP t y)) (hI : ppI y i la pa pb pr) (hF1 : jrF pa 0 99) (hF2 : jrF pb 0 99) (hF3 : jrF pr 0 60) (ho : jout M M9 c 4) (hk9 : (m9 - i).toNat = k9), jJ X 11 [some (.ref (c)), some (.ref (t)), some (jI (m9)), some (jI (la)), some (jI (i))] [] n M9 0 0 := by
    intro k9
    induction k9 using Nat.strongRecOn with
    | _ k9 ih11 =>
      intro la i pa pb pr M9 hi9 him hP hT hI hF1 hF2 hF3 ho hk9
      have hla := hI.2.2.2.2
      refine jk_iload (q := 13) h dX5_learn_11 rfl rfl ?_
      refine jk_iload_n (q := 14) h dX5_learn_13 rfl rfl ?_
      refine jk_icmp_ge (q := 17) (tgt := 96) h dX5_learn_14 (by decide) rfl ⟨by omega, by omega⟩ ⟨by omega, by omega⟩ (fun c14 => ?_) (fun c14 => ?_)
      · exact jk_vret h hR dX5_learn_96 (Nat.le_of_ble_eq_true rfl) (Nat.le_of_ble_eq_true rfl) ⟨rfl, rfl, (pa, pb, pr, i), hP, ⟨hF1, hF2, hF3, by show 0 ≤ i ∧ i ≤ 6; omega⟩, ppI_e hy hi9 him hI (Or.inl (show i = m9 by omega)), ho⟩
      · refine jk_iload (q := 19) h dX5_learn_17 rfl rfl ?_
        refine jk_bipush (q := 21) h dX5_learn_19 (by decide) rfl ?_
        refine jk_icmp_ge (q := 24) (tgt := 96) h dX5_learn_21 (by decide) rfl ⟨by omega, by omega⟩ ⟨by omega, by omega⟩ (fun c21 => ?_) (fun c21 => ?_)
        · omega
        · refine jk_aload_n (q := 25) h dX5_learn_24 rfl rfl ?_
          refine jk_iload_n (q := 26) h dX5_learn_25 rfl rfl ?_
          refine jk_callS (q := 29) h hX (c_X5_nextRank hT hy hla) ms_X5_nextRank dX5_learn_26 ml_X5_26 ⟨rfl, Nat.le_refl _⟩ rfl rfl (Nat.le_of_ble_eq_true rfl) (Nat.le_of_ble_eq_true rfl) rfl rfl (Nat.le_of_ble_eq_true rfl) rfl (fun v9 n9 M9 hp9 => ?_)
          obtain ⟨rfl, rfl, rfl⟩ := hp9
          refine jk_name (fun nr hnr => ?_)
          have hnr1 : 0 ≤ nr ∧ nr ≤ 1000000 := by { rw [hnr]; exact mx_nr (by omega) (fun k hp => by have := hp.2; omega) }
          refine jk_istore_n (q := 30) h dX5_learn_29 rfl (Nat.le_of_ble_eq_true rfl) rfl rfl ?_
          refine jk_iload_n (q := 31) h dX5_learn_30 rfl rfl ?_
          refine jk_if_ne (q := 34) (tgt := 35) h dX5_learn_31 (by decide) rfl ⟨by omega, by omega⟩ (fun c31 => ?_) (fun c31 => ?_)
          · obtain ⟨hI2, hb1, hb2, hb3⟩ := ppI_s hy hi9 hI hnr c31
            refine jk_aload_n (q := 36) h dX5_learn_35 rfl rfl ?_
            refine jk_get (q := 39) h fg_X5_9 dX5_learn_36 (hP.at 0 rfl) rfl rfl ?_
            refine jk_iload (q := 41) h dX5_learn_39 rfl rfl ?_
            refine jk_bipush (q := 43) h dX5_learn_41 (by decide) rfl ?_
            refine jk_iload_n (q := 44) h dX5_learn_43 rfl rfl ?_
            refine jk_bipush (q := 46) h dX5_learn_44 (by decide) rfl ?_
            refine jk_idiv (q := 47) h dX5_learn_46 (by omega) (by omega) (by omega) (by omega) rfl ?_
            refine jk_bipush (q := 49) h dX5_learn_47 (by decide) rfl ?_
            refine jk_irem (q := 50) h dX5_learn_49 (by omega) (by omega) (by omega) (by omega) rfl ?_
            refine jk_isub (q := 51) h dX5_learn_50 rfl ?_
            refine jk_iast (q := 52) h dX5_learn_51 (hP.at 1 rfl) (by omega) (by omega) rfl rfl (fun M_2 s_2 => ?_)
            have hP := hP.put (i := 1) s_2 rfl
            have hT := hT.other s_2 3 rfl (by omega)
            have ho := ho.st (i := 1) s_2 (by omega)
            refine jk_aload_n (q := 53) h dX5_learn_52 rfl rfl ?_
            refine jk_get (q := 56) h fg_X5_15 dX5_learn_53 (hP.at 0 rfl) rfl rfl ?_
            refine jk_iload (q := 58) h dX5_learn_56 rfl rfl ?_
            refine jk_bipush (q := 60) h dX5_learn_58 (by decide) rfl ?_
            refine jk_iload_n (q := 61) h dX5_learn_60 rfl rfl ?_
            refine jk_bipush (q := 63) h dX5_learn_61 (by decide) rfl ?_
            refine jk_irem (q := 64) h dX5_learn_63 (by omega) (by omega) (by omega) (by omega) rfl ?_
            refine jk_isub (q := 65) h dX5_learn_64 rfl ?_
            refine jk_iast (q := 66) h dX5_learn_65 (hP.at 2 rfl) (by omega) (by omega) rfl rfl (fun M_3 s_3 => ?_)
            have hP := hP.put (i := 2) s_3 rfl
            have hT := hT.other s_3 3 rfl (by omega)
            have ho := ho.st (i := 2) s_3 (by omega)
            refine jk_aload_n (q := 67) h dX5_learn_66 rfl rfl ?_
            refine jk_get (q := 70) h fg_X5_18 dX5_learn_67 (hP.at 0 rfl) rfl rfl ?_
            refine jk_iload (q := 72) h dX5_learn_70 rfl rfl ?_
            refine jk_iload_n (q := 73) h dX5_learn_72 rfl rfl ?_
            refine jk_bipush (q := 75) h dX5_learn_73 (by decide) rfl ?_
            refine jk_idiv (q := 76) h dX5_learn_75 (by omega) (by omega) (by omega) (by omega) rfl ?_
            refine jk_bipush (q := 78) h dX5_learn_76 (by decide) rfl ?_
            refine jk_idiv (q := 79) h dX5_learn_78 (by omega) (by omega) (by omega) (by omega) rfl ?_
            refine jk_iast (q := 80) h dX5_learn_79 (hP.at 3 rfl) (by omega) (by omega) rfl rfl (fun M_4 s_4 => ?_)
            have hP := hP.put (i := 3) s_4 rfl
            have hT := hT.other s_4 3 rfl (by omega)
            have ho := ho.st (i := 3) s_4 (by omega)
            refine jk_aload_n (q := 81) h dX5_learn_80 rfl rfl ?_
            refine jk_dup (q := 82) h dX5_learn_81 rfl rfl ?_
            refine jk_get (q := 85) h fg_X5_21 dX5_learn_82 (hP.at 0 rfl) rfl rfl ?_
            refine jk_iconst (q := 86) h dX5_learn_85 rfl ?_
            refine jk_iadd (q := 87) h dX5_learn_86 rfl ?_
            refine jk_put (q := 90) h (fp_X5_21 _) dX5_learn_87 (hP.at 0 rfl) (Nat.le_of_ble_eq_true rfl) rfl (fun M_5 s_5 => ?_)
            have hP := hP.put (i := 0) s_5 rfl
            have hT := hT.other s_5 3 rfl (by omega)
            have ho := ho.st (i := 0) s_5 (by omega)
            refine jk_iinc (q := 93) h dX5_learn_90 rfl rfl rfl rfl ?_
            refine jk_goto (q := 96) (tgt := 11) h dX5_learn_93 (by decide) ?_
            exact jk_weak (jwk_s rfl (jwk_s rfl (jwk_s rfl (jwk_s rfl (jwk_s rfl jwk_0))))) (ih11 _ (by omega) _ _ _ _ _ _ (by omega) (by omega) hP hT hI2 (jrF_up hF1 hb1.1 hb1.2) (jrF_up hF2 hb2.1 hb2.2) (jrF_up hF3 hb3.1 hb3.2) ho rfl)
          · exact jk_vret h hR dX5_learn_34 (Nat.le_of_ble_eq_true rfl) (Nat.le_of_ble_eq_true rfl) ⟨rfl, rfl, (pa, pb, pr, i), hP, ⟨hF1, hF2, hF3, by show 0 ≤ i ∧ i ≤ 6; omega⟩, ppI_e hy hi9 him hI (Or.inr (by rw [← hnr]; omega)), ho⟩
  exact jk_weak (jwk_s rfl (jwk_s rfl (jwk_s rfl (jwk_s rfl (jwk_s rfl jwk_0))))) (lp11 _ _ _ _ _ _ _ (by omega) (by omega) hP hT (ppI_0 hy) hpa hpb hpr ho rfl)

set_option maxHeartbeats 4000000 in
set_option maxRecDepth 100000 in
theorem c_X0_learn {l : Launch} {D : va_G} {b0 : Nat} {n : Nat} {M : jM} {a : Nat} {rows ch : Int} {A B : TC} {p : TP} (hN : jPic M a (anL a rows ch)) (hA : jPic M (a + 1) (cfP (a + 1) A)) (hB : jPic M (a + 9) (cfP (a + 9) B)) (hP : jPic M (a + 17) (pfP (a + 17) p)) (hOA : cfQ A) (hOB : cfQ B) (hOP : pfQ p) {t : Nat} {y : TT} (hT : jPic M t (tbP t y)) (hy : tbQ y) (hd : a + 21 ≤ t ∨ t + 3 ≤ a) {mb mc mp : Int} (hmb : 1 ≤ mb ∧ mb ≤ 10) (hmc : 0 ≤ mc ∧ mc ≤ 6) (hmp : 0 ≤ mp ∧ mp ≤ 6) : jCtr l D b0 yX0_learn cX0_learn 5 none 3 0 0 [.ref a, .ref t, jI mb, jI mc, jI mp] n M (fun v n2 M2 => none = v ∧ n = n2 ∧ ∃ (A2 B2 : TC) (p2 : TP), jPic M2 a (anL a y.2.2 0) ∧ jPic M2 (a + 1) (cfP (a + 1) A2) ∧ jPic M2 (a + 9) (cfP (a + 9) B2) ∧ jPic M2 (a + 17) (pfP (a + 17) p2) ∧ cfQ A2 ∧ cfQ B2 ∧ pfQ p2 ∧ lrQ y.1 y.2.2 mc mb A2 ∧ lrQ y.2.1 y.2.2 mc mb B2 ∧ pmQ y mp p2.2.2.2 p2.1 p2.2.1 p2.2.2.1 ∧ jout M M2 a 21) := by
  refine jctr (lv := [some (.ref a), some (.ref t), some (jI mb), some (jI mc), some (jI mp)]) RX0 "learn" rfl rfl (by decide) (Nat.le_of_ble_eq_true rfl) rfl ?_
  intro X h hR hX
  have ho := jout.rf M a 21
  refine jk_aload_n (q := 1) h dX0_learn_0 rfl rfl ?_
  refine jk_get (q := 4) h fg_X0_12 dX0_learn_1 (hN.at 0 rfl) rfl rfl ?_
  refine jk_aload_n (q := 5) h dX0_learn_4 rfl rfl ?_
  refine jk_iconst (q := 6) h dX0_learn_5 rfl ?_
  refine jk_iload_n (q := 7) h dX0_learn_6 rfl rfl ?_
  refine jk_iload_n (q := 8) h dX0_learn_7 rfl rfl ?_
  refine jk_callV (q := 11) h hX (c_X2_learn hA hOA hT hy (by omega) (Or.inl rfl) hmc hmb) mv_X2_learn (hA.at 0 rfl) dX0_learn_8 ml_X0_32 ⟨rfl, Nat.le_refl _⟩ rfl rfl (Nat.le_of_ble_eq_true rfl) (Nat.le_of_ble_eq_true rfl) rfl rfl (Nat.le_of_ble_eq_true rfl) rfl (fun v9 n9 M_1 hp9 => ?_)
  obtain ⟨rfl, rfl, A2, hA, hQA, hLA, o_1⟩ := hp9
  have hN := hN.keep o_1 1 rfl (by omega)
  have hB := hB.keep o_1 8 rfl (by omega)
  have hP := hP.keep o_1 4 rfl (by omega)
  have hT := hT.keep o_1 3 rfl (by omega)
  have ho := ho.tr o_1 (by omega) (by omega)
  refine jk_aload_n (q := 12) h dX0_learn_11 rfl rfl ?_
  refine jk_get (q := 15) h fg_X0_18 dX0_learn_12 (hN.at 0 rfl) rfl rfl ?_
  refine jk_aload_n (q := 16) h dX0_learn_15 rfl rfl ?_
  refine jk_iconst (q := 17) h dX0_learn_16 rfl ?_
  refine jk_iload_n (q := 18) h dX0_learn_17 rfl rfl ?_
  refine jk_iload_n (q := 19) h dX0_learn_18 rfl rfl ?_
  refine jk_callV (q := 22) h hX (c_X2_learn hB hOB hT hy (by omega) (Or.inr rfl) hmc hmb) mv_X2_learn (hB.at 0 rfl) dX0_learn_19 ml_X0_32 ⟨rfl, Nat.le_refl _⟩ rfl rfl (Nat.le_of_ble_eq_true rfl) (Nat.le_of_ble_eq_true rfl) rfl rfl (Nat.le_of_ble_eq_true rfl) rfl (fun v9 n9 M_2 hp9 => ?_)
  obtain ⟨rfl, rfl, B2, hB, hQB, hLB, o_2⟩ := hp9
  have hN := hN.keep o_2 1 rfl (by omega)
  have hA := hA.keep o_2 8 rfl (by omega)
  have hP := hP.keep o_2 4 rfl (by omega)
  have hT := hT.keep o_2 3 rfl (by omega)
  have ho := ho.tr o_2 (by omega) (by omega)
  refine jk_aload_n (q := 23) h dX0_learn_22 rfl rfl ?_
  refine jk_get (q := 26) h fg_X0_24 dX0_learn_23 (hN.at 0 rfl) rfl rfl ?_
  refine jk_aload_n (q := 27) h dX0_learn_26 rfl rfl ?_
  refine jk_iload (q := 29) h dX0_learn_27 rfl rfl ?_
  refine jk_callV (q := 32) h hX (c_X5_learn hP hOP hT hy (by omega) hmp) mv_X5_learn (hP.at 0 rfl) dX0_learn_29 ml_X0_36 ⟨rfl, Nat.le_refl _⟩ rfl rfl (Nat.le_of_ble_eq_true rfl) (Nat.le_of_ble_eq_true rfl) rfl rfl (Nat.le_of_ble_eq_true rfl) rfl (fun v9 n9 M_3 hp9 => ?_)
  obtain ⟨rfl, rfl, p2, hP, hQP, hLP, o_3⟩ := hp9
  have hN := hN.keep o_3 1 rfl (by omega)
  have hA := hA.keep o_3 8 rfl (by omega)
  have hB := hB.keep o_3 8 rfl (by omega)
  have hT := hT.keep o_3 3 rfl (by omega)
  have ho := ho.tr o_3 (by omega) (by omega)
  refine jk_aload_n (q := 33) h dX0_learn_32 rfl rfl ?_
  refine jk_aload_n (q := 34) h dX0_learn_33 rfl rfl ?_
  refine jk_getN (q := 37) h fg_X0_39 dX0_learn_34 (hT.at 0 rfl) rfl rfl ?_
  refine jk_put (q := 40) h (fp_X0_28 _) dX0_learn_37 (hN.at 0 rfl) (Nat.le_of_ble_eq_true rfl) rfl (fun M_4 s_4 => ?_)
  have hN := hN.put (i := 0) s_4 rfl
  have hA := hA.other s_4 8 rfl (by omega)
  have hB := hB.other s_4 8 rfl (by omega)
  have hP := hP.other s_4 4 rfl (by omega)
  have hT := hT.other s_4 3 rfl (by omega)
  have ho := ho.st (i := 0) s_4 (by omega)
  refine jk_aload_n (q := 41) h dX0_learn_40 rfl rfl ?_
  refine jk_iconst (q := 42) h dX0_learn_41 rfl ?_
  refine jk_put (q := 45) h (fp_X0_44 _) dX0_learn_42 (hN.at 0 rfl) (Nat.le_of_ble_eq_true rfl) rfl (fun M_5 s_5 => ?_)
  have hN := hN.put (i := 0) s_5 rfl
  have hA := hA.other s_5 8 rfl (by omega)
  have hB := hB.other s_5 8 rfl (by omega)
  have hP := hP.other s_5 4 rfl (by omega)
  have hT := hT.other s_5 3 rfl (by omega)
  have ho := ho.st (i := 0) s_5 (by omega)
  exact jk_vret h hR dX0_learn_45 (Nat.le_of_ble_eq_true rfl) (Nat.le_of_ble_eq_true rfl) ⟨rfl, rfl, A2, B2, p2, hN, hA, hB, hP, hQA, hQB, hQP, hLA, hLB, hLP, ho⟩
