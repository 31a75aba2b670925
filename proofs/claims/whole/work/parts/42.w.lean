/-! the reference: an analysis -/
theorem hcS_60 {f : Nat → Int} {sz : Int} (h : 0 ≤ sz ∧ sz ≤ 60) : jrF (hcS f sz) 0 60 := fun k => by
  have := hcS_bd (f := f) h.1 k
  omega
theorem lf_60 {f : Nat → Int} {sz : Int} (hf : jrF f 0 99) (h : 0 ≤ sz ∧ sz ≤ 60) (cv : Nat → Int) (cn : Int) : sm (lfS (hcS f sz) cv cn) 100 ≤ 60 := by
  have h1 : sm (lfS (hcS f sz) cv cn) 100 ≤ sm (hcS f sz) 100 := sm_le (fun k _ => by
    have := (hcS_60 (f := f) h k).1
    unfold lfS
    split <;> omega)
  rw [hcS_all hf h.1] at h1
  omega
theorem lr_b {f : Nat → Int} {sz mc mb : Int} {y : TC} (hmc : mc ≤ 6) (hmb : mb ≤ 10) (h : lrQ f sz mc mb y) : y.2.2.2.1 ≤ 6 ∧ y.2.2.2.2.2.2.2.2 ≤ 10 := by
  have h1 := h.2.1.2.2.1
  have h2 := h.2.2.1
  refine ⟨by omega, ?_⟩
  rw [h2]
  split <;> omega
theorem mc_fin {σ : Nat → Int} {c mc mb sz : Int} {f : Nat → Int} (hsz : 0 ≤ sz ∧ sz ≤ 60) {cn mn : Int} {cv cr L : Nat → Int} (hH : ∀ v : Int, 0 ≤ v → v < 100 → σ (255 + 100 * c + v).toNat = hcS f sz v.toNat) (hcm : cmQ (hcS f sz) mc cn cv cr) (hcn : σ (210 + c).toNat = cn) (hsc : (∀ i8 : Int, 0 ≤ i8 → i8 < cn → σ (212 + 12 * c + 2 * i8).toNat = cv i8.toNat ∧ σ (212 + 12 * c + 2 * i8 + 1).toNat = hcS f sz (cv i8.toNat).toNat))
    (hL : L = lfS (hcS f sz) cv cn) (hmn : mn = if sm L 100 < mb then sm L 100 else mb) (hb : σ (128 + c).toNat = mn) (hdn : (∀ i8 : Int, 0 ≤ i8 → i8 < mn → bS L (stB (sm L 100) mn i8.toNat) (stB (sm L 100) mn (i8.toNat + 1)) (σ (130 + 40 * c + 4 * i8).toNat) (σ (130 + 40 * c + 4 * i8 + 1).toNat) (σ (130 + 40 * c + 4 * i8 + 2).toNat) (σ (130 + 40 * c + 4 * i8 + 3).toNat))) : ∀ y : TC, lrQ f sz mc mb y → mcT σ c y := fun y h => by
  obtain ⟨had, cv2, cr2, cn2, lo, hi, br, un, bn⟩ := y
  obtain ⟨e1, h2, h3, h4⟩ := h
  have e1 : had = hcS f sz := e1
  subst e1
  have h2 : cmQ (hcS f sz) mc cn2 cv2 cr2 := h2
  obtain ⟨en, ek⟩ := cmQ_eq hcm h2
  subst en
  have hn0 : 0 ≤ cn := hcm.2.1
  have hLe : lfS (hcS f sz) cv2 cn = L := by
    rw [hL]
    funext v
    by_cases q : ∃ j : Nat, (j : Int) < cn ∧ cv j = v
    · obtain ⟨j, q1, q2⟩ := q
      rw [(lfS_at hn0 v).1 ⟨j, q1, q2⟩, (lfS_at hn0 v).1 ⟨j, q1, by rw [← (ek j q1).1]; exact q2⟩]
    · rw [(lfS_at hn0 v).2 q, (lfS_at hn0 v).2 (fun ⟨j, q1, q2⟩ => q ⟨j, q1, by rw [(ek j q1).1]; exact q2⟩)]
  have h3 : bn = (if sm (lfS (hcS f sz) cv2 cn) 100 < mb then sm (lfS (hcS f sz) cv2 cn) 100 else mb) := h3
  have h4 : bkQ (lfS (hcS f sz) cv2 cn) (sm (lfS (hcS f sz) cv2 cn) 100) bn lo hi br un := h4
  rw [hLe] at h3 h4
  have ebn : bn = mn := h3.trans hmn.symm
  subst ebn
  have hL0 : ∀ k, 0 ≤ L k := by rw [hL]; exact lfS_0 (hcS_60 hsz)
  refine ⟨hH, hcn, fun k h0 h1 => ?_, hb, fun k h0 h1 => ?_⟩
  · have h1 : k < cn := h1
    obtain ⟨a1, a2⟩ := hsc k h0 h1
    obtain ⟨b1, b2⟩ := ek k.toNat (by omega)
    refine ⟨a1.trans b1, a2.trans ?_⟩
    show _ = cr2 k.toNat
    rw [← b2]
    exact (hcm.1 k.toNat (by omega)).2.2.symm
  · have h1 : k < bn := h1
    exact bS_eq hL0 (hdn k h0 h1) (h4 k.toNat (by omega))
/-- the counts of both columns lie in the array -/
def hw2 (σ F G : Nat → Int) : Nat → Int := fun k => if 255 ≤ k ∧ k < 355 then F (k - 255) else if 355 ≤ k ∧ k < 455 then G (k - 355) else σ k
theorem hw2_n {σ F G : Nat → Int} {k : Nat} (h : k < 255) : hw2 σ F G k = σ k := by
  unfold hw2
  rw [if_neg (by omega), if_neg (by omega)]
theorem hw2_f {σ F G : Nat → Int} {p : Int} (h : 0 ≤ p ∧ p ≤ 99) : jfup (hw2 σ F G) (255 + p).toNat (hw2 σ F G (255 + p).toNat + 1) = hw2 σ (jfup F p.toNat (F p.toNat + 1)) G := by
  have e : hw2 σ F G (255 + p).toNat = F p.toNat := by
    unfold hw2
    rw [if_pos (by omega), show (255 + p).toNat - 255 = p.toNat by omega]
  rw [e]
  funext k
  unfold jfup hw2
  by_cases hk : k = (255 + p).toNat
  · rw [if_pos hk, if_pos (by omega)]; exact (if_pos (by omega)).symm
  · rw [if_neg hk]
    by_cases h2 : 255 ≤ k ∧ k < 355
    · rw [if_pos h2, if_pos h2]; exact (if_neg (by omega)).symm
    · rw [if_neg h2, if_neg h2]
theorem hw2_g {σ F G : Nat → Int} {p : Int} (h : 0 ≤ p ∧ p ≤ 99) : jfup (hw2 σ F G) (355 + p).toNat (hw2 σ F G (355 + p).toNat + 1) = hw2 σ F (jfup G p.toNat (G p.toNat + 1)) := by
  have e : hw2 σ F G (355 + p).toNat = G p.toNat := by
    unfold hw2
    rw [if_neg (by omega), if_pos (by omega), show (355 + p).toNat - 355 = p.toNat by omega]
  rw [e]
  funext k
  unfold jfup hw2
  by_cases hk : k = (355 + p).toNat
  · rw [if_pos hk, if_neg (by omega), if_pos (by omega)]; exact (if_pos (by omega)).symm
  · rw [if_neg hk]
    by_cases h2 : 255 ≤ k ∧ k < 355
    · rw [if_pos h2, if_pos h2]
    · rw [if_neg h2, if_neg h2]
      by_cases h3 : 355 ≤ k ∧ k < 455
      · rw [if_pos h3, if_pos h3]; exact (if_neg (by omega)).symm
      · rw [if_neg h3, if_neg h3]
theorem hw2_h {σ a b : Nat → Int} {sz : Int} {y : TT} (ha : a = y.1) (hb : b = y.2.1) {c : Int} (hc : c = 0 ∨ c = 1) {v : Int} (h0 : 0 ≤ v) (h1 : v < 100) : hw2 σ (hcS a sz) (hcS b sz) (255 + 100 * c + v).toNat = hcS (colT y c) sz v.toNat := by
  subst ha hb
  unfold hw2
  rcases hc with rfl | rfl
  · rw [if_pos (by omega), show (255 + 100 * 0 + v).toNat - 255 = v.toNat by omega]
    rfl
  · rw [if_neg (by omega), if_pos (by omega), show (255 + 100 * 1 + v).toNat - 355 = v.toNat by omega]
    rfl
def zrS (σ : Nat → Int) (i : Int) : Nat → Int := fun k => if 255 ≤ (k : Int) ∧ (k : Int) < 255 + i then 0 else σ k
theorem zrS_0 (σ : Nat → Int) : zrS σ 0 = σ := by
  funext k
  unfold zrS
  rw [if_neg (by omega)]
theorem zrS_s {σ : Nat → Int} {i : Int} (h : 0 ≤ i) : jfup (zrS σ i) (255 + i).toNat 0 = zrS σ (i + 1) := by
  funext k
  unfold jfup zrS
  by_cases hk : k = (255 + i).toNat
  · rw [if_pos hk, if_pos (by omega)]
  · rw [if_neg hk]
    by_cases h2 : 255 ≤ (k : Int) ∧ (k : Int) < 255 + i
    · rw [if_pos h2, if_pos (by omega)]
    · rw [if_neg h2, if_neg (by omega)]
theorem zrS_h (σ a b : Nat → Int) : zrS σ 200 = hw2 σ (hcS a 0) (hcS b 0) := by
  rw [hcS_0, hcS_0]
  funext k
  unfold zrS hw2
  by_cases h1 : 255 ≤ k ∧ k < 355
  · rw [if_pos h1, if_pos (by omega)]
  · rw [if_neg h1]
    by_cases h2 : 355 ≤ k ∧ k < 455
    · rw [if_pos h2, if_pos (by omega)]
    · rw [if_neg h2, if_neg (by omega)]
theorem jtw.trq {M M2 M3 : jM} {q l q2 l2 : Nat} (h : jtw M M2 q l) (h2 : jtw M2 M3 q2 l2) (hq : (q2 = q ∨ q2 = l) ∧ (l2 = q ∨ l2 = l)) : jtw M M3 q l := fun r a b => (h2 r (by omega) (by omega)).trans (h r a b)
theorem jtw.ou {M M2 : jM} {q l m k : Nat} (h : jtw M M2 q l) (h1 : m ≤ q ∧ q < m + k) (h2 : m ≤ l ∧ l < m + k) : jout M M2 m k := fun r hr => h r (by omega) (by omega)
/-- what an analysis leaves in the array -/
def anM (σ σ2 : Nat → Int) (x : TS) : Prop := (∀ (c9 : Int) (y9 : TC), (c9 = 0 ∨ c9 = 1) → lrQ (colT x.2.1 c9) x.2.1.2.2 (x.1 1) (x.1 0) y9 → mcT σ2 c9 y9) ∧ (∀ p9 : TP, pmQ x.2.1 (x.1 2) p9.2.2.2 p9.1 p9.2.1 p9.2.2.1 → mpT σ2 p9) ∧ (σ2 (1 : Int).toNat = 1 ∧ σ2 (2 : Int).toNat = x.2.1.2.2 ∧ σ2 (3 : Int).toNat = 0) ∧ ∀ k : Nat, k = 0 ∨ (4 ≤ k ∧ k < 128) → σ2 k = σ k
theorem anM.md {σ σ2 : Nat → Int} {x : TS} (h : anM σ σ2 x) (hm : mdT σ x) (hQ : stQ x) (hs : 0 < x.2.1.2.2) {A B : TC} {p : TP} (hA : lrQ x.2.1.1 x.2.1.2.2 (x.1 1) (x.1 0) A) (hB : lrQ x.2.1.2.1 x.2.1.2.2 (x.1 1) (x.1 0) B) (hp : pmQ x.2.1 (x.1 2) p.2.2.2 p.1 p.2.1 p.2.2.1) : mdT σ2 (x.1, x.2.1, (x.2.1.2.2, 0), A, B, p) := by
  obtain ⟨a1, a2, ⟨a3, a4, a5⟩, a6⟩ := h
  exact ⟨hm.1.ag hQ.2.1.2.2.2 (fun k hk => a6 k (by omega)), ⟨by show _ = mkn x.2.1.2.2; unfold mkn; rw [if_pos hs]; exact a3, a4, a5⟩, fun k h0 h1 => (a6 _ (by omega)).trans (hm.2.2.1 k h0 h1), a1 0 A (Or.inl rfl) hA, a1 1 B (Or.inr rfl) hB, a2 p hp⟩
theorem mp_fin {σ : Nat → Int} {y : TT} (hy : tbQ y) {mp : Int} {p : TP} (h : mpT σ p) (hp : pmQ y mp p.2.2.2 p.1 p.2.1 p.2.2.1) : ∀ p9 : TP, pmQ y mp p9.2.2.2 p9.1 p9.2.1 p9.2.2.1 → mpT σ p9 := fun p9 h9 => by
  obtain ⟨e1, e2⟩ := pmQ_eq hy hp h9
  refine ⟨h.1.trans e1, fun k h0 h1 => ?_⟩
  obtain ⟨a1, a2, a3⟩ := h.2 k h0 (by omega)
  obtain ⟨b1, b2, b3⟩ := e2 k.toNat (by omega)
  exact ⟨a1.trans b1, a2.trans b2, a3.trans b3⟩

set_option maxHeartbeats 4000000 in
set_option maxRecDepth 100000 in
theorem c_X10_analyses {l : Launch} {D : va_G} {b0 : Nat} {n : Nat} {M : jM} {m q : Nat} {kp pn a9 on : Int} {σ lf : Nat → Int} (hH : jPic M m (mhL m kp pn a9 on)) (hσ : jPic M q [aI 455 σ]) (hL : jPic M (m + 8) [aI 100 lf]) (hd1 : q ≠ m) (hd2 : q ≠ m + 8) {x : TS} (hm : mdT σ x) (hQ : stQ x) : jCtr l D b0 yX10_analyses cX10_analyses 3 none 3 0 0 [.ref m, .ref q] n M (fun v n2 M2 => none = v ∧ n = n2 ∧ (∃ (σ2 lf2 : Nat → Int), jPic M2 q [aI 455 σ2] ∧ jPic M2 (m + 8) [aI 100 lf2] ∧ anM σ σ2 x) ∧ jtw M M2 q (m + 8)) := by
  refine jctr (lv := [some (.ref m), some (.ref q), none]) RX10 "analyses" rfl rfl (by decide) (Nat.le_of_ble_eq_true rfl) rfl ?_
  intro X h hR hX
  have hj := jtw.rf M q (m + 8)
  obtain ⟨hmr, ⟨hm1, hm2, hm3⟩, hms, hmA, hmB, hmP⟩ := id hm
  obtain ⟨hse, htb, hr, hch, hOA, hOB, hOP⟩ := id hQ
  obtain ⟨hya, hyb, hys⟩ := id htb
  have hm0 := hmr.1
  have hk1 : σ (1 : Int).toNat = 1 ∨ σ (1 : Int).toNat = 0 := by { rw [hm1]; unfold mkn; split <;> simp }
  have hk2 : σ (1 : Int).toNat = 0 ↔ x.2.2.1.1 = 0 := by { rw [hm1]; unfold mkn; split <;> omega }
  obtain ⟨hs1, hs2, hs3, hs4⟩ := id hse
  have hS0 := hms 0 (by decide) (by decide)
  have hS1 := hms 1 (by decide) (by decide)
  have hS2 := hms 2 (by decide) (by decide)
  clear hk1 hk2
  refine jk_iconst (q := 1) h dX10_analyses_0 rfl ?_
  refine jk_istore_n (q := 2) h dX10_analyses_1 rfl (Nat.le_of_ble_eq_true rfl) rfl rfl ?_
  have lp2 : ∀ (k9 : Nat) (i : Int) (M9 : jM) (hi1 : 0 ≤ i) (hi2 : i ≤ 200) (hH : jPic M9 m (mhL m kp pn a9 on)) (hσ : jPic M9 q [aI 455 (zrS σ i)]) (hL : jPic M9 (m + 8) [aI 100 lf]) (hj : jtw M M9 q (m + 8)) (hk9 : (200 - i).toNat = k9), jJ X 2 [some (.ref (m)), some (.ref (q)), some (jI (i))] [] n M9 0 0 := by
    intro k9
    induction k9 using Nat.strongRecOn with
    | _ k9 ih2 =>
      intro i M9 hi1 hi2 hH hσ hL hj hk9
      refine jk_iload_n (q := 3) h dX10_analyses_2 rfl rfl ?_
      refine jk_sipush (q := 6) h dX10_analyses_3 (by decide) rfl ?_
      refine jk_icmp_ge (q := 9) (tgt := 23) h dX10_analyses_6 (by decide) rfl ⟨by omega, by omega⟩ ⟨by omega, by omega⟩ (fun c6 => ?_) (fun c6 => ?_)
      · have hi3 : i = 200 := by omega
        subst hi3
        refine jk_iconst (q := 24) h dX10_analyses_23 rfl ?_
        refine jk_istore_n (q := 25) h dX10_analyses_24 rfl (Nat.le_of_ble_eq_true rfl) rfl rfl ?_
        have lp25 : ∀ (k9 : Nat) (i : Int) (M9 : jM) (hi1 : 0 ≤ i) (hi2 : i ≤ x.2.1.2.2) (hH : jPic M9 m (mhL m kp pn a9 on)) (hσ : jPic M9 q [aI 455 (hw2 σ (hcS x.2.1.1 i) (hcS x.2.1.2.1 i))]) (hL : jPic M9 (m + 8) [aI 100 lf]) (hj : jtw M M9 q (m + 8)) (hk9 : (x.2.1.2.2 - i).toNat = k9), jJ X 25 [some (.ref (m)), some (.ref (q)), some (jI (i))] [] n M9 0 0 := by
          intro k9
          induction k9 using Nat.strongRecOn with
          | _ k9 ih25 =>
            intro i M9 hi1 hi2 hH hσ hL hj hk9
            have hmi : mrT (hw2 σ (hcS x.2.1.1 i) (hcS x.2.1.2.1 i)) x.2.1 := hmr.ag hys.2 (fun k hk => hw2_n (by omega))
            have hmi0 := hmi.1
            have hA := hya i.toNat
            have hB := hyb i.toNat
            refine jk_iload_n (q := 26) h dX10_analyses_25 rfl rfl ?_
            refine jk_aload_n (q := 27) h dX10_analyses_26 rfl rfl ?_
            refine jk_iconst (q := 28) h dX10_analyses_27 rfl ?_
            refine jk_ialdI (q := 29) h dX10_analyses_28 (hσ.at 0 rfl) (by omega) (by omega) rfl rfl ?_
            refine jk_icmp_ge (q := 32) (tgt := 70) h dX10_analyses_29 (by decide) rfl ⟨by omega, by omega⟩ ⟨by omega, by omega⟩ (fun c29 => ?_) (fun c29 => ?_)
            · have hi3 : i = x.2.1.2.2 := by omega
              subst hi3
              obtain ⟨σ1, hσ1⟩ : ∃ s, hw2 σ (hcS x.2.1.1 x.2.1.2.2) (hcS x.2.1.2.1 x.2.1.2.2) = s := ⟨_, rfl⟩
              rw [hσ1] at hσ
              have e1 : ∀ k : Nat, k < 255 → σ1 k = σ k := fun k hk => by { rw [← hσ1]; exact hw2_n hk }
              have eh1 : ∀ c : Int, (c = 0 ∨ c = 1) → ∀ v : Int, 0 ≤ v → v < 100 → σ1 (255 + 100 * c + v).toNat = hcS (colT x.2.1 c) x.2.1.2.2 v.toNat := fun c hc v h0 h1 => by { rw [← hσ1]; exact hw2_h rfl rfl hc h0 h1 }
              clear hmi hmi0 hσ1 hA hB
              refine jk_iconst (q := 71) h dX10_analyses_70 rfl ?_
              refine jk_istore_n (q := 72) h dX10_analyses_71 rfl (Nat.le_of_ble_eq_true rfl) rfl rfl ?_
              have lp72 : ∀ (k9 : Nat) (c : Int) (σ3 : Nat → Int) (lf3 : Nat → Int) (M9 : jM) (hc1 : 0 ≤ c) (hc2 : c ≤ 2) (hH : jPic M9 m (mhL m kp pn a9 on)) (hσ : jPic M9 q [aI 455 σ3]) (hL : jPic M9 (m + 8) [aI 100 lf3]) (hfr : ∀ k : Nat, k < 128 ∨ 236 ≤ k → σ3 k = σ1 k) (hdone : ∀ (c9 : Int) (y9 : TC), (c9 = 0 ∨ c9 = 1) → c9 < c → lrQ (colT x.2.1 c9) x.2.1.2.2 (x.1 1) (x.1 0) y9 → mcT σ3 c9 y9) (hj : jtw M M9 q (m + 8)) (hk9 : (2 - c).toNat = k9), jJ X 72 [some (.ref (m)), some (.ref (q)), some (jI (c))] [] n M9 0 0 := by
                intro k9
                induction k9 using Nat.strongRecOn with
                | _ k9 ih72 =>
                  intro c σ3 lf3 M9 hc1 hc2 hH hσ hL hfr hdone hj hk9
                  refine jk_iload_n (q := 73) h dX10_analyses_72 rfl rfl ?_
                  refine jk_iconst (q := 74) h dX10_analyses_73 rfl ?_
                  refine jk_icmp_ge (q := 77) (tgt := 95) h dX10_analyses_74 (by decide) rfl ⟨by omega, by omega⟩ ⟨by omega, by omega⟩ (fun c74 => ?_) (fun c74 => ?_)
                  · have hm3 : mrT σ3 x.2.1 := hmr.ag hys.2 (fun k hk => (hfr k (by omega)).trans (e1 k (by omega)))
                    refine jk_aload_n (q := 96) h dX10_analyses_95 rfl rfl ?_
                    refine jk_callS (q := 99) h hX (c_X10_pairs hσ hm3 htb hs3 ((hfr _ (by omega)).trans ((e1 _ (by omega)).trans hS2))) ms_X10_pairs dX10_analyses_96 ml_X10_71 ⟨rfl, Nat.le_refl _⟩ rfl rfl (Nat.le_of_ble_eq_true rfl) (Nat.le_of_ble_eq_true rfl) rfl rfl (Nat.le_of_ble_eq_true rfl) rfl (fun v9 n9 M_1 hp9 => ?_)
                    obtain ⟨rfl, rfl, ⟨σ6, p6, hσ, hmp6, hpm6, hrg6⟩, o_1⟩ := hp9
                    have hj := hj.trq o_1 (by omega)
                    have hH := jtw.keep hH o_1 1 rfl (by omega) (by omega)
                    have hL := jtw.keep hL o_1 1 rfl (by omega) (by omega)
                    refine jk_aload_n (q := 100) h dX10_analyses_99 rfl rfl ?_
                    refine jk_iconst (q := 101) h dX10_analyses_100 rfl ?_
                    refine jk_iconst (q := 102) h dX10_analyses_101 rfl ?_
                    refine jk_iast (q := 103) h dX10_analyses_102 (hσ.at 0 rfl) (by omega) (by omega) rfl rfl (fun M_2 s_2 => ?_)
                    have hH := hH.other s_2 1 rfl (by omega)
                    have hσ := hσ.put (i := 0) s_2 rfl
                    have hL := hL.other s_2 1 rfl (by omega)
                    have hj := hj.stq s_2 (by omega)
                    obtain ⟨σ7, hσ7⟩ : ∃ s9, jfup σ6 ((1 : Int)).toNat (1) = s9 := ⟨_, rfl⟩
                    rw [hσ7] at hσ
                    have ea : ∀ j : Nat, j ≠ ((1 : Int)).toNat → σ7 j = σ6 j := fun j hj => by { rw [← hσ7]; exact jfup_n _ _ hj }
                    have eav : σ7 ((1 : Int)).toNat = 1 := by { rw [← hσ7]; exact jfup_s _ _ _ }
                    refine jk_aload_n (q := 104) h dX10_analyses_103 rfl rfl ?_
                    refine jk_iconst (q := 105) h dX10_analyses_104 rfl ?_
                    refine jk_aload_n (q := 106) h dX10_analyses_105 rfl rfl ?_
                    refine jk_iconst (q := 107) h dX10_analyses_106 rfl ?_
                    refine jk_ialdI (q := 108) h dX10_analyses_107 (hσ.at 0 rfl) (by omega) (by omega) rfl rfl ?_
                    refine jk_iast (q := 109) h dX10_analyses_108 (hσ.at 0 rfl) (by omega) (by omega) rfl rfl (fun M_3 s_3 => ?_)
                    have hH := hH.other s_3 1 rfl (by omega)
                    have hσ := hσ.put (i := 0) s_3 rfl
                    have hL := hL.other s_3 1 rfl (by omega)
                    have hj := hj.stq s_3 (by omega)
                    obtain ⟨σ8, hσ8⟩ : ∃ s9, jfup σ7 ((2 : Int)).toNat (σ7 (0 : Int).toNat) = s9 := ⟨_, rfl⟩
                    rw [hσ8] at hσ
                    have eb : ∀ j : Nat, j ≠ ((2 : Int)).toNat → σ8 j = σ7 j := fun j hj => by { rw [← hσ8]; exact jfup_n _ _ hj }
                    have ebv : σ8 ((2 : Int)).toNat = σ7 (0 : Int).toNat := by { rw [← hσ8]; exact jfup_s _ _ _ }
                    refine jk_aload_n (q := 110) h dX10_analyses_109 rfl rfl ?_
                    refine jk_iconst (q := 111) h dX10_analyses_110 rfl ?_
                    refine jk_iconst (q := 112) h dX10_analyses_111 rfl ?_
                    refine jk_iast (q := 113) h dX10_analyses_112 (hσ.at 0 rfl) (by omega) (by omega) rfl rfl (fun M_4 s_4 => ?_)
                    have hH := hH.other s_4 1 rfl (by omega)
                    have hσ := hσ.put (i := 0) s_4 rfl
                    have hL := hL.other s_4 1 rfl (by omega)
                    have hj := hj.stq s_4 (by omega)
                    obtain ⟨σ9, hσ9⟩ : ∃ s9, jfup σ8 ((3 : Int)).toNat (0) = s9 := ⟨_, rfl⟩
                    rw [hσ9] at hσ
                    have ed : ∀ j : Nat, j ≠ ((3 : Int)).toNat → σ9 j = σ8 j := fun j hj => by { rw [← hσ9]; exact jfup_n _ _ hj }
                    have edv : σ9 ((3 : Int)).toNat = 0 := by { rw [← hσ9]; exact jfup_s _ _ _ }
                    have ha9 : ∀ k : Nat, k = 0 ∨ 4 ≤ k → σ9 k = σ6 k := fun k hk => ((ed k (by omega)).trans (eb k (by omega))).trans (ea k (by omega))
                    have hanm : anM σ σ9 x := by
                      refine ⟨fun c9 y9 h1 h2 => ?_, mp_fin htb ⟨(ha9 _ (by omega)).trans hmp6.1, fun k h0 h1 => ?_⟩ hpm6, ⟨((ed _ (by omega)).trans (eb _ (by omega))).trans eav, ?_, edv⟩, fun k hk => ?_⟩
                      · obtain ⟨b1, b2⟩ := lr_b hs2.2 hs1.2 h2
                        exact (hdone c9 y9 h1 (by omega) h2).ag h1 b1 b2 (fun k hk => (ha9 k (by omega)).trans (hrg6 k (by omega)))
                      · obtain ⟨g1, g2, g3⟩ := hmp6.2 k h0 h1
                        exact ⟨(ha9 _ (by omega)).trans g1, (ha9 _ (by omega)).trans g2, (ha9 _ (by omega)).trans g3⟩
                      · rw [ed _ (by omega), ebv, ea _ (by omega), hrg6 _ (by omega), hfr _ (by omega), e1 _ (by omega)]; exact hm0
                      · rw [ha9 k (by omega), hrg6 k (by omega), hfr k (by omega), e1 k (by omega)]
                    exact jk_vret h hR dX10_analyses_113 (Nat.le_of_ble_eq_true rfl) (Nat.le_of_ble_eq_true rfl) ⟨rfl, rfl, ⟨σ9, lf3, hσ, hL, hanm⟩, hj⟩
                  · have hcc : c = 0 ∨ c = 1 := by omega
                    have hh3 : ∀ v : Int, 0 ≤ v → v < 100 → σ3 (255 + 100 * c + v).toNat = hcS (colT x.2.1 c) x.2.1.2.2 v.toNat := fun v h0 h1 => (hfr _ (by omega)).trans (eh1 c hcc v h0 h1)
                    have hHb := hcS_60 (f := colT x.2.1 c) hys
                    refine jk_aload_n (q := 78) h dX10_analyses_77 rfl rfl ?_
                    refine jk_aload_n (q := 79) h dX10_analyses_78 rfl rfl ?_
                    refine jk_iload_n (q := 80) h dX10_analyses_79 rfl rfl ?_
                    refine jk_callV (q := 83) h hX (c_X10_chooses hH hσ hL hd1 hd2 hcc hh3 hHb hs2 ((hfr _ (by omega)).trans ((e1 _ (by omega)).trans hS1))) mv_X10_chooses (hH.at 0 rfl) dX10_analyses_80 ml_X10_64 ⟨rfl, Nat.le_refl _⟩ rfl rfl (Nat.le_of_ble_eq_true rfl) (Nat.le_of_ble_eq_true rfl) rfl rfl (Nat.le_of_ble_eq_true rfl) rfl (fun v9 n9 M_5 hp9 => ?_)
                    obtain ⟨rfl, rfl, ⟨σ4, lf4, cn, cv, cr, hσ, hL, hcm, hs4n, hsc4, hlf4, hrg4⟩, o_5⟩ := hp9
                    have hj := hj.trq o_5 (by omega)
                    have hH := jtw.keep hH o_5 1 rfl (by omega) (by omega)
                    refine jk_aload_n (q := 84) h dX10_analyses_83 rfl rfl ?_
                    refine jk_aload_n (q := 85) h dX10_analyses_84 rfl rfl ?_
                    refine jk_iload_n (q := 86) h dX10_analyses_85 rfl rfl ?_
                    refine jk_callV (q := 89) h hX (c_X10_cuts (L := (lfS (hcS (colT x.2.1 c) x.2.1.2.2) cv cn)) hH hσ hL hd1 hd2 hcc hlf4 (lfS_0 hHb) rfl (lf_60 (colT_F htb) hys cv cn) hs1 ((hrg4 _ (by omega) (by omega)).trans ((hfr _ (by omega)).trans ((e1 _ (by omega)).trans hS0))) rfl) mv_X10_cuts (hH.at 0 rfl) dX10_analyses_86 ml_X10_68 ⟨rfl, Nat.le_refl _⟩ rfl rfl (Nat.le_of_ble_eq_true rfl) (Nat.le_of_ble_eq_true rfl) rfl rfl (Nat.le_of_ble_eq_true rfl) rfl (fun v9 n9 M_6 hp9 => ?_)
                    obtain ⟨rfl, rfl, ⟨σ5, lf5, hσ, hL, hs5n, hdn5, hrg5⟩, o_6⟩ := hp9
                    have hj := hj.trq o_6 (by omega)
                    have hH := jtw.keep hH o_6 1 rfl (by omega) (by omega)
                    have hfr5 : ∀ k : Nat, k < 128 ∨ 236 ≤ k → σ5 k = σ1 k := fun k hk => (hrg5 k (by omega) (by omega)).trans ((hrg4 k (by omega) (by omega)).trans (hfr k hk))
                    have hdone5 : ∀ (c9 : Int) (y9 : TC), (c9 = 0 ∨ c9 = 1) → c9 < c + 1 → lrQ (colT x.2.1 c9) x.2.1.2.2 (x.1 1) (x.1 0) y9 → mcT σ5 c9 y9 := fun c9 y9 h1 h2 h3 => by
                      by_cases g : c9 < c
                      · obtain ⟨b1, b2⟩ := lr_b hs2.2 hs1.2 h3
                        exact (hdone c9 y9 h1 g h3).ag h1 b1 b2 (fun k hk => (hrg5 k (by omega) (by omega)).trans (hrg4 k (by omega) (by omega)))
                      · have g2 : c9 = c := by omega
                        subst g2
                        exact mc_fin hys (fun v h0 h1 => (hfr5 _ (by omega)).trans (eh1 _ hcc v h0 h1)) hcm ((hrg5 _ (by omega) (by omega)).trans hs4n) (fun i8 h0 h1 => by { have hcn6 := hcm.2.2.1; rw [hrg5 _ (by omega) (by omega), hrg5 _ (by omega) (by omega)]; exact hsc4 i8 h0 h1 }) rfl rfl hs5n hdn5 y9 h3
                    refine jk_iinc (q := 92) h dX10_analyses_89 rfl rfl rfl rfl ?_
                    refine jk_goto (q := 95) (tgt := 72) h dX10_analyses_92 (by decide) ?_
                    exact jk_weak (jwk_s rfl (jwk_s rfl (jwk_s rfl jwk_0))) (ih72 _ (by omega) (c + 1) σ5 lf5 _ (by omega) (by omega) hH hσ hL hfr5 hdone5 hj rfl)
              exact jk_weak (jwk_s rfl (jwk_s rfl (jwk_s rfl jwk_0))) (lp72 _ 0 σ1 lf _ (by omega) (by omega) hH hσ hL (fun k _ => rfl) (fun c9 y9 h1 h2 => absurd h2 (by omega)) hj rfl)
            · refine jk_aload_n (q := 33) h dX10_analyses_32 rfl rfl ?_
              refine jk_sipush (q := 36) h dX10_analyses_33 (by decide) rfl ?_
              refine jk_aload_n (q := 37) h dX10_analyses_36 rfl rfl ?_
              refine jk_iload_n (q := 38) h dX10_analyses_37 rfl rfl ?_
              refine jk_iconst (q := 39) h dX10_analyses_38 rfl ?_
              refine jk_callS (q := 42) h hX (c_X10_of hσ ⟨hi1, by omega⟩ ⟨by decide, by decide⟩ (hmi.a hi1 (by omega))) ms_X10_of dX10_analyses_39 ml_X10_54 ⟨rfl, Nat.le_refl _⟩ rfl rfl (Nat.le_of_ble_eq_true rfl) (Nat.le_of_ble_eq_true rfl) rfl rfl (Nat.le_of_ble_eq_true rfl) rfl (fun v9 n9 M9 hp9 => ?_)
              obtain ⟨rfl, rfl, rfl⟩ := hp9
              refine jk_iadd (q := 43) h dX10_analyses_42 rfl ?_
              refine jk_dup2 (q := 44) h dX10_analyses_43 rfl rfl rfl ?_
              refine jk_ialdI (q := 45) h dX10_analyses_44 (hσ.at 0 rfl) (by omega) (by omega) rfl rfl ?_
              refine jk_iconst (q := 46) h dX10_analyses_45 rfl ?_
              refine jk_iadd (q := 47) h dX10_analyses_46 rfl ?_
              refine jk_iast (q := 48) h dX10_analyses_47 (hσ.at 0 rfl) (by omega) (by omega) rfl rfl (fun M_7 s_7 => ?_)
              have hH := hH.other s_7 1 rfl (by omega)
              have hσ := hσ.put (i := 0) s_7 rfl
              have hL := hL.other s_7 1 rfl (by omega)
              have hj := hj.stq s_7 (by omega)
              rw [hw2_f hA, hcS_up hi1 rfl hA.1] at hσ
              refine jk_aload_n (q := 49) h dX10_analyses_48 rfl rfl ?_
              refine jk_sipush (q := 52) h dX10_analyses_49 (by decide) rfl ?_
              refine jk_aload_n (q := 53) h dX10_analyses_52 rfl rfl ?_
              refine jk_iload_n (q := 54) h dX10_analyses_53 rfl rfl ?_
              refine jk_iconst (q := 55) h dX10_analyses_54 rfl ?_
              refine jk_callS (q := 58) h hX (c_X10_of hσ ⟨hi1, by omega⟩ ⟨by decide, by decide⟩ ((hw2_n (by omega)).trans (hmr.b hi1 (by omega)))) ms_X10_of dX10_analyses_55 ml_X10_54 ⟨rfl, Nat.le_refl _⟩ rfl rfl (Nat.le_of_ble_eq_true rfl) (Nat.le_of_ble_eq_true rfl) rfl rfl (Nat.le_of_ble_eq_true rfl) rfl (fun v9 n9 M9 hp9 => ?_)
              obtain ⟨rfl, rfl, rfl⟩ := hp9
              refine jk_iadd (q := 59) h dX10_analyses_58 rfl ?_
              refine jk_dup2 (q := 60) h dX10_analyses_59 rfl rfl rfl ?_
              refine jk_ialdI (q := 61) h dX10_analyses_60 (hσ.at 0 rfl) (by omega) (by omega) rfl rfl ?_
              refine jk_iconst (q := 62) h dX10_analyses_61 rfl ?_
              refine jk_iadd (q := 63) h dX10_analyses_62 rfl ?_
              refine jk_iast (q := 64) h dX10_analyses_63 (hσ.at 0 rfl) (by omega) (by omega) rfl rfl (fun M_8 s_8 => ?_)
              have hH := hH.other s_8 1 rfl (by omega)
              have hσ := hσ.put (i := 0) s_8 rfl
              have hL := hL.other s_8 1 rfl (by omega)
              have hj := hj.stq s_8 (by omega)
              rw [hw2_g hB, hcS_up hi1 rfl hB.1] at hσ
              refine jk_iinc (q := 67) h dX10_analyses_64 rfl rfl rfl rfl ?_
              refine jk_goto (q := 70) (tgt := 25) h dX10_analyses_67 (by decide) ?_
              exact jk_weak (jwk_s rfl (jwk_s rfl (jwk_s rfl jwk_0))) (ih25 _ (by omega) _ _ (by omega) (by omega) hH hσ hL hj rfl)
        exact jk_weak (jwk_s rfl (jwk_s rfl (jwk_s rfl jwk_0))) (lp25 _ _ _ (by omega) (by omega) hH (by rw [← zrS_h]; exact hσ) hL hj rfl)
      · refine jk_aload_n (q := 10) h dX10_analyses_9 rfl rfl ?_
        refine jk_sipush (q := 13) h dX10_analyses_10 (by decide) rfl ?_
        refine jk_iload_n (q := 14) h dX10_analyses_13 rfl rfl ?_
        refine jk_iadd (q := 15) h dX10_analyses_14 rfl ?_
        refine jk_iconst (q := 16) h dX10_analyses_15 rfl ?_
        refine jk_iast (q := 17) h dX10_analyses_16 (hσ.at 0 rfl) (by omega) (by omega) rfl rfl (fun M_9 s_9 => ?_)
        have hH := hH.other s_9 1 rfl (by omega)
        have hσ := hσ.put (i := 0) s_9 rfl
        have hL := hL.other s_9 1 rfl (by omega)
        have hj := hj.stq s_9 (by omega)
        refine jk_iinc (q := 20) h dX10_analyses_17 rfl rfl rfl rfl ?_
        refine jk_goto (q := 23) (tgt := 2) h dX10_analyses_20 (by decide) ?_
        exact jk_weak (jwk_s rfl (jwk_s rfl (jwk_s rfl jwk_0))) (ih2 _ (by omega) _ _ (by omega) (by omega) hH (by rw [← zrS_s hi1]; exact hσ) hL hj rfl)
  exact jk_weak (jwk_s rfl (jwk_s rfl (jwk_s rfl jwk_0))) (lp2 _ _ _ (by omega) (by omega) hH (by rw [zrS_0]; exact hσ) hL hj rfl)
