/-! the reference: common values are chosen -/
def chI (H : Nat → Int) (k : Int) (cv : Nat → Int) : Prop := (∀ j : Nat, (j : Int) < k → 0 ≤ cv j ∧ cv j ≤ 99 ∧ 2 ≤ H (cv j).toNat) ∧ (∀ i j : Nat, i < j → (j : Int) < k → rnk H (cv j).toNat < rnk H (cv i).toNat) ∧ ∀ v : Nat, v < 100 → 2 ≤ H v → (∃ j : Nat, (j : Int) < k ∧ cv j = v) ∨ ∀ j : Nat, (j : Int) < k → rnk H v < rnk H (cv j).toNat
theorem chI_0 (H cv : Nat → Int) : chI H 0 cv := ⟨fun j hj => absurd hj (by omega), fun i j _ hj => absurd hj (by omega), fun v _ _ => Or.inr (fun j hj => absurd hj (by omega))⟩
theorem chI_q {H cv cr : Nat → Int} {k m : Int} (h : chI H k cv) (hk : 0 ≤ k) (hm : k ≤ m) (hcr : ∀ j : Nat, (j : Int) < k → cr j = H (cv j).toNat) (he : k = m ∨ ∀ v : Nat, v < 100 → 2 ≤ H v → ∃ j : Nat, (j : Int) < k ∧ cv j = v) : cmQ H m k cv cr := by
  obtain ⟨h1, h2, h3⟩ := h
  refine ⟨fun j hj => ⟨(h1 j hj).1, (h1 j hj).2.1, hcr j hj⟩, hk, hm, fun j hj => ?_, h2, fun s hs => ?_⟩
  · obtain ⟨a, b, c⟩ := h1 j hj
    exact ⟨(cv j).toNat, by omega, c, rfl⟩
  · obtain ⟨v, a, b, rfl⟩ := hs
    rcases he with he | he
    · rcases h3 v a b with ⟨j, hj, e⟩ | z
      · exact Or.inl ⟨j, hj, by show rnk H (cv j).toNat = _; rw [e, Int.toNat_natCast]⟩
      · exact Or.inr ⟨he, z⟩
    · obtain ⟨j, hj, e⟩ := he v a b
      exact Or.inl ⟨j, hj, by show rnk H (cv j).toNat = _; rw [e, Int.toNat_natCast]⟩
theorem lfS_at {H cv : Nat → Int} {k : Int} (hk : 0 ≤ k) (v : Nat) : ((∃ j : Nat, (j : Int) < k ∧ cv j = v) → lfS H cv k v = 0) ∧ (¬ (∃ j : Nat, (j : Int) < k ∧ cv j = v) → lfS H cv k v = H v) := by
  refine ⟨fun h => ?_, fun h => ?_⟩
  · unfold lfS
    rw [if_pos ((isC_iff hk).mpr h)]
  · unfold lfS
    rw [if_neg (fun z => h ((isC_iff hk).mp z))]
theorem chI_s {H cv lf : Nat → Int} {k b : Int} (hk : 0 ≤ k) (h : chI H k cv) (hlf : ∀ v : Nat, v < 100 → lf v = lfS H cv k v) (hb : 0 ≤ b ∧ b ≤ 99) (hmax : ∀ u : Nat, (u : Int) < 100 → lf u ≤ lf b.toNat ∧ ((u : Int) < b → lf u < lf b.toNat)) (h2 : 2 ≤ lf b.toNat) :
    chI H (k + 1) (jfup cv k.toNat b) ∧ lf b.toNat = H b.toNat ∧ ∀ v : Nat, v < 100 → jfup lf b.toNat 0 v = lfS H (jfup cv k.toNat b) (k + 1) v := by
  obtain ⟨a1, a2, a3⟩ := h
  have hnb : ¬ ∃ j : Nat, (j : Int) < k ∧ cv j = (b.toNat : Nat) := fun z => by
    have := (lfS_at (H := H) hk b.toNat).1 z
    rw [← hlf _ (by omega)] at this
    omega
  have hHb : lf b.toNat = H b.toNat := by rw [hlf _ (by omega)]; exact (lfS_at hk _).2 hnb
  have hcu : ∀ j : Nat, (j : Int) < k → jfup cv k.toNat b j = cv j := fun j hj => jfup_n _ _ (by omega)
  have hck : jfup cv k.toNat b k.toNat = b := jfup_s _ _ _
  have hbr : ∀ j : Nat, (j : Int) < k → rnk H b.toNat < rnk H (cv j).toNat := by
    rcases a3 b.toNat (by omega) (by omega) with z | z
    · exact absurd z hnb
    · exact z
  have hex : ∀ v : Nat, (∃ j : Nat, (j : Int) < k + 1 ∧ jfup cv k.toNat b j = v) ↔ (∃ j : Nat, (j : Int) < k ∧ cv j = v) ∨ v = b.toNat := fun v => by
    constructor
    · rintro ⟨j, hj, e⟩
      by_cases hjk : (j : Int) < k
      · exact Or.inl ⟨j, hjk, by rw [← hcu j hjk]; exact e⟩
      · rw [show j = k.toNat by omega, hck] at e
        exact Or.inr (by omega)
    · rintro (⟨j, hj, e⟩ | e)
      · exact ⟨j, by omega, by rw [hcu j hj]; exact e⟩
      · exact ⟨k.toNat, by omega, by rw [hck]; omega⟩
  refine ⟨⟨fun j hj => ?_, fun i j hij hj => ?_, fun v hv hHv => ?_⟩, hHb, fun v hv => ?_⟩
  · by_cases hjk : (j : Int) < k
    · rw [hcu j hjk]; exact a1 j hjk
    · rw [show j = k.toNat by omega, hck]; omega
  · rw [hcu i (by omega)]
    by_cases hjk : (j : Int) < k
    · rw [hcu j hjk]; exact a2 i j hij hjk
    · rw [show j = k.toNat by omega, hck]; exact hbr i (by omega)
  · by_cases hz : (∃ j : Nat, (j : Int) < k ∧ cv j = v) ∨ v = b.toNat
    · exact Or.inl ((hex v).mpr hz)
    · right
      have hz1 : ¬ ∃ j : Nat, (j : Int) < k ∧ cv j = v := fun q => hz (Or.inl q)
      have hz2 : v ≠ b.toNat := fun q => hz (Or.inr q)
      intro j hj
      by_cases hjk : (j : Int) < k
      · rw [hcu j hjk]
        rcases a3 v hv hHv with z | z
        · exact absurd z hz1
        · exact z j hjk
      · rw [show j = k.toNat by omega, hck]
        have e1 : lf v = H v := by rw [hlf v hv]; exact (lfS_at hk v).2 hz1
        obtain ⟨m1, m2⟩ := hmax v (by omega)
        unfold rnk
        by_cases hvb : (v : Int) < b
        · have := m2 hvb
          omega
        · omega
  · by_cases hvb : v = b.toNat
    · rw [hvb, jfup_s]
      exact ((lfS_at (by omega) _).1 ((hex _).mpr (Or.inr rfl))).symm
    · rw [jfup_n _ _ hvb, hlf v hv]
      by_cases hz : ∃ j : Nat, (j : Int) < k ∧ cv j = v
      · rw [(lfS_at hk v).1 hz, (lfS_at (by omega) v).1 ((hex v).mpr (Or.inl hz))]
      · rw [(lfS_at hk v).2 hz, (lfS_at (by omega) v).2 (fun q => by rcases (hex v).mp q with q | q; exact hz q; exact hvb q)]
theorem chI_e {H cv lf : Nat → Int} {k b : Int} (hk : 0 ≤ k) (hlf : ∀ v : Nat, v < 100 → lf v = lfS H cv k v) (hmax : ∀ u : Nat, (u : Int) < 100 → lf u ≤ lf b.toNat ∧ ((u : Int) < b → lf u < lf b.toNat)) (h2 : lf b.toNat < 2) : ∀ v : Nat, v < 100 → 2 ≤ H v → ∃ j : Nat, (j : Int) < k ∧ cv j = v := fun v hv hH => by
  by_cases hz : ∃ j : Nat, (j : Int) < k ∧ cv j = v
  · exact hz
  · have e1 : lf v = H v := by rw [hlf v hv]; exact (lfS_at hk v).2 hz
    have := (hmax v (by omega)).1
    omega
def jtw (M M2 : jM) (q l : Nat) : Prop := ∀ o : Nat, o ≠ q → o ≠ l → M2 o = M o
theorem jtw.rf (M : jM) (q l : Nat) : jtw M M q l := fun _ _ _ => rfl
theorem jtw.stq {M M2 M3 : jM} {q l o : Nat} {e : jC} (h : jtw M M2 q l) (s : jst M2 M3 o e) (ho : o = q ∨ o = l) : jtw M M3 q l := fun r h1 h2 => (s.2 r (by omega)).trans (h r h1 h2)
theorem jtw.tr {M M2 M3 : jM} {q l : Nat} (h : jtw M M2 q l) (h2 : jtw M2 M3 q l) : jtw M M3 q l := fun r a b => (h2 r a b).trans (h r a b)
theorem jtw.keep {M M2 : jM} {q l b : Nat} {L : List jC} (h : jPic M b L) (ho : jtw M M2 q l) (m : Nat) (hm : L.length = m) (h1 : q < b ∨ b + m ≤ q) (h2 : l < b ∨ b + m ≤ l) : jPic M2 b L := fun j x hx => by
  have hl := (List.getElem?_eq_some_iff.mp hx).1
  rw [ho _ (by omega) (by omega)]
  exact h j x hx
abbrev mhL (m : Nat) (kp pn a9 on : Int) : List jC := [oB 9 [.ref (m + 1), .ref (m + 2), .ref (m + 3), jI kp, .ref (m + 4), .ref (m + 5), .ref (m + 6), jI pn, jI a9, .ref (m + 7), jI on, .ref (m + 8)]]
def lyC (σ lf : Nat → Int) (c i : Int) : Nat → Int := fun k => if (k : Int) < i then σ (255 + 100 * c + k).toNat else lf k
theorem lyC_0 (σ lf : Nat → Int) (c : Int) : lyC σ lf c 0 = lf := by
  funext k
  unfold lyC
  rw [if_neg (by omega)]
theorem lyC_s {σ lf : Nat → Int} {c i : Int} (h : 0 ≤ i) : jfup (lyC σ lf c i) i.toNat (σ (255 + 100 * c + i).toNat) = lyC σ lf c (i + 1) := by
  funext k
  unfold jfup lyC
  by_cases hk : k = i.toNat
  · rw [if_pos hk, if_pos (by omega), show ((k : Nat) : Int) = i by omega]
  · rw [if_neg hk]
    by_cases h2 : (k : Int) < i
    · rw [if_pos h2, if_pos (by omega)]
    · rw [if_neg h2, if_neg (by omega)]
abbrev mbI (lf : Nat → Int) (b v : Int) : Prop := ∀ u : Nat, (u : Int) < v → lf u ≤ lf b.toNat ∧ ((u : Int) < b → lf u < lf b.toNat)
theorem mbI_s {lf : Nat → Int} {b v : Int} (h : mbI lf b v) (hv : 0 ≤ v) : (lf v.toNat > lf b.toNat → mbI lf v (v + 1)) ∧ (¬ lf v.toNat > lf b.toNat → b < v → mbI lf b (v + 1)) := by
  refine ⟨fun hg u hu => ?_, fun hg hb u hu => ?_⟩
  · by_cases e : (u : Int) < v
    · have := (h u e).1
      exact ⟨by omega, fun _ => by omega⟩
    · rw [show u = v.toNat by omega]
      exact ⟨Int.le_refl _, fun z => by omega⟩
  · by_cases e : (u : Int) < v
    · exact h u e
    · rw [show u = v.toNat by omega]
      exact ⟨by omega, fun z => by omega⟩

set_option maxHeartbeats 4000000 in
set_option maxRecDepth 100000 in
theorem c_X10_chooses {l : Launch} {D : va_G} {b0 : Nat} {n : Nat} {M : jM} {m q : Nat} {kp pn a9 on : Int} {σ lf H : Nat → Int} (hH : jPic M m (mhL m kp pn a9 on)) (hσ : jPic M q [aI 455 σ]) (hL : jPic M (m + 8) [aI 100 lf]) (hd1 : q ≠ m) (hd2 : q ≠ m + 8) {c : Int} (hc : c = 0 ∨ c = 1) (hh : ∀ v : Int, 0 ≤ v → v < 100 → σ (255 + 100 * c + v).toNat = H v.toNat) (hHb : jrF H 0 60) {mc : Int} (hmc : 0 ≤ mc ∧ mc ≤ 6) (hs5 : σ (5 : Int).toNat = mc) : jCtr l D b0 yX10_chooses cX10_chooses 6 none 1 0 0 [.ref m, .ref q, jI c] n M (fun v n2 M2 => none = v ∧ n = n2 ∧ (∃ (σ2 lf2 : Nat → Int) (cn : Int) (cv cr : Nat → Int), jPic M2 q [aI 455 σ2] ∧ jPic M2 (m + 8) [aI 100 lf2] ∧ cmQ H mc cn cv cr ∧ σ2 (210 + c).toNat = cn ∧ (∀ i8 : Int, 0 ≤ i8 → i8 < cn → σ2 (212 + 12 * c + 2 * i8).toNat = cv i8.toNat ∧ σ2 (212 + 12 * c + 2 * i8 + 1).toNat = H (cv i8.toNat).toNat) ∧ (∀ v : Nat, v < 100 → lf2 v = lfS H cv cn v) ∧ (∀ k : Nat, (k : Int) ≠ 210 + c → ¬ (212 + 12 * c ≤ (k : Int) ∧ (k : Int) < 224 + 12 * c) → σ2 k = σ k)) ∧ jtw M M2 q (m + 8)) := by
  refine jctr (lv := [some (.ref m), some (.ref q), some (jI c), none, none, none]) RX10 "chooses" rfl rfl (by decide) (Nat.le_of_ble_eq_true rfl) rfl ?_
  intro X h hR hX
  have hj := jtw.rf M q (m + 8)
  refine jk_iconst (q := 1) h dX10_chooses_0 rfl ?_
  refine jk_istore_n (q := 2) h dX10_chooses_1 rfl (Nat.le_of_ble_eq_true rfl) rfl rfl ?_
  have lp2 : ∀ (k9 : Nat) (v : Int) (M9 : jM) (hv1 : 0 ≤ v) (hv2 : v ≤ 100) (hH : jPic M9 m (mhL m kp pn a9 on)) (hσ : jPic M9 q [aI 455 σ]) (hL : jPic M9 (m + 8) [aI 100 (lyC σ lf c v)]) (hj : jtw M M9 q (m + 8)) (hk9 : (100 - v).toNat = k9), jJ X 2 [some (.ref (m)), some (.ref (q)), some (jI (c)), some (jI (v)), none, none] [] n M9 0 0 := by
    intro k9
    induction k9 using Nat.strongRecOn with
    | _ k9 ih2 =>
      intro v M9 hv1 hv2 hH hσ hL hj hk9
      refine jk_iload_n (q := 3) h dX10_chooses_2 rfl rfl ?_
      refine jk_bipush (q := 5) h dX10_chooses_3 (by decide) rfl ?_
      refine jk_icmp_ge (q := 8) (tgt := 26) h dX10_chooses_5 (by decide) rfl ⟨by omega, by omega⟩ ⟨by omega, by omega⟩ (fun c5 => ?_) (fun c5 => ?_)
      · obtain ⟨lf1, hlfe⟩ : ∃ l, lyC σ lf c v = l := ⟨_, rfl⟩
        have hlf1 : ∀ u : Nat, u < 100 → lf1 u = H u := fun u hu => by { rw [← hlfe]; unfold lyC; rw [if_pos (by omega), hh u (by omega) (by omega), Int.toNat_natCast] }
        rw [hlfe] at hL
        refine jk_aload_n (q := 27) h dX10_chooses_26 rfl rfl ?_
        refine jk_sipush (q := 30) h dX10_chooses_27 (by decide) rfl ?_
        refine jk_iload_n (q := 31) h dX10_chooses_30 rfl rfl ?_
        refine jk_iadd (q := 32) h dX10_chooses_31 rfl ?_
        refine jk_iconst (q := 33) h dX10_chooses_32 rfl ?_
        refine jk_iast (q := 34) h dX10_chooses_33 (hσ.at 0 rfl) (by omega) (by omega) rfl rfl (fun M_1 s_1 => ?_)
        have hH := hH.other s_1 1 rfl (by omega)
        have hσ := hσ.put (i := 0) s_1 rfl
        have hL := hL.other s_1 1 rfl (by omega)
        have hj := hj.stq s_1 (by omega)
        obtain ⟨σ1, hσ1⟩ : ∃ s, jfup σ (210 + c).toNat 0 = s := ⟨_, rfl⟩
        rw [hσ1] at hσ
        have e1 : ∀ k : Nat, k ≠ (210 + c).toNat → σ1 k = σ k := fun k hk => by { rw [← hσ1]; exact jfup_n _ _ hk }
        have e10 : σ1 (210 + c).toNat = 0 := by { rw [← hσ1]; exact jfup_s _ _ _ }
        refine jk_iconst (q := 35) h dX10_chooses_34 rfl ?_
        refine jk_istore_n (q := 36) h dX10_chooses_35 rfl (Nat.le_of_ble_eq_true rfl) rfl rfl ?_
        have lp36 : ∀ (k9 : Nat) (t : Int) (k : Int) (σ3 : Nat → Int) (lf3 : Nat → Int) (cv : Nat → Int) (M9 : jM) (ht : t = 0 ∨ t = 1) (hk1 : 0 ≤ k) (hk2 : k ≤ mc) (hH : jPic M9 m (mhL m kp pn a9 on)) (hσ : jPic M9 q [aI 455 σ3]) (hL : jPic M9 (m + 8) [aI 100 lf3]) (hci : chI H k cv) (hsn : σ3 (210 + c).toNat = k) (hsc : (∀ i8 : Int, 0 ≤ i8 → i8 < k → σ3 (212 + 12 * c + 2 * i8).toNat = cv i8.toNat ∧ σ3 (212 + 12 * c + 2 * i8 + 1).toNat = H (cv i8.toNat).toNat)) (hlf : ∀ v : Nat, v < 100 → lf3 v = lfS H cv k v) (hrg : (∀ k : Nat, (k : Int) ≠ 210 + c → ¬ (212 + 12 * c ≤ (k : Int) ∧ (k : Int) < 224 + 12 * c) → σ3 k = σ k)) (hte : t = 0 → ∀ v : Nat, v < 100 → 2 ≤ H v → ∃ j : Nat, (j : Int) < k ∧ cv j = v) (hj : jtw M M9 q (m + 8)) (hk9 : (2 * (mc - k) + t).toNat = k9), jJ X 36 [some (.ref (m)), some (.ref (q)), some (jI (c)), some (jI (t)), none, none] [] n M9 0 0 := by
          intro k9
          induction k9 using Nat.strongRecOn with
          | _ k9 ih36 =>
            intro t k σ3 lf3 cv M9 ht hk1 hk2 hH hσ hL hci hsn hsc hlf hrg hte hj hk9
            have h5 : σ3 (5 : Int).toNat = mc := (hrg _ (by omega) (by omega)).trans hs5
            refine jk_iload_n (q := 37) h dX10_chooses_36 rfl rfl ?_
            refine jk_if_eq (q := 40) (tgt := 180) h dX10_chooses_37 (by decide) rfl ⟨by omega, by omega⟩ (fun c37 => ?_) (fun c37 => ?_)
            · exact jk_vret h hR dX10_chooses_180 (Nat.le_of_ble_eq_true rfl) (Nat.le_of_ble_eq_true rfl) (by first | exact ⟨rfl, rfl, ⟨σ3, lf3, k, cv, fun j => H (cv j).toNat, hσ, hL, chI_q hci hk1 hk2 (fun _ _ => rfl) (Or.inr (hte (by omega))), hsn, hsc, hlf, hrg⟩, hj⟩ | exact ⟨rfl, rfl, ⟨σ3, lf3, k, cv, fun j => H (cv j).toNat, hσ, hL, chI_q hci hk1 hk2 (fun _ _ => rfl) (Or.inl (by omega)), hsn, hsc, hlf, hrg⟩, hj⟩)
            · refine jk_aload_n (q := 41) h dX10_chooses_40 rfl rfl ?_
              refine jk_sipush (q := 44) h dX10_chooses_41 (by decide) rfl ?_
              refine jk_iload_n (q := 45) h dX10_chooses_44 rfl rfl ?_
              refine jk_iadd (q := 46) h dX10_chooses_45 rfl ?_
              refine jk_ialdI (q := 47) h dX10_chooses_46 (hσ.at 0 rfl) (by omega) (by omega) rfl rfl ?_
              refine jk_aload_n (q := 48) h dX10_chooses_47 rfl rfl ?_
              refine jk_iconst (q := 49) h dX10_chooses_48 rfl ?_
              refine jk_ialdI (q := 50) h dX10_chooses_49 (hσ.at 0 rfl) (by omega) (by omega) rfl rfl ?_
              refine jk_icmp_ge (q := 53) (tgt := 180) h dX10_chooses_50 (by decide) rfl ⟨by omega, by omega⟩ ⟨by omega, by omega⟩ (fun c50 => ?_) (fun c50 => ?_)
              · exact jk_vret h hR dX10_chooses_180 (Nat.le_of_ble_eq_true rfl) (Nat.le_of_ble_eq_true rfl) (by first | exact ⟨rfl, rfl, ⟨σ3, lf3, k, cv, fun j => H (cv j).toNat, hσ, hL, chI_q hci hk1 hk2 (fun _ _ => rfl) (Or.inr (hte (by omega))), hsn, hsc, hlf, hrg⟩, hj⟩ | exact ⟨rfl, rfl, ⟨σ3, lf3, k, cv, fun j => H (cv j).toNat, hσ, hL, chI_q hci hk1 hk2 (fun _ _ => rfl) (Or.inl (by omega)), hsn, hsc, hlf, hrg⟩, hj⟩)
              · refine jk_iconst (q := 54) h dX10_chooses_53 rfl ?_
                refine jk_istore (q := 56) h dX10_chooses_54 rfl (Nat.le_of_ble_eq_true rfl) rfl rfl ?_
                refine jk_iconst (q := 57) h dX10_chooses_56 rfl ?_
                refine jk_istore (q := 59) h dX10_chooses_57 rfl (Nat.le_of_ble_eq_true rfl) rfl rfl ?_
                have lp59 : ∀ (k9 : Nat) (b : Int) (v : Int) (hb1 : 0 ≤ b) (hb2 : b < v) (hv2 : v ≤ 100) (hmb : mbI lf3 b v) (hk9 : (100 - v).toNat = k9), jJ X 59 [some (.ref (m)), some (.ref (q)), some (jI (c)), none, some (jI (b)), some (jI (v))] [] n M9 0 0 := by
                  intro k9
                  induction k9 using Nat.strongRecOn with
                  | _ k9 ih59 =>
                    intro b v hb1 hb2 hv2 hmb hk9
                    have hlb : ∀ u : Nat, u < 100 → 0 ≤ lf3 u ∧ lf3 u ≤ 60 := fun u hu => by { rw [hlf u hu]; unfold lfS; split; omega; exact hHb u }
                    have hlb1 := hlb b.toNat (by omega)
                    refine jk_iload (q := 61) h dX10_chooses_59 rfl rfl ?_
                    refine jk_bipush (q := 63) h dX10_chooses_61 (by decide) rfl ?_
                    refine jk_icmp_ge (q := 66) (tgt := 98) h dX10_chooses_63 (by decide) rfl ⟨by omega, by omega⟩ ⟨by omega, by omega⟩ (fun c63 => ?_) (fun c63 => ?_)
                    · have hv9 : v = 100 := by omega
                      rw [hv9] at hmb
                      have jn114 : ∀ (t9 : Int) (hT : (t9 = 1 ∧ 2 ≤ lf3 b.toNat) ∨ (t9 = 0 ∧ lf3 b.toNat < 2)), jJ X 114 [some (.ref (m)), some (.ref (q)), some (jI (c)), none, some (jI (b)), none] [jI t9] n M9 0 0 := by
                        intro t9 hT
                        refine jk_istore_n (q := 115) h dX10_chooses_114 rfl (Nat.le_of_ble_eq_true rfl) rfl rfl ?_
                        refine jk_iload_n (q := 116) h dX10_chooses_115 rfl rfl ?_
                        refine jk_if_eq (q := 119) (tgt := 177) h dX10_chooses_116 (by decide) rfl ⟨by omega, by omega⟩ (fun c116 => ?_) (fun c116 => ?_)
                        · have hce := chI_e hk1 hlf hmb (by omega)
                          have hkN : 0 ≤ k ∧ k ≤ mc := ⟨hk1, hk2⟩
                          have hciN := hci
                          have hsnN := hsn
                          have hscN := hsc
                          have hlfN := hlf
                          have hrgN := hrg
                          have hteN : t9 = 0 → ∀ v : Nat, v < 100 → 2 ≤ H v → ∃ j : Nat, (j : Int) < k ∧ cv j = v := fun _ => hce
                          refine jk_goto (q := 180) (tgt := 36) h dX10_chooses_177 (by decide) ?_
                          exact jk_weak (jwk_s rfl (jwk_s rfl (jwk_s rfl (jwk_s rfl (jwk_n (jwk_n jwk_0)))))) (ih36 _ (by omega) _ _ _ _ _ _ (by omega) hkN.1 hkN.2 hH hσ hL hciN hsnN hscN hlfN hrgN hteN hj rfl)
                        · have h2b : 2 ≤ lf3 b.toNat := by omega
                          obtain ⟨hci2, hHe, hlf2⟩ := chI_s hk1 hci hlf ⟨hb1, by omega⟩ hmb h2b
                          refine jk_sipush (q := 122) h dX10_chooses_119 (by decide) rfl ?_
                          refine jk_bipush (q := 124) h dX10_chooses_122 (by decide) rfl ?_
                          refine jk_iload_n (q := 125) h dX10_chooses_124 rfl rfl ?_
                          refine jk_imul (q := 126) h dX10_chooses_125 rfl ?_
                          refine jk_iadd (q := 127) h dX10_chooses_126 rfl ?_
                          refine jk_iconst (q := 128) h dX10_chooses_127 rfl ?_
                          refine jk_aload_n (q := 129) h dX10_chooses_128 rfl rfl ?_
                          refine jk_sipush (q := 132) h dX10_chooses_129 (by decide) rfl ?_
                          refine jk_iload_n (q := 133) h dX10_chooses_132 rfl rfl ?_
                          refine jk_iadd (q := 134) h dX10_chooses_133 rfl ?_
                          refine jk_ialdI (q := 135) h dX10_chooses_134 (hσ.at 0 rfl) (by omega) (by omega) rfl rfl ?_
                          refine jk_imul (q := 136) h dX10_chooses_135 rfl ?_
                          refine jk_iadd (q := 137) h dX10_chooses_136 rfl ?_
                          refine jk_istore (q := 139) h dX10_chooses_137 rfl (Nat.le_of_ble_eq_true rfl) rfl rfl ?_
                          refine jk_aload_n (q := 140) h dX10_chooses_139 rfl rfl ?_
                          refine jk_iload (q := 142) h dX10_chooses_140 rfl rfl ?_
                          refine jk_iload (q := 144) h dX10_chooses_142 rfl rfl ?_
                          refine jk_iast (q := 145) h dX10_chooses_144 (hσ.at 0 rfl) (by omega) (by omega) rfl rfl (fun M_2 s_2 => ?_)
                          have hH := hH.other s_2 1 rfl (by omega)
                          have hσ := hσ.put (i := 0) s_2 rfl
                          have hL := hL.other s_2 1 rfl (by omega)
                          have hj := hj.stq s_2 (by omega)
                          obtain ⟨σ4, hσ4⟩ : ∃ s, jfup σ3 (212 + 12 * c + 2 * σ3 (210 + c).toNat).toNat b = s := ⟨_, rfl⟩
                          rw [hσ4] at hσ
                          have e4 : ∀ j : Nat, j ≠ (212 + 12 * c + 2 * k).toNat → σ4 j = σ3 j := fun j hj => by { rw [← hσ4, hsn]; exact jfup_n _ _ hj }
                          have e4b : σ4 (212 + 12 * c + 2 * k).toNat = b := by { rw [← hσ4, hsn]; exact jfup_s _ _ _ }
                          refine jk_aload_n (q := 146) h dX10_chooses_145 rfl rfl ?_
                          refine jk_iload (q := 148) h dX10_chooses_146 rfl rfl ?_
                          refine jk_iconst (q := 149) h dX10_chooses_148 rfl ?_
                          refine jk_iadd (q := 150) h dX10_chooses_149 rfl ?_
                          refine jk_aload_n (q := 151) h dX10_chooses_150 rfl rfl ?_
                          refine jk_get (q := 154) h fg_X10_32 dX10_chooses_151 (hH.at 0 rfl) rfl rfl ?_
                          refine jk_iload (q := 156) h dX10_chooses_154 rfl rfl ?_
                          refine jk_ialdI (q := 157) h dX10_chooses_156 (hL.at 0 rfl) (by omega) (by omega) rfl rfl ?_
                          refine jk_iast (q := 158) h dX10_chooses_157 (hσ.at 0 rfl) (by omega) (by omega) rfl rfl (fun M_3 s_3 => ?_)
                          have hH := hH.other s_3 1 rfl (by omega)
                          have hσ := hσ.put (i := 0) s_3 rfl
                          have hL := hL.other s_3 1 rfl (by omega)
                          have hj := hj.stq s_3 (by omega)
                          obtain ⟨σ5, hσ5⟩ : ∃ s, jfup σ4 (212 + 12 * c + 2 * σ3 (210 + c).toNat + 1).toNat (lf3 b.toNat) = s := ⟨_, rfl⟩
                          rw [hσ5] at hσ
                          have e5 : ∀ j : Nat, j ≠ (212 + 12 * c + 2 * k + 1).toNat → σ5 j = σ4 j := fun j hj => by { rw [← hσ5, hsn]; exact jfup_n _ _ hj }
                          have e5b : σ5 (212 + 12 * c + 2 * k + 1).toNat = H b.toNat := by { rw [← hσ5, hsn, ← hHe]; exact jfup_s _ _ _ }
                          refine jk_aload_n (q := 159) h dX10_chooses_158 rfl rfl ?_
                          refine jk_get (q := 162) h fg_X10_32 dX10_chooses_159 (hH.at 0 rfl) rfl rfl ?_
                          refine jk_iload (q := 164) h dX10_chooses_162 rfl rfl ?_
                          refine jk_iconst (q := 165) h dX10_chooses_164 rfl ?_
                          refine jk_iast (q := 166) h dX10_chooses_165 (hL.at 0 rfl) (by omega) (by omega) rfl rfl (fun M_4 s_4 => ?_)
                          have hH := hH.other s_4 1 rfl (by omega)
                          have hσ := hσ.other s_4 1 rfl (by omega)
                          have hL := hL.put (i := 0) s_4 rfl
                          have hj := hj.stq s_4 (by omega)
                          refine jk_aload_n (q := 167) h dX10_chooses_166 rfl rfl ?_
                          refine jk_sipush (q := 170) h dX10_chooses_167 (by decide) rfl ?_
                          refine jk_iload_n (q := 171) h dX10_chooses_170 rfl rfl ?_
                          refine jk_iadd (q := 172) h dX10_chooses_171 rfl ?_
                          refine jk_dup2 (q := 173) h dX10_chooses_172 rfl rfl rfl ?_
                          refine jk_ialdI (q := 174) h dX10_chooses_173 (hσ.at 0 rfl) (by omega) (by omega) rfl rfl ?_
                          refine jk_iconst (q := 175) h dX10_chooses_174 rfl ?_
                          refine jk_iadd (q := 176) h dX10_chooses_175 rfl ?_
                          refine jk_iast (q := 177) h dX10_chooses_176 (hσ.at 0 rfl) (by omega) (by omega) rfl rfl (fun M_5 s_5 => ?_)
                          have hH := hH.other s_5 1 rfl (by omega)
                          have hσ := hσ.put (i := 0) s_5 rfl
                          have hL := hL.other s_5 1 rfl (by omega)
                          have hj := hj.stq s_5 (by omega)
                          obtain ⟨σ6, hσ6⟩ : ∃ s, jfup σ5 (210 + c).toNat (σ5 (210 + c).toNat + 1) = s := ⟨_, rfl⟩
                          rw [hσ6] at hσ
                          have e6 : ∀ j : Nat, j ≠ (210 + c).toNat → σ6 j = σ5 j := fun j hj => by { rw [← hσ6]; exact jfup_n _ _ hj }
                          have e6b : σ6 (210 + c).toNat = k + 1 := by { rw [← hσ6, jfup_s, e5 _ (by omega), e4 _ (by omega), hsn] }
                          have hsc6 : (∀ i8 : Int, 0 ≤ i8 → i8 < k + 1 → σ6 (212 + 12 * c + 2 * i8).toNat = jfup cv k.toNat b i8.toNat ∧ σ6 (212 + 12 * c + 2 * i8 + 1).toNat = H (jfup cv k.toNat b i8.toNat).toNat) := fun j h0 h1 => by
                            by_cases hjk : j < k
                            · rw [jfup_n _ _ (by omega), e6 _ (by omega), e5 _ (by omega), e4 _ (by omega), e6 _ (by omega), e5 _ (by omega), e4 _ (by omega)]; exact hsc j h0 hjk
                            · rw [show j = k by omega, jfup_s, e6 _ (by omega), e5 _ (by omega), e4b, e6 _ (by omega)]; exact ⟨rfl, e5b⟩
                          have hrg6 : (∀ k : Nat, (k : Int) ≠ 210 + c → ¬ (212 + 12 * c ≤ (k : Int) ∧ (k : Int) < 224 + 12 * c) → σ6 k = σ k) := fun j h1 h2 => ((e6 j (by omega)).trans (e5 j (by omega))).trans ((e4 j (by omega)).trans (hrg j h1 h2))
                          have hkN : 0 ≤ k + 1 ∧ k + 1 ≤ mc := ⟨by omega, by omega⟩
                          have hciN := hci2
                          have hsnN := e6b
                          have hscN := hsc6
                          have hlfN := hlf2
                          have hrgN := hrg6
                          have hteN : t9 = 0 → ∀ v : Nat, v < 100 → 2 ≤ H v → ∃ j : Nat, (j : Int) < k + 1 ∧ jfup cv k.toNat b j = v := fun z => by omega
                          refine jk_goto (q := 180) (tgt := 36) h dX10_chooses_177 (by decide) ?_
                          exact jk_weak (jwk_s rfl (jwk_s rfl (jwk_s rfl (jwk_s rfl (jwk_n (jwk_n jwk_0)))))) (ih36 _ (by omega) _ _ _ _ _ _ (by omega) hkN.1 hkN.2 hH hσ hL hciN hsnN hscN hlfN hrgN hteN hj rfl)
                      refine jk_aload_n (q := 99) h dX10_chooses_98 rfl rfl ?_
                      refine jk_get (q := 102) h fg_X10_32 dX10_chooses_99 (hH.at 0 rfl) rfl rfl ?_
                      refine jk_iload (q := 104) h dX10_chooses_102 rfl rfl ?_
                      refine jk_ialdI (q := 105) h dX10_chooses_104 (hL.at 0 rfl) (by omega) (by omega) rfl rfl ?_
                      refine jk_iconst (q := 106) h dX10_chooses_105 rfl ?_
                      refine jk_icmp_lt (q := 109) (tgt := 113) h dX10_chooses_106 (by decide) rfl ⟨by omega, by omega⟩ ⟨by omega, by omega⟩ (fun c106 => ?_) (fun c106 => ?_)
                      · refine jk_iconst (q := 114) h dX10_chooses_113 rfl ?_
                        exact jk_weak (jwk_s rfl (jwk_s rfl (jwk_s rfl (jwk_n (jwk_s rfl (jwk_n jwk_0)))))) (jn114 _ (by omega))
                      · refine jk_iconst (q := 110) h dX10_chooses_109 rfl ?_
                        refine jk_goto (q := 113) (tgt := 114) h dX10_chooses_110 (by decide) ?_
                        exact jk_weak (jwk_s rfl (jwk_s rfl (jwk_s rfl (jwk_n (jwk_s rfl (jwk_n jwk_0)))))) (jn114 _ (by omega))
                    · have hlb2 := hlb v.toNat (by omega)
                      refine jk_aload_n (q := 67) h dX10_chooses_66 rfl rfl ?_
                      refine jk_get (q := 70) h fg_X10_32 dX10_chooses_67 (hH.at 0 rfl) rfl rfl ?_
                      refine jk_iload (q := 72) h dX10_chooses_70 rfl rfl ?_
                      refine jk_ialdI (q := 73) h dX10_chooses_72 (hL.at 0 rfl) (by omega) (by omega) rfl rfl ?_
                      refine jk_aload_n (q := 74) h dX10_chooses_73 rfl rfl ?_
                      refine jk_get (q := 77) h fg_X10_32 dX10_chooses_74 (hH.at 0 rfl) rfl rfl ?_
                      refine jk_iload (q := 79) h dX10_chooses_77 rfl rfl ?_
                      refine jk_ialdI (q := 80) h dX10_chooses_79 (hL.at 0 rfl) (by omega) (by omega) rfl rfl ?_
                      refine jk_icmp_le (q := 83) (tgt := 88) h dX10_chooses_80 (by decide) rfl ⟨by omega, by omega⟩ ⟨by omega, by omega⟩ (fun c80 => ?_) (fun c80 => ?_)
                      · refine jk_iload (q := 90) h dX10_chooses_88 rfl rfl ?_
                        refine jk_istore (q := 92) h dX10_chooses_90 rfl (Nat.le_of_ble_eq_true rfl) rfl rfl ?_
                        refine jk_iinc (q := 95) h dX10_chooses_92 rfl rfl rfl rfl ?_
                        refine jk_goto (q := 98) (tgt := 59) h dX10_chooses_95 (by decide) ?_
                        exact jk_weak (jwk_s rfl (jwk_s rfl (jwk_s rfl (jwk_n (jwk_s rfl (jwk_s rfl jwk_0)))))) (ih59 _ (by omega) _ _ (by omega) (by omega) (by omega) (by first | exact (mbI_s hmb (by omega)).1 (Int.not_le.mp c80) | exact (mbI_s hmb (by omega)).2 (Int.not_lt.mpr c80) (by omega)) rfl)
                      · refine jk_iload (q := 85) h dX10_chooses_83 rfl rfl ?_
                        refine jk_goto (q := 88) (tgt := 90) h dX10_chooses_85 (by decide) ?_
                        refine jk_istore (q := 92) h dX10_chooses_90 rfl (Nat.le_of_ble_eq_true rfl) rfl rfl ?_
                        refine jk_iinc (q := 95) h dX10_chooses_92 rfl rfl rfl rfl ?_
                        refine jk_goto (q := 98) (tgt := 59) h dX10_chooses_95 (by decide) ?_
                        exact jk_weak (jwk_s rfl (jwk_s rfl (jwk_s rfl (jwk_n (jwk_s rfl (jwk_s rfl jwk_0)))))) (ih59 _ (by omega) _ _ (by omega) (by omega) (by omega) (by first | exact (mbI_s hmb (by omega)).1 (Int.not_le.mp c80) | exact (mbI_s hmb (by omega)).2 (Int.not_lt.mpr c80) (by omega)) rfl)
                exact jk_weak (jwk_s rfl (jwk_s rfl (jwk_s rfl (jwk_n (jwk_s rfl (jwk_s rfl jwk_0)))))) (lp59 _ 0 1 (by omega) (by omega) (by omega) (fun u hu => by rw [show u = 0 by omega]; exact ⟨Int.le_refl _, fun z => by omega⟩) rfl)
        exact jk_weak (jwk_s rfl (jwk_s rfl (jwk_s rfl (jwk_s rfl (jwk_n (jwk_n jwk_0)))))) (lp36 _ 1 0 σ1 lf1 jz _ (by omega) (by omega) (by omega) hH hσ hL (chI_0 H jz) e10 (fun k h0 h1 => absurd h1 (by omega)) (fun v hv => by rw [(lfS_at (by decide) v).2 (fun ⟨j, hj9, _⟩ => absurd hj9 (by omega))]; exact hlf1 v hv) (fun k h1 _ => e1 k (by omega)) (fun z => absurd z (by decide)) hj rfl)
      · refine jk_aload_n (q := 9) h dX10_chooses_8 rfl rfl ?_
        refine jk_get (q := 12) h fg_X10_32 dX10_chooses_9 (hH.at 0 rfl) rfl rfl ?_
        refine jk_iload_n (q := 13) h dX10_chooses_12 rfl rfl ?_
        refine jk_aload_n (q := 14) h dX10_chooses_13 rfl rfl ?_
        refine jk_iload_n (q := 15) h dX10_chooses_14 rfl rfl ?_
        refine jk_iload_n (q := 16) h dX10_chooses_15 rfl rfl ?_
        refine jk_callS (q := 19) h hX (c_X10_had hσ (by omega) (by omega)) ms_X10_had dX10_chooses_16 ml_X10_50 ⟨rfl, Nat.le_refl _⟩ rfl rfl (Nat.le_of_ble_eq_true rfl) (Nat.le_of_ble_eq_true rfl) rfl rfl (Nat.le_of_ble_eq_true rfl) rfl (fun v9 n9 M9 hp9 => ?_)
        obtain ⟨rfl, rfl, rfl⟩ := hp9
        refine jk_iast (q := 20) h dX10_chooses_19 (hL.at 0 rfl) (by omega) (by omega) rfl rfl (fun M_6 s_6 => ?_)
        have hH := hH.other s_6 1 rfl (by omega)
        have hσ := hσ.other s_6 1 rfl (by omega)
        have hL := hL.put (i := 0) s_6 rfl
        have hj := hj.stq s_6 (by omega)
        refine jk_iinc (q := 23) h dX10_chooses_20 rfl rfl rfl rfl ?_
        refine jk_goto (q := 26) (tgt := 2) h dX10_chooses_23 (by decide) ?_
        exact jk_weak (jwk_s rfl (jwk_s rfl (jwk_s rfl (jwk_s rfl (jwk_n (jwk_n jwk_0)))))) (ih2 _ (by omega) _ _ (by omega) (by omega) hH hσ (by rw [← lyC_s hv1]; exact hL) hj rfl)
  exact jk_weak (jwk_s rfl (jwk_s rfl (jwk_s rfl (jwk_s rfl (jwk_n (jwk_n jwk_0)))))) (lp2 _ _ _ (by omega) (by omega) hH hσ (by rw [lyC_0]; exact hL) hj rfl)
