/-! the reference: buckets are cut -/
theorem ovl_t1 {L : Nat → Int} (h : ∀ k, 0 ≤ L k) {v : Nat} {s p : Int} (hv : v < 100) (h1 : sm L v ≤ s) (h2 : s < p) (h3 : p ≤ sm L (v + 1)) : ovl L s p = 1 := by
  unfold ovl
  have e := sm_cong (f := fun u => if 0 < L u ∧ sm L u < p ∧ s < sm L (u + 1) then (1 : Int) else 0) (g := fun u => if u = v then 1 else 0) (n := 100) (fun u _ => by
    show (if _ then _ else _) = (if _ then _ else _)
    by_cases e : u = v
    · subst e
      have hl : sm L (u + 1) = sm L u + L u := rfl
      rw [if_pos ⟨by omega, by omega, by omega⟩, if_pos rfl]
    · rw [if_neg e, if_neg]
      rintro ⟨q1, q2, q3⟩
      rcases Nat.lt_trichotomy u v with g | g | g
      · have := sm_mono h (m := u + 1) (n := v) (by omega)
        omega
      · exact e g
      · have := sm_mono h (m := v + 1) (n := u) (by omega)
        omega)
  rw [e, sm_one hv]
theorem ovl_t2 {L : Nat → Int} (h : ∀ k, 0 ≤ L k) {v : Nat} {s p r : Int} (hv : v < 100) (h1 : sm L v = p) (hs : s < p) (h2 : p < r) (h3 : r ≤ sm L (v + 1)) : ovl L s r = ovl L s p + 1 := by
  unfold ovl
  have e := sm_cong (f := fun u => if 0 < L u ∧ sm L u < r ∧ s < sm L (u + 1) then (1 : Int) else 0) (g := fun u => (if 0 < L u ∧ sm L u < p ∧ s < sm L (u + 1) then (1 : Int) else 0) + (if u = v then 1 else 0)) (n := 100) (fun u _ => by
    show (if _ then _ else _) = (if _ then _ else _) + (if _ then _ else _)
    by_cases e : u = v
    · subst e
      have hl : sm L (u + 1) = sm L u + L u := rfl
      rw [if_pos ⟨by omega, by omega, by omega⟩, if_neg (by omega), if_pos rfl]
      rfl
    · rw [if_neg e, Int.add_zero]
      by_cases q : 0 < L u ∧ sm L u < p ∧ s < sm L (u + 1)
      · rw [if_pos q, if_pos ⟨q.1, by omega, q.2.2⟩]
      · rw [if_neg q, if_neg]
        rintro ⟨q1, q2, q3⟩
        rcases Nat.lt_trichotomy u v with g | g | g
        · have := sm_mono h (m := u + 1) (n := v) (by omega)
          have hl : sm L (u + 1) = sm L u + L u := rfl
          exact q ⟨q1, by omega, q3⟩
        · exact e g
        · have := sm_mono h (m := v + 1) (n := u) (by omega)
          omega)
  rw [e, sm_add, sm_one hv]
/-- as far as p the values are used up: v is the next -/
def lvQ (L lf : Nat → Int) (p v : Int) : Prop := (0 ≤ v ∧ v ≤ 100) ∧ sm L v.toNat ≤ p ∧ (v < 100 → p ≤ sm L (v.toNat + 1) ∧ lf v.toNat = sm L (v.toNat + 1) - p) ∧ ∀ u : Nat, v < (u : Int) → u < 100 → lf u = L u
theorem lvQ_0 {L lf : Nat → Int} (h : ∀ u : Nat, u < 100 → lf u = L u) (hL : ∀ k, 0 ≤ L k) : lvQ L lf 0 0 := ⟨by decide, Int.le_refl _, fun _ => ⟨by have := hL 0; show 0 ≤ sm L 0 + L 0; show 0 ≤ 0 + L 0; omega, by show lf 0 = sm L 0 + L 0 - 0; have := h 0 (by decide); show lf 0 = 0 + L 0 - 0; omega⟩, fun u _ hu => h u hu⟩
theorem lvQ_t {L lf : Nat → Int} {p v t : Int} (h : lvQ L lf p v) (hv : v < 100) (ht : 0 ≤ t) (hl : t ≤ lf v.toNat) : lvQ L (jfup lf v.toNat (lf v.toNat - t)) (p + t) v := by
  obtain ⟨a1, a2, a3, a4⟩ := h
  obtain ⟨b1, b2⟩ := a3 hv
  exact ⟨a1, by omega, fun _ => ⟨by omega, by rw [jfup_s]; omega⟩, fun u hu hu2 => by rw [jfup_n _ _ (by omega)]; exact a4 u hu hu2⟩
theorem lvQ_n {L lf : Nat → Int} {p v : Int} (h : lvQ L lf p v) (hL : ∀ k, 0 ≤ L k) (hv : v < 100) (hz : lf v.toNat = 0) : lvQ L lf p (v + 1) ∧ sm L (v + 1).toNat = p := by
  obtain ⟨a1, a2, a3, a4⟩ := h
  obtain ⟨b1, b2⟩ := a3 hv
  have e : (v + 1).toNat = v.toNat + 1 := by omega
  refine ⟨⟨by omega, by rw [e]; omega, fun h9 => ?_, fun u hu hu2 => a4 u (by omega) hu2⟩, by rw [e]; omega⟩
  rw [e]
  have h7 := a4 (v.toNat + 1) (by omega) (by omega)
  have h8 : sm L (v.toNat + 1 + 1) = sm L (v.toNat + 1) + L (v.toNat + 1) := rfl
  have h6 := hL (v.toNat + 1)
  exact ⟨by omega, by omega⟩
/-- a bucket that begins behind s is filled as far as p -/
def bkP (L : Nat → Int) (s p a0 a1 a3 : Int) : Prop := (p = s ∧ a0 = -6 ∧ a3 = 0) ∨ (s < p ∧ (0 ≤ a0 ∧ a0 ≤ 99) ∧ (0 ≤ a1 ∧ a1 ≤ 99) ∧ (sm L a0.toNat ≤ s ∧ s < sm L (a0.toNat + 1)) ∧ (sm L a1.toNat ≤ p - 1 ∧ p - 1 < sm L (a1.toNat + 1)) ∧ a3 = ovl L s p)
theorem bkP_0 {L : Nat → Int} {s p a0 a1 a3 : Int} (h : bkP L s p a0 a1 a3) : -6 ≤ a0 ∧ a0 ≤ 99 := by
  rcases h with ⟨e1, e2, e3⟩ | ⟨e1, e2, e3, e4, e5, e6⟩ <;> omega
def cnP (L : Nat → Int) (s p e v : Int) : Prop := s < p → sm L v.toNat = p ∨ p = e
theorem bkP_s {L : Nat → Int} (hL : ∀ k, 0 ≤ L k) {s p a0 a1 a3 v t : Int} (h : bkP L s p a0 a1 a3) (hv : 0 ≤ v ∧ v < 100) (h1 : sm L v.toNat ≤ p) (h2 : p + t ≤ sm L (v.toNat + 1)) (ht : 0 < t) (hc : s < p → sm L v.toNat = p) : bkP L s (p + t) (if a0 = -6 then v else a0) v (a3 + 1) := by
  rcases h with ⟨e1, e2, e3⟩ | ⟨e1, e2, e3, e4, e5, e6⟩
  · subst e1
    rw [if_pos e2]
    exact Or.inr ⟨by omega, by omega, by omega, by omega, by omega, by rw [e3, ovl_t1 hL (v := v.toNat) (by omega) h1 (by omega) h2]; rfl⟩
  · rw [if_neg (by omega)]
    exact Or.inr ⟨by omega, e2, by omega, e4, by omega, by rw [e6, ovl_t2 hL (v := v.toNat) (by omega) (hc e1) e1 (by omega) h2]⟩
theorem bkP_e {L : Nat → Int} {s p a0 a1 a3 : Int} (h : bkP L s p a0 a1 a3) (hs : s < p) : bS L s p a0 a1 (p - s) a3 := by
  rcases h with ⟨e1, -⟩ | ⟨e1, e2, e3, e4, e5, e6⟩
  · omega
  · exact ⟨e2, e3, e4, e5, rfl, e6⟩

set_option maxHeartbeats 4000000 in
set_option maxRecDepth 100000 in
theorem c_X10_cuts {l : Launch} {D : va_G} {b0 : Nat} {n : Nat} {M : jM} {m q : Nat} {kp pn a9 on : Int} {σ lf L : Nat → Int} (hH : jPic M m (mhL m kp pn a9 on)) (hσ : jPic M q [aI 455 σ]) (hL : jPic M (m + 8) [aI 100 lf]) (hd1 : q ≠ m) (hd2 : q ≠ m + 8) {c : Int} (hc : c = 0 ∨ c = 1) (hlf : ∀ u : Nat, u < 100 → lf u = L u) (hL0 : ∀ k, 0 ≤ L k) {all mb mn : Int} (hall : sm L 100 = all) (ha60 : all ≤ 60) (hmb : 1 ≤ mb ∧ mb ≤ 10) (hs4 : σ (4 : Int).toNat = mb) (hmn : mn = if all < mb then all else mb) : jCtr l D b0 yX10_cuts cX10_cuts 10 none 0 0 0 [.ref m, .ref q, jI c] n M (fun v n2 M2 => none = v ∧ n = n2 ∧ (∃ (σ2 lf2 : Nat → Int), jPic M2 q [aI 455 σ2] ∧ jPic M2 (m + 8) [aI 100 lf2] ∧ σ2 (128 + c).toNat = mn ∧ (∀ i8 : Int, 0 ≤ i8 → i8 < mn → bS L (stB all mn i8.toNat) (stB all mn (i8.toNat + 1)) (σ2 (130 + 40 * c + 4 * i8).toNat) (σ2 (130 + 40 * c + 4 * i8 + 1).toNat) (σ2 (130 + 40 * c + 4 * i8 + 2).toNat) (σ2 (130 + 40 * c + 4 * i8 + 3).toNat)) ∧ (∀ k : Nat, (k : Int) ≠ 128 + c → ¬ (130 + 40 * c ≤ (k : Int) ∧ (k : Int) < 170 + 40 * c) → σ2 k = σ k)) ∧ jtw M M2 q (m + 8)) := by
  refine jctr (lv := [some (.ref m), some (.ref q), some (jI c), none, none, none, none, none, none, none]) RX10 "cuts" rfl rfl (by decide) (Nat.le_of_ble_eq_true rfl) rfl ?_
  intro X h hR hX
  have hj := jtw.rf M q (m + 8)
  have hall0 : 0 ≤ all := by { rw [← hall]; exact sm_nn hL0 _ }
  have hmnb : 0 ≤ mn ∧ mn ≤ 10 ∧ mn ≤ all := by { rw [hmn]; split <;> omega }
  have hLb : ∀ u : Nat, u < 100 → L u ≤ 60 := fun u hu => by { have h1 := sm_mono hL0 (m := u + 1) (n := 100) (by omega); have h2 : sm L (u + 1) = sm L u + L u := rfl; have h3 := sm_nn hL0 u; omega }
  have jn42 : ∀ (z : Int) (hz : z = mn), jJ X 42 [some (.ref (m)), some (.ref (q)), some (jI (c)), some (jI (all)), none, none, none, none, none, none] [jI z] n M 0 0 := by
    intro z hz
    subst hz
    clear hmn
    refine jk_istore (q := 44) h dX10_cuts_42 rfl (Nat.le_of_ble_eq_true rfl) rfl rfl ?_
    refine jk_aload_n (q := 45) h dX10_cuts_44 rfl rfl ?_
    refine jk_sipush (q := 48) h dX10_cuts_45 (by decide) rfl ?_
    refine jk_iload_n (q := 49) h dX10_cuts_48 rfl rfl ?_
    refine jk_iadd (q := 50) h dX10_cuts_49 rfl ?_
    refine jk_iload (q := 52) h dX10_cuts_50 rfl rfl ?_
    refine jk_iast (q := 53) h dX10_cuts_52 (hσ.at 0 rfl) (by omega) (by omega) rfl rfl (fun M_1 s_1 => ?_)
    have hH := hH.other s_1 1 rfl (by omega)
    have hσ := hσ.put (i := 0) s_1 rfl
    have hL := hL.other s_1 1 rfl (by omega)
    have hj := hj.stq s_1 (by omega)
    obtain ⟨σ1, hσ1⟩ : ∃ s9, jfup σ (128 + c).toNat (z) = s9 := ⟨_, rfl⟩
    rw [hσ1] at hσ
    have e1 : ∀ j : Nat, j ≠ (128 + c).toNat → σ1 j = σ j := fun j hj => by { rw [← hσ1]; exact jfup_n _ _ hj }
    have e1v : σ1 (128 + c).toNat = z := by { rw [← hσ1]; exact jfup_s _ _ _ }
    refine jk_iconst (q := 54) h dX10_cuts_53 rfl ?_
    refine jk_istore (q := 56) h dX10_cuts_54 rfl (Nat.le_of_ble_eq_true rfl) rfl rfl ?_
    refine jk_iconst (q := 57) h dX10_cuts_56 rfl ?_
    refine jk_istore (q := 59) h dX10_cuts_57 rfl (Nat.le_of_ble_eq_true rfl) rfl rfl ?_
    have lp59 : ∀ (k9 : Nat) (b : Int) (v : Int) (σ3 : Nat → Int) (lf3 : Nat → Int) (M9 : jM) (hb1 : 0 ≤ b) (hb2 : b ≤ z) (hH : jPic M9 m (mhL m kp pn a9 on)) (hσ : jPic M9 q [aI 455 σ3]) (hL : jPic M9 (m + 8) [aI 100 lf3]) (hlv : lvQ L lf3 (stB all z b.toNat) v) (hdn : (∀ i8 : Int, 0 ≤ i8 → i8 < b → bS L (stB all z i8.toNat) (stB all z (i8.toNat + 1)) (σ3 (130 + 40 * c + 4 * i8).toNat) (σ3 (130 + 40 * c + 4 * i8 + 1).toNat) (σ3 (130 + 40 * c + 4 * i8 + 2).toNat) (σ3 (130 + 40 * c + 4 * i8 + 3).toNat))) (hrg : (∀ k : Nat, (k : Int) ≠ 128 + c → ¬ (130 + 40 * c ≤ (k : Int) ∧ (k : Int) < 170 + 40 * c) → σ3 k = σ k)) (hsn : σ3 (128 + c).toNat = z) (hj : jtw M M9 q (m + 8)) (hk9 : (z - b).toNat = k9), jJ X 59 [some (.ref (m)), some (.ref (q)), some (jI (c)), some (jI (all)), some (jI (z)), some (jI (v)), some (jI (b)), none, none, none] [] n M9 0 0 := by
      intro k9
      induction k9 using Nat.strongRecOn with
      | _ k9 ih59 =>
        intro b v σ3 lf3 M9 hb1 hb2 hH hσ hL hlv hdn hrg hsn hj hk9
        refine jk_iload (q := 61) h dX10_cuts_59 rfl rfl ?_
        refine jk_iload (q := 63) h dX10_cuts_61 rfl rfl ?_
        refine jk_icmp_ge (q := 66) (tgt := 247) h dX10_cuts_63 (by decide) rfl ⟨by omega, by omega⟩ ⟨by omega, by omega⟩ (fun c63 => ?_) (fun c63 => ?_)
        · exact jk_vret h hR dX10_cuts_247 (Nat.le_of_ble_eq_true rfl) (Nat.le_of_ble_eq_true rfl) (by
                have hbz : b = z := by omega
                subst hbz
                exact ⟨rfl, rfl, ⟨σ3, lf3, hσ, hL, hsn, hdn, hrg⟩, hj⟩)
        · obtain ⟨s0, hs0⟩ : ∃ s9, stB all z b.toNat = s9 := ⟨_, rfl⟩
          obtain ⟨e0, he0⟩ : ∃ s9, stB all z (b.toNat + 1) = s9 := ⟨_, rfl⟩
          have hse : s0 < e0 := by { rw [← hs0, ← he0]; exact stB_lt (by omega) (by omega) _ }
          have hea : e0 ≤ all := by { have q1 := stB_mono (all := all) (bn := z) (by omega) (by omega) (a := b.toNat + 1) (b := z.toNat) (by omega); have q2 := stB_n (all := all) (bn := z) (by omega) hall0; omega }
          have hmd : 0 ≤ all % z ∧ all % z < z := ⟨Int.emod_nonneg _ (by omega), Int.emod_lt_of_pos _ (by omega)⟩
          have hs00 : 0 ≤ s0 := by { rw [← hs0]; exact stB_0 (by omega) (by omega) _ }
          have hef : e0 = s0 + fhS all z b := by { rw [← hs0, ← he0]; show stB all z b.toNat + fhS all z ((b.toNat : Nat) : Int) = _; rw [show ((b.toNat : Nat) : Int) = b by omega] }
          rw [hs0] at hlv
          have hdv := jdivb (x := all) (d := z) (A := 60) hall0 ha60 (by omega)
          refine jk_sipush (q := 69) h dX10_cuts_66 (by decide) rfl ?_
          refine jk_bipush (q := 71) h dX10_cuts_69 (by decide) rfl ?_
          refine jk_iload_n (q := 72) h dX10_cuts_71 rfl rfl ?_
          refine jk_imul (q := 73) h dX10_cuts_72 rfl ?_
          refine jk_iadd (q := 74) h dX10_cuts_73 rfl ?_
          refine jk_iconst (q := 75) h dX10_cuts_74 rfl ?_
          refine jk_iload (q := 77) h dX10_cuts_75 rfl rfl ?_
          refine jk_imul (q := 78) h dX10_cuts_77 rfl ?_
          refine jk_iadd (q := 79) h dX10_cuts_78 rfl ?_
          refine jk_istore (q := 81) h dX10_cuts_79 rfl (Nat.le_of_ble_eq_true rfl) rfl rfl ?_
          have jn99 : ∀ (y : Int) (hy : y = if b < all % z then 1 else 0), jJ X 99 [some (.ref (m)), some (.ref (q)), some (jI (c)), some (jI (all)), some (jI (z)), some (jI (v)), some (jI (b)), some (jI (130 + 40 * c + 4 * b)), none, none] [jI y, jI (all / z)] n M9 0 0 := by
            intro y hy
            refine jk_iadd (q := 100) h dX10_cuts_99 rfl ?_
            refine jk_istore (q := 102) h dX10_cuts_100 rfl (Nat.le_of_ble_eq_true rfl) rfl rfl ?_
            refine jk_aload_n (q := 103) h dX10_cuts_102 rfl rfl ?_
            refine jk_iload (q := 105) h dX10_cuts_103 rfl rfl ?_
            refine jk_bipush (q := 107) h dX10_cuts_105 (by decide) rfl ?_
            refine jk_iast (q := 108) h dX10_cuts_107 (hσ.at 0 rfl) (by omega) (by omega) rfl rfl (fun M_2 s_2 => ?_)
            have hH := hH.other s_2 1 rfl (by omega)
            have hσ := hσ.put (i := 0) s_2 rfl
            have hL := hL.other s_2 1 rfl (by omega)
            have hj := hj.stq s_2 (by omega)
            obtain ⟨σ31, hσ31⟩ : ∃ s9, jfup σ3 (130 + 40 * c + 4 * b).toNat (-6) = s9 := ⟨_, rfl⟩
            rw [hσ31] at hσ
            have ea : ∀ j : Nat, j ≠ (130 + 40 * c + 4 * b).toNat → σ31 j = σ3 j := fun j hj => by { rw [← hσ31]; exact jfup_n _ _ hj }
            have eav : σ31 (130 + 40 * c + 4 * b).toNat = -6 := by { rw [← hσ31]; exact jfup_s _ _ _ }
            refine jk_aload_n (q := 109) h dX10_cuts_108 rfl rfl ?_
            refine jk_iload (q := 111) h dX10_cuts_109 rfl rfl ?_
            refine jk_iconst (q := 112) h dX10_cuts_111 rfl ?_
            refine jk_iadd (q := 113) h dX10_cuts_112 rfl ?_
            refine jk_iload (q := 115) h dX10_cuts_113 rfl rfl ?_
            refine jk_iast (q := 116) h dX10_cuts_115 (hσ.at 0 rfl) (by omega) (by omega) rfl rfl (fun M_3 s_3 => ?_)
            have hH := hH.other s_3 1 rfl (by omega)
            have hσ := hσ.put (i := 0) s_3 rfl
            have hL := hL.other s_3 1 rfl (by omega)
            have hj := hj.stq s_3 (by omega)
            obtain ⟨σ32, hσ32⟩ : ∃ s9, jfup σ31 (130 + 40 * c + 4 * b + 2).toNat (all / z + y) = s9 := ⟨_, rfl⟩
            rw [hσ32] at hσ
            have eb : ∀ j : Nat, j ≠ (130 + 40 * c + 4 * b + 2).toNat → σ32 j = σ31 j := fun j hj => by { rw [← hσ32]; exact jfup_n _ _ hj }
            have ebv : σ32 (130 + 40 * c + 4 * b + 2).toNat = all / z + y := by { rw [← hσ32]; exact jfup_s _ _ _ }
            refine jk_aload_n (q := 117) h dX10_cuts_116 rfl rfl ?_
            refine jk_iload (q := 119) h dX10_cuts_117 rfl rfl ?_
            refine jk_iconst (q := 120) h dX10_cuts_119 rfl ?_
            refine jk_iadd (q := 121) h dX10_cuts_120 rfl ?_
            refine jk_iconst (q := 122) h dX10_cuts_121 rfl ?_
            refine jk_iast (q := 123) h dX10_cuts_122 (hσ.at 0 rfl) (by omega) (by omega) rfl rfl (fun M_4 s_4 => ?_)
            have hH := hH.other s_4 1 rfl (by omega)
            have hσ := hσ.put (i := 0) s_4 rfl
            have hL := hL.other s_4 1 rfl (by omega)
            have hj := hj.stq s_4 (by omega)
            obtain ⟨σ33, hσ33⟩ : ∃ s9, jfup σ32 (130 + 40 * c + 4 * b + 3).toNat (0) = s9 := ⟨_, rfl⟩
            rw [hσ33] at hσ
            have ed : ∀ j : Nat, j ≠ (130 + 40 * c + 4 * b + 3).toNat → σ33 j = σ32 j := fun j hj => by { rw [← hσ33]; exact jfup_n _ _ hj }
            have edv : σ33 (130 + 40 * c + 4 * b + 3).toNat = 0 := by { rw [← hσ33]; exact jfup_s _ _ _ }
            have hk0 : σ33 (130 + 40 * c + 4 * b).toNat = -6 := ((ed _ (by omega)).trans (eb _ (by omega))).trans eav
            have hk3 : σ33 (130 + 40 * c + 4 * b + 3).toNat = 0 := edv
            have hfs : fhS all z b = all / z + y := by { rw [hy]; rfl }
            have hk22 : σ33 (130 + 40 * c + 4 * b + 2).toNat = e0 - s0 := by { rw [ed _ (by omega), ebv]; omega }
            have hfr : ∀ j : Nat, ¬ (130 + 40 * c + 4 * b ≤ (j : Int) ∧ (j : Int) < 130 + 40 * c + 4 * b + 4) → σ33 j = σ3 j := fun j hj => ((ed j (by omega)).trans (eb j (by omega))).trans (ea j (by omega))
            have hdn4 : (∀ i8 : Int, 0 ≤ i8 → i8 < b → bS L (stB all z i8.toNat) (stB all z (i8.toNat + 1)) (σ33 (130 + 40 * c + 4 * i8).toNat) (σ33 (130 + 40 * c + 4 * i8 + 1).toNat) (σ33 (130 + 40 * c + 4 * i8 + 2).toNat) (σ33 (130 + 40 * c + 4 * i8 + 3).toNat)) := fun i8 h0 h1 => by { rw [hfr _ (by omega), hfr _ (by omega), hfr _ (by omega), hfr _ (by omega)]; exact hdn i8 h0 h1 }
            have hrg4 : (∀ k : Nat, (k : Int) ≠ 128 + c → ¬ (130 + 40 * c ≤ (k : Int) ∧ (k : Int) < 170 + 40 * c) → σ33 k = σ k) := fun j h1 h2 => (hfr j (by omega)).trans (hrg j h1 h2)
            have hsn4 : σ33 (128 + c).toNat = z := (hfr _ (by omega)).trans hsn
            have lp123 : ∀ (k9 : Nat) (sz : Int) (v : Int) (p : Int) (σ4 : Nat → Int) (lf4 : Nat → Int) (M9 : jM) (hsz : sz = e0 - p) (hp1 : s0 ≤ p) (hp2 : p ≤ e0) (hH : jPic M9 m (mhL m kp pn a9 on)) (hσ : jPic M9 q [aI 455 σ4]) (hL : jPic M9 (m + 8) [aI 100 lf4]) (hlv : lvQ L lf4 p v) (hbk : bkP L s0 p (σ4 (130 + 40 * c + 4 * b).toNat) (σ4 (130 + 40 * c + 4 * b + 1).toNat) (σ4 (130 + 40 * c + 4 * b + 3).toNat)) (hcn : cnP L s0 p e0 v) (hk2 : σ4 (130 + 40 * c + 4 * b + 2).toNat = e0 - s0) (hdn4 : (∀ i8 : Int, 0 ≤ i8 → i8 < b → bS L (stB all z i8.toNat) (stB all z (i8.toNat + 1)) (σ4 (130 + 40 * c + 4 * i8).toNat) (σ4 (130 + 40 * c + 4 * i8 + 1).toNat) (σ4 (130 + 40 * c + 4 * i8 + 2).toNat) (σ4 (130 + 40 * c + 4 * i8 + 3).toNat))) (hrg4 : (∀ k : Nat, (k : Int) ≠ 128 + c → ¬ (130 + 40 * c ≤ (k : Int) ∧ (k : Int) < 170 + 40 * c) → σ4 k = σ k)) (hsn4 : σ4 (128 + c).toNat = z) (hj : jtw M M9 q (m + 8)) (hk9 : (sz + (100 - v)).toNat = k9), jJ X 123 [some (.ref (m)), some (.ref (q)), some (jI (c)), some (jI (all)), some (jI (z)), some (jI (v)), some (jI (b)), some (jI (130 + 40 * c + 4 * b)), some (jI (sz)), none] [] n M9 0 0 := by
              intro k9
              induction k9 using Nat.strongRecOn with
              | _ k9 ih123 =>
                intro sz v p σ4 lf4 M9 hsz hp1 hp2 hH hσ hL hlv hbk hcn hk2 hdn4 hrg4 hsn4 hj hk9
                have hlvb := hlv.1
                have hb0 := bkP_0 hbk
                refine jk_iload (q := 125) h dX10_cuts_123 rfl rfl ?_
                refine jk_if_le (q := 128) (tgt := 241) h dX10_cuts_125 (by decide) rfl ⟨by omega, by omega⟩ (fun c125 => ?_) (fun c125 => ?_)
                · have hpe : p = e0 := by omega
                  subst hpe
                  have hlvN : lvQ L lf4 (stB all z (b + 1).toNat) v := by { rw [show (b + 1).toNat = b.toNat + 1 by omega, he0]; exact hlv }
                  have hdnN : (∀ i8 : Int, 0 ≤ i8 → i8 < b + 1 → bS L (stB all z i8.toNat) (stB all z (i8.toNat + 1)) (σ4 (130 + 40 * c + 4 * i8).toNat) (σ4 (130 + 40 * c + 4 * i8 + 1).toNat) (σ4 (130 + 40 * c + 4 * i8 + 2).toNat) (σ4 (130 + 40 * c + 4 * i8 + 3).toNat)) := fun i8 h0 h1 => by
                    by_cases g : i8 < b
                    · exact hdn4 i8 h0 g
                    · have hib : i8 = b := by omega
                      rw [hib, hs0, he0, hk2]
                      exact bkP_e hbk hse
                  refine jk_iinc (q := 244) h dX10_cuts_241 rfl rfl rfl rfl ?_
                  refine jk_goto (q := 247) (tgt := 59) h dX10_cuts_244 (by decide) ?_
                  exact jk_weak (jwk_s rfl (jwk_s rfl (jwk_s rfl (jwk_s rfl (jwk_s rfl (jwk_s rfl (jwk_s rfl (jwk_n (jwk_n (jwk_n jwk_0)))))))))) (ih59 _ (by omega) (b + 1) v σ4 lf4 _ (by omega) (by omega) hH hσ hL hlvN hdnN hrg4 hsn4 hj rfl)
                · have hv99 : v < 100 := by
                    rcases Int.lt_or_le v 100 with g | g
                    · exact g
                    · exfalso
                      have h2 := hlv.2.1
                      rw [show v.toNat = 100 by omega, hall] at h2
                      omega
                  obtain ⟨hq1, hq2⟩ := hlv.2.2.1 hv99
                  have hq3 := hlv.2.1
                  have hq4 : sm L (v.toNat + 1) = sm L v.toNat + L v.toNat := rfl
                  have hq5 := hLb v.toNat (by omega)
                  have jn218 : ∀ (sz5 : Int) (p5 : Int) (σ5 : Nat → Int) (lf5 : Nat → Int) (M9 : jM) (hsz5 : sz5 = e0 - p5) (hp5 : s0 ≤ p5 ∧ p5 ≤ e0) (hH : jPic M9 m (mhL m kp pn a9 on)) (hσ : jPic M9 q [aI 455 σ5]) (hL : jPic M9 (m + 8) [aI 100 lf5]) (hlv5 : lvQ L lf5 p5 v) (hbk5 : bkP L s0 p5 (σ5 (130 + 40 * c + 4 * b).toNat) (σ5 (130 + 40 * c + 4 * b + 1).toNat) (σ5 (130 + 40 * c + 4 * b + 3).toNat)) (hpr : lf5 v.toNat = 0 ∨ p5 = e0) (hpg : sz5 < sz ∨ (sz5 = sz ∧ lf5 v.toNat = 0)) (hk5 : σ5 (130 + 40 * c + 4 * b + 2).toNat = e0 - s0) (hdn5 : (∀ i8 : Int, 0 ≤ i8 → i8 < b → bS L (stB all z i8.toNat) (stB all z (i8.toNat + 1)) (σ5 (130 + 40 * c + 4 * i8).toNat) (σ5 (130 + 40 * c + 4 * i8 + 1).toNat) (σ5 (130 + 40 * c + 4 * i8 + 2).toNat) (σ5 (130 + 40 * c + 4 * i8 + 3).toNat))) (hrg5 : (∀ k : Nat, (k : Int) ≠ 128 + c → ¬ (130 + 40 * c ≤ (k : Int) ∧ (k : Int) < 170 + 40 * c) → σ5 k = σ k)) (hsn5 : σ5 (128 + c).toNat = z) (hj : jtw M M9 q (m + 8)), jJ X 218 [some (.ref (m)), some (.ref (q)), some (jI (c)), some (jI (all)), some (jI (z)), some (jI (v)), some (jI (b)), some (jI (130 + 40 * c + 4 * b)), some (jI (sz5)), none] [] n M9 0 0 := by
                    intro sz5 p5 σ5 lf5 M9 hsz5 hp5 hH hσ hL hlv5 hbk5 hpr hpg hk5 hdn5 hrg5 hsn5 hj
                    have hlf5b : 0 ≤ lf5 v.toNat ∧ lf5 v.toNat ≤ 60 := by { obtain ⟨q1, q2⟩ := hlv5.2.2.1 hv99; have q3 := hlv5.2.1; have q4 : sm L (v.toNat + 1) = sm L v.toNat + L v.toNat := rfl; have q5 := hLb v.toNat (by omega); omega }
                    refine jk_iload (q := 220) h dX10_cuts_218 rfl rfl ?_
                    refine jk_aload_n (q := 221) h dX10_cuts_220 rfl rfl ?_
                    refine jk_get (q := 224) h fg_X10_32 dX10_cuts_221 (hH.at 0 rfl) rfl rfl ?_
                    refine jk_iload (q := 226) h dX10_cuts_224 rfl rfl ?_
                    refine jk_ialdI (q := 227) h dX10_cuts_226 (hL.at 0 rfl) (by omega) (by omega) rfl rfl ?_
                    refine jk_if_ne (q := 230) (tgt := 234) h dX10_cuts_227 (by decide) rfl ⟨by omega, by omega⟩ (fun c227 => ?_) (fun c227 => ?_)
                    · have hp5e : p5 = e0 := by omega
                      have hlvX : lvQ L lf5 p5 (v + 0) := by { rw [Int.add_zero]; exact hlv5 }
                      have hcnX : cnP L s0 p5 e0 (v + 0) := fun _ => Or.inr hp5e
                      refine jk_iconst (q := 235) h dX10_cuts_234 rfl ?_
                      refine jk_iadd (q := 236) h dX10_cuts_235 rfl ?_
                      refine jk_istore (q := 238) h dX10_cuts_236 rfl (Nat.le_of_ble_eq_true rfl) rfl rfl ?_
                      refine jk_goto (q := 241) (tgt := 123) h dX10_cuts_238 (by decide) ?_
                      exact jk_weak (jwk_s rfl (jwk_s rfl (jwk_s rfl (jwk_s rfl (jwk_s rfl (jwk_s rfl (jwk_s rfl (jwk_s rfl (jwk_s rfl (jwk_n jwk_0)))))))))) (ih123 _ (by omega) _ _ _ _ _ _ hsz5 (by exact hp5.1) (by exact hp5.2) hH hσ hL hlvX hbk5 hcnX hk5 hdn5 hrg5 hsn5 hj rfl)
                    · obtain ⟨hlvX, hsmX⟩ := lvQ_n hlv5 hL0 hv99 (by omega)
                      have hcnX : cnP L s0 p5 e0 (v + 1) := fun _ => Or.inl hsmX
                      refine jk_iconst (q := 231) h dX10_cuts_230 rfl ?_
                      refine jk_goto (q := 234) (tgt := 235) h dX10_cuts_231 (by decide) ?_
                      refine jk_iadd (q := 236) h dX10_cuts_235 rfl ?_
                      refine jk_istore (q := 238) h dX10_cuts_236 rfl (Nat.le_of_ble_eq_true rfl) rfl rfl ?_
                      refine jk_goto (q := 241) (tgt := 123) h dX10_cuts_238 (by decide) ?_
                      exact jk_weak (jwk_s rfl (jwk_s rfl (jwk_s rfl (jwk_s rfl (jwk_s rfl (jwk_s rfl (jwk_s rfl (jwk_s rfl (jwk_s rfl (jwk_n jwk_0)))))))))) (ih123 _ (by omega) _ _ _ _ _ _ hsz5 (by exact hp5.1) (by exact hp5.2) hH hσ hL hlvX hbk5 hcnX hk5 hdn5 hrg5 hsn5 hj rfl)
                  have jn152 : ∀ (tk : Int) (htk : 0 ≤ tk ∧ tk ≤ lf4 v.toNat ∧ tk ≤ sz ∧ (tk = lf4 v.toNat ∨ tk = sz)), jJ X 152 [some (.ref (m)), some (.ref (q)), some (jI (c)), some (jI (all)), some (jI (z)), some (jI (v)), some (jI (b)), some (jI (130 + 40 * c + 4 * b)), some (jI (sz)), none] [jI tk] n M9 0 0 := by
                    intro tk htk
                    refine jk_istore (q := 154) h dX10_cuts_152 rfl (Nat.le_of_ble_eq_true rfl) rfl rfl ?_
                    refine jk_iload (q := 156) h dX10_cuts_154 rfl rfl ?_
                    refine jk_if_le (q := 159) (tgt := 218) h dX10_cuts_156 (by decide) rfl ⟨by omega, by omega⟩ (fun c156 => ?_) (fun c156 => ?_)
                    · have htk0 : tk = 0 := by omega
                      have hszE := hsz
                      have hpE : s0 ≤ p ∧ p ≤ e0 := ⟨hp1, hp2⟩
                      have hlvE := hlv
                      have hbkE := hbk
                      have hprE : lf4 v.toNat = 0 ∨ p = e0 := by omega
                      have hpgE : sz < sz ∨ (sz = sz ∧ lf4 v.toNat = 0) := by omega
                      have hkE := hk2
                      have hdnE := hdn4
                      have hrgE := hrg4
                      have hsnE := hsn4
                      exact jk_weak (jwk_s rfl (jwk_s rfl (jwk_s rfl (jwk_s rfl (jwk_s rfl (jwk_s rfl (jwk_s rfl (jwk_s rfl (jwk_s rfl (jwk_n jwk_0)))))))))) (jn218 _ _ _ _ _ hszE hpE hH hσ hL hlvE hbkE hprE hpgE hkE hdnE hrgE hsnE hj)
                    · have jn180 : ∀ (a0 : Int) (ha0 : a0 = if σ4 (130 + 40 * c + 4 * b).toNat = -6 then v else σ4 (130 + 40 * c + 4 * b).toNat), jJ X 180 [some (.ref (m)), some (.ref (q)), some (jI (c)), some (jI (all)), some (jI (z)), some (jI (v)), some (jI (b)), some (jI (130 + 40 * c + 4 * b)), some (jI (sz)), some (jI (tk))] [jI a0, jI (130 + 40 * c + 4 * b), .ref q] n M9 0 0 := by
                        intro a0 ha0
                        refine jk_iast (q := 181) h dX10_cuts_180 (hσ.at 0 rfl) (by omega) (by omega) rfl rfl (fun M_5 s_5 => ?_)
                        have hH := hH.other s_5 1 rfl (by omega)
                        have hσ := hσ.put (i := 0) s_5 rfl
                        have hL := hL.other s_5 1 rfl (by omega)
                        have hj := hj.stq s_5 (by omega)
                        obtain ⟨σ5, hσ5⟩ : ∃ s9, jfup σ4 (130 + 40 * c + 4 * b).toNat (a0) = s9 := ⟨_, rfl⟩
                        rw [hσ5] at hσ
                        have ea : ∀ j : Nat, j ≠ (130 + 40 * c + 4 * b).toNat → σ5 j = σ4 j := fun j hj => by { rw [← hσ5]; exact jfup_n _ _ hj }
                        have eav : σ5 (130 + 40 * c + 4 * b).toNat = a0 := by { rw [← hσ5]; exact jfup_s _ _ _ }
                        refine jk_aload_n (q := 182) h dX10_cuts_181 rfl rfl ?_
                        refine jk_iload (q := 184) h dX10_cuts_182 rfl rfl ?_
                        refine jk_iconst (q := 185) h dX10_cuts_184 rfl ?_
                        refine jk_iadd (q := 186) h dX10_cuts_185 rfl ?_
                        refine jk_iload (q := 188) h dX10_cuts_186 rfl rfl ?_
                        refine jk_iast (q := 189) h dX10_cuts_188 (hσ.at 0 rfl) (by omega) (by omega) rfl rfl (fun M_6 s_6 => ?_)
                        have hH := hH.other s_6 1 rfl (by omega)
                        have hσ := hσ.put (i := 0) s_6 rfl
                        have hL := hL.other s_6 1 rfl (by omega)
                        have hj := hj.stq s_6 (by omega)
                        obtain ⟨σ6, hσ6⟩ : ∃ s9, jfup σ5 (130 + 40 * c + 4 * b + 1).toNat (v) = s9 := ⟨_, rfl⟩
                        rw [hσ6] at hσ
                        have eb : ∀ j : Nat, j ≠ (130 + 40 * c + 4 * b + 1).toNat → σ6 j = σ5 j := fun j hj => by { rw [← hσ6]; exact jfup_n _ _ hj }
                        have ebv : σ6 (130 + 40 * c + 4 * b + 1).toNat = v := by { rw [← hσ6]; exact jfup_s _ _ _ }
                        refine jk_aload_n (q := 190) h dX10_cuts_189 rfl rfl ?_
                        refine jk_iload (q := 192) h dX10_cuts_190 rfl rfl ?_
                        refine jk_iconst (q := 193) h dX10_cuts_192 rfl ?_
                        refine jk_iadd (q := 194) h dX10_cuts_193 rfl ?_
                        refine jk_dup2 (q := 195) h dX10_cuts_194 rfl rfl rfl ?_
                        refine jk_ialdI (q := 196) h dX10_cuts_195 (hσ.at 0 rfl) (by omega) (by omega) rfl rfl ?_
                        refine jk_iconst (q := 197) h dX10_cuts_196 rfl ?_
                        refine jk_iadd (q := 198) h dX10_cuts_197 rfl ?_
                        refine jk_iast (q := 199) h dX10_cuts_198 (hσ.at 0 rfl) (by omega) (by omega) rfl rfl (fun M_7 s_7 => ?_)
                        have hH := hH.other s_7 1 rfl (by omega)
                        have hσ := hσ.put (i := 0) s_7 rfl
                        have hL := hL.other s_7 1 rfl (by omega)
                        have hj := hj.stq s_7 (by omega)
                        obtain ⟨σ7, hσ7⟩ : ∃ s9, jfup σ6 (130 + 40 * c + 4 * b + 3).toNat (σ6 (130 + 40 * c + 4 * b + 3).toNat + 1) = s9 := ⟨_, rfl⟩
                        rw [hσ7] at hσ
                        have ed : ∀ j : Nat, j ≠ (130 + 40 * c + 4 * b + 3).toNat → σ7 j = σ6 j := fun j hj => by { rw [← hσ7]; exact jfup_n _ _ hj }
                        have edv : σ7 (130 + 40 * c + 4 * b + 3).toNat = σ6 (130 + 40 * c + 4 * b + 3).toNat + 1 := by { rw [← hσ7]; exact jfup_s _ _ _ }
                        refine jk_aload_n (q := 200) h dX10_cuts_199 rfl rfl ?_
                        refine jk_get (q := 203) h fg_X10_32 dX10_cuts_200 (hH.at 0 rfl) rfl rfl ?_
                        refine jk_iload (q := 205) h dX10_cuts_203 rfl rfl ?_
                        refine jk_dup2 (q := 206) h dX10_cuts_205 rfl rfl rfl ?_
                        refine jk_ialdI (q := 207) h dX10_cuts_206 (hL.at 0 rfl) (by omega) (by omega) rfl rfl ?_
                        refine jk_iload (q := 209) h dX10_cuts_207 rfl rfl ?_
                        refine jk_isub (q := 210) h dX10_cuts_209 rfl ?_
                        refine jk_iast (q := 211) h dX10_cuts_210 (hL.at 0 rfl) (by omega) (by omega) rfl rfl (fun M_8 s_8 => ?_)
                        have hH := hH.other s_8 1 rfl (by omega)
                        have hσ := hσ.other s_8 1 rfl (by omega)
                        have hL := hL.put (i := 0) s_8 rfl
                        have hj := hj.stq s_8 (by omega)
                        obtain ⟨lf6, hlf6⟩ : ∃ s9, jfup lf4 v.toNat (lf4 v.toNat - tk) = s9 := ⟨_, rfl⟩
                        rw [hlf6] at hL
                        have hfr : ∀ j : Nat, ¬ (130 + 40 * c + 4 * b ≤ (j : Int) ∧ (j : Int) < 130 + 40 * c + 4 * b + 4) → σ7 j = σ4 j := fun j hj => ((ed j (by omega)).trans (eb j (by omega))).trans (ea j (by omega))
                        have hszE : sz - tk = e0 - (p + tk) := by omega
                        have hpE : s0 ≤ p + tk ∧ p + tk ≤ e0 := ⟨by omega, by omega⟩
                        have hlvE : lvQ L lf6 (p + tk) v := by { rw [← hlf6]; exact lvQ_t hlv hv99 htk.1 htk.2.1 }
                        have hbkE : bkP L s0 (p + tk) (σ7 (130 + 40 * c + 4 * b).toNat) (σ7 (130 + 40 * c + 4 * b + 1).toNat) (σ7 (130 + 40 * c + 4 * b + 3).toNat) := by
                          rw [ed _ (by omega), eb _ (by omega), eav, ha0, ed _ (by omega), ebv, edv, eb _ (by omega), ea _ (by omega)]
                          exact bkP_s hL0 hbk ⟨by omega, by omega⟩ hq3 (by omega) (by omega) (fun g => by rcases hcn g with g2 | g2; exact g2; omega)
                        have hlfv : lf6 v.toNat = lf4 v.toNat - tk := by { rw [← hlf6]; exact jfup_s _ _ _ }
                        have hprE : lf6 v.toNat = 0 ∨ p + tk = e0 := by omega
                        have hpgE : sz - tk < sz ∨ (sz - tk = sz ∧ lf6 v.toNat = 0) := by omega
                        have hkE : σ7 (130 + 40 * c + 4 * b + 2).toNat = e0 - s0 := by { rw [ed _ (by omega), eb _ (by omega), ea _ (by omega)]; exact hk2 }
                        have hdnE : (∀ i8 : Int, 0 ≤ i8 → i8 < b → bS L (stB all z i8.toNat) (stB all z (i8.toNat + 1)) (σ7 (130 + 40 * c + 4 * i8).toNat) (σ7 (130 + 40 * c + 4 * i8 + 1).toNat) (σ7 (130 + 40 * c + 4 * i8 + 2).toNat) (σ7 (130 + 40 * c + 4 * i8 + 3).toNat)) := fun i8 h0 h1 => by { rw [hfr _ (by omega), hfr _ (by omega), hfr _ (by omega), hfr _ (by omega)]; exact hdn4 i8 h0 h1 }
                        have hrgE : (∀ k : Nat, (k : Int) ≠ 128 + c → ¬ (130 + 40 * c ≤ (k : Int) ∧ (k : Int) < 170 + 40 * c) → σ7 k = σ k) := fun j h1 h2 => (hfr j (by omega)).trans (hrg4 j h1 h2)
                        have hsnE : σ7 (128 + c).toNat = z := (hfr _ (by omega)).trans hsn4
                        refine jk_iload (q := 213) h dX10_cuts_211 rfl rfl ?_
                        refine jk_iload (q := 215) h dX10_cuts_213 rfl rfl ?_
                        refine jk_isub (q := 216) h dX10_cuts_215 rfl ?_
                        refine jk_istore (q := 218) h dX10_cuts_216 rfl (Nat.le_of_ble_eq_true rfl) rfl rfl ?_
                        exact jk_weak (jwk_s rfl (jwk_s rfl (jwk_s rfl (jwk_s rfl (jwk_s rfl (jwk_s rfl (jwk_s rfl (jwk_s rfl (jwk_s rfl (jwk_n jwk_0)))))))))) (jn218 _ _ _ _ _ hszE hpE hH hσ hL hlvE hbkE hprE hpgE hkE hdnE hrgE hsnE hj)
                      refine jk_aload_n (q := 160) h dX10_cuts_159 rfl rfl ?_
                      refine jk_iload (q := 162) h dX10_cuts_160 rfl rfl ?_
                      refine jk_aload_n (q := 163) h dX10_cuts_162 rfl rfl ?_
                      refine jk_iload (q := 165) h dX10_cuts_163 rfl rfl ?_
                      refine jk_ialdI (q := 166) h dX10_cuts_165 (hσ.at 0 rfl) (by omega) (by omega) rfl rfl ?_
                      refine jk_bipush (q := 168) h dX10_cuts_166 (by decide) rfl ?_
                      refine jk_icmp_ne (q := 171) (tgt := 176) h dX10_cuts_168 (by decide) rfl ⟨by omega, by omega⟩ ⟨by omega, by omega⟩ (fun c168 => ?_) (fun c168 => ?_)
                      · refine jk_aload_n (q := 177) h dX10_cuts_176 rfl rfl ?_
                        refine jk_iload (q := 179) h dX10_cuts_177 rfl rfl ?_
                        refine jk_ialdI (q := 180) h dX10_cuts_179 (hσ.at 0 rfl) (by omega) (by omega) rfl rfl ?_
                        exact jk_weak (jwk_s rfl (jwk_s rfl (jwk_s rfl (jwk_s rfl (jwk_s rfl (jwk_s rfl (jwk_s rfl (jwk_s rfl (jwk_s rfl (jwk_s rfl jwk_0)))))))))) (jn180 _ (by first | (rw [if_pos (by omega)]; done) | (rw [if_neg (by omega)]; done)))
                      · refine jk_iload (q := 173) h dX10_cuts_171 rfl rfl ?_
                        refine jk_goto (q := 176) (tgt := 180) h dX10_cuts_173 (by decide) ?_
                        exact jk_weak (jwk_s rfl (jwk_s rfl (jwk_s rfl (jwk_s rfl (jwk_s rfl (jwk_s rfl (jwk_s rfl (jwk_s rfl (jwk_s rfl (jwk_s rfl jwk_0)))))))))) (jn180 _ (by first | (rw [if_pos (by omega)]; done) | (rw [if_neg (by omega)]; done)))
                  refine jk_aload_n (q := 129) h dX10_cuts_128 rfl rfl ?_
                  refine jk_get (q := 132) h fg_X10_32 dX10_cuts_129 (hH.at 0 rfl) rfl rfl ?_
                  refine jk_iload (q := 134) h dX10_cuts_132 rfl rfl ?_
                  refine jk_ialdI (q := 135) h dX10_cuts_134 (hL.at 0 rfl) (by omega) (by omega) rfl rfl ?_
                  refine jk_iload (q := 137) h dX10_cuts_135 rfl rfl ?_
                  refine jk_icmp_ge (q := 140) (tgt := 150) h dX10_cuts_137 (by decide) rfl ⟨by omega, by omega⟩ ⟨by omega, by omega⟩ (fun c137 => ?_) (fun c137 => ?_)
                  · refine jk_iload (q := 152) h dX10_cuts_150 rfl rfl ?_
                    exact jk_weak (jwk_s rfl (jwk_s rfl (jwk_s rfl (jwk_s rfl (jwk_s rfl (jwk_s rfl (jwk_s rfl (jwk_s rfl (jwk_s rfl (jwk_n jwk_0)))))))))) (jn152 _ (by omega))
                  · refine jk_aload_n (q := 141) h dX10_cuts_140 rfl rfl ?_
                    refine jk_get (q := 144) h fg_X10_32 dX10_cuts_141 (hH.at 0 rfl) rfl rfl ?_
                    refine jk_iload (q := 146) h dX10_cuts_144 rfl rfl ?_
                    refine jk_ialdI (q := 147) h dX10_cuts_146 (hL.at 0 rfl) (by omega) (by omega) rfl rfl ?_
                    refine jk_goto (q := 150) (tgt := 152) h dX10_cuts_147 (by decide) ?_
                    exact jk_weak (jwk_s rfl (jwk_s rfl (jwk_s rfl (jwk_s rfl (jwk_s rfl (jwk_s rfl (jwk_s rfl (jwk_s rfl (jwk_s rfl (jwk_n jwk_0)))))))))) (jn152 _ (by omega))
            exact jk_weak (jwk_s rfl (jwk_s rfl (jwk_s rfl (jwk_s rfl (jwk_s rfl (jwk_s rfl (jwk_s rfl (jwk_s rfl (jwk_s rfl (jwk_n jwk_0)))))))))) (lp123 _ (all / z + y) v s0 σ33 lf3 _ (by omega) (by omega) (by omega) hH hσ hL hlv (Or.inl ⟨rfl, hk0, hk3⟩) (fun q => absurd q (by omega)) hk22 hdn4 hrg4 hsn4 hj rfl)
          refine jk_iload_n (q := 82) h dX10_cuts_81 rfl rfl ?_
          refine jk_iload (q := 84) h dX10_cuts_82 rfl rfl ?_
          refine jk_idiv (q := 85) h dX10_cuts_84 hall0 (by omega) (by omega) (by omega) rfl ?_
          refine jk_iload (q := 87) h dX10_cuts_85 rfl rfl ?_
          refine jk_iload_n (q := 88) h dX10_cuts_87 rfl rfl ?_
          refine jk_iload (q := 90) h dX10_cuts_88 rfl rfl ?_
          refine jk_irem (q := 91) h dX10_cuts_90 hall0 (by omega) (by omega) (by omega) rfl ?_
          refine jk_icmp_ge (q := 94) (tgt := 98) h dX10_cuts_91 (by decide) rfl ⟨by omega, by omega⟩ ⟨by omega, by omega⟩ (fun c91 => ?_) (fun c91 => ?_)
          · refine jk_iconst (q := 99) h dX10_cuts_98 rfl ?_
            exact jk_weak (jwk_s rfl (jwk_s rfl (jwk_s rfl (jwk_s rfl (jwk_s rfl (jwk_s rfl (jwk_s rfl (jwk_s rfl (jwk_n (jwk_n jwk_0)))))))))) (jn99 _ (by first | (rw [if_pos (by omega)]; done) | (rw [if_neg (by omega)]; done)))
          · refine jk_iconst (q := 95) h dX10_cuts_94 rfl ?_
            refine jk_goto (q := 98) (tgt := 99) h dX10_cuts_95 (by decide) ?_
            exact jk_weak (jwk_s rfl (jwk_s rfl (jwk_s rfl (jwk_s rfl (jwk_s rfl (jwk_s rfl (jwk_s rfl (jwk_s rfl (jwk_n (jwk_n jwk_0)))))))))) (jn99 _ (by first | (rw [if_pos (by omega)]; done) | (rw [if_neg (by omega)]; done)))
    exact jk_weak (jwk_s rfl (jwk_s rfl (jwk_s rfl (jwk_s rfl (jwk_s rfl (jwk_s rfl (jwk_s rfl (jwk_n (jwk_n (jwk_n jwk_0)))))))))) (lp59 _ 0 0 σ1 lf _ (by omega) (by omega) hH hσ hL (lvQ_0 hlf hL0) (fun i8 h0 h1 => absurd h1 (by omega)) (fun k h1 _ => e1 k (by omega)) e1v hj rfl)
  refine jk_iconst (q := 1) h dX10_cuts_0 rfl ?_
  refine jk_istore_n (q := 2) h dX10_cuts_1 rfl (Nat.le_of_ble_eq_true rfl) rfl rfl ?_
  refine jk_iconst (q := 3) h dX10_cuts_2 rfl ?_
  refine jk_istore (q := 5) h dX10_cuts_3 rfl (Nat.le_of_ble_eq_true rfl) rfl rfl ?_
  have lp5 : ∀ (k9 : Nat) (r : Int) (i : Int) (hi1 : 0 ≤ i) (hi2 : i ≤ 100) (hr : r = smI L i) (hrb : 0 ≤ r ∧ r ≤ 60 * i) (hk9 : (100 - i).toNat = k9), jJ X 5 [some (.ref (m)), some (.ref (q)), some (jI (c)), some (jI (r)), some (jI (i)), none, none, none, none, none] [] n M 0 0 := by
    intro k9
    induction k9 using Nat.strongRecOn with
    | _ k9 ih5 =>
      intro r i hi1 hi2 hr hrb hk9
      refine jk_iload (q := 7) h dX10_cuts_5 rfl rfl ?_
      refine jk_bipush (q := 9) h dX10_cuts_7 (by decide) rfl ?_
      refine jk_icmp_ge (q := 12) (tgt := 28) h dX10_cuts_9 (by decide) rfl ⟨by omega, by omega⟩ ⟨by omega, by omega⟩ (fun c9 => ?_) (fun c9 => ?_)
      · have hi3 : i = 100 := by omega
        subst hi3
        have hr1 : r = all := hr.trans hall
        subst hr1
        refine jk_iload_n (q := 29) h dX10_cuts_28 rfl rfl ?_
        refine jk_aload_n (q := 30) h dX10_cuts_29 rfl rfl ?_
        refine jk_iconst (q := 31) h dX10_cuts_30 rfl ?_
        refine jk_ialdI (q := 32) h dX10_cuts_31 (hσ.at 0 rfl) (by omega) (by omega) rfl rfl ?_
        refine jk_icmp_ge (q := 35) (tgt := 39) h dX10_cuts_32 (by decide) rfl ⟨by omega, by omega⟩ ⟨by omega, by omega⟩ (fun c32 => ?_) (fun c32 => ?_)
        · refine jk_aload_n (q := 40) h dX10_cuts_39 rfl rfl ?_
          refine jk_iconst (q := 41) h dX10_cuts_40 rfl ?_
          refine jk_ialdI (q := 42) h dX10_cuts_41 (hσ.at 0 rfl) (by omega) (by omega) rfl rfl ?_
          exact jk_weak (jwk_s rfl (jwk_s rfl (jwk_s rfl (jwk_s rfl (jwk_n (jwk_n (jwk_n (jwk_n (jwk_n (jwk_n jwk_0)))))))))) (jn42 _ (by rw [hmn]; first | (rw [if_pos (by omega)]; done) | (rw [if_neg (by omega)]; omega)))
        · refine jk_iload_n (q := 36) h dX10_cuts_35 rfl rfl ?_
          refine jk_goto (q := 39) (tgt := 42) h dX10_cuts_36 (by decide) ?_
          exact jk_weak (jwk_s rfl (jwk_s rfl (jwk_s rfl (jwk_s rfl (jwk_n (jwk_n (jwk_n (jwk_n (jwk_n (jwk_n jwk_0)))))))))) (jn42 _ (by rw [hmn]; first | (rw [if_pos (by omega)]; done) | (rw [if_neg (by omega)]; omega)))
      · have hlfi := hlf i.toNat (by omega)
        have hLbi := hLb i.toNat (by omega)
        have hLpi := hL0 i.toNat
        refine jk_iload_n (q := 13) h dX10_cuts_12 rfl rfl ?_
        refine jk_aload_n (q := 14) h dX10_cuts_13 rfl rfl ?_
        refine jk_get (q := 17) h fg_X10_32 dX10_cuts_14 (hH.at 0 rfl) rfl rfl ?_
        refine jk_iload (q := 19) h dX10_cuts_17 rfl rfl ?_
        refine jk_ialdI (q := 20) h dX10_cuts_19 (hL.at 0 rfl) (by omega) (by omega) rfl rfl ?_
        refine jk_iadd (q := 21) h dX10_cuts_20 rfl ?_
        refine jk_istore_n (q := 22) h dX10_cuts_21 rfl (Nat.le_of_ble_eq_true rfl) rfl rfl ?_
        refine jk_iinc (q := 25) h dX10_cuts_22 rfl rfl rfl rfl ?_
        refine jk_goto (q := 28) (tgt := 5) h dX10_cuts_25 (by decide) ?_
        exact jk_weak (jwk_s rfl (jwk_s rfl (jwk_s rfl (jwk_s rfl (jwk_s rfl (jwk_n (jwk_n (jwk_n (jwk_n (jwk_n jwk_0)))))))))) (ih5 _ (by omega) _ _ (by omega) (by omega) (smI_t hi1 hr (hlf i.toNat (by omega)).symm) (by omega) rfl)
  exact jk_weak (jwk_s rfl (jwk_s rfl (jwk_s rfl (jwk_s rfl (jwk_s rfl (jwk_n (jwk_n (jwk_n (jwk_n (jwk_n jwk_0)))))))))) (lp5 _ _ _ (by omega) (by omega) rfl (by omega) rfl)
