/-! the reference: orders are carried out; a new object -/
def dwQ (kd q fi sz w : Int) : Prop := (w = 0 ∨ w = 1) ∧ (kd = 45 → (w = 1 ↔ 0 ≤ fi ∧ fi < sz)) ∧ (kd = 97 → (w = 1 ↔ 0 < sz)) ∧ (kd ≠ 45 → kd ≠ 97 → w = irS q fi)
theorem dwQ_45 {kd q fi sz f : Int} (e : kd = 45) (hf : f = fi) : dwQ kd q fi sz (if 0 ≤ f ∧ f < sz then 1 else 0) := by
  subst hf
  refine ⟨by split <;> simp, fun _ => ?_, fun z => by omega, fun z => absurd e z⟩
  by_cases h : 0 ≤ f ∧ f < sz
  · rw [if_pos h]; exact ⟨fun _ => h, fun _ => rfl⟩
  · rw [if_neg h]; exact ⟨fun z => by omega, fun z => absurd z h⟩
theorem dwQ_1 {kd q fi sz : Int} (e : kd = 97) (h : 0 < sz) : dwQ kd q fi sz 1 := ⟨Or.inr rfl, fun z => by omega, fun _ => ⟨fun _ => h, fun _ => rfl⟩, fun _ z => absurd e z⟩
theorem dwQ_0 {kd q fi sz : Int} (e : kd = 97) (h : ¬ 0 < sz) : dwQ kd q fi sz 0 := ⟨Or.inl rfl, fun z => by omega, fun _ => ⟨fun z => by omega, fun z => absurd z h⟩, fun _ z => absurd e z⟩
theorem dwQ_s {kd q fi sz f : Int} (e : kd ≠ 45) (e2 : kd ≠ 97) (hf : f = fi) : dwQ kd q fi sz (irS q f) := by
  subst hf
  exact ⟨irS_01 q f, fun z => absurd z e, fun z => absurd z e2, fun _ _ => rfl⟩
theorem foQ_43 {x x2 : TS} {fi se ti r kd : Int} (h : foQ x kd fi se ti r x2) (e : kd = 43) : arQ x fi se ti.toNat r x2 := by
  rcases h with ⟨z, h⟩ | ⟨z, h⟩ | ⟨z, h⟩ | ⟨z, h⟩ | ⟨z, h⟩ | ⟨z, h⟩ <;> first | exact h | omega
theorem do_45 {x x2 : TS} {fi se ti r kd q w : Int} (h : foQ x kd fi se ti r x2) (e : kd = 45) (hd : dwQ kd q fi x.2.1.2.2 w) : (w = 0 ∧ r < 0 ∧ x2 = x) ∨ (w = 1 ∧ 0 ≤ r ∧ (0 ≤ fi ∧ fi < x.2.1.2.2) ∧ x2 = (x.1, (jdr x.2.1.1 fi (x.2.1.2.2 - 1), jdr x.2.1.2.1 fi (x.2.1.2.2 - 1), x.2.1.2.2 - 1), (x.2.2.1.1, nch x.2.2.1.1 x.2.2.1.2), x.2.2.2)) := by
  have hq : drQ x fi r x2 := by rcases h with ⟨z, h⟩ | ⟨z, h⟩ | ⟨z, h⟩ | ⟨z, h⟩ | ⟨z, h⟩ | ⟨z, h⟩ <;> first | exact h | omega
  have hw := hd.2.1 e
  have hw2 := hd.1
  rcases hq with ⟨z1, z2, z3⟩ | ⟨z1, z2, z3⟩
  · exact Or.inl ⟨by rcases hw2 with g | g; exact g; exact absurd (hw.mp g) z1, by omega, z3⟩
  · exact Or.inr ⟨hw.mpr z1, by omega, z1, z3⟩
theorem do_97 {x x2 : TS} {fi se ti r kd q w : Int} (h : foQ x kd fi se ti r x2) (e : kd = 97) (hs : 0 ≤ x.2.1.2.2) (hd : dwQ kd q fi x.2.1.2.2 w) : (w = 0 ∧ r < 0 ∧ x2 = x) ∨ (w = 1 ∧ 0 ≤ r ∧ 0 < x.2.1.2.2 ∧ ∃ (A B : TC) (p : TP), x2 = (x.1, x.2.1, (x.2.1.2.2, 0), A, B, p) ∧ lrQ x.2.1.1 x.2.1.2.2 (x.1 1) (x.1 0) A ∧ lrQ x.2.1.2.1 x.2.1.2.2 (x.1 1) (x.1 0) B ∧ pmQ x.2.1 (x.1 2) p.2.2.2 p.1 p.2.1 p.2.2.1) := by
  have hq : anQ x r x2 := by rcases h with ⟨z, h⟩ | ⟨z, h⟩ | ⟨z, h⟩ | ⟨z, h⟩ | ⟨z, h⟩ | ⟨z, h⟩ <;> first | exact h | omega
  have hw := hd.2.2.1 e
  have hw2 := hd.1
  rcases hq with ⟨z1, z2, z3⟩ | ⟨z1, z2, z3⟩
  · exact Or.inl ⟨by rcases hw2 with g | g; exact g; have := hw.mp g; omega, by omega, z3⟩
  · exact Or.inr ⟨hw.mpr z1, by omega, z1, z3⟩
theorem do_s {x x2 : TS} {fi se ti r kd q w : Int} (hx : seQ x.1) (h : foQ x kd fi se ti r x2) (e : kd ≠ 43) (e2 : kd ≠ 45) (e3 : kd ≠ 97) (hq : (kd = 98 → q = 0) ∧ (kd = 99 → q = 1) ∧ (kd = 112 → q = 2)) (hd : dwQ kd q fi x.2.1.2.2 w) : (w = 0 ∧ r < 0 ∧ x2 = x) ∨ (w = 1 ∧ 0 ≤ r ∧ (0 ≤ q ∧ q ≤ 3) ∧ x2 = (jfup x.1 q.toNat fi, x.2)) := by
  have hc : chQ x q fi r x2 ∧ (q = 0 ∨ q = 1 ∨ q = 2) := by
    obtain ⟨q1, q2, q3⟩ := hq
    rcases h with ⟨z, h⟩ | ⟨z, h⟩ | ⟨z, h⟩ | ⟨z, h⟩ | ⟨z, h⟩ | ⟨z, h⟩
    · omega
    · omega
    · omega
    · rw [q1 z]; exact ⟨h, Or.inl rfl⟩
    · rw [q2 z]; exact ⟨h, Or.inr (Or.inl rfl)⟩
    · rw [q3 z]; exact ⟨h, Or.inr (Or.inr rfl)⟩
  have hw := hd.2.2.2 e2 e3
  rcases hc.1 with ⟨z1, z2, z3⟩ | ⟨z1, z2, z3⟩
  · exact Or.inl ⟨by omega, by omega, z3⟩
  · refine Or.inr ⟨by omega, ?_, by omega, z3⟩
    obtain ⟨⟨a1, a2⟩, ⟨b1, b2⟩, ⟨c1, c2⟩, d1, d2⟩ := hx
    have hq9 : q.toNat = 0 ∨ q.toNat = 1 ∨ q.toNat = 2 := by omega
    rw [z2]
    rcases hq9 with z | z | z <;> rw [z] <;> omega
theorem do_0 {x x2 : TS} {fi se ti r kd q : Int} (hx : stQ x) (h : foQ x kd fi se ti r x2) (e : kd ≠ 43) (hq : (kd = 98 → q = 0) ∧ (kd = 99 → q = 1) ∧ (kd = 112 → q = 2)) (hd : dwQ kd q fi x.2.1.2.2 0) : r < 0 ∧ x2 = x := by
  by_cases e2 : kd = 45
  · rcases do_45 h e2 hd with z | z
    · exact z.2
    · omega
  · by_cases e3 : kd = 97
    · rcases do_97 h e3 hx.2.1.2.2.1 hd with z | z
      · exact z.2
      · omega
    · rcases do_s hx.1 h e e2 e3 hq hd with z | z
      · exact z.2
      · omega
theorem oTi_b {sg : Nat → Int} {len a : Int} (h : oK sg len a) (e : sgA sg len a = 43) : 1 ≤ oTi sg len a ∧ oTi sg len a ≤ 9 := by
  have h2 : rwK sg len (a + 1) := by
    rcases h with z | z | z
    · omega
    · exact z.2
    · omega
  obtain ⟨q1, q2, q3, q4⟩ := h2
  unfold oTi
  unfold tmK at q4
  unfold tmV
  split <;> omega

set_option maxHeartbeats 4000000 in
set_option maxRecDepth 100000 in
theorem c_X10_does {l : Launch} {D : va_G} {b0 : Nat} {n : Nat} {M : jM} {m : Nat} {σ τ ps : Nat → Int} {kp : Int} {sv hd pd : Nat → Int} {pn a9 : Int} {od : Nat → Int} {on : Int} {lf : Nat → Int} (hM : jPic M m (mdL m σ τ ps kp sv hd pd pn a9 od on lf)) {x : TS} (hm : mdT σ x) (hQ : stQ x) {kd fi se ti j r : Int} {x2 : TS} (hj9 : 0 ≤ j ∧ j ≤ 40) (hkk : kd = 43 ∨ kd = 45 ∨ kd = 97 ∨ kd = 98 ∨ kd = 99 ∨ kd = 112) (h0 : od (4 * j).toNat = kd) (h1 : kd ≠ 97 → od (4 * j + 1).toNat = fi) (h2 : kd = 43 → od (4 * j + 2).toNat = se ∧ od (4 * j + 3).toNat = ti) (hfb : -1 ≤ fi ∧ fi ≤ 99) (hsb : -1 ≤ se ∧ se ≤ 99) (htb9 : kd = 43 → 1 ≤ ti ∧ ti ≤ 9) (hcc : x.2.2.1.2 ≤ 9999900) (hfo : foQ x kd fi se ti r x2) (hq2 : stQ x2) : jCtr l D b0 yX10_does cX10_does 6 (some .boolean) 4 0 0 [.ref m, jI j] n M (fun v9 n2 M2 => some (jI (if 0 ≤ r then 1 else 0)) = v9 ∧ n = n2 ∧ (∃ σ2 lf2, jPic M2 m (mdL m σ2 τ ps kp sv hd pd pn a9 od on lf2) ∧ mdT σ2 x2) ∧ jout M M2 m 9) := by
  refine jctr (lv := [some (.ref m), some (jI j), none, none, none, none]) RX10 "does" rfl rfl (by decide) (Nat.le_of_ble_eq_true rfl) rfl ?_
  intro X h hR hX
  obtain ⟨hmr, ⟨hm1, hm2, hm3⟩, hms, hmA, hmB, hmP⟩ := id hm
  obtain ⟨hse, htb, hr, hch, hOA, hOB, hOP⟩ := id hQ
  obtain ⟨hya, hyb, hys⟩ := id htb
  have hm0 := hmr.1
  have hk1 : σ (1 : Int).toNat = 1 ∨ σ (1 : Int).toNat = 0 := by { rw [hm1]; unfold mkn; split <;> simp }
  have hk2 : σ (1 : Int).toNat = 0 ↔ x.2.2.1.1 = 0 := by { rw [hm1]; unfold mkn; split <;> omega }
  have ho := jout.rf M m 9
  clear hk1 hk2
  refine jk_aload_n (q := 1) h dX10_does_0 rfl rfl ?_
  refine jk_get (q := 4) h fg_X10_29 dX10_does_1 (hM.at 0 rfl) rfl rfl ?_
  refine jk_iconst (q := 5) h dX10_does_4 rfl ?_
  refine jk_iload_n (q := 6) h dX10_does_5 rfl rfl ?_
  refine jk_imul (q := 7) h dX10_does_6 rfl ?_
  refine jk_ialdI (q := 8) h dX10_does_7 (hM.at 7 rfl) (by omega) (by omega) rfl rfl ?_
  refine jk_istore_n (q := 9) h dX10_does_8 rfl (Nat.le_of_ble_eq_true rfl) rfl rfl ?_
  refine jk_aload_n (q := 10) h dX10_does_9 rfl rfl ?_
  refine jk_get (q := 13) h fg_X10_29 dX10_does_10 (hM.at 0 rfl) rfl rfl ?_
  refine jk_iconst (q := 14) h dX10_does_13 rfl ?_
  refine jk_iload_n (q := 15) h dX10_does_14 rfl rfl ?_
  refine jk_imul (q := 16) h dX10_does_15 rfl ?_
  refine jk_iconst (q := 17) h dX10_does_16 rfl ?_
  refine jk_iadd (q := 18) h dX10_does_17 rfl ?_
  refine jk_ialdI (q := 19) h dX10_does_18 (hM.at 7 rfl) (by omega) (by omega) rfl rfl ?_
  refine jk_istore_n (q := 20) h dX10_does_19 rfl (Nat.le_of_ble_eq_true rfl) rfl rfl ?_
  refine jk_iload_n (q := 21) h dX10_does_20 rfl rfl ?_
  refine jk_bipush (q := 23) h dX10_does_21 (by decide) rfl ?_
  refine jk_icmp_ne (q := 26) (tgt := 52) h dX10_does_23 (by decide) rfl ⟨by omega, by omega⟩ ⟨by omega, by omega⟩ (fun c23 => ?_) (fun c23 => ?_)
  · have jn73 : ∀ (q : Int) (hq : (kd = 98 → q = 0) ∧ (kd = 99 → q = 1) ∧ (kd = 112 → q = 2)) (hqb : 0 ≤ q ∧ q ≤ 2), jJ X 73 [some (.ref (m)), some (jI (j)), some (jI (od (4 * j).toNat)), some (jI (od (4 * j + 1).toNat)), none, none] [jI q] n M 0 0 := by
      intro q hq hqb
      refine jk_istore (q := 75) h dX10_does_73 rfl (Nat.le_of_ble_eq_true rfl) rfl rfl ?_
      have jn118 : ∀ (w : Int) (hw : dwQ kd q fi x.2.1.2.2 w), jJ X 118 [some (.ref (m)), some (jI (j)), some (jI (od (4 * j).toNat)), some (jI (od (4 * j + 1).toNat)), some (jI (q)), none] [jI w] n M 0 0 := by
        intro w hw
        have hw01 := hw.1
        have jn175 : ∀ (σ2 : Nat → Int) (lf2 : Nat → Int) (M9 : jM) (hM : jPic M9 m (mdL m σ2 τ ps kp sv hd pd pn a9 od on lf2)) (hm2 : mdT σ2 x2) (hrw : (w = 0 ∧ r < 0) ∨ (w = 1 ∧ 0 ≤ r)) (ho : jout M M9 m 9), jJ X 175 [some (.ref (m)), none, none, none, none, some (jI (w))] [] n M9 0 0 := by
          intro σ2 lf2 M9 hM hm2 hrw ho
          refine jk_iload (q := 177) h dX10_does_175 rfl rfl ?_
          exact jk_zret h hR dX10_does_177 (Nat.le_of_ble_eq_true rfl) (Nat.le_of_ble_eq_true rfl) (by omega) (by
                rcases hrw with ⟨z1, z2⟩ | ⟨z1, z2⟩
                · exact ⟨by rw [if_neg (by omega), z1], rfl, ⟨σ2, lf2, hM, hm2⟩, ho⟩
                · exact ⟨by rw [if_pos z2, z1], rfl, ⟨σ2, lf2, hM, hm2⟩, ho⟩)
        have jn162 : ∀ (u9 : Int) (h162 : w = 0 ∨ (kd ≠ 45 ∧ kd ≠ 97)), jJ X 162 [some (.ref (m)), some (jI (j)), some (jI (od (4 * j).toNat)), some (jI (od (4 * j + 1).toNat)), some (jI (q)), some (jI (w))] [] n M 0 0 := by
          intro u9 h162
          refine jk_iload (q := 164) h dX10_does_162 rfl rfl ?_
          refine jk_if_eq (q := 167) (tgt := 175) h dX10_does_164 (by decide) rfl ⟨by omega, by omega⟩ (fun c164 => ?_) (fun c164 => ?_)
          · have hw0 : w = 0 := by omega
            subst hw0
            obtain ⟨hre, hxe⟩ := do_0 hQ hfo (by omega) hq hw
            have hm2E : mdT σ x2 := by { rw [hxe]; exact hm }
            have hrwE : ((0 : Int) = 0 ∧ r < 0) ∨ ((0 : Int) = 1 ∧ 0 ≤ r) := Or.inl ⟨rfl, hre⟩
            exact jk_weak (jwk_s rfl (jwk_n (jwk_n (jwk_n (jwk_n (jwk_s rfl jwk_0)))))) (jn175 _ _ _ hM hm2E hrwE ho)
          · have hfe := h1 (by omega)
            obtain ⟨hre, hqb2, hxe⟩ : 0 ≤ r ∧ (0 ≤ q ∧ q ≤ 3) ∧ x2 = (jfup x.1 q.toNat fi, x.2) := by { rcases do_s hse hfo (by omega) (by omega) (by omega) hq hw with z | z; omega; exact z.2 }
            refine jk_aload_n (q := 168) h dX10_does_167 rfl rfl ?_
            refine jk_iload (q := 170) h dX10_does_168 rfl rfl ?_
            refine jk_iload_n (q := 171) h dX10_does_170 rfl rfl ?_
            refine jk_callV (q := 174) h hX (c_X10_sets hM ⟨by omega, by omega⟩) mv_X10_sets (hM.at 0 rfl) dX10_does_171 ml_X10_132 ⟨rfl, Nat.le_refl _⟩ rfl rfl (Nat.le_of_ble_eq_true rfl) (Nat.le_of_ble_eq_true rfl) rfl rfl (Nat.le_of_ble_eq_true rfl) rfl (fun v9 n9 M_1 hp9 => ?_)
            obtain ⟨rfl, rfl, hM, o_1⟩ := hp9
            have ho := ho.tr o_1 (by omega) (by omega)
            have hm2E : mdT (jfup σ (4 + q).toNat (od (4 * j + 1).toNat)) x2 := by { rw [hxe, hfe]; exact hm.set hQ ⟨by omega, by omega⟩ }
            have hrwE : (w = 0 ∧ r < 0) ∨ (w = 1 ∧ 0 ≤ r) := by omega
            refine jk_pop (q := 175) h dX10_does_174 rfl rfl ?_
            exact jk_weak (jwk_s rfl (jwk_n (jwk_n (jwk_n (jwk_n (jwk_s rfl jwk_0)))))) (jn175 _ _ _ hM hm2E hrwE ho)
        have jn140 : ∀ (u9 : Int) (h140 : w = 0 ∨ kd ≠ 45), jJ X 140 [some (.ref (m)), some (jI (j)), some (jI (od (4 * j).toNat)), some (jI (od (4 * j + 1).toNat)), some (jI (q)), some (jI (w))] [] n M 0 0 := by
          intro u9 h140
          refine jk_iload (q := 142) h dX10_does_140 rfl rfl ?_
          refine jk_if_eq (q := 145) (tgt := 162) h dX10_does_142 (by decide) rfl ⟨by omega, by omega⟩ (fun c142 => ?_) (fun c142 => ?_)
          · exact jk_weak (jwk_s rfl (jwk_s rfl (jwk_s rfl (jwk_s rfl (jwk_s rfl (jwk_s rfl jwk_0)))))) (jn162 0 (by omega))
          · refine jk_iload_n (q := 146) h dX10_does_145 rfl rfl ?_
            refine jk_bipush (q := 148) h dX10_does_146 (by decide) rfl ?_
            refine jk_icmp_ne (q := 151) (tgt := 162) h dX10_does_148 (by decide) rfl ⟨by omega, by omega⟩ ⟨by omega, by omega⟩ (fun c148 => ?_) (fun c148 => ?_)
            · exact jk_weak (jwk_s rfl (jwk_s rfl (jwk_s rfl (jwk_s rfl (jwk_s rfl (jwk_s rfl jwk_0)))))) (jn162 0 (by omega))
            · obtain ⟨hre, hz97, A9, B9, p9, hxe, hA97, hB97, hp97⟩ : 0 ≤ r ∧ 0 < x.2.1.2.2 ∧ ∃ (A B : TC) (p : TP), x2 = (x.1, x.2.1, (x.2.1.2.2, 0), A, B, p) ∧ lrQ x.2.1.1 x.2.1.2.2 (x.1 1) (x.1 0) A ∧ lrQ x.2.1.2.1 x.2.1.2.2 (x.1 1) (x.1 0) B ∧ pmQ x.2.1 (x.1 2) p.2.2.2 p.1 p.2.1 p.2.2.1 := by { rcases do_97 hfo (by omega) hys.1 hw with z | z; omega; exact z.2 }
              refine jk_aload_n (q := 152) h dX10_does_151 rfl rfl ?_
              refine jk_aload_n (q := 153) h dX10_does_152 rfl rfl ?_
              refine jk_get (q := 156) h fg_X10_7 dX10_does_153 (hM.at 0 rfl) rfl rfl ?_
              refine jk_callV (q := 159) h hX (c_X10_analyses (jPic_c (hM.at 0 rfl)) (jPic_c (hM.at 1 rfl)) (jPic_c (hM.at 8 rfl)) (by omega) (by omega) hm hQ) mv_X10_analyses (hM.at 0 rfl) dX10_does_156 ml_X10_126 ⟨rfl, Nat.le_refl _⟩ rfl rfl (Nat.le_of_ble_eq_true rfl) (Nat.le_of_ble_eq_true rfl) rfl rfl (Nat.le_of_ble_eq_true rfl) rfl (fun v9 n9 M_2 hp9 => ?_)
              obtain ⟨rfl, rfl, ⟨s9, lf9, hs9q, hlf9, ham⟩, oj9⟩ := id hp9
              have o_2 := jtw.ou (m := m) (k := 9) oj9 ⟨by omega, by omega⟩ ⟨by omega, by omega⟩
              have hp8 := hp9
              have ho := ho.tr o_2 (by omega) (by omega)
              have hM := md_now hM hs9q hlf9 oj9
              have hm2E : mdT s9 x2 := by { rw [hxe]; exact ham.md hm hQ hz97 hA97 hB97 hp97 }
              have hrwE : (w = 0 ∧ r < 0) ∨ (w = 1 ∧ 0 ≤ r) := by omega
              refine jk_goto (q := 162) (tgt := 175) h dX10_does_159 (by decide) ?_
              exact jk_weak (jwk_s rfl (jwk_n (jwk_n (jwk_n (jwk_n (jwk_s rfl jwk_0)))))) (jn175 _ _ _ hM hm2E hrwE ho)
        refine jk_istore (q := 120) h dX10_does_118 rfl (Nat.le_of_ble_eq_true rfl) rfl rfl ?_
        refine jk_iload (q := 122) h dX10_does_120 rfl rfl ?_
        refine jk_if_eq (q := 125) (tgt := 140) h dX10_does_122 (by decide) rfl ⟨by omega, by omega⟩ (fun c122 => ?_) (fun c122 => ?_)
        · exact jk_weak (jwk_s rfl (jwk_s rfl (jwk_s rfl (jwk_s rfl (jwk_s rfl (jwk_s rfl jwk_0)))))) (jn140 0 (by omega))
        · refine jk_iload_n (q := 126) h dX10_does_125 rfl rfl ?_
          refine jk_bipush (q := 128) h dX10_does_126 (by decide) rfl ?_
          refine jk_icmp_ne (q := 131) (tgt := 140) h dX10_does_128 (by decide) rfl ⟨by omega, by omega⟩ ⟨by omega, by omega⟩ (fun c128 => ?_) (fun c128 => ?_)
          · exact jk_weak (jwk_s rfl (jwk_s rfl (jwk_s rfl (jwk_s rfl (jwk_s rfl (jwk_s rfl jwk_0)))))) (jn140 0 (by omega))
          · have hfe := h1 (by omega)
            obtain ⟨hre, hxb, hxe⟩ : 0 ≤ r ∧ (0 ≤ fi ∧ fi < x.2.1.2.2) ∧ x2 = (x.1, (jdr x.2.1.1 fi (x.2.1.2.2 - 1), jdr x.2.1.2.1 fi (x.2.1.2.2 - 1), x.2.1.2.2 - 1), (x.2.2.1.1, nch x.2.2.1.1 x.2.2.1.2), x.2.2.2) := by { rcases do_45 hfo (by omega) hw with z | z; omega; exact z.2 }
            refine jk_aload_n (q := 132) h dX10_does_131 rfl rfl ?_
            refine jk_iload_n (q := 133) h dX10_does_132 rfl rfl ?_
            refine jk_callV (q := 136) h hX (c_X10_goes hM hm hQ ⟨by omega, by omega⟩) mv_X10_goes (hM.at 0 rfl) dX10_does_133 ml_X10_145 ⟨rfl, Nat.le_refl _⟩ rfl rfl (Nat.le_of_ble_eq_true rfl) (Nat.le_of_ble_eq_true rfl) rfl rfl (Nat.le_of_ble_eq_true rfl) rfl (fun v9 n9 M_3 hp9 => ?_)
            obtain ⟨rfl, rfl, ⟨σ2, hM, hm2⟩, o_3⟩ := hp9
            have ho := ho.tr o_3 (by omega) (by omega)
            rw [hfe] at hm2
            have hm2E : mdT σ2 x2 := by { rw [hxe]; exact hm2 }
            have hrwE : (w = 0 ∧ r < 0) ∨ (w = 1 ∧ 0 ≤ r) := by omega
            refine jk_pop (q := 137) h dX10_does_136 rfl rfl ?_
            refine jk_goto (q := 140) (tgt := 175) h dX10_does_137 (by decide) ?_
            exact jk_weak (jwk_s rfl (jwk_n (jwk_n (jwk_n (jwk_n (jwk_s rfl jwk_0)))))) (jn175 _ _ _ hM hm2E hrwE ho)
      refine jk_iload_n (q := 76) h dX10_does_75 rfl rfl ?_
      refine jk_bipush (q := 78) h dX10_does_76 (by decide) rfl ?_
      refine jk_icmp_ne (q := 81) (tgt := 89) h dX10_does_78 (by decide) rfl ⟨by omega, by omega⟩ ⟨by omega, by omega⟩ (fun c78 => ?_) (fun c78 => ?_)
      · refine jk_iload_n (q := 90) h dX10_does_89 rfl rfl ?_
        refine jk_bipush (q := 92) h dX10_does_90 (by decide) rfl ?_
        refine jk_icmp_ne (q := 95) (tgt := 112) h dX10_does_92 (by decide) rfl ⟨by omega, by omega⟩ ⟨by omega, by omega⟩ (fun c92 => ?_) (fun c92 => ?_)
        · have g3 := h1 (by omega)
          refine jk_iload (q := 114) h dX10_does_112 rfl rfl ?_
          refine jk_iload_n (q := 115) h dX10_does_114 rfl rfl ?_
          refine jk_callS (q := 118) h hX (c_X10_isFor ⟨by omega, by omega⟩ ⟨by omega, by omega⟩) ms_X10_isFor dX10_does_115 ml_X10_129 ⟨rfl, Nat.le_refl _⟩ rfl rfl (Nat.le_of_ble_eq_true rfl) (Nat.le_of_ble_eq_true rfl) rfl rfl (Nat.le_of_ble_eq_true rfl) rfl (fun v9 n9 M9 hp9 => ?_)
          obtain ⟨rfl, rfl, rfl⟩ := hp9
          exact jk_weak (jwk_s rfl (jwk_s rfl (jwk_s rfl (jwk_s rfl (jwk_s rfl (jwk_n jwk_0)))))) (jn118 _ (by first | exact dwQ_45 (by omega) (h1 (by omega)) | exact dwQ_1 (by omega) (by omega) | exact dwQ_0 (by omega) (by omega) | exact dwQ_s (by omega) (by omega) (h1 (by omega))))
        · refine jk_aload_n (q := 96) h dX10_does_95 rfl rfl ?_
          refine jk_get (q := 99) h fg_X10_7 dX10_does_96 (hM.at 0 rfl) rfl rfl ?_
          refine jk_iconst (q := 100) h dX10_does_99 rfl ?_
          refine jk_ialdI (q := 101) h dX10_does_100 (hM.at 1 rfl) (by omega) (by omega) rfl rfl ?_
          refine jk_if_le (q := 104) (tgt := 108) h dX10_does_101 (by decide) rfl ⟨by omega, by omega⟩ (fun c101 => ?_) (fun c101 => ?_)
          · refine jk_iconst (q := 109) h dX10_does_108 rfl ?_
            refine jk_goto (q := 112) (tgt := 118) h dX10_does_109 (by decide) ?_
            exact jk_weak (jwk_s rfl (jwk_s rfl (jwk_s rfl (jwk_s rfl (jwk_s rfl (jwk_n jwk_0)))))) (jn118 _ (by first | exact dwQ_45 (by omega) (h1 (by omega)) | exact dwQ_1 (by omega) (by omega) | exact dwQ_0 (by omega) (by omega) | exact dwQ_s (by omega) (by omega) (h1 (by omega))))
          · refine jk_iconst (q := 105) h dX10_does_104 rfl ?_
            refine jk_goto (q := 108) (tgt := 118) h dX10_does_105 (by decide) ?_
            exact jk_weak (jwk_s rfl (jwk_s rfl (jwk_s rfl (jwk_s rfl (jwk_s rfl (jwk_n jwk_0)))))) (jn118 _ (by first | exact dwQ_45 (by omega) (h1 (by omega)) | exact dwQ_1 (by omega) (by omega) | exact dwQ_0 (by omega) (by omega) | exact dwQ_s (by omega) (by omega) (h1 (by omega))))
      · have g3 := h1 (by omega)
        refine jk_aload_n (q := 82) h dX10_does_81 rfl rfl ?_
        refine jk_iload_n (q := 83) h dX10_does_82 rfl rfl ?_
        refine jk_callV (q := 86) h hX (c_X10_isRow hM hm hQ ⟨by omega, by omega⟩) mv_X10_isRow (hM.at 0 rfl) dX10_does_83 ml_X10_142 ⟨rfl, Nat.le_refl _⟩ rfl rfl (Nat.le_of_ble_eq_true rfl) (Nat.le_of_ble_eq_true rfl) rfl rfl (Nat.le_of_ble_eq_true rfl) rfl (fun v9 n9 M9 hp9 => ?_)
        obtain ⟨rfl, rfl, rfl⟩ := hp9
        refine jk_goto (q := 89) (tgt := 118) h dX10_does_86 (by decide) ?_
        exact jk_weak (jwk_s rfl (jwk_s rfl (jwk_s rfl (jwk_s rfl (jwk_s rfl (jwk_n jwk_0)))))) (jn118 _ (by first | exact dwQ_45 (by omega) (h1 (by omega)) | exact dwQ_1 (by omega) (by omega) | exact dwQ_0 (by omega) (by omega) | exact dwQ_s (by omega) (by omega) (h1 (by omega))))
    refine jk_iload_n (q := 53) h dX10_does_52 rfl rfl ?_
    refine jk_bipush (q := 55) h dX10_does_53 (by decide) rfl ?_
    refine jk_icmp_ne (q := 58) (tgt := 62) h dX10_does_55 (by decide) rfl ⟨by omega, by omega⟩ ⟨by omega, by omega⟩ (fun c55 => ?_) (fun c55 => ?_)
    · refine jk_iload_n (q := 63) h dX10_does_62 rfl rfl ?_
      refine jk_bipush (q := 65) h dX10_does_63 (by decide) rfl ?_
      refine jk_icmp_ne (q := 68) (tgt := 72) h dX10_does_65 (by decide) rfl ⟨by omega, by omega⟩ ⟨by omega, by omega⟩ (fun c65 => ?_) (fun c65 => ?_)
      · refine jk_iconst (q := 73) h dX10_does_72 rfl ?_
        exact jk_weak (jwk_s rfl (jwk_s rfl (jwk_s rfl (jwk_s rfl (jwk_n (jwk_n jwk_0)))))) (jn73 _ (by refine ⟨fun z => ?_, fun z => ?_, fun z => ?_⟩ <;> omega) (by omega))
      · refine jk_iconst (q := 69) h dX10_does_68 rfl ?_
        refine jk_goto (q := 72) (tgt := 73) h dX10_does_69 (by decide) ?_
        exact jk_weak (jwk_s rfl (jwk_s rfl (jwk_s rfl (jwk_s rfl (jwk_n (jwk_n jwk_0)))))) (jn73 _ (by refine ⟨fun z => ?_, fun z => ?_, fun z => ?_⟩ <;> omega) (by omega))
    · refine jk_iconst (q := 59) h dX10_does_58 rfl ?_
      refine jk_goto (q := 62) (tgt := 73) h dX10_does_59 (by decide) ?_
      exact jk_weak (jwk_s rfl (jwk_s rfl (jwk_s rfl (jwk_s rfl (jwk_n (jwk_n jwk_0)))))) (jn73 _ (by refine ⟨fun z => ?_, fun z => ?_, fun z => ?_⟩ <;> omega) (by omega))
  · have hk43 : kd = 43 := by omega
    obtain ⟨g1, g2⟩ := h2 hk43
    have g3 := h1 (by omega)
    have g4 := htb9 hk43
    have har : arQ x (od (4 * j + 1).toNat) (od (4 * j + 2).toNat) (od (4 * j + 3).toNat).toNat r x2 := by { rw [g1, g2, g3]; exact foQ_43 hfo hk43 }
    refine jk_aload_n (q := 27) h dX10_does_26 rfl rfl ?_
    refine jk_iload_n (q := 28) h dX10_does_27 rfl rfl ?_
    refine jk_aload_n (q := 29) h dX10_does_28 rfl rfl ?_
    refine jk_get (q := 32) h fg_X10_29 dX10_does_29 (hM.at 0 rfl) rfl rfl ?_
    refine jk_iconst (q := 33) h dX10_does_32 rfl ?_
    refine jk_iload_n (q := 34) h dX10_does_33 rfl rfl ?_
    refine jk_imul (q := 35) h dX10_does_34 rfl ?_
    refine jk_iconst (q := 36) h dX10_does_35 rfl ?_
    refine jk_iadd (q := 37) h dX10_does_36 rfl ?_
    refine jk_ialdI (q := 38) h dX10_does_37 (hM.at 7 rfl) (by omega) (by omega) rfl rfl ?_
    refine jk_aload_n (q := 39) h dX10_does_38 rfl rfl ?_
    refine jk_get (q := 42) h fg_X10_29 dX10_does_39 (hM.at 0 rfl) rfl rfl ?_
    refine jk_iconst (q := 43) h dX10_does_42 rfl ?_
    refine jk_iload_n (q := 44) h dX10_does_43 rfl rfl ?_
    refine jk_imul (q := 45) h dX10_does_44 rfl ?_
    refine jk_iconst (q := 46) h dX10_does_45 rfl ?_
    refine jk_iadd (q := 47) h dX10_does_46 rfl ?_
    refine jk_ialdI (q := 48) h dX10_does_47 (hM.at 7 rfl) (by omega) (by omega) rfl rfl ?_
    refine jk_callV (q := 51) h hX (c_X10_comeOften hM hm hQ ⟨by omega, by omega⟩ ⟨by omega, by omega⟩ ⟨by omega, by omega⟩ hcc har) mv_X10_comeOften (hM.at 0 rfl) dX10_does_48 ml_X10_186 ⟨rfl, Nat.le_refl _⟩ rfl rfl (Nat.le_of_ble_eq_true rfl) (Nat.le_of_ble_eq_true rfl) rfl rfl (Nat.le_of_ble_eq_true rfl) rfl (fun v9 n9 M_4 hp9 => ?_)
    obtain ⟨rfl, rfl, ⟨σ2, hM, hm2⟩, o_4⟩ := hp9
    have ho := ho.tr o_4 (by omega) (by omega)
    exact jk_zret h hR dX10_does_51 (Nat.le_of_ble_eq_true rfl) (Nat.le_of_ble_eq_true rfl) (by split <;> simp) ⟨rfl, rfl, ⟨σ2, _, hM, hm2⟩, ho⟩

theorem sgA_e (sg : Nat → Int) (len : Int) : sgA sg len len = 0 := by
  unfold sgA
  rw [if_neg (by omega)]
theorem coQ_end {sg : Nat → Int} {len k r : Int} {y x2 : TS} (h : coQ sg len (80 - k).toNat len k y r x2) (hk : k < 80) : r = k ∧ x2 = y := by
  rw [show (80 - k).toNat = (80 - (k + 1)).toNat + 1 by omega] at h
  rcases h with ⟨-, a, b⟩ | ⟨h, -⟩
  · exact ⟨a, b⟩
  · exfalso
    have e := sgA_e sg len
    unfold oK at h
    omega
theorem coQ_go {sg : Nat → Int} {len a k r : Int} {y x2 : TS} (h : coQ sg len (80 - k).toNat a k y r x2) (hk : k < 80) (ho : oK sg len a) : ∃ r1 x1, stQ x1 ∧ foQ y (sgA sg len a) (oFi sg len a) (oSe sg len a) (oTi sg len a) r1 x1 ∧ ((r1 < 0 ∧ r = k ∧ x2 = x1) ∨ (0 ≤ r1 ∧ coQ sg len (80 - (k + 1)).toNat (nxO sg len a) (k + 1) x1 r x2)) := by
  rw [show (80 - k).toNat = (80 - (k + 1)).toNat + 1 by omega] at h
  rcases h with ⟨z, -⟩ | ⟨-, h⟩
  · exact absurd ho z
  · exact h
def psA (pos : Nat → Int) (on len k : Int) : Int := if k < on then pos k.toNat else len
theorem psA_s {od sg pos : Nat → Int} {len on k : Int} (h : psQ od sg len on false pos) (hl : oE sg len (pos (on - 1).toNat) = len) (hk : 0 ≤ k) (hk2 : k < on) : nxO sg len (pos k.toNat) = psA pos on len (k + 1) := by
  unfold psA nxO
  obtain ⟨-, -, h3⟩ := h.2 k.toNat (by omega)
  by_cases g : k + 1 < on
  · obtain ⟨e1, e2⟩ := h3 (Or.inl (by omega))
    rw [if_pos e1, if_pos g, show (k + 1).toNat = k.toNat + 1 by omega, e2]
  · rw [show (on - 1).toNat = k.toNat by omega] at hl
    rw [if_neg g, hl, if_neg (by rw [sgA_e]; omega)]

set_option maxHeartbeats 4000000 in
set_option maxRecDepth 100000 in
theorem c_X10_carryOut {l : Launch} {D : va_G} {b0 : Nat} {n : Nat} {M : jM} {m : Nat} {x : TS} {hl : Int} {hk : Nat → TS} {sl : Nat → Option TS} {sg : Nat → Int} {len : Int} (hW : moP M m x hl hk sl sg len) {r : Int} {x2 : TS} (hcc : x.2.2.1.2 ≤ 9990000) (hs9 : (ftS sg len 80 0 ≠ -6 ∧ r = -3) ∨ (ftS sg len 80 0 = -6 ∧ 0 ≤ r ∧ coQ sg len 80 0 0 x r x2)) : jCtr l D b0 yX10_carryOut cX10_carryOut 2 (some .int) 6 0 0 [.ref m] n M (fun v9 n2 M2 => some (jI r) = v9 ∧ n = n2 ∧ ((ftS sg len 80 0 ≠ -6 ∧ moP M2 m x hl hk sl sg len) ∨ (ftS sg len 80 0 = -6 ∧ moP M2 m x2 (rcH r hl) (rcK r x hk) sl sg 0)) ∧ jout M M2 m 9) := by
  refine jctr (lv := [some (.ref m), none]) RX10 "carryOut" rfl rfl (by decide) (Nat.le_of_ble_eq_true rfl) rfl ?_
  intro X h hR hX
  obtain ⟨σ, τ, ps, sv, hd, pd, a9, od, on, lf, hM, hm, hQ, hh, hsl, hpd, hkp, hpQ⟩ := id hW
  obtain ⟨hmr, ⟨hm1, hm2, hm3⟩, hms, hmA, hmB, hmP⟩ := id hm
  obtain ⟨hse, htb, hr, hch, hOA, hOB, hOP⟩ := id hQ
  obtain ⟨hya, hyb, hys⟩ := id htb
  have hm0 := hmr.1
  have hk1 : σ (1 : Int).toNat = 1 ∨ σ (1 : Int).toNat = 0 := by { rw [hm1]; unfold mkn; split <;> simp }
  have hk2 : σ (1 : Int).toNat = 0 ↔ x.2.2.1.1 = 0 := by { rw [hm1]; unfold mkn; split <;> omega }
  have ho := jout.rf M m 9
  refine jk_aload_n (q := 1) h dX10_carryOut_0 rfl rfl ?_
  refine jk_callV (q := 4) h hX (c_X10_isText hM hpd hpQ) mv_X10_isText (hM.at 0 rfl) dX10_carryOut_1 ml_X10_183 ⟨rfl, Nat.le_refl _⟩ rfl rfl (Nat.le_of_ble_eq_true rfl) (Nat.le_of_ble_eq_true rfl) rfl rfl (Nat.le_of_ble_eq_true rfl) rfl (fun v9 n9 M_1 hp9 => ?_)
  obtain ⟨w9, a2, od2, on2, rfl, rfl, hM, hw01, ha2, hw0, hw1, o_1⟩ := hp9
  have ho := ho.tr o_1 (by omega) (by omega)
  refine jk_if_ne (q := 7) (tgt := 10) h dX10_carryOut_4 (by decide) rfl ⟨by omega, by omega⟩ (fun c4 => ?_) (fun c4 => ?_)
  · have hw11 : w9 = 1 := by { clear hw1; omega }
    obtain ⟨hft, hon2, pos, hps, hle⟩ := hw1 hw11
    obtain ⟨hr0, hco9⟩ : 0 ≤ r ∧ coQ sg len 80 0 0 x r x2 := by { rcases hs9 with ⟨z, -⟩ | ⟨-, z⟩; exact absurd hft z; exact z }
    have hco0 : coQ sg len (80 - (0 : Int)).toNat (psA pos on2 len 0) 0 x r x2 := by { unfold psA; rw [if_pos (by omega)]; show coQ sg len 80 (pos 0) 0 x r x2; rw [hps.1]; exact hco9 }
    clear hw0 hw1 hs9 hw11
    refine jk_aload_n (q := 11) h dX10_carryOut_10 rfl rfl ?_
    refine jk_callV (q := 14) h hX (c_X10_records hM hm hQ hkp hh) mv_X10_records (hM.at 0 rfl) dX10_carryOut_11 ml_X10_47 ⟨rfl, Nat.le_refl _⟩ rfl rfl (Nat.le_of_ble_eq_true rfl) (Nat.le_of_ble_eq_true rfl) rfl rfl (Nat.le_of_ble_eq_true rfl) rfl (fun v9 n9 M_2 hp9 => ?_)
    obtain ⟨rfl, rfl, ⟨ps2, hM, hh2⟩, o_2⟩ := hp9
    have ho := ho.tr o_2 (by omega) (by omega)
    refine jk_aload_n (q := 15) h dX10_carryOut_14 rfl rfl ?_
    refine jk_iconst (q := 16) h dX10_carryOut_15 rfl ?_
    refine jk_put (q := 19) h (fp_X10_148 _) dX10_carryOut_16 (hM.at 0 rfl) (Nat.le_of_ble_eq_true rfl) rfl (fun M_3 s_3 => ?_)
    have hM := hM.put (i := 0) s_3 rfl
    have ho := ho.st (i := 0) s_3 (by omega)
    have jn43 : ∀ (k5 : Int) (σ5 : Nat → Int) (lf5 : Nat → Int) (M9 : jM) (hrk : r = k5) (hM : jPic M9 m (mdL m σ5 τ ps2 (jmn (hl + 1) 6) sv hd pd 0 a2 od2 on2 lf5)) (hm5 : mdT σ5 x2) (hq5 : stQ x2) (ho : jout M M9 m 9), jJ X 43 [some (.ref (m)), some (jI (k5))] [] n M9 0 0 := by
      intro k5 σ5 lf5 M9 hrk hM hm5 hq5 ho
      refine jk_iload_n (q := 44) h dX10_carryOut_43 rfl rfl ?_
      exact jk_iret h hR dX10_carryOut_44 (Nat.le_of_ble_eq_true rfl) (Nat.le_of_ble_eq_true rfl) (by
            refine ⟨by rw [hrk], rfl, Or.inr ⟨hft, ?_⟩, ho⟩
            unfold rcH rcK
            rw [if_pos hr0, if_pos hr0]
            exact ⟨_, _, _, _, _, _, _, _, _, _, hM, hm5, hq5, hh2, hsl, (fun k hk => absurd hk (by omega)), jmn_b hkp, ⟨hpQ.1, by decide, by decide⟩⟩)
    refine jk_iconst (q := 20) h dX10_carryOut_19 rfl ?_
    refine jk_istore_n (q := 21) h dX10_carryOut_20 rfl (Nat.le_of_ble_eq_true rfl) rfl rfl ?_
    have lp21 : ∀ (k9 : Nat) (k : Int) (σ3 : Nat → Int) (lf3 : Nat → Int) (y : TS) (M9 : jM) (hk1b : 0 ≤ k) (hk2b : k ≤ on2) (hM : jPic M9 m (mdL m σ3 τ ps2 (jmn (hl + 1) 6) sv hd pd 0 a2 od2 on2 lf3)) (hmy : mdT σ3 y) (hyQ : stQ y) (hyc : y.2.2.1.2 ≤ x.2.2.1.2 + 9 * k) (hco : coQ sg len (80 - k).toNat (psA pos on2 len k) k y r x2) (ho : jout M M9 m 9) (hk9 : (on2 - k).toNat = k9), jJ X 21 [some (.ref (m)), some (jI (k))] [] n M9 0 0 := by
      intro k9
      induction k9 using Nat.strongRecOn with
      | _ k9 ih21 =>
        intro k σ3 lf3 y M9 hk1b hk2b hM hmy hyQ hyc hco ho hk9
        refine jk_iload_n (q := 22) h dX10_carryOut_21 rfl rfl ?_
        refine jk_aload_n (q := 23) h dX10_carryOut_22 rfl rfl ?_
        refine jk_get (q := 26) h fg_X10_167 dX10_carryOut_23 (hM.at 0 rfl) rfl rfl ?_
        refine jk_icmp_ge (q := 29) (tgt := 43) h dX10_carryOut_26 (by decide) rfl ⟨by omega, by omega⟩ ⟨by omega, by omega⟩ (fun c26 => ?_) (fun c26 => ?_)
        · have hke : k = on2 := by omega
          obtain ⟨hrkE, hx2e⟩ : r = k ∧ x2 = y := by { unfold psA at hco; rw [if_neg (by omega)] at hco; exact coQ_end hco (by omega) }
          have hm5E : mdT σ3 x2 := by { rw [hx2e]; exact hmy }
          have hq5E : stQ x2 := by { rw [hx2e]; exact hyQ }
          exact jk_weak (jwk_s rfl (jwk_s rfl jwk_0)) (jn43 _ _ _ _ hrkE hM hm5E hq5E ho)
        · obtain ⟨hok, hen, -⟩ := hps.2 k.toNat (by omega)
          have hcoP : coQ sg len (80 - k).toNat (pos k.toNat) k y r x2 := by { unfold psA at hco; rw [if_pos (by omega)] at hco; exact hco }
          obtain ⟨r1, y1, hq1, hfo, hnx⟩ := coQ_go hcoP (by omega) hok
          rw [show ((k.toNat : Nat) : Int) = k by omega] at hen
          have hyc1 : y1.2.2.1.2 ≤ x.2.2.1.2 + 9 * (k + 1) := by { have := foQ_c hyQ (fun z => (oTi_b hok z).2) hfo; omega }
          refine jk_aload_n (q := 30) h dX10_carryOut_29 rfl rfl ?_
          refine jk_iload_n (q := 31) h dX10_carryOut_30 rfl rfl ?_
          refine jk_callV (q := 34) h hX (c_X10_does hM hmy hyQ ⟨hk1b, by omega⟩ (oK_k hok) hen.1 hen.2.1 hen.2.2 (by have := nmV_bd sg len (pos k.toNat + 1); exact this) (by have := nmV_bd sg len (nmE sg len (pos k.toNat + 1) + 1); exact this) (fun z => oTi_b hok z) (by omega) hfo hq1) mv_X10_does (hM.at 0 rfl) dX10_carryOut_31 ml_X10_189 ⟨rfl, Nat.le_refl _⟩ rfl rfl (Nat.le_of_ble_eq_true rfl) (Nat.le_of_ble_eq_true rfl) rfl rfl (Nat.le_of_ble_eq_true rfl) rfl (fun v9 n9 M_4 hp9 => ?_)
          obtain ⟨rfl, rfl, ⟨σ4, lf4, hM, hm4⟩, o_4⟩ := hp9
          have ho := ho.tr o_4 (by omega) (by omega)
          refine jk_if_eqB (q := 37) (tgt := 43) h dX10_carryOut_34 (by decide) rfl (fun c34 => ?_) (fun c34 => ?_)
          · obtain ⟨hrkE, hx2e⟩ : r = k ∧ x2 = y1 := by { rcases hnx with ⟨-, z⟩ | ⟨z, -⟩; exact z; exact absurd z c34 }
            have hm5E : mdT σ4 x2 := by { rw [hx2e]; exact hm4 }
            have hq5E : stQ x2 := by { rw [hx2e]; exact hq1 }
            exact jk_weak (jwk_s rfl (jwk_s rfl jwk_0)) (jn43 _ _ _ _ hrkE hM hm5E hq5E ho)
          · have hco1 : coQ sg len (80 - (k + 1)).toNat (psA pos on2 len (k + 1)) (k + 1) y1 r x2 := by { rw [← psA_s hps hle hk1b (by omega)]; rcases hnx with ⟨z, -⟩ | ⟨-, z⟩; omega; exact z }
            refine jk_iinc (q := 40) h dX10_carryOut_37 rfl rfl rfl rfl ?_
            refine jk_goto (q := 43) (tgt := 21) h dX10_carryOut_40 (by decide) ?_
            exact jk_weak (jwk_s rfl (jwk_s rfl jwk_0)) (ih21 _ (by omega) (k + 1) σ4 lf4 y1 _ (by omega) (by omega) hM hm4 hq1 hyc1 hco1 ho rfl)
    exact jk_weak (jwk_s rfl (jwk_s rfl jwk_0)) (lp21 _ 0 σ lf x _ (by omega) (by omega) hM hm hQ (by omega) hco0 ho rfl)
  · clear hw1
    refine jk_bipush (q := 9) h dX10_carryOut_7 (by decide) rfl ?_
    exact jk_iret h hR dX10_carryOut_9 (Nat.le_of_ble_eq_true rfl) (Nat.le_of_ble_eq_true rfl) (by
          have hne : ftS sg len 80 0 ≠ -6 := by have := hw0 (by omega); omega
          rcases hs9 with ⟨-, rfl⟩ | ⟨z, -⟩
          · exact ⟨rfl, rfl, Or.inl ⟨hne, ⟨_, _, _, _, _, _, _, _, _, _, hM, hm, hQ, hh, hsl, hpd, hkp, hpQ⟩⟩, ho⟩
          · exact absurd z hne)
