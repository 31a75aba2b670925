/-! the text of orders: what stands at a place, and what is read there -/
def sgA (sg : Nat → Int) (len i : Int) : Int := if 0 ≤ i ∧ i < len then sg i.toNat else 0
def pdQ (sg : Nat → Int) (len : Int) : Prop := jrF sg 0 126 ∧ 0 ≤ len ∧ len ≤ 80
theorem sgA_bd {sg : Nat → Int} {len i : Int} (h : pdQ sg len) : 0 ≤ sgA sg len i ∧ sgA sg len i ≤ 126 := by
  have := h.1 i.toNat
  unfold sgA
  split <;> omega
theorem sgA_lt {sg : Nat → Int} {len i : Int} (h : pdQ sg len) (hp : 0 < sgA sg len i) : 0 ≤ i ∧ i < len := by
  unfold sgA at hp
  split at hp
  · assumption
  · omega
abbrev isD (sg : Nat → Int) (len i : Int) : Prop := 48 ≤ sgA sg len i ∧ sgA sg len i ≤ 57
def dgV (sg : Nat → Int) (len i : Int) : Int := if isD sg len i then sgA sg len i - 48 else -1
def dgE (sg : Nat → Int) (len i : Int) : Int := if isD sg len i then i + 1 else i
def nmV (sg : Nat → Int) (len i : Int) : Int := if dgV sg len i ≤ 0 then dgV sg len i else if dgV sg len (i + 1) < 0 then dgV sg len i else dgV sg len i * 10 + dgV sg len (i + 1)
def nmE (sg : Nat → Int) (len i : Int) : Int := if dgV sg len i ≤ 0 then dgE sg len i else dgE sg len (i + 1)
def tmK (sg : Nat → Int) (len i : Int) : Prop := sgA sg len i ≠ 42 ∨ (49 ≤ sgA sg len (i + 1) ∧ sgA sg len (i + 1) ≤ 57)
def tmE (sg : Nat → Int) (len i : Int) : Int := if sgA sg len i ≠ 42 then i else if 49 ≤ sgA sg len (i + 1) ∧ sgA sg len (i + 1) ≤ 57 then i + 2 else i + 1
def tmV (sg : Nat → Int) (len i : Int) : Int := if sgA sg len i ≠ 42 then 1 else sgA sg len (i + 1) - 48
/-- '+' has been read: is a row -/
def rwK (sg : Nat → Int) (len i : Int) : Prop := 0 ≤ nmV sg len i ∧ sgA sg len (nmE sg len i) = 44 ∧ 0 ≤ nmV sg len (nmE sg len i + 1) ∧ tmK sg len (nmE sg len (nmE sg len i + 1))
def rwE (sg : Nat → Int) (len i : Int) : Int := if nmV sg len i < 0 then nmE sg len i else if sgA sg len (nmE sg len i) ≠ 44 then nmE sg len i else if nmV sg len (nmE sg len i + 1) < 0 then nmE sg len (nmE sg len i + 1) else tmE sg len (nmE sg len (nmE sg len i + 1))
def oK (sg : Nat → Int) (len i : Int) : Prop := sgA sg len i = 97 ∨ (sgA sg len i = 43 ∧ rwK sg len (i + 1)) ∨ ((sgA sg len i = 45 ∨ sgA sg len i = 98 ∨ sgA sg len i = 99 ∨ sgA sg len i = 112) ∧ 0 ≤ nmV sg len (i + 1))
def oE (sg : Nat → Int) (len i : Int) : Int := if sgA sg len i = 97 then i + 1 else if sgA sg len i = 43 then rwE sg len (i + 1) else if sgA sg len i = 45 ∨ sgA sg len i = 98 ∨ sgA sg len i = 99 ∨ sgA sg len i = 112 then nmE sg len (i + 1) else i
theorem dgV_bd (sg : Nat → Int) (len i : Int) : -1 ≤ dgV sg len i ∧ dgV sg len i ≤ 9 := by
  unfold dgV isD
  split <;> omega
theorem dg_E {sg : Nat → Int} {len i : Int} (h : pdQ sg len) (h0 : 0 ≤ i) (h1 : i ≤ 80) : i ≤ dgE sg len i ∧ dgE sg len i ≤ 80 ∧ (0 ≤ dgV sg len i → dgE sg len i = i + 1) ∧ (dgV sg len i < 0 → dgE sg len i = i) := by
  unfold dgE dgV isD
  split
  · rename_i hd
    have := sgA_lt (i := i) h (by omega)
    have := h.2
    exact ⟨by omega, by omega, fun _ => rfl, fun _ => by omega⟩
  · exact ⟨by omega, by omega, fun _ => by omega, fun _ => rfl⟩
theorem nmV_bd (sg : Nat → Int) (len i : Int) : -1 ≤ nmV sg len i ∧ nmV sg len i ≤ 99 := by
  have h1 := dgV_bd sg len i
  have h2 := dgV_bd sg len (i + 1)
  unfold nmV
  split
  · omega
  · split <;> omega
theorem nm_E {sg : Nat → Int} {len i : Int} (h : pdQ sg len) (h0 : 0 ≤ i) (h1 : i ≤ 80) : i ≤ nmE sg len i ∧ nmE sg len i ≤ 80 ∧ (0 ≤ nmV sg len i → i + 1 ≤ nmE sg len i) := by
  have a := dg_E h h0 h1
  unfold nmE nmV
  split
  · exact ⟨a.1, a.2.1, fun hz => by have := a.2.2.1 hz; omega⟩
  · have e := a.2.2.1 (by omega)
    have b := dg_E (i := i + 1) h (by omega) (by omega)
    exact ⟨by omega, by omega, fun _ => by omega⟩
theorem tm_E {sg : Nat → Int} {len i : Int} (h : pdQ sg len) (h0 : 0 ≤ i) (h1 : i ≤ 80) : i ≤ tmE sg len i ∧ tmE sg len i ≤ 80 := by
  unfold tmE
  split
  · omega
  · rename_i hn
    have a := sgA_lt (i := i) h (by omega)
    have b := h.2
    split
    · have c := sgA_lt (i := i + 1) h (by omega)
      omega
    · omega
theorem rw_E {sg : Nat → Int} {len i : Int} (h : pdQ sg len) (h0 : 0 ≤ i) (h1 : i ≤ 80) : i ≤ rwE sg len i ∧ rwE sg len i ≤ 80 := by
  have a := nm_E h h0 h1
  unfold rwE
  split
  · exact ⟨a.1, a.2.1⟩
  · split
    · exact ⟨a.1, a.2.1⟩
    · rename_i h2 h3
      have b := sgA_lt (i := nmE sg len i) h (by omega)
      have b2 := h.2
      have c := nm_E (i := nmE sg len i + 1) h (by omega) (by omega)
      split
      · omega
      · have d := tm_E (i := nmE sg len (nmE sg len i + 1)) h (by omega) (by omega)
        omega
theorem o_E {sg : Nat → Int} {len i : Int} (h : pdQ sg len) (h0 : 0 ≤ i) (h1 : i ≤ 80) : i ≤ oE sg len i ∧ oE sg len i ≤ 80 ∧ (oK sg len i → i + 1 ≤ oE sg len i) ∧ (0 < sgA sg len i → i < len) := by
  have hb := h.2
  have hl : 0 < sgA sg len i → i < len := fun z => (sgA_lt h z).2
  unfold oE oK
  split
  · have := hl (by omega)
    exact ⟨by omega, by omega, fun _ => by omega, hl⟩
  · split
    · have := hl (by omega)
      have a := rw_E (i := i + 1) h (by omega) (by omega)
      exact ⟨by omega, by omega, fun _ => by omega, hl⟩
    · split
      · have := hl (by omega)
        have a := nm_E (i := i + 1) h (by omega) (by omega)
        exact ⟨by omega, by omega, fun _ => by omega, hl⟩
      · exact ⟨by omega, by omega, fun hz => by omega, hl⟩
/-- what the reader holds of an order that it has read -/
def oF (sg : Nat → Int) (len i fi se ti : Int) : Prop := (sgA sg len i ≠ 97 → fi = nmV sg len (i + 1)) ∧ (sgA sg len i = 43 → se = nmV sg len (nmE sg len (i + 1) + 1) ∧ ti = tmV sg len (nmE sg len (nmE sg len (i + 1) + 1)))
noncomputable def ftS (sg : Nat → Int) (len : Int) : Nat → Int → Int
  | 0, i => i
  | k + 1, i => @ite _ (oK sg len i) (Classical.propDecidable _) (if oE sg len i = len then -6 else if sgA sg len (oE sg len i) ≠ 59 then oE sg len i else ftS sg len k (oE sg len i + 1)) (oE sg len i)

set_option maxHeartbeats 4000000 in
set_option maxRecDepth 100000 in
theorem c_X4_init {l : Launch} {D : va_G} {b0 : Nat} {M : jM} {p : Nat} (hD : jPic M p [oB 3 [.null, jI 0]]) : jCtr l D b0 yX4_init cX4_init 1 none 1 1 80 [.ref p] (p + 1) M (fun v n2 M2 => none = v ∧ p + 2 = n2 ∧ jPic M2 p (pdL p jz 0) ∧ jout M M2 p 2) := by
  refine jctr (lv := [some (.ref p)]) RX4 "<init>" rfl rfl (by decide) (Nat.le_of_ble_eq_true rfl) rfl ?_
  intro X h hR hX
  have ho := jout.rf M p 2
  refine jk_aload_n (q := 1) h dX4_init_0 rfl rfl ?_
  refine jk_objInit (q := 4) h dX4_init_1 ml_X4_3 ko_i ko_c (Nat.le_of_ble_eq_true rfl) (Nat.le_of_ble_eq_true rfl) rfl ?_
  refine jk_aload_n (q := 5) h dX4_init_4 rfl rfl ?_
  refine jk_bipush (q := 7) h dX4_init_5 (by decide) rfl ?_
  refine jk_newa (q := 9) h dX4_init_7 rfl ka_char rfl (Nat.le_of_ble_eq_true rfl) (Nat.le_of_ble_eq_true rfl) rfl (fun M_1 s_1 => ?_)
  have s_1 : jst _ _ _ (aC 80 jz) := s_1
  have hD := hD.snoc s_1
  have ho := ho.st (i := 1) s_1 (by omega)
  refine jk_putF (q := 12) h (fp_X4_9 _) dX4_init_9 rfl fd_X4_0 (hD.at 0 rfl) (Nat.le_of_ble_eq_true rfl) rfl (fun M_2 s_2 => ?_)
  have hD := hD.put (i := 0) s_2 rfl
  have ho := ho.st (i := 0) s_2 (by omega)
  exact jk_vret h hR dX4_init_12 (Nat.le_of_ble_eq_true rfl) (Nat.le_of_ble_eq_true rfl) ⟨rfl, rfl, hD, ho⟩

set_option maxHeartbeats 4000000 in
set_option maxRecDepth 100000 in
theorem c_X4_signAt {l : Launch} {D : va_G} {b0 : Nat} {n : Nat} {M : jM} {p : Nat} {sg : Nat → Int} {len : Int} (hD : jPic M p (pdL p sg len)) (hQ : pdQ sg len) {i : Int} (hi : jRng i) : jCtr l D b0 yX4_signAt cX4_signAt 2 (some .char) 0 0 0 [.ref p, jI i] n M (jrd n M (sgA sg len i)) := by
  refine jctr (lv := [some (.ref p), some (jI i)]) RX4 "signAt" rfl rfl (by decide) (Nat.le_of_ble_eq_true rfl) rfl ?_
  intro X h hR hX
  obtain ⟨hsg, hln⟩ := id hQ
  have hs9 := sgA_bd (i := i) hQ
  have hsi := hsg i.toNat
  refine jk_iload_n (q := 1) h dX4_signAt_0 rfl rfl ?_
  refine jk_if_lt (q := 4) (tgt := 21) h dX4_signAt_1 (by decide) rfl ⟨by omega, by omega⟩ (fun c1 => ?_) (fun c1 => ?_)
  · refine jk_iconst (q := 22) h dX4_signAt_21 rfl ?_
    exact jk_cret h hR dX4_signAt_22 (Nat.le_of_ble_eq_true rfl) (Nat.le_of_ble_eq_true rfl) (by omega) (by omega) (jrd_of (by unfold sgA; first | exact if_pos (by omega) | exact if_neg (by omega)))
  · refine jk_iload_n (q := 5) h dX4_signAt_4 rfl rfl ?_
    refine jk_aload_n (q := 6) h dX4_signAt_5 rfl rfl ?_
    refine jk_get (q := 9) h fg_X4_19 dX4_signAt_6 (hD.at 0 rfl) rfl rfl ?_
    refine jk_icmp_ge (q := 12) (tgt := 21) h dX4_signAt_9 (by decide) rfl ⟨by omega, by omega⟩ ⟨by omega, by omega⟩ (fun c9 => ?_) (fun c9 => ?_)
    · refine jk_iconst (q := 22) h dX4_signAt_21 rfl ?_
      exact jk_cret h hR dX4_signAt_22 (Nat.le_of_ble_eq_true rfl) (Nat.le_of_ble_eq_true rfl) (by omega) (by omega) (jrd_of (by unfold sgA; first | exact if_pos (by omega) | exact if_neg (by omega)))
    · refine jk_aload_n (q := 13) h dX4_signAt_12 rfl rfl ?_
      refine jk_get (q := 16) h fg_X4_9 dX4_signAt_13 (hD.at 0 rfl) rfl rfl ?_
      refine jk_iload_n (q := 17) h dX4_signAt_16 rfl rfl ?_
      refine jk_caldI (q := 18) h dX4_signAt_17 (hD.at 1 rfl) (by omega) (by omega) rfl rfl ?_
      refine jk_goto (q := 21) (tgt := 22) h dX4_signAt_18 (by decide) ?_
      exact jk_cret h hR dX4_signAt_22 (Nat.le_of_ble_eq_true rfl) (Nat.le_of_ble_eq_true rfl) (by omega) (by omega) (jrd_of (by unfold sgA; first | exact if_pos (by omega) | exact if_neg (by omega)))

set_option maxHeartbeats 4000000 in
set_option maxRecDepth 100000 in
theorem c_X4_clear {l : Launch} {D : va_G} {b0 : Nat} {n : Nat} {M : jM} {p : Nat} {sg : Nat → Int} {len : Int} (hD : jPic M p (pdL p sg len)) (hQ : pdQ sg len) : jCtr l D b0 yX4_clear cX4_clear 2 (some .int) 0 0 0 [.ref p] n M (fun v n2 M2 => some (jI len) = v ∧ n = n2 ∧ jPic M2 p (pdL p sg 0) ∧ jout M M2 p 2) := by
  refine jctr (lv := [some (.ref p), none]) RX4 "clear" rfl rfl (by decide) (Nat.le_of_ble_eq_true rfl) rfl ?_
  intro X h hR hX
  have ho := jout.rf M p 2
  refine jk_aload_n (q := 1) h dX4_clear_0 rfl rfl ?_
  refine jk_get (q := 4) h fg_X4_19 dX4_clear_1 (hD.at 0 rfl) rfl rfl ?_
  refine jk_istore_n (q := 5) h dX4_clear_4 rfl (Nat.le_of_ble_eq_true rfl) rfl rfl ?_
  refine jk_aload_n (q := 6) h dX4_clear_5 rfl rfl ?_
  refine jk_iconst (q := 7) h dX4_clear_6 rfl ?_
  refine jk_put (q := 10) h (fp_X4_19 _) dX4_clear_7 (hD.at 0 rfl) (Nat.le_of_ble_eq_true rfl) rfl (fun M_1 s_1 => ?_)
  have hD := hD.put (i := 0) s_1 rfl
  have ho := ho.st (i := 0) s_1 (by omega)
  refine jk_iload_n (q := 11) h dX4_clear_10 rfl rfl ?_
  exact jk_iret h hR dX4_clear_11 (Nat.le_of_ble_eq_true rfl) (Nat.le_of_ble_eq_true rfl) ⟨rfl, rfl, hD, ho⟩

set_option maxHeartbeats 4000000 in
set_option maxRecDepth 100000 in
theorem c_X6_init {l : Launch} {D : va_G} {b0 : Nat} {n : Nat} {M : jM} {r p : Nat} (hR9 : jPic M r [oB 5 [.null, jI 0, jI 0, jI 0, jI 0, jI 0]]) {sg : Nat → Int} {len : Int} (hD : jPic M p (pdL p sg len)) (hd : r + 1 ≤ p ∨ p + 2 ≤ r) : jCtr l D b0 yX6_init cX6_init 2 none 1 0 0 [.ref r, .ref p] n M (fun v n2 M2 => none = v ∧ n = n2 ∧ jPic M2 r (rdL p 0 0 0 0 0) ∧ jout M M2 r 1) := by
  refine jctr (lv := [some (.ref r), some (.ref p)]) RX6 "<init>" rfl rfl (by decide) (Nat.le_of_ble_eq_true rfl) rfl ?_
  intro X h hR hX
  have ho := jout.rf M r 1
  refine jk_aload_n (q := 1) h dX6_init_0 rfl rfl ?_
  refine jk_objInit (q := 4) h dX6_init_1 ml_X6_3 ko_i ko_c (Nat.le_of_ble_eq_true rfl) (Nat.le_of_ble_eq_true rfl) rfl ?_
  refine jk_aload_n (q := 5) h dX6_init_4 rfl rfl ?_
  refine jk_aload_n (q := 6) h dX6_init_5 rfl rfl ?_
  refine jk_putF (q := 9) h (fp_X6_9 _) dX6_init_6 rfl fd_X6_0 (hR9.at 0 rfl) (Nat.le_of_ble_eq_true rfl) rfl (fun M_1 s_1 => ?_)
  have hR9 := hR9.put (i := 0) s_1 rfl
  have hD := hD.other s_1 2 rfl (by omega)
  have ho := ho.st (i := 0) s_1 (by omega)
  exact jk_vret h hR dX6_init_9 (Nat.le_of_ble_eq_true rfl) (Nat.le_of_ble_eq_true rfl) ⟨rfl, rfl, hR9, ho⟩

set_option maxHeartbeats 4000000 in
set_option maxRecDepth 100000 in
theorem c_X6_start {l : Launch} {D : va_G} {b0 : Nat} {n : Nat} {M : jM} {r p : Nat} {sg : Nat → Int} {len at9 kd fi se ti : Int} (hR9 : jPic M r (rdL p at9 kd fi se ti)) (hD : jPic M p (pdL p sg len)) (hQ : pdQ sg len) (hd : r + 1 ≤ p ∨ p + 2 ≤ r) : jCtr l D b0 yX6_start cX6_start 1 none 0 0 0 [.ref r] n M (fun v n2 M2 => none = v ∧ n = n2 ∧ jPic M2 r (rdL p 0 kd fi se ti) ∧ jout M M2 r 1) := by
  refine jctr (lv := [some (.ref r)]) RX6 "start" rfl rfl (by decide) (Nat.le_of_ble_eq_true rfl) rfl ?_
  intro X h hR hX
  have ho := jout.rf M r 1
  refine jk_aload_n (q := 1) h dX6_start_0 rfl rfl ?_
  refine jk_iconst (q := 2) h dX6_start_1 rfl ?_
  refine jk_put (q := 5) h (fp_X6_15 _) dX6_start_2 (hR9.at 0 rfl) (Nat.le_of_ble_eq_true rfl) rfl (fun M_1 s_1 => ?_)
  have hR9 := hR9.put (i := 0) s_1 rfl
  have hD := hD.other s_1 2 rfl (by omega)
  have ho := ho.st (i := 0) s_1 (by omega)
  exact jk_vret h hR dX6_start_5 (Nat.le_of_ble_eq_true rfl) (Nat.le_of_ble_eq_true rfl) ⟨rfl, rfl, hR9, ho⟩

set_option maxHeartbeats 4000000 in
set_option maxRecDepth 100000 in
theorem c_X6_readDigit {l : Launch} {D : va_G} {b0 : Nat} {n : Nat} {M : jM} {r p : Nat} {sg : Nat → Int} {len at9 kd fi se ti : Int} (hR9 : jPic M r (rdL p at9 kd fi se ti)) (hD : jPic M p (pdL p sg len)) (hQ : pdQ sg len) (hd : r + 1 ≤ p ∨ p + 2 ≤ r) (ha : 0 ≤ at9 ∧ at9 ≤ 80) : jCtr l D b0 yX6_readDigit cX6_readDigit 2 (some .int) 1 0 0 [.ref r] n M (fun v n2 M2 => some (jI (dgV sg len at9)) = v ∧ n = n2 ∧ jPic M2 r (rdL p (dgE sg len at9) kd fi se ti) ∧ jout M M2 r 1) := by
  refine jctr (lv := [some (.ref r), none]) RX6 "readDigit" rfl rfl (by decide) (Nat.le_of_ble_eq_true rfl) rfl ?_
  intro X h hR hX
  have ho := jout.rf M r 1
  have hs9 := sgA_bd (i := at9) hQ
  refine jk_aload_n (q := 1) h dX6_readDigit_0 rfl rfl ?_
  refine jk_get (q := 4) h fg_X6_9 dX6_readDigit_1 (hR9.at 0 rfl) rfl rfl ?_
  refine jk_aload_n (q := 5) h dX6_readDigit_4 rfl rfl ?_
  refine jk_get (q := 8) h fg_X6_15 dX6_readDigit_5 (hR9.at 0 rfl) rfl rfl ?_
  refine jk_callV (q := 11) h hX (c_X4_signAt hD hQ ⟨by omega, by omega⟩) mv_X4_signAt (hD.at 0 rfl) dX6_readDigit_8 ml_X6_35 ⟨rfl, Nat.le_refl _⟩ rfl rfl (Nat.le_of_ble_eq_true rfl) (Nat.le_of_ble_eq_true rfl) rfl rfl (Nat.le_of_ble_eq_true rfl) rfl (fun v9 n9 M9 hp9 => ?_)
  obtain ⟨rfl, rfl, rfl⟩ := hp9
  refine jk_bipush (q := 13) h dX6_readDigit_11 (by decide) rfl ?_
  refine jk_isub (q := 14) h dX6_readDigit_13 rfl ?_
  refine jk_istore_n (q := 15) h dX6_readDigit_14 rfl (Nat.le_of_ble_eq_true rfl) rfl rfl ?_
  refine jk_iload_n (q := 16) h dX6_readDigit_15 rfl rfl ?_
  refine jk_if_lt (q := 19) (tgt := 25) h dX6_readDigit_16 (by decide) rfl ⟨by omega, by omega⟩ (fun c16 => ?_) (fun c16 => ?_)
  · refine jk_iconst (q := 26) h dX6_readDigit_25 rfl ?_
    exact jk_iret h hR dX6_readDigit_26 (Nat.le_of_ble_eq_true rfl) (Nat.le_of_ble_eq_true rfl) ⟨by unfold dgV isD; first | rw [if_pos (by omega)] | rw [if_neg (by omega)], rfl, by unfold dgE isD; first | (rw [if_pos (by omega)]; exact hR9) | (rw [if_neg (by omega)]; exact hR9), ho⟩
  · refine jk_iload_n (q := 20) h dX6_readDigit_19 rfl rfl ?_
    refine jk_bipush (q := 22) h dX6_readDigit_20 (by decide) rfl ?_
    refine jk_icmp_le (q := 25) (tgt := 27) h dX6_readDigit_22 (by decide) rfl ⟨by omega, by omega⟩ ⟨by omega, by omega⟩ (fun c22 => ?_) (fun c22 => ?_)
    · refine jk_aload_n (q := 28) h dX6_readDigit_27 rfl rfl ?_
      refine jk_dup (q := 29) h dX6_readDigit_28 rfl rfl ?_
      refine jk_get (q := 32) h fg_X6_15 dX6_readDigit_29 (hR9.at 0 rfl) rfl rfl ?_
      refine jk_iconst (q := 33) h dX6_readDigit_32 rfl ?_
      refine jk_iadd (q := 34) h dX6_readDigit_33 rfl ?_
      refine jk_put (q := 37) h (fp_X6_15 _) dX6_readDigit_34 (hR9.at 0 rfl) (Nat.le_of_ble_eq_true rfl) rfl (fun M_1 s_1 => ?_)
      have hR9 := hR9.put (i := 0) s_1 rfl
      have hD := hD.other s_1 2 rfl (by omega)
      have ho := ho.st (i := 0) s_1 (by omega)
      refine jk_iload_n (q := 38) h dX6_readDigit_37 rfl rfl ?_
      exact jk_iret h hR dX6_readDigit_38 (Nat.le_of_ble_eq_true rfl) (Nat.le_of_ble_eq_true rfl) ⟨by unfold dgV isD; first | rw [if_pos (by omega)] | rw [if_neg (by omega)], rfl, by unfold dgE isD; first | (rw [if_pos (by omega)]; exact hR9) | (rw [if_neg (by omega)]; exact hR9), ho⟩
    · refine jk_iconst (q := 26) h dX6_readDigit_25 rfl ?_
      exact jk_iret h hR dX6_readDigit_26 (Nat.le_of_ble_eq_true rfl) (Nat.le_of_ble_eq_true rfl) ⟨by unfold dgV isD; first | rw [if_pos (by omega)] | rw [if_neg (by omega)], rfl, by unfold dgE isD; first | (rw [if_pos (by omega)]; exact hR9) | (rw [if_neg (by omega)]; exact hR9), ho⟩

set_option maxHeartbeats 4000000 in
set_option maxRecDepth 100000 in
theorem c_X6_passSign {l : Launch} {D : va_G} {b0 : Nat} {n : Nat} {M : jM} {r p : Nat} {sg : Nat → Int} {len at9 kd fi se ti : Int} (hR9 : jPic M r (rdL p at9 kd fi se ti)) (hD : jPic M p (pdL p sg len)) (hQ : pdQ sg len) (hd : r + 1 ≤ p ∨ p + 2 ≤ r) (ha : 0 ≤ at9 ∧ at9 ≤ 80) {z : Int} (hz : 0 ≤ z ∧ z ≤ 127) : jCtr l D b0 yX6_passSign cX6_passSign 2 (some .boolean) 1 0 0 [.ref r, jI z] n M (fun v n2 M2 => some (jI (if sgA sg len at9 = z then 1 else 0)) = v ∧ n = n2 ∧ jPic M2 r (rdL p (if sgA sg len at9 = z then at9 + 1 else at9) kd fi se ti) ∧ jout M M2 r 1) := by
  refine jctr (lv := [some (.ref r), some (jI z)]) RX6 "passSign" rfl rfl (by decide) (Nat.le_of_ble_eq_true rfl) rfl ?_
  intro X h hR hX
  have ho := jout.rf M r 1
  have hs9 := sgA_bd (i := at9) hQ
  refine jk_aload_n (q := 1) h dX6_passSign_0 rfl rfl ?_
  refine jk_get (q := 4) h fg_X6_9 dX6_passSign_1 (hR9.at 0 rfl) rfl rfl ?_
  refine jk_aload_n (q := 5) h dX6_passSign_4 rfl rfl ?_
  refine jk_get (q := 8) h fg_X6_15 dX6_passSign_5 (hR9.at 0 rfl) rfl rfl ?_
  refine jk_callV (q := 11) h hX (c_X4_signAt hD hQ ⟨by omega, by omega⟩) mv_X4_signAt (hD.at 0 rfl) dX6_passSign_8 ml_X6_35 ⟨rfl, Nat.le_refl _⟩ rfl rfl (Nat.le_of_ble_eq_true rfl) (Nat.le_of_ble_eq_true rfl) rfl rfl (Nat.le_of_ble_eq_true rfl) rfl (fun v9 n9 M9 hp9 => ?_)
  obtain ⟨rfl, rfl, rfl⟩ := hp9
  refine jk_iload_n (q := 12) h dX6_passSign_11 rfl rfl ?_
  refine jk_icmp_eq (q := 15) (tgt := 17) h dX6_passSign_12 (by decide) rfl ⟨by omega, by omega⟩ ⟨by omega, by omega⟩ (fun c12 => ?_) (fun c12 => ?_)
  · refine jk_aload_n (q := 18) h dX6_passSign_17 rfl rfl ?_
    refine jk_dup (q := 19) h dX6_passSign_18 rfl rfl ?_
    refine jk_get (q := 22) h fg_X6_15 dX6_passSign_19 (hR9.at 0 rfl) rfl rfl ?_
    refine jk_iconst (q := 23) h dX6_passSign_22 rfl ?_
    refine jk_iadd (q := 24) h dX6_passSign_23 rfl ?_
    refine jk_put (q := 27) h (fp_X6_15 _) dX6_passSign_24 (hR9.at 0 rfl) (Nat.le_of_ble_eq_true rfl) rfl (fun M_1 s_1 => ?_)
    have hR9 := hR9.put (i := 0) s_1 rfl
    have hD := hD.other s_1 2 rfl (by omega)
    have ho := ho.st (i := 0) s_1 (by omega)
    refine jk_iconst (q := 28) h dX6_passSign_27 rfl ?_
    exact jk_zret h hR dX6_passSign_28 (Nat.le_of_ble_eq_true rfl) (Nat.le_of_ble_eq_true rfl) (by first | exact Or.inl rfl | exact Or.inr rfl | omega) ⟨by first | rw [if_pos (by omega)] | rw [if_neg (by omega)], rfl, by first | (rw [if_pos (by omega)]; exact hR9) | (rw [if_neg (by omega)]; exact hR9), ho⟩
  · refine jk_iconst (q := 16) h dX6_passSign_15 rfl ?_
    exact jk_zret h hR dX6_passSign_16 (Nat.le_of_ble_eq_true rfl) (Nat.le_of_ble_eq_true rfl) (by first | exact Or.inl rfl | exact Or.inr rfl | omega) ⟨by first | rw [if_pos (by omega)] | rw [if_neg (by omega)], rfl, by first | (rw [if_pos (by omega)]; exact hR9) | (rw [if_neg (by omega)]; exact hR9), ho⟩

set_option maxHeartbeats 4000000 in
set_option maxRecDepth 100000 in
theorem c_X6_readNumber {l : Launch} {D : va_G} {b0 : Nat} {n : Nat} {M : jM} {r p : Nat} {sg : Nat → Int} {len at9 kd fi se ti : Int} (hR9 : jPic M r (rdL p at9 kd fi se ti)) (hD : jPic M p (pdL p sg len)) (hQ : pdQ sg len) (hd : r + 1 ≤ p ∨ p + 2 ≤ r) (ha : 0 ≤ at9 ∧ at9 ≤ 80) : jCtr l D b0 yX6_readNumber cX6_readNumber 3 (some .int) 2 0 0 [.ref r] n M (fun v n2 M2 => some (jI (nmV sg len at9)) = v ∧ n = n2 ∧ jPic M2 r (rdL p (nmE sg len at9) kd fi se ti) ∧ jout M M2 r 1) := by
  refine jctr (lv := [some (.ref r), none, none]) RX6 "readNumber" rfl rfl (by decide) (Nat.le_of_ble_eq_true rfl) rfl ?_
  intro X h hR hX
  have ho := jout.rf M r 1
  have hg1 := dgV_bd sg len at9
  have hg2 := dgV_bd sg len (at9 + 1)
  have he1 := dg_E hQ ha.1 ha.2
  refine jk_aload_n (q := 1) h dX6_readNumber_0 rfl rfl ?_
  refine jk_callV (q := 4) h hX (c_X6_readDigit hR9 hD hQ hd ha) mv_X6_readDigit (hR9.at 0 rfl) dX6_readNumber_1 ml_X6_62 ⟨rfl, Nat.le_refl _⟩ rfl rfl (Nat.le_of_ble_eq_true rfl) (Nat.le_of_ble_eq_true rfl) rfl rfl (Nat.le_of_ble_eq_true rfl) rfl (fun v9 n9 M_1 hp9 => ?_)
  obtain ⟨rfl, rfl, hR9, o_1⟩ := hp9
  have hD := hD.keep o_1 2 rfl (by omega)
  have ho := ho.tr o_1 (by omega) (by omega)
  refine jk_istore_n (q := 5) h dX6_readNumber_4 rfl (Nat.le_of_ble_eq_true rfl) rfl rfl ?_
  refine jk_iload_n (q := 6) h dX6_readNumber_5 rfl rfl ?_
  refine jk_if_gt (q := 9) (tgt := 11) h dX6_readNumber_6 (by decide) rfl ⟨by omega, by omega⟩ (fun c6 => ?_) (fun c6 => ?_)
  · rw [he1.2.2.1 (by omega)] at hR9
    have he2 := dg_E (i := at9 + 1) hQ (by omega) (by omega)
    refine jk_aload_n (q := 12) h dX6_readNumber_11 rfl rfl ?_
    refine jk_callV (q := 15) h hX (c_X6_readDigit hR9 hD hQ hd ⟨by omega, by omega⟩) mv_X6_readDigit (hR9.at 0 rfl) dX6_readNumber_12 ml_X6_62 ⟨rfl, Nat.le_refl _⟩ rfl rfl (Nat.le_of_ble_eq_true rfl) (Nat.le_of_ble_eq_true rfl) rfl rfl (Nat.le_of_ble_eq_true rfl) rfl (fun v9 n9 M_2 hp9 => ?_)
    obtain ⟨rfl, rfl, hR9, o_2⟩ := hp9
    have hD := hD.keep o_2 2 rfl (by omega)
    have ho := ho.tr o_2 (by omega) (by omega)
    refine jk_istore_n (q := 16) h dX6_readNumber_15 rfl (Nat.le_of_ble_eq_true rfl) rfl rfl ?_
    refine jk_iload_n (q := 17) h dX6_readNumber_16 rfl rfl ?_
    refine jk_if_ge (q := 20) (tgt := 24) h dX6_readNumber_17 (by decide) rfl ⟨by omega, by omega⟩ (fun c17 => ?_) (fun c17 => ?_)
    · refine jk_iload_n (q := 25) h dX6_readNumber_24 rfl rfl ?_
      refine jk_bipush (q := 27) h dX6_readNumber_25 (by decide) rfl ?_
      refine jk_imul (q := 28) h dX6_readNumber_27 rfl ?_
      refine jk_iload_n (q := 29) h dX6_readNumber_28 rfl rfl ?_
      refine jk_iadd (q := 30) h dX6_readNumber_29 rfl ?_
      exact jk_iret h hR dX6_readNumber_30 (Nat.le_of_ble_eq_true rfl) (Nat.le_of_ble_eq_true rfl) ⟨by unfold nmV; rw [if_neg (by omega)]; first | rw [if_pos (by omega)] | rw [if_neg (by omega)], rfl, by unfold nmE; rw [if_neg (by omega)]; exact hR9, ho⟩
    · refine jk_iload_n (q := 21) h dX6_readNumber_20 rfl rfl ?_
      refine jk_goto (q := 24) (tgt := 30) h dX6_readNumber_21 (by decide) ?_
      exact jk_iret h hR dX6_readNumber_30 (Nat.le_of_ble_eq_true rfl) (Nat.le_of_ble_eq_true rfl) ⟨by unfold nmV; rw [if_neg (by omega)]; first | rw [if_pos (by omega)] | rw [if_neg (by omega)], rfl, by unfold nmE; rw [if_neg (by omega)]; exact hR9, ho⟩
  · refine jk_iload_n (q := 10) h dX6_readNumber_9 rfl rfl ?_
    exact jk_iret h hR dX6_readNumber_10 (Nat.le_of_ble_eq_true rfl) (Nat.le_of_ble_eq_true rfl) ⟨by unfold nmV; rw [if_pos (by omega)], rfl, by unfold nmE; rw [if_pos (by omega)]; exact hR9, ho⟩

set_option maxHeartbeats 4000000 in
set_option maxRecDepth 100000 in
theorem c_X6_readTimes {l : Launch} {D : va_G} {b0 : Nat} {n : Nat} {M : jM} {r p : Nat} {sg : Nat → Int} {len at9 kd fi se ti : Int} (hR9 : jPic M r (rdL p at9 kd fi se ti)) (hD : jPic M p (pdL p sg len)) (hQ : pdQ sg len) (hd : r + 1 ≤ p ∨ p + 2 ≤ r) (ha : 0 ≤ at9 ∧ at9 ≤ 80) : jCtr l D b0 yX6_readTimes cX6_readTimes 1 (some .boolean) 2 0 0 [.ref r] n M (fun v n2 M2 => ∃ (w ti2 : Int), some (jI w) = v ∧ n = n2 ∧ jPic M2 r (rdL p (tmE sg len at9) kd fi se ti2) ∧ (w = 0 ∨ w = 1) ∧ (w = 1 ↔ tmK sg len at9) ∧ (w = 1 → ti2 = tmV sg len at9) ∧ jout M M2 r 1) := by
  refine jctr (lv := [some (.ref r)]) RX6 "readTimes" rfl rfl (by decide) (Nat.le_of_ble_eq_true rfl) rfl ?_
  intro X h hR hX
  have ho := jout.rf M r 1
  have hs1 := sgA_bd (i := at9) hQ
  have hs2 := sgA_bd (i := at9 + 1) hQ
  have hg2 := dgV_bd sg len (at9 + 1)
  have hdd : dgV sg len (at9 + 1) = if 48 ≤ sgA sg len (at9 + 1) ∧ sgA sg len (at9 + 1) ≤ 57 then sgA sg len (at9 + 1) - 48 else -1 := rfl
  have hee : dgE sg len (at9 + 1) = if 48 ≤ sgA sg len (at9 + 1) ∧ sgA sg len (at9 + 1) ≤ 57 then at9 + 1 + 1 else at9 + 1 := rfl
  refine jk_aload_n (q := 1) h dX6_readTimes_0 rfl rfl ?_
  refine jk_iconst (q := 2) h dX6_readTimes_1 rfl ?_
  refine jk_put (q := 5) h (fp_X6_59 _) dX6_readTimes_2 (hR9.at 0 rfl) (Nat.le_of_ble_eq_true rfl) rfl (fun M_1 s_1 => ?_)
  have hR9 := hR9.put (i := 0) s_1 rfl
  have hD := hD.other s_1 2 rfl (by omega)
  have ho := ho.st (i := 0) s_1 (by omega)
  refine jk_aload_n (q := 6) h dX6_readTimes_5 rfl rfl ?_
  refine jk_bipush (q := 8) h dX6_readTimes_6 (by decide) rfl ?_
  refine jk_callV (q := 11) h hX (c_X6_passSign hR9 hD hQ hd ha ⟨by omega, by omega⟩) mv_X6_passSign (hR9.at 0 rfl) dX6_readTimes_8 ml_X6_31 ⟨rfl, Nat.le_refl _⟩ rfl rfl (Nat.le_of_ble_eq_true rfl) (Nat.le_of_ble_eq_true rfl) rfl rfl (Nat.le_of_ble_eq_true rfl) rfl (fun v9 n9 M_2 hp9 => ?_)
  obtain ⟨rfl, rfl, hR9, o_2⟩ := hp9
  have hD := hD.keep o_2 2 rfl (by omega)
  have ho := ho.tr o_2 (by omega) (by omega)
  refine jk_if_neB (q := 14) (tgt := 16) h dX6_readTimes_11 (by decide) rfl (fun c11 => ?_) (fun c11 => ?_)
  · rw [if_pos c11] at hR9
    have hl1 := sgA_lt (i := at9) hQ (by omega)
    have hl2 := hQ.2
    have he2 := dg_E (i := at9 + 1) hQ (by omega) (by omega)
    refine jk_aload_n (q := 17) h dX6_readTimes_16 rfl rfl ?_
    refine jk_get (q := 20) h fg_X6_9 dX6_readTimes_17 (hR9.at 0 rfl) rfl rfl ?_
    refine jk_aload_n (q := 21) h dX6_readTimes_20 rfl rfl ?_
    refine jk_get (q := 24) h fg_X6_15 dX6_readTimes_21 (hR9.at 0 rfl) rfl rfl ?_
    refine jk_callV (q := 27) h hX (c_X4_signAt hD hQ ⟨by omega, by omega⟩) mv_X4_signAt (hD.at 0 rfl) dX6_readTimes_24 ml_X6_35 ⟨rfl, Nat.le_refl _⟩ rfl rfl (Nat.le_of_ble_eq_true rfl) (Nat.le_of_ble_eq_true rfl) rfl rfl (Nat.le_of_ble_eq_true rfl) rfl (fun v9 n9 M9 hp9 => ?_)
    obtain ⟨rfl, rfl, rfl⟩ := hp9
    refine jk_bipush (q := 29) h dX6_readTimes_27 (by decide) rfl ?_
    refine jk_icmp_ne (q := 32) (tgt := 34) h dX6_readTimes_29 (by decide) rfl ⟨by omega, by omega⟩ ⟨by omega, by omega⟩ (fun c29 => ?_) (fun c29 => ?_)
    · refine jk_aload_n (q := 35) h dX6_readTimes_34 rfl rfl ?_
      refine jk_aload_n (q := 36) h dX6_readTimes_35 rfl rfl ?_
      refine jk_callV (q := 39) h hX (c_X6_readDigit hR9 hD hQ hd ⟨by omega, by omega⟩) mv_X6_readDigit (hR9.at 0 rfl) dX6_readTimes_36 ml_X6_62 ⟨rfl, Nat.le_refl _⟩ rfl rfl (Nat.le_of_ble_eq_true rfl) (Nat.le_of_ble_eq_true rfl) rfl rfl (Nat.le_of_ble_eq_true rfl) rfl (fun v9 n9 M_3 hp9 => ?_)
      obtain ⟨rfl, rfl, hR9, o_3⟩ := hp9
      have hD := hD.keep o_3 2 rfl (by omega)
      have ho := ho.tr o_3 (by omega) (by omega)
      refine jk_put (q := 42) h (fp_X6_59 _) dX6_readTimes_39 (hR9.at 0 rfl) (Nat.le_of_ble_eq_true rfl) rfl (fun M_4 s_4 => ?_)
      have hR9 := hR9.put (i := 0) s_4 rfl
      have hD := hD.other s_4 2 rfl (by omega)
      have ho := ho.st (i := 0) s_4 (by omega)
      refine jk_aload_n (q := 43) h dX6_readTimes_42 rfl rfl ?_
      refine jk_get (q := 46) h fg_X6_59 dX6_readTimes_43 (hR9.at 0 rfl) rfl rfl ?_
      refine jk_if_le (q := 49) (tgt := 53) h dX6_readTimes_46 (by decide) rfl ⟨by omega, by omega⟩ (fun c46 => ?_) (fun c46 => ?_)
      · have hnd : ¬ (49 ≤ sgA sg len (at9 + 1) ∧ sgA sg len (at9 + 1) ≤ 57) := fun z => by { rw [hdd, if_pos ⟨by omega, z.2⟩] at c46; omega }
        have hne : dgE sg len (at9 + 1) = at9 + 1 := by { rw [hee, if_neg (fun z => by omega)] }
        rw [hne] at hR9
        refine jk_iconst (q := 54) h dX6_readTimes_53 rfl ?_
        exact jk_zret h hR dX6_readTimes_54 (Nat.le_of_ble_eq_true rfl) (Nat.le_of_ble_eq_true rfl) (by first | exact Or.inl rfl | exact Or.inr rfl | omega) (by first | exact ⟨1, _, rfl, rfl, by unfold tmE; rw [if_neg (by omega), if_pos hnd]; exact hR9, by omega, ⟨fun _ => Or.inr hnd, fun _ => rfl⟩, fun _ => by unfold tmV; rw [if_neg (by omega), hdd, if_pos (by omega)], ho⟩ | exact ⟨0, _, rfl, rfl, by unfold tmE; rw [if_neg (by omega), if_neg hnd]; exact hR9, by omega, ⟨fun z => by omega, fun z => by unfold tmK at z; omega⟩, fun z => by omega, ho⟩)
      · have hnd : 49 ≤ sgA sg len (at9 + 1) ∧ sgA sg len (at9 + 1) ≤ 57 := by
          by_cases z : 48 ≤ sgA sg len (at9 + 1) ∧ sgA sg len (at9 + 1) ≤ 57
          · omega
          · rw [hdd, if_neg z] at c46; omega
        have hne : dgE sg len (at9 + 1) = at9 + 2 := by { rw [hee, if_pos (by omega)]; omega }
        rw [hne] at hR9
        refine jk_iconst (q := 50) h dX6_readTimes_49 rfl ?_
        refine jk_goto (q := 53) (tgt := 54) h dX6_readTimes_50 (by decide) ?_
        exact jk_zret h hR dX6_readTimes_54 (Nat.le_of_ble_eq_true rfl) (Nat.le_of_ble_eq_true rfl) (by first | exact Or.inl rfl | exact Or.inr rfl | omega) (by first | exact ⟨1, _, rfl, rfl, by unfold tmE; rw [if_neg (by omega), if_pos hnd]; exact hR9, by omega, ⟨fun _ => Or.inr hnd, fun _ => rfl⟩, fun _ => by unfold tmV; rw [if_neg (by omega), hdd, if_pos (by omega)], ho⟩ | exact ⟨0, _, rfl, rfl, by unfold tmE; rw [if_neg (by omega), if_neg hnd]; exact hR9, by omega, ⟨fun z => by omega, fun z => by unfold tmK at z; omega⟩, fun z => by omega, ho⟩)
    · refine jk_iconst (q := 33) h dX6_readTimes_32 rfl ?_
      exact jk_zret h hR dX6_readTimes_33 (Nat.le_of_ble_eq_true rfl) (Nat.le_of_ble_eq_true rfl) (by first | exact Or.inl rfl | exact Or.inr rfl | omega) ⟨0, 1, rfl, rfl, by unfold tmE; rw [if_neg (by omega), if_neg (by omega)]; exact hR9, by omega, ⟨fun z => by omega, fun z => by unfold tmK at z; omega⟩, fun z => by omega, ho⟩
  · rw [if_neg c11] at hR9
    refine jk_iconst (q := 15) h dX6_readTimes_14 rfl ?_
    exact jk_zret h hR dX6_readTimes_15 (Nat.le_of_ble_eq_true rfl) (Nat.le_of_ble_eq_true rfl) (by first | exact Or.inl rfl | exact Or.inr rfl | omega) ⟨1, 1, rfl, rfl, by unfold tmE; rw [if_pos c11]; exact hR9, by omega, ⟨fun _ => Or.inl c11, fun _ => rfl⟩, fun _ => by unfold tmV; rw [if_pos c11], ho⟩

set_option maxHeartbeats 4000000 in
set_option maxRecDepth 100000 in
theorem c_X6_readRow {l : Launch} {D : va_G} {b0 : Nat} {n : Nat} {M : jM} {r p : Nat} {sg : Nat → Int} {len at9 kd fi se ti : Int} (hR9 : jPic M r (rdL p at9 kd fi se ti)) (hD : jPic M p (pdL p sg len)) (hQ : pdQ sg len) (hd : r + 1 ≤ p ∨ p + 2 ≤ r) (ha : 0 ≤ at9 ∧ at9 ≤ 80) : jCtr l D b0 yX6_readRow cX6_readRow 1 (some .boolean) 3 0 0 [.ref r] n M (fun v n2 M2 => ∃ (w fi2 se2 ti2 : Int), some (jI w) = v ∧ n = n2 ∧ jPic M2 r (rdL p (rwE sg len at9) kd fi2 se2 ti2) ∧ (w = 0 ∨ w = 1) ∧ (w = 1 ↔ rwK sg len at9) ∧ (w = 1 → fi2 = nmV sg len at9 ∧ se2 = nmV sg len (nmE sg len at9 + 1) ∧ ti2 = tmV sg len (nmE sg len (nmE sg len at9 + 1))) ∧ jout M M2 r 1) := by
  refine jctr (lv := [some (.ref r)]) RX6 "readRow" rfl rfl (by decide) (Nat.le_of_ble_eq_true rfl) rfl ?_
  intro X h hR hX
  have ho := jout.rf M r 1
  have hn1 := nmV_bd sg len at9
  have hn2 := nm_E hQ ha.1 ha.2
  have hn3 := nmV_bd sg len (nmE sg len at9 + 1)
  refine jk_aload_n (q := 1) h dX6_readRow_0 rfl rfl ?_
  refine jk_aload_n (q := 2) h dX6_readRow_1 rfl rfl ?_
  refine jk_callV (q := 5) h hX (c_X6_readNumber hR9 hD hQ hd ha) mv_X6_readNumber (hR9.at 0 rfl) dX6_readRow_2 ml_X6_46 ⟨rfl, Nat.le_refl _⟩ rfl rfl (Nat.le_of_ble_eq_true rfl) (Nat.le_of_ble_eq_true rfl) rfl rfl (Nat.le_of_ble_eq_true rfl) rfl (fun v9 n9 M_1 hp9 => ?_)
  obtain ⟨rfl, rfl, hR9, o_1⟩ := hp9
  have hD := hD.keep o_1 2 rfl (by omega)
  have ho := ho.tr o_1 (by omega) (by omega)
  refine jk_put (q := 8) h (fp_X6_50 _) dX6_readRow_5 (hR9.at 0 rfl) (Nat.le_of_ble_eq_true rfl) rfl (fun M_2 s_2 => ?_)
  have hR9 := hR9.put (i := 0) s_2 rfl
  have hD := hD.other s_2 2 rfl (by omega)
  have ho := ho.st (i := 0) s_2 (by omega)
  refine jk_aload_n (q := 9) h dX6_readRow_8 rfl rfl ?_
  refine jk_get (q := 12) h fg_X6_50 dX6_readRow_9 (hR9.at 0 rfl) rfl rfl ?_
  refine jk_if_lt (q := 15) (tgt := 24) h dX6_readRow_12 (by decide) rfl ⟨by omega, by omega⟩ (fun c12 => ?_) (fun c12 => ?_)
  · refine jk_iconst (q := 25) h dX6_readRow_24 rfl ?_
    exact jk_zret h hR dX6_readRow_25 (Nat.le_of_ble_eq_true rfl) (Nat.le_of_ble_eq_true rfl) (by first | exact Or.inl rfl | exact Or.inr rfl | omega) (by first | exact ⟨0, _, _, _, rfl, rfl, by unfold rwE; rw [if_pos (by omega)]; exact hR9, by omega, ⟨fun z => by omega, fun z => by have := z.1; omega⟩, fun z => by omega, ho⟩ | exact ⟨0, _, _, _, rfl, rfl, by unfold rwE; rw [if_neg (by omega), if_pos c21]; exact hR9, by omega, ⟨fun z => by omega, fun z => absurd z.2.1 c21⟩, fun z => by omega, ho⟩)
  · refine jk_aload_n (q := 16) h dX6_readRow_15 rfl rfl ?_
    refine jk_bipush (q := 18) h dX6_readRow_16 (by decide) rfl ?_
    refine jk_callV (q := 21) h hX (c_X6_passSign hR9 hD hQ hd ⟨by omega, by omega⟩ ⟨by omega, by omega⟩) mv_X6_passSign (hR9.at 0 rfl) dX6_readRow_18 ml_X6_31 ⟨rfl, Nat.le_refl _⟩ rfl rfl (Nat.le_of_ble_eq_true rfl) (Nat.le_of_ble_eq_true rfl) rfl rfl (Nat.le_of_ble_eq_true rfl) rfl (fun v9 n9 M_3 hp9 => ?_)
    obtain ⟨rfl, rfl, hR9, o_3⟩ := hp9
    have hD := hD.keep o_3 2 rfl (by omega)
    have ho := ho.tr o_3 (by omega) (by omega)
    refine jk_if_neB (q := 24) (tgt := 26) h dX6_readRow_21 (by decide) rfl (fun c21 => ?_) (fun c21 => ?_)
    · rw [if_pos c21] at hR9
      have hl1 := sgA_lt (i := nmE sg len at9) hQ (by omega)
      have hl2 := hQ.2
      have hn4 := nm_E (i := nmE sg len at9 + 1) hQ (by omega) (by omega)
      refine jk_aload_n (q := 27) h dX6_readRow_26 rfl rfl ?_
      refine jk_aload_n (q := 28) h dX6_readRow_27 rfl rfl ?_
      refine jk_callV (q := 31) h hX (c_X6_readNumber hR9 hD hQ hd ⟨by omega, by omega⟩) mv_X6_readNumber (hR9.at 0 rfl) dX6_readRow_28 ml_X6_46 ⟨rfl, Nat.le_refl _⟩ rfl rfl (Nat.le_of_ble_eq_true rfl) (Nat.le_of_ble_eq_true rfl) rfl rfl (Nat.le_of_ble_eq_true rfl) rfl (fun v9 n9 M_4 hp9 => ?_)
      obtain ⟨rfl, rfl, hR9, o_4⟩ := hp9
      have hD := hD.keep o_4 2 rfl (by omega)
      have ho := ho.tr o_4 (by omega) (by omega)
      refine jk_put (q := 34) h (fp_X6_53 _) dX6_readRow_31 (hR9.at 0 rfl) (Nat.le_of_ble_eq_true rfl) rfl (fun M_5 s_5 => ?_)
      have hR9 := hR9.put (i := 0) s_5 rfl
      have hD := hD.other s_5 2 rfl (by omega)
      have ho := ho.st (i := 0) s_5 (by omega)
      refine jk_aload_n (q := 35) h dX6_readRow_34 rfl rfl ?_
      refine jk_get (q := 38) h fg_X6_53 dX6_readRow_35 (hR9.at 0 rfl) rfl rfl ?_
      refine jk_if_lt (q := 41) (tgt := 52) h dX6_readRow_38 (by decide) rfl ⟨by omega, by omega⟩ (fun c38 => ?_) (fun c38 => ?_)
      · refine jk_iconst (q := 53) h dX6_readRow_52 rfl ?_
        exact jk_zret h hR dX6_readRow_53 (Nat.le_of_ble_eq_true rfl) (Nat.le_of_ble_eq_true rfl) (by first | exact Or.inl rfl | exact Or.inr rfl | omega) (by first | exact ⟨0, _, _, _, rfl, rfl, by unfold rwE; rw [if_neg (by omega), if_neg (by omega), if_pos c38]; exact hR9, by omega, ⟨fun z => by omega, fun z => by have := z.2.2.1; omega⟩, fun z => by omega, ho⟩ | exact ⟨0, _, _, _, rfl, rfl, by unfold rwE; rw [if_neg (by omega), if_neg (by omega), if_neg c38]; exact hR9, by omega, ⟨fun z => by omega, fun z => by have := hwk.mpr z.2.2.2; omega⟩, fun z => by omega, ho⟩ | exact ⟨1, _, _, _, rfl, rfl, by unfold rwE; rw [if_neg (by omega), if_neg (by omega), if_neg c38]; exact hR9, by omega, ⟨fun _ => ⟨by omega, by omega, by omega, hwk.mp (by omega)⟩, fun _ => rfl⟩, fun _ => ⟨rfl, rfl, hwv (by omega)⟩, ho⟩)
      · refine jk_aload_n (q := 42) h dX6_readRow_41 rfl rfl ?_
        refine jk_callV (q := 45) h hX (c_X6_readTimes hR9 hD hQ hd ⟨by omega, by omega⟩) mv_X6_readTimes (hR9.at 0 rfl) dX6_readRow_42 ml_X6_56 ⟨rfl, Nat.le_refl _⟩ rfl rfl (Nat.le_of_ble_eq_true rfl) (Nat.le_of_ble_eq_true rfl) rfl rfl (Nat.le_of_ble_eq_true rfl) rfl (fun v9 n9 M_6 hp9 => ?_)
        obtain ⟨w9, ti9, rfl, rfl, hR9, hw01, hwk, hwv, o_6⟩ := hp9
        have hD := hD.keep o_6 2 rfl (by omega)
        have ho := ho.tr o_6 (by omega) (by omega)
        refine jk_if_eq (q := 48) (tgt := 52) h dX6_readRow_45 (by decide) rfl ⟨by omega, by omega⟩ (fun c45 => ?_) (fun c45 => ?_)
        · refine jk_iconst (q := 53) h dX6_readRow_52 rfl ?_
          exact jk_zret h hR dX6_readRow_53 (Nat.le_of_ble_eq_true rfl) (Nat.le_of_ble_eq_true rfl) (by first | exact Or.inl rfl | exact Or.inr rfl | omega) (by first | exact ⟨0, _, _, _, rfl, rfl, by unfold rwE; rw [if_neg (by omega), if_neg (by omega), if_pos c38]; exact hR9, by omega, ⟨fun z => by omega, fun z => by have := z.2.2.1; omega⟩, fun z => by omega, ho⟩ | exact ⟨0, _, _, _, rfl, rfl, by unfold rwE; rw [if_neg (by omega), if_neg (by omega), if_neg c38]; exact hR9, by omega, ⟨fun z => by omega, fun z => by have := hwk.mpr z.2.2.2; omega⟩, fun z => by omega, ho⟩ | exact ⟨1, _, _, _, rfl, rfl, by unfold rwE; rw [if_neg (by omega), if_neg (by omega), if_neg c38]; exact hR9, by omega, ⟨fun _ => ⟨by omega, by omega, by omega, hwk.mp (by omega)⟩, fun _ => rfl⟩, fun _ => ⟨rfl, rfl, hwv (by omega)⟩, ho⟩)
        · refine jk_iconst (q := 49) h dX6_readRow_48 rfl ?_
          refine jk_goto (q := 52) (tgt := 53) h dX6_readRow_49 (by decide) ?_
          exact jk_zret h hR dX6_readRow_53 (Nat.le_of_ble_eq_true rfl) (Nat.le_of_ble_eq_true rfl) (by first | exact Or.inl rfl | exact Or.inr rfl | omega) (by first | exact ⟨0, _, _, _, rfl, rfl, by unfold rwE; rw [if_neg (by omega), if_neg (by omega), if_pos c38]; exact hR9, by omega, ⟨fun z => by omega, fun z => by have := z.2.2.1; omega⟩, fun z => by omega, ho⟩ | exact ⟨0, _, _, _, rfl, rfl, by unfold rwE; rw [if_neg (by omega), if_neg (by omega), if_neg c38]; exact hR9, by omega, ⟨fun z => by omega, fun z => by have := hwk.mpr z.2.2.2; omega⟩, fun z => by omega, ho⟩ | exact ⟨1, _, _, _, rfl, rfl, by unfold rwE; rw [if_neg (by omega), if_neg (by omega), if_neg c38]; exact hR9, by omega, ⟨fun _ => ⟨by omega, by omega, by omega, hwk.mp (by omega)⟩, fun _ => rfl⟩, fun _ => ⟨rfl, rfl, hwv (by omega)⟩, ho⟩)
    · rw [if_neg c21] at hR9
      refine jk_iconst (q := 25) h dX6_readRow_24 rfl ?_
      exact jk_zret h hR dX6_readRow_25 (Nat.le_of_ble_eq_true rfl) (Nat.le_of_ble_eq_true rfl) (by first | exact Or.inl rfl | exact Or.inr rfl | omega) (by first | exact ⟨0, _, _, _, rfl, rfl, by unfold rwE; rw [if_pos (by omega)]; exact hR9, by omega, ⟨fun z => by omega, fun z => by have := z.1; omega⟩, fun z => by omega, ho⟩ | exact ⟨0, _, _, _, rfl, rfl, by unfold rwE; rw [if_neg (by omega), if_pos c21]; exact hR9, by omega, ⟨fun z => by omega, fun z => absurd z.2.1 c21⟩, fun z => by omega, ho⟩)

set_option maxHeartbeats 4000000 in
set_option maxRecDepth 100000 in
theorem c_X6_readOrder {l : Launch} {D : va_G} {b0 : Nat} {n : Nat} {M : jM} {r p : Nat} {sg : Nat → Int} {len at9 kd fi se ti : Int} (hR9 : jPic M r (rdL p at9 kd fi se ti)) (hD : jPic M p (pdL p sg len)) (hQ : pdQ sg len) (hd : r + 1 ≤ p ∨ p + 2 ≤ r) (ha : 0 ≤ at9 ∧ at9 ≤ 80) : jCtr l D b0 yX6_readOrder cX6_readOrder 1 (some .boolean) 4 0 0 [.ref r] n M (fun v n2 M2 => ∃ (w fi2 se2 ti2 : Int), some (jI w) = v ∧ n = n2 ∧ jPic M2 r (rdL p (oE sg len at9) (sgA sg len at9) fi2 se2 ti2) ∧ (w = 0 ∨ w = 1) ∧ (w = 1 ↔ oK sg len at9) ∧ (w = 1 → oF sg len at9 fi2 se2 ti2) ∧ jout M M2 r 1) := by
  refine jctr (lv := [some (.ref r)]) RX6 "readOrder" rfl rfl (by decide) (Nat.le_of_ble_eq_true rfl) rfl ?_
  intro X h hR hX
  have ho := jout.rf M r 1
  have hs1 := sgA_bd (i := at9) hQ
  have hl2 := hQ.2
  have hlt : 0 < sgA sg len at9 → at9 < len := fun z => (sgA_lt hQ z).2
  have hn1 := nmV_bd sg len (at9 + 1)
  refine jk_aload_n (q := 1) h dX6_readOrder_0 rfl rfl ?_
  refine jk_aload_n (q := 2) h dX6_readOrder_1 rfl rfl ?_
  refine jk_get (q := 5) h fg_X6_9 dX6_readOrder_2 (hR9.at 0 rfl) rfl rfl ?_
  refine jk_aload_n (q := 6) h dX6_readOrder_5 rfl rfl ?_
  refine jk_get (q := 9) h fg_X6_15 dX6_readOrder_6 (hR9.at 0 rfl) rfl rfl ?_
  refine jk_callV (q := 12) h hX (c_X4_signAt hD hQ ⟨by omega, by omega⟩) mv_X4_signAt (hD.at 0 rfl) dX6_readOrder_9 ml_X6_35 ⟨rfl, Nat.le_refl _⟩ rfl rfl (Nat.le_of_ble_eq_true rfl) (Nat.le_of_ble_eq_true rfl) rfl rfl (Nat.le_of_ble_eq_true rfl) rfl (fun v9 n9 M9 hp9 => ?_)
  obtain ⟨rfl, rfl, rfl⟩ := hp9
  refine jk_put (q := 15) h (fp_X6_39 (by omega) (by omega)) dX6_readOrder_12 (hR9.at 0 rfl) (Nat.le_of_ble_eq_true rfl) rfl (fun M_1 s_1 => ?_)
  have hR9 := hR9.put (i := 0) s_1 rfl
  have hD := hD.other s_1 2 rfl (by omega)
  have ho := ho.st (i := 0) s_1 (by omega)
  refine jk_aload_n (q := 16) h dX6_readOrder_15 rfl rfl ?_
  refine jk_get (q := 19) h fg_X6_39 dX6_readOrder_16 (hR9.at 0 rfl) rfl rfl ?_
  refine jk_case (43) (fun c19_0 => ?_) (fun c19_0 => ?_)
  · refine jk_look (q := 0) (tgt := 76) h dX6_readOrder_19 (by decide) ⟨by omega, by omega⟩ (by rw [c19_0]; try rfl) (by decide) ?_
    refine jk_aload_n (q := 77) h dX6_readOrder_76 rfl rfl ?_
    refine jk_dup (q := 78) h dX6_readOrder_77 rfl rfl ?_
    refine jk_get (q := 81) h fg_X6_15 dX6_readOrder_78 (hR9.at 0 rfl) rfl rfl ?_
    refine jk_iconst (q := 82) h dX6_readOrder_81 rfl ?_
    refine jk_iadd (q := 83) h dX6_readOrder_82 rfl ?_
    refine jk_put (q := 86) h (fp_X6_15 _) dX6_readOrder_83 (hR9.at 0 rfl) (Nat.le_of_ble_eq_true rfl) rfl (fun M_2 s_2 => ?_)
    have hR9 := hR9.put (i := 0) s_2 rfl
    have hD := hD.other s_2 2 rfl (by omega)
    have ho := ho.st (i := 0) s_2 (by omega)
    refine jk_aload_n (q := 87) h dX6_readOrder_86 rfl rfl ?_
    refine jk_callV (q := 90) h hX (c_X6_readRow hR9 hD hQ hd ⟨by omega, by omega⟩) mv_X6_readRow (hR9.at 0 rfl) dX6_readOrder_87 ml_X6_43 ⟨rfl, Nat.le_refl _⟩ rfl rfl (Nat.le_of_ble_eq_true rfl) (Nat.le_of_ble_eq_true rfl) rfl rfl (Nat.le_of_ble_eq_true rfl) rfl (fun v9 n9 M_3 hp9 => ?_)
    obtain ⟨w9, fi9, se9, ti9, rfl, rfl, hR9, hw01, hwk, hwv, o_3⟩ := hp9
    have hD := hD.keep o_3 2 rfl (by omega)
    have ho := ho.tr o_3 (by omega) (by omega)
    exact jk_zret h hR dX6_readOrder_90 (Nat.le_of_ble_eq_true rfl) (Nat.le_of_ble_eq_true rfl) hw01 ⟨_, _, _, _, rfl, rfl, by unfold oE; rw [if_neg (by omega), if_pos (by omega)]; exact hR9, hw01, ⟨fun z => Or.inr (Or.inl ⟨by omega, hwk.mp z⟩), fun z => by
        rcases z with z | z | z
        · omega
        · exact hwk.mpr z.2
        · omega⟩, fun z => ⟨fun _ => (hwv z).1, fun _ => (hwv z).2⟩, ho⟩
  refine jk_case (45) (fun c19_1 => ?_) (fun c19_1 => ?_)
  · refine jk_look (q := 0) (tgt := 103) h dX6_readOrder_19 (by decide) ⟨by omega, by omega⟩ (by rw [c19_1]; try rfl) (by decide) ?_
    refine jk_aload_n (q := 104) h dX6_readOrder_103 rfl rfl ?_
    refine jk_dup (q := 105) h dX6_readOrder_104 rfl rfl ?_
    refine jk_get (q := 108) h fg_X6_15 dX6_readOrder_105 (hR9.at 0 rfl) rfl rfl ?_
    refine jk_iconst (q := 109) h dX6_readOrder_108 rfl ?_
    refine jk_iadd (q := 110) h dX6_readOrder_109 rfl ?_
    refine jk_put (q := 113) h (fp_X6_15 _) dX6_readOrder_110 (hR9.at 0 rfl) (Nat.le_of_ble_eq_true rfl) rfl (fun M_4 s_4 => ?_)
    have hR9 := hR9.put (i := 0) s_4 rfl
    have hD := hD.other s_4 2 rfl (by omega)
    have ho := ho.st (i := 0) s_4 (by omega)
    refine jk_aload_n (q := 114) h dX6_readOrder_113 rfl rfl ?_
    refine jk_aload_n (q := 115) h dX6_readOrder_114 rfl rfl ?_
    refine jk_callV (q := 118) h hX (c_X6_readNumber hR9 hD hQ hd ⟨by omega, by omega⟩) mv_X6_readNumber (hR9.at 0 rfl) dX6_readOrder_115 ml_X6_46 ⟨rfl, Nat.le_refl _⟩ rfl rfl (Nat.le_of_ble_eq_true rfl) (Nat.le_of_ble_eq_true rfl) rfl rfl (Nat.le_of_ble_eq_true rfl) rfl (fun v9 n9 M_5 hp9 => ?_)
    obtain ⟨rfl, rfl, hR9, o_5⟩ := hp9
    have hD := hD.keep o_5 2 rfl (by omega)
    have ho := ho.tr o_5 (by omega) (by omega)
    refine jk_put (q := 121) h (fp_X6_50 _) dX6_readOrder_118 (hR9.at 0 rfl) (Nat.le_of_ble_eq_true rfl) rfl (fun M_6 s_6 => ?_)
    have hR9 := hR9.put (i := 0) s_6 rfl
    have hD := hD.other s_6 2 rfl (by omega)
    have ho := ho.st (i := 0) s_6 (by omega)
    refine jk_aload_n (q := 122) h dX6_readOrder_121 rfl rfl ?_
    refine jk_get (q := 125) h fg_X6_50 dX6_readOrder_122 (hR9.at 0 rfl) rfl rfl ?_
    refine jk_if_lt (q := 128) (tgt := 132) h dX6_readOrder_125 (by decide) rfl ⟨by omega, by omega⟩ (fun c125 => ?_) (fun c125 => ?_)
    · refine jk_iconst (q := 133) h dX6_readOrder_132 rfl ?_
      exact jk_zret h hR dX6_readOrder_133 (Nat.le_of_ble_eq_true rfl) (Nat.le_of_ble_eq_true rfl) (by first | exact Or.inl rfl | exact Or.inr rfl | omega) (by first | exact ⟨1, _, _, _, rfl, rfl, by unfold oE; rw [if_neg (by omega), if_neg (by omega), if_pos (by omega)]; exact hR9, by omega, ⟨fun _ => Or.inr (Or.inr ⟨by omega, by omega⟩), fun _ => rfl⟩, fun _ => ⟨fun _ => rfl, fun z => by omega⟩, ho⟩ | exact ⟨0, _, _, _, rfl, rfl, by unfold oE; rw [if_neg (by omega), if_neg (by omega), if_pos (by omega)]; exact hR9, by omega, ⟨fun z => by omega, fun z => by unfold oK at z; omega⟩, fun z => by omega, ho⟩)
    · refine jk_iconst (q := 129) h dX6_readOrder_128 rfl ?_
      refine jk_goto (q := 132) (tgt := 133) h dX6_readOrder_129 (by decide) ?_
      exact jk_zret h hR dX6_readOrder_133 (Nat.le_of_ble_eq_true rfl) (Nat.le_of_ble_eq_true rfl) (by first | exact Or.inl rfl | exact Or.inr rfl | omega) (by first | exact ⟨1, _, _, _, rfl, rfl, by unfold oE; rw [if_neg (by omega), if_neg (by omega), if_pos (by omega)]; exact hR9, by omega, ⟨fun _ => Or.inr (Or.inr ⟨by omega, by omega⟩), fun _ => rfl⟩, fun _ => ⟨fun _ => rfl, fun z => by omega⟩, ho⟩ | exact ⟨0, _, _, _, rfl, rfl, by unfold oE; rw [if_neg (by omega), if_neg (by omega), if_pos (by omega)]; exact hR9, by omega, ⟨fun z => by omega, fun z => by unfold oK at z; omega⟩, fun z => by omega, ho⟩)
  refine jk_case (97) (fun c19_2 => ?_) (fun c19_2 => ?_)
  · refine jk_look (q := 0) (tgt := 91) h dX6_readOrder_19 (by decide) ⟨by omega, by omega⟩ (by rw [c19_2]; try rfl) (by decide) ?_
    refine jk_aload_n (q := 92) h dX6_readOrder_91 rfl rfl ?_
    refine jk_dup (q := 93) h dX6_readOrder_92 rfl rfl ?_
    refine jk_get (q := 96) h fg_X6_15 dX6_readOrder_93 (hR9.at 0 rfl) rfl rfl ?_
    refine jk_iconst (q := 97) h dX6_readOrder_96 rfl ?_
    refine jk_iadd (q := 98) h dX6_readOrder_97 rfl ?_
    refine jk_put (q := 101) h (fp_X6_15 _) dX6_readOrder_98 (hR9.at 0 rfl) (Nat.le_of_ble_eq_true rfl) rfl (fun M_7 s_7 => ?_)
    have hR9 := hR9.put (i := 0) s_7 rfl
    have hD := hD.other s_7 2 rfl (by omega)
    have ho := ho.st (i := 0) s_7 (by omega)
    refine jk_iconst (q := 102) h dX6_readOrder_101 rfl ?_
    exact jk_zret h hR dX6_readOrder_102 (Nat.le_of_ble_eq_true rfl) (Nat.le_of_ble_eq_true rfl) (by first | exact Or.inl rfl | exact Or.inr rfl | omega) ⟨1, _, _, _, rfl, rfl, by unfold oE; rw [if_pos (by omega)]; exact hR9, by omega, ⟨fun _ => Or.inl (by omega), fun _ => rfl⟩, fun _ => ⟨fun z => by omega, fun z => by omega⟩, ho⟩
  refine jk_case (98) (fun c19_3 => ?_) (fun c19_3 => ?_)
  · refine jk_look (q := 0) (tgt := 103) h dX6_readOrder_19 (by decide) ⟨by omega, by omega⟩ (by rw [c19_3]; try rfl) (by decide) ?_
    refine jk_aload_n (q := 104) h dX6_readOrder_103 rfl rfl ?_
    refine jk_dup (q := 105) h dX6_readOrder_104 rfl rfl ?_
    refine jk_get (q := 108) h fg_X6_15 dX6_readOrder_105 (hR9.at 0 rfl) rfl rfl ?_
    refine jk_iconst (q := 109) h dX6_readOrder_108 rfl ?_
    refine jk_iadd (q := 110) h dX6_readOrder_109 rfl ?_
    refine jk_put (q := 113) h (fp_X6_15 _) dX6_readOrder_110 (hR9.at 0 rfl) (Nat.le_of_ble_eq_true rfl) rfl (fun M_8 s_8 => ?_)
    have hR9 := hR9.put (i := 0) s_8 rfl
    have hD := hD.other s_8 2 rfl (by omega)
    have ho := ho.st (i := 0) s_8 (by omega)
    refine jk_aload_n (q := 114) h dX6_readOrder_113 rfl rfl ?_
    refine jk_aload_n (q := 115) h dX6_readOrder_114 rfl rfl ?_
    refine jk_callV (q := 118) h hX (c_X6_readNumber hR9 hD hQ hd ⟨by omega, by omega⟩) mv_X6_readNumber (hR9.at 0 rfl) dX6_readOrder_115 ml_X6_46 ⟨rfl, Nat.le_refl _⟩ rfl rfl (Nat.le_of_ble_eq_true rfl) (Nat.le_of_ble_eq_true rfl) rfl rfl (Nat.le_of_ble_eq_true rfl) rfl (fun v9 n9 M_9 hp9 => ?_)
    obtain ⟨rfl, rfl, hR9, o_9⟩ := hp9
    have hD := hD.keep o_9 2 rfl (by omega)
    have ho := ho.tr o_9 (by omega) (by omega)
    refine jk_put (q := 121) h (fp_X6_50 _) dX6_readOrder_118 (hR9.at 0 rfl) (Nat.le_of_ble_eq_true rfl) rfl (fun M_10 s_10 => ?_)
    have hR9 := hR9.put (i := 0) s_10 rfl
    have hD := hD.other s_10 2 rfl (by omega)
    have ho := ho.st (i := 0) s_10 (by omega)
    refine jk_aload_n (q := 122) h dX6_readOrder_121 rfl rfl ?_
    refine jk_get (q := 125) h fg_X6_50 dX6_readOrder_122 (hR9.at 0 rfl) rfl rfl ?_
    refine jk_if_lt (q := 128) (tgt := 132) h dX6_readOrder_125 (by decide) rfl ⟨by omega, by omega⟩ (fun c125 => ?_) (fun c125 => ?_)
    · refine jk_iconst (q := 133) h dX6_readOrder_132 rfl ?_
      exact jk_zret h hR dX6_readOrder_133 (Nat.le_of_ble_eq_true rfl) (Nat.le_of_ble_eq_true rfl) (by first | exact Or.inl rfl | exact Or.inr rfl | omega) (by first | exact ⟨1, _, _, _, rfl, rfl, by unfold oE; rw [if_neg (by omega), if_neg (by omega), if_pos (by omega)]; exact hR9, by omega, ⟨fun _ => Or.inr (Or.inr ⟨by omega, by omega⟩), fun _ => rfl⟩, fun _ => ⟨fun _ => rfl, fun z => by omega⟩, ho⟩ | exact ⟨0, _, _, _, rfl, rfl, by unfold oE; rw [if_neg (by omega), if_neg (by omega), if_pos (by omega)]; exact hR9, by omega, ⟨fun z => by omega, fun z => by unfold oK at z; omega⟩, fun z => by omega, ho⟩)
    · refine jk_iconst (q := 129) h dX6_readOrder_128 rfl ?_
      refine jk_goto (q := 132) (tgt := 133) h dX6_readOrder_129 (by decide) ?_
      exact jk_zret h hR dX6_readOrder_133 (Nat.le_of_ble_eq_true rfl) (Nat.le_of_ble_eq_true rfl) (by first | exact Or.inl rfl | exact Or.inr rfl | omega) (by first | exact ⟨1, _, _, _, rfl, rfl, by unfold oE; rw [if_neg (by omega), if_neg (by omega), if_pos (by omega)]; exact hR9, by omega, ⟨fun _ => Or.inr (Or.inr ⟨by omega, by omega⟩), fun _ => rfl⟩, fun _ => ⟨fun _ => rfl, fun z => by omega⟩, ho⟩ | exact ⟨0, _, _, _, rfl, rfl, by unfold oE; rw [if_neg (by omega), if_neg (by omega), if_pos (by omega)]; exact hR9, by omega, ⟨fun z => by omega, fun z => by unfold oK at z; omega⟩, fun z => by omega, ho⟩)
  refine jk_case (99) (fun c19_4 => ?_) (fun c19_4 => ?_)
  · refine jk_look (q := 0) (tgt := 103) h dX6_readOrder_19 (by decide) ⟨by omega, by omega⟩ (by rw [c19_4]; try rfl) (by decide) ?_
    refine jk_aload_n (q := 104) h dX6_readOrder_103 rfl rfl ?_
    refine jk_dup (q := 105) h dX6_readOrder_104 rfl rfl ?_
    refine jk_get (q := 108) h fg_X6_15 dX6_readOrder_105 (hR9.at 0 rfl) rfl rfl ?_
    refine jk_iconst (q := 109) h dX6_readOrder_108 rfl ?_
    refine jk_iadd (q := 110) h dX6_readOrder_109 rfl ?_
    refine jk_put (q := 113) h (fp_X6_15 _) dX6_readOrder_110 (hR9.at 0 rfl) (Nat.le_of_ble_eq_true rfl) rfl (fun M_11 s_11 => ?_)
    have hR9 := hR9.put (i := 0) s_11 rfl
    have hD := hD.other s_11 2 rfl (by omega)
    have ho := ho.st (i := 0) s_11 (by omega)
    refine jk_aload_n (q := 114) h dX6_readOrder_113 rfl rfl ?_
    refine jk_aload_n (q := 115) h dX6_readOrder_114 rfl rfl ?_
    refine jk_callV (q := 118) h hX (c_X6_readNumber hR9 hD hQ hd ⟨by omega, by omega⟩) mv_X6_readNumber (hR9.at 0 rfl) dX6_readOrder_115 ml_X6_46 ⟨rfl, Nat.le_refl _⟩ rfl rfl (Nat.le_of_ble_eq_true rfl) (Nat.le_of_ble_eq_true rfl) rfl rfl (Nat.le_of_ble_eq_true rfl) rfl (fun v9 n9 M_12 hp9 => ?_)
    obtain ⟨rfl, rfl, hR9, o_12⟩ := hp9
    have hD := hD.keep o_12 2 rfl (by omega)
    have ho := ho.tr o_12 (by omega) (by omega)
    refine jk_put (q := 121) h (fp_X6_50 _) dX6_readOrder_118 (hR9.at 0 rfl) (Nat.le_of_ble_eq_true rfl) rfl (fun M_13 s_13 => ?_)
    have hR9 := hR9.put (i := 0) s_13 rfl
    have hD := hD.other s_13 2 rfl (by omega)
    have ho := ho.st (i := 0) s_13 (by omega)
    refine jk_aload_n (q := 122) h dX6_readOrder_121 rfl rfl ?_
    refine jk_get (q := 125) h fg_X6_50 dX6_readOrder_122 (hR9.at 0 rfl) rfl rfl ?_
    refine jk_if_lt (q := 128) (tgt := 132) h dX6_readOrder_125 (by decide) rfl ⟨by omega, by omega⟩ (fun c125 => ?_) (fun c125 => ?_)
    · refine jk_iconst (q := 133) h dX6_readOrder_132 rfl ?_
      exact jk_zret h hR dX6_readOrder_133 (Nat.le_of_ble_eq_true rfl) (Nat.le_of_ble_eq_true rfl) (by first | exact Or.inl rfl | exact Or.inr rfl | omega) (by first | exact ⟨1, _, _, _, rfl, rfl, by unfold oE; rw [if_neg (by omega), if_neg (by omega), if_pos (by omega)]; exact hR9, by omega, ⟨fun _ => Or.inr (Or.inr ⟨by omega, by omega⟩), fun _ => rfl⟩, fun _ => ⟨fun _ => rfl, fun z => by omega⟩, ho⟩ | exact ⟨0, _, _, _, rfl, rfl, by unfold oE; rw [if_neg (by omega), if_neg (by omega), if_pos (by omega)]; exact hR9, by omega, ⟨fun z => by omega, fun z => by unfold oK at z; omega⟩, fun z => by omega, ho⟩)
    · refine jk_iconst (q := 129) h dX6_readOrder_128 rfl ?_
      refine jk_goto (q := 132) (tgt := 133) h dX6_readOrder_129 (by decide) ?_
      exact jk_zret h hR dX6_readOrder_133 (Nat.le_of_ble_eq_true rfl) (Nat.le_of_ble_eq_true rfl) (by first | exact Or.inl rfl | exact Or.inr rfl | omega) (by first | exact ⟨1, _, _, _, rfl, rfl, by unfold oE; rw [if_neg (by omega), if_neg (by omega), if_pos (by omega)]; exact hR9, by omega, ⟨fun _ => Or.inr (Or.inr ⟨by omega, by omega⟩), fun _ => rfl⟩, fun _ => ⟨fun _ => rfl, fun z => by omega⟩, ho⟩ | exact ⟨0, _, _, _, rfl, rfl, by unfold oE; rw [if_neg (by omega), if_neg (by omega), if_pos (by omega)]; exact hR9, by omega, ⟨fun z => by omega, fun z => by unfold oK at z; omega⟩, fun z => by omega, ho⟩)
  refine jk_case (112) (fun c19_5 => ?_) (fun c19_5 => ?_)
  · refine jk_look (q := 0) (tgt := 103) h dX6_readOrder_19 (by decide) ⟨by omega, by omega⟩ (by rw [c19_5]; try rfl) (by decide) ?_
    refine jk_aload_n (q := 104) h dX6_readOrder_103 rfl rfl ?_
    refine jk_dup (q := 105) h dX6_readOrder_104 rfl rfl ?_
    refine jk_get (q := 108) h fg_X6_15 dX6_readOrder_105 (hR9.at 0 rfl) rfl rfl ?_
    refine jk_iconst (q := 109) h dX6_readOrder_108 rfl ?_
    refine jk_iadd (q := 110) h dX6_readOrder_109 rfl ?_
    refine jk_put (q := 113) h (fp_X6_15 _) dX6_readOrder_110 (hR9.at 0 rfl) (Nat.le_of_ble_eq_true rfl) rfl (fun M_14 s_14 => ?_)
    have hR9 := hR9.put (i := 0) s_14 rfl
    have hD := hD.other s_14 2 rfl (by omega)
    have ho := ho.st (i := 0) s_14 (by omega)
    refine jk_aload_n (q := 114) h dX6_readOrder_113 rfl rfl ?_
    refine jk_aload_n (q := 115) h dX6_readOrder_114 rfl rfl ?_
    refine jk_callV (q := 118) h hX (c_X6_readNumber hR9 hD hQ hd ⟨by omega, by omega⟩) mv_X6_readNumber (hR9.at 0 rfl) dX6_readOrder_115 ml_X6_46 ⟨rfl, Nat.le_refl _⟩ rfl rfl (Nat.le_of_ble_eq_true rfl) (Nat.le_of_ble_eq_true rfl) rfl rfl (Nat.le_of_ble_eq_true rfl) rfl (fun v9 n9 M_15 hp9 => ?_)
    obtain ⟨rfl, rfl, hR9, o_15⟩ := hp9
    have hD := hD.keep o_15 2 rfl (by omega)
    have ho := ho.tr o_15 (by omega) (by omega)
    refine jk_put (q := 121) h (fp_X6_50 _) dX6_readOrder_118 (hR9.at 0 rfl) (Nat.le_of_ble_eq_true rfl) rfl (fun M_16 s_16 => ?_)
    have hR9 := hR9.put (i := 0) s_16 rfl
    have hD := hD.other s_16 2 rfl (by omega)
    have ho := ho.st (i := 0) s_16 (by omega)
    refine jk_aload_n (q := 122) h dX6_readOrder_121 rfl rfl ?_
    refine jk_get (q := 125) h fg_X6_50 dX6_readOrder_122 (hR9.at 0 rfl) rfl rfl ?_
    refine jk_if_lt (q := 128) (tgt := 132) h dX6_readOrder_125 (by decide) rfl ⟨by omega, by omega⟩ (fun c125 => ?_) (fun c125 => ?_)
    · refine jk_iconst (q := 133) h dX6_readOrder_132 rfl ?_
      exact jk_zret h hR dX6_readOrder_133 (Nat.le_of_ble_eq_true rfl) (Nat.le_of_ble_eq_true rfl) (by first | exact Or.inl rfl | exact Or.inr rfl | omega) (by first | exact ⟨1, _, _, _, rfl, rfl, by unfold oE; rw [if_neg (by omega), if_neg (by omega), if_pos (by omega)]; exact hR9, by omega, ⟨fun _ => Or.inr (Or.inr ⟨by omega, by omega⟩), fun _ => rfl⟩, fun _ => ⟨fun _ => rfl, fun z => by omega⟩, ho⟩ | exact ⟨0, _, _, _, rfl, rfl, by unfold oE; rw [if_neg (by omega), if_neg (by omega), if_pos (by omega)]; exact hR9, by omega, ⟨fun z => by omega, fun z => by unfold oK at z; omega⟩, fun z => by omega, ho⟩)
    · refine jk_iconst (q := 129) h dX6_readOrder_128 rfl ?_
      refine jk_goto (q := 132) (tgt := 133) h dX6_readOrder_129 (by decide) ?_
      exact jk_zret h hR dX6_readOrder_133 (Nat.le_of_ble_eq_true rfl) (Nat.le_of_ble_eq_true rfl) (by first | exact Or.inl rfl | exact Or.inr rfl | omega) (by first | exact ⟨1, _, _, _, rfl, rfl, by unfold oE; rw [if_neg (by omega), if_neg (by omega), if_pos (by omega)]; exact hR9, by omega, ⟨fun _ => Or.inr (Or.inr ⟨by omega, by omega⟩), fun _ => rfl⟩, fun _ => ⟨fun _ => rfl, fun z => by omega⟩, ho⟩ | exact ⟨0, _, _, _, rfl, rfl, by unfold oE; rw [if_neg (by omega), if_neg (by omega), if_pos (by omega)]; exact hR9, by omega, ⟨fun z => by omega, fun z => by unfold oK at z; omega⟩, fun z => by omega, ho⟩)
  refine jk_look (q := 0) (tgt := 134) h dX6_readOrder_19 (by decide) ⟨by omega, by omega⟩ (by simp only [Array.toList]; rw [jl_ne c19_0, jl_ne c19_1, jl_ne c19_2, jl_ne c19_3, jl_ne c19_4, jl_ne c19_5, Op.lookupswitch.offset_nil]) (by decide) ?_
  refine jk_iconst (q := 135) h dX6_readOrder_134 rfl ?_
  exact jk_zret h hR dX6_readOrder_135 (Nat.le_of_ble_eq_true rfl) (Nat.le_of_ble_eq_true rfl) (by first | exact Or.inl rfl | exact Or.inr rfl | omega) ⟨0, _, _, _, rfl, rfl, by unfold oE; rw [if_neg (by omega), if_neg (by omega), if_neg (by omega)]; exact hR9, by omega, ⟨fun z => by omega, fun z => by unfold oK at z; omega⟩, fun z => by omega, ho⟩

set_option maxHeartbeats 4000000 in
set_option maxRecDepth 100000 in
theorem c_X6_findFault {l : Launch} {D : va_G} {b0 : Nat} {n : Nat} {M : jM} {r p : Nat} {sg : Nat → Int} {len at9 kd fi se ti : Int} (hR9 : jPic M r (rdL p at9 kd fi se ti)) (hD : jPic M p (pdL p sg len)) (hQ : pdQ sg len) (hd : r + 1 ≤ p ∨ p + 2 ≤ r) : jCtr l D b0 yX6_findFault cX6_findFault 2 (some .int) 5 0 0 [.ref r] n M (fun v n2 M2 => ∃ (at2 kd2 fi2 se2 ti2 : Int), some (jI (ftS sg len 80 0)) = v ∧ n = n2 ∧ jPic M2 r (rdL p at2 kd2 fi2 se2 ti2) ∧ (0 ≤ at2 ∧ at2 ≤ 80) ∧ jout M M2 r 1) := by
  refine jctr (lv := [some (.ref r), none]) RX6 "findFault" rfl rfl (by decide) (Nat.le_of_ble_eq_true rfl) rfl ?_
  intro X h hR hX
  have ho := jout.rf M r 1
  have hl2 := hQ.2
  refine jk_aload_n (q := 1) h dX6_findFault_0 rfl rfl ?_
  refine jk_callV (q := 4) h hX (c_X6_start hR9 hD hQ hd) mv_X6_start (hR9.at 0 rfl) dX6_findFault_1 ml_X6_19 ⟨rfl, Nat.le_refl _⟩ rfl rfl (Nat.le_of_ble_eq_true rfl) (Nat.le_of_ble_eq_true rfl) rfl rfl (Nat.le_of_ble_eq_true rfl) rfl (fun v9 n9 M_1 hp9 => ?_)
  obtain ⟨rfl, rfl, hR9, o_1⟩ := hp9
  have hD := hD.keep o_1 2 rfl (by omega)
  have ho := ho.tr o_1 (by omega) (by omega)
  refine jk_iconst (q := 5) h dX6_findFault_4 rfl ?_
  refine jk_istore_n (q := 6) h dX6_findFault_5 rfl (Nat.le_of_ble_eq_true rfl) rfl rfl ?_
  have lp6 : ∀ (k9 : Nat) (k : Int) (a : Int) (kd : Int) (fi : Int) (se : Int) (ti : Int) (M9 : jM) (hk1 : 0 ≤ k) (hk2 : k ≤ 80) (hR9 : jPic M9 r (rdL p a kd fi se ti)) (hD : jPic M9 p (pdL p sg len)) (ha : 0 ≤ a ∧ a ≤ 80) (hf : ftS sg len 80 0 = ftS sg len (80 - k).toNat a) (ho : jout M M9 r 1) (hk9 : (80 - k).toNat = k9), jJ X 6 [some (.ref (r)), some (jI (k))] [] n M9 0 0 := by
    intro k9
    induction k9 using Nat.strongRecOn with
    | _ k9 ih6 =>
      intro k a kd fi se ti M9 hk1 hk2 hR9 hD ha hf ho hk9
      have hoE := o_E hQ ha.1 ha.2
      refine jk_iload_n (q := 7) h dX6_findFault_6 rfl rfl ?_
      refine jk_bipush (q := 9) h dX6_findFault_7 (by decide) rfl ?_
      refine jk_icmp_ge (q := 12) (tgt := 61) h dX6_findFault_9 (by decide) rfl ⟨by omega, by omega⟩ ⟨by omega, by omega⟩ (fun c9 => ?_) (fun c9 => ?_)
      · refine jk_aload_n (q := 62) h dX6_findFault_61 rfl rfl ?_
        refine jk_get (q := 65) h fg_X6_15 dX6_findFault_62 (hR9.at 0 rfl) rfl rfl ?_
        exact jk_iret h hR dX6_findFault_65 (Nat.le_of_ble_eq_true rfl) (Nat.le_of_ble_eq_true rfl) ⟨_, _, _, _, _, by rw [hf, show (80 - k).toNat = 0 by omega]; rfl, rfl, hR9, ha, ho⟩
      · have hfs2 : ftS sg len (80 - k).toNat a = @ite _ (oK sg len a) (Classical.propDecidable _) (if oE sg len a = len then -6 else if sgA sg len (oE sg len a) ≠ 59 then oE sg len a else ftS sg len ((80 - k).toNat - 1) (oE sg len a + 1)) (oE sg len a) := by
          obtain ⟨q9, hq9⟩ : ∃ q9, (80 - k).toNat = q9 + 1 := ⟨(80 - k).toNat - 1, by omega⟩
          rw [hq9]
          rfl
        refine jk_aload_n (q := 13) h dX6_findFault_12 rfl rfl ?_
        refine jk_callV (q := 16) h hX (c_X6_readOrder hR9 hD hQ hd ⟨by omega, by omega⟩) mv_X6_readOrder (hR9.at 0 rfl) dX6_findFault_13 ml_X6_22 ⟨rfl, Nat.le_refl _⟩ rfl rfl (Nat.le_of_ble_eq_true rfl) (Nat.le_of_ble_eq_true rfl) rfl rfl (Nat.le_of_ble_eq_true rfl) rfl (fun v9 n9 M_2 hp9 => ?_)
        obtain ⟨w9, fi9, se9, ti9, rfl, rfl, hR9, hw01, hwk, hwv, o_2⟩ := hp9
        have hD := hD.keep o_2 2 rfl (by omega)
        have ho := ho.tr o_2 (by omega) (by omega)
        refine jk_if_ne (q := 19) (tgt := 24) h dX6_findFault_16 (by decide) rfl ⟨by omega, by omega⟩ (fun c16 => ?_) (fun c16 => ?_)
        · have hok := hwk.mp (by omega)
          have hfs := hfs2.trans (if_pos hok)
          refine jk_aload_n (q := 25) h dX6_findFault_24 rfl rfl ?_
          refine jk_get (q := 28) h fg_X6_15 dX6_findFault_25 (hR9.at 0 rfl) rfl rfl ?_
          refine jk_aload_n (q := 29) h dX6_findFault_28 rfl rfl ?_
          refine jk_get (q := 32) h fg_X6_9 dX6_findFault_29 (hR9.at 0 rfl) rfl rfl ?_
          refine jk_getN (q := 35) h fg_X6_26 dX6_findFault_32 (hD.at 0 rfl) rfl rfl ?_
          refine jk_icmp_ne (q := 38) (tgt := 41) h dX6_findFault_35 (by decide) rfl ⟨by omega, by omega⟩ ⟨by omega, by omega⟩ (fun c35 => ?_) (fun c35 => ?_)
          · refine jk_aload_n (q := 42) h dX6_findFault_41 rfl rfl ?_
            refine jk_bipush (q := 44) h dX6_findFault_42 (by decide) rfl ?_
            refine jk_callV (q := 47) h hX (c_X6_passSign hR9 hD hQ hd ⟨by omega, by omega⟩ ⟨by omega, by omega⟩) mv_X6_passSign (hR9.at 0 rfl) dX6_findFault_44 ml_X6_31 ⟨rfl, Nat.le_refl _⟩ rfl rfl (Nat.le_of_ble_eq_true rfl) (Nat.le_of_ble_eq_true rfl) rfl rfl (Nat.le_of_ble_eq_true rfl) rfl (fun v9 n9 M_3 hp9 => ?_)
            obtain ⟨rfl, rfl, hR9, o_3⟩ := hp9
            have hD := hD.keep o_3 2 rfl (by omega)
            have ho := ho.tr o_3 (by omega) (by omega)
            refine jk_if_neB (q := 50) (tgt := 55) h dX6_findFault_47 (by decide) rfl (fun c47 => ?_) (fun c47 => ?_)
            · rw [if_pos c47] at hR9
              have hl3 := sgA_lt (i := oE sg len a) hQ (by omega)
              refine jk_iinc (q := 58) h dX6_findFault_55 rfl rfl rfl rfl ?_
              refine jk_goto (q := 61) (tgt := 6) h dX6_findFault_58 (by decide) ?_
              exact jk_weak (jwk_s rfl (jwk_s rfl jwk_0)) (ih6 _ (by omega) _ _ _ _ _ _ _ (by omega) (by omega) hR9 hD (by omega) (by rw [hf, hfs, if_neg (by omega), if_neg (by omega), show (80 - (k + 1)).toNat = (80 - k).toNat - 1 by omega]) ho rfl)
            · rw [if_neg c47] at hR9
              refine jk_aload_n (q := 51) h dX6_findFault_50 rfl rfl ?_
              refine jk_get (q := 54) h fg_X6_15 dX6_findFault_51 (hR9.at 0 rfl) rfl rfl ?_
              exact jk_iret h hR dX6_findFault_54 (Nat.le_of_ble_eq_true rfl) (Nat.le_of_ble_eq_true rfl) ⟨_, _, _, _, _, by rw [hf, hfs, if_neg (by omega), if_pos c47], rfl, hR9, ⟨by omega, by omega⟩, ho⟩
          · refine jk_bipush (q := 40) h dX6_findFault_38 (by decide) rfl ?_
            exact jk_iret h hR dX6_findFault_40 (Nat.le_of_ble_eq_true rfl) (Nat.le_of_ble_eq_true rfl) ⟨_, _, _, _, _, by rw [hf, hfs, if_pos (by omega)], rfl, hR9, ⟨by omega, by omega⟩, ho⟩
        · have hok : ¬ oK sg len a := fun z => by { have := hwk.mpr z; omega }
          have hfs := hfs2.trans (if_neg hok)
          refine jk_aload_n (q := 20) h dX6_findFault_19 rfl rfl ?_
          refine jk_get (q := 23) h fg_X6_15 dX6_findFault_20 (hR9.at 0 rfl) rfl rfl ?_
          exact jk_iret h hR dX6_findFault_23 (Nat.le_of_ble_eq_true rfl) (Nat.le_of_ble_eq_true rfl) ⟨_, _, _, _, _, by rw [hf, hfs], rfl, hR9, ⟨by omega, by omega⟩, ho⟩
  exact jk_weak (jwk_s rfl (jwk_s rfl jwk_0)) (lp6 _ _ _ _ _ _ _ _ (by omega) (by omega) hR9 hD (by omega) rfl ho rfl)
