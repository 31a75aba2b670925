/-! the text of orders: what stands at a place, and what is read there -/
def sgA (sg : Nat → Int) (len i : Int) : Int := if 0 ≤ i ∧ i < len then sg i.toNat else 0
def pdQ (sg : Nat → Int) (len : Int) : Prop := jrF sg 0 126 ∧ 0 ≤ len ∧ len ≤ 80
theorem sgA_bd {sg : Nat → Int} {len i : Int} (h : pdQ sg len) : 0 ≤ sgA sg len i ∧ sgA sg len i ≤ 126 := by
  have := h.1 i.toNat
  unfold sgA
  split <;> omega
theorem sgA_lt {sg : Nat → Int} {len i : Int} (h : pdQ sg len) (hp : 0 < sgA sg len i) : 0 ≤ i ∧ i < len := by
  unfold sgA at hp
  split at hp
  · assumption
  · omega
abbrev isD (sg : Nat → Int) (len i : Int) : Prop := 48 ≤ sgA sg len i ∧ sgA sg len i ≤ 57
def dgV (sg : Nat → Int) (len i : Int) : Int := if isD sg len i then sgA sg len i - 48 else -1
def dgE (sg : Nat → Int) (len i : Int) : Int := if isD sg len i then i + 1 else i
def nmV (sg : Nat → Int) (len i : Int) : Int := if dgV sg len i ≤ 0 then dgV sg len i else if dgV sg len (i + 1) < 0 then dgV sg len i else dgV sg len i * 10 + dgV sg len (i + 1)
def nmE (sg : Nat → Int) (len i : Int) : Int := if dgV sg len i ≤ 0 then dgE sg len i else dgE sg len (i + 1)
def tmK (sg : Nat → Int) (len i : Int) : Prop := sgA sg len i ≠ 42 ∨ (49 ≤ sgA sg len (i + 1) ∧ sgA sg len (i + 1) ≤ 57)
def tmE (sg : Nat → Int) (len i : Int) : Int := if sgA sg len i ≠ 42 then i else if 49 ≤ sgA sg len (i + 1) ∧ sgA sg len (i + 1) ≤ 57 then i + 2 else i + 1
def tmV (sg : Nat → Int) (len i : Int) : Int := if sgA sg len i ≠ 42 then 1 else sgA sg len (i + 1) - 48
/-- '+' has been read: is a row -/
def rwK (sg : Nat → Int) (len i : Int) : Prop := 0 ≤ nmV sg len i ∧ sgA sg len (nmE sg len i) = 44 ∧ 0 ≤ nmV sg len (nmE sg len i + 1) ∧ tmK sg len (nmE sg len (nmE sg len i + 1))
def rwE (sg : Nat → Int) (len i : Int) : Int := if nmV sg len i < 0 then nmE sg len i else if sgA sg len (nmE sg len i) ≠ 44 then nmE sg len i else if nmV sg len (nmE sg len i + 1) < 0 then nmE sg len (nmE sg len i + 1) else tmE sg len (nmE sg len (nmE sg len i + 1))
def oK (sg : Nat → Int) (len i : Int) : Prop := sgA sg len i = 97 ∨ (sgA sg len i = 43 ∧ rwK sg len (i + 1)) ∨ ((sgA sg len i = 45 ∨ sgA sg len i = 98 ∨ sgA sg len i = 99 ∨ sgA sg len i = 112) ∧ 0 ≤ nmV sg len (i + 1))
def oE (sg : Nat → Int) (len i : Int) : Int := if sgA sg len i = 97 then i + 1 else if sgA sg len i = 43 then rwE sg len (i + 1) else if sgA sg len i = 45 ∨ sgA sg len i = 98 ∨ sgA sg len i = 99 ∨ sgA sg len i = 112 then nmE sg len (i + 1) else i
theorem dgV_bd (sg : Nat → Int) (len i : Int) : -1 ≤ dgV sg len i ∧ dgV sg len i ≤ 9 := by
  unfold dgV isD
  split <;> omega
theorem dg_E {sg : Nat → Int} {len i : Int} (h : pdQ sg len) (h0 : 0 ≤ i) (h1 : i ≤ 80) : i ≤ dgE sg len i ∧ dgE sg len i ≤ 80 ∧ (0 ≤ dgV sg len i → dgE sg len i = i + 1) ∧ (dgV sg len i < 0 → dgE sg len i = i) := by
  unfold dgE dgV isD
  split
  · rename_i hd
    have := sgA_lt (i := i) h (by omega)
    have := h.2
    exact ⟨by omega, by omega, fun _ => rfl, fun _ => by omega⟩
  · exact ⟨by omega, by omega, fun _ => by omega, fun _ => rfl⟩
theorem nmV_bd (sg : Nat → Int) (len i : Int) : -1 ≤ nmV sg len i ∧ nmV sg len i ≤ 99 := by
  have h1 := dgV_bd sg len i
  have h2 := dgV_bd sg len (i + 1)
  unfold nmV
  split
  · omega
  · split <;> omega
theorem nm_E {sg : Nat → Int} {len i : Int} (h : pdQ sg len) (h0 : 0 ≤ i) (h1 : i ≤ 80) : i ≤ nmE sg len i ∧ nmE sg len i ≤ 80 ∧ (0 ≤ nmV sg len i → i + 1 ≤ nmE sg len i) := by
  have a := dg_E h h0 h1
  unfold nmE nmV
  split
  · exact ⟨a.1, a.2.1, fun hz => by have := a.2.2.1 hz; omega⟩
  · have e := a.2.2.1 (by omega)
    have b := dg_E (i := i + 1) h (by omega) (by omega)
    exact ⟨by omega, by omega, fun _ => by omega⟩
theorem tm_E {sg : Nat → Int} {len i : Int} (h : pdQ sg len) (h0 : 0 ≤ i) (h1 : i ≤ 80) : i ≤ tmE sg len i ∧ tmE sg len i ≤ 80 := by
  unfold tmE
  split
  · omega
  · rename_i hn
    have a := sgA_lt (i := i) h (by omega)
    have b := h.2
    split
    · have c := sgA_lt (i := i + 1) h (by omega)
      omega
    · omega
theorem rw_E {sg : Nat → Int} {len i : Int} (h : pdQ sg len) (h0 : 0 ≤ i) (h1 : i ≤ 80) : i ≤ rwE sg len i ∧ rwE sg len i ≤ 80 := by
  have a := nm_E h h0 h1
  unfold rwE
  split
  · exact ⟨a.1, a.2.1⟩
  · split
    · exact ⟨a.1, a.2.1⟩
    · rename_i h2 h3
      have b := sgA_lt (i := nmE sg len i) h (by omega)
      have b2 := h.2
      have c := nm_E (i := nmE sg len i + 1) h (by omega) (by omega)
      split
      · omega
      · have d := tm_E (i := nmE sg len (nmE sg len i + 1)) h (by omega) (by omega)
        omega
theorem o_E {sg : Nat → Int} {len i : Int} (h : pdQ sg len) (h0 : 0 ≤ i) (h1 : i ≤ 80) : i ≤ oE sg len i ∧ oE sg len i ≤ 80 ∧ (oK sg len i → i + 1 ≤ oE sg len i) ∧ (0 < sgA sg len i → i < len) := by
  have hb := h.2
  have hl : 0 < sgA sg len i → i < len := fun z => (sgA_lt h z).2
  unfold oE oK
  split
  · have := hl (by omega)
    exact ⟨by omega, by omega, fun _ => by omega, hl⟩
  · split
    · have := hl (by omega)
      have a := rw_E (i := i + 1) h (by omega) (by omega)
      exact ⟨by omega, by omega, fun _ => by omega, hl⟩
    · split
      · have := hl (by omega)
        have a := nm_E (i := i + 1) h (by omega) (by omega)
        exact ⟨by omega, by omega, fun _ => by omega, hl⟩
      · exact ⟨by omega, by omega, fun hz => by omega, hl⟩
/-- what the reader holds of an order that it has read -/
def oF (sg : Nat → Int) (len i fi se ti : Int) : Prop := (sgA sg len i ≠ 97 → fi = nmV sg len (i + 1)) ∧ (sgA sg len i = 43 → se = nmV sg len (nmE sg len (i + 1) + 1) ∧ ti = tmV sg len (nmE sg len (nmE sg len (i + 1) + 1)))
noncomputable def ftS (sg : Nat → Int) (len : Int) : Nat → Int → Int
  | 0, i => i
  | k + 1, i => @ite _ (oK sg len i) (Classical.propDecidable _) (if oE sg len i = len then -6 else if sgA sg len (oE sg len i) ≠ 59 then oE sg len i else ftS sg len k (oE sg len i + 1)) (oE sg len i)

set_option maxHeartbeats 4000000 in
set_option maxRecDepth 100000 in
theorem c_X4_init {l : Launch} {D : va_G} {b0 : Nat} {M : jM} {p : Nat} (hD : jPic M p [oB 3 [.null, jI 0]]) : jCtr l D b0 yX4_init cX4_init 1 none 1 1 80 [.ref p] (p + 1) M (fun v n2 M2 => none = v ∧ p + 2 = n2 ∧ jPic M2 p (pdL p jz 0) ∧ jout M M2 p 2) := by
  refine jctr (lv := [some (.ref p)]) RX4 "<init>" rfl rfl (by decide) (Nat.le_of_ble_eq_true rfl) rfl ?_
  intro X h hR hX
  have ho := jout.rf M p 2
  refine jk_aload_n (q := 1) h dX4_init_0 rfl rfl ?_
  refine jk_objInit (q := 4) h dX4_init_1 ml_X4_3 ko_i ko_c (Nat.le_of_ble_eq_true rfl) (Nat.le_of_ble_eq_true rfl) rfl ?_
  refine jk_aload_n (q := 5) h dX4_init_4 rfl rfl ?_
  refine jk_bipush (q := 7) h dX4_init_5 (by decide) rfl ?_
  refine jk_newa (q := 9) h dX4_init_7 rfl ka_char rfl (Nat.le_of_ble_eq_true rfl) (Nat.le_of_ble_eq_true rfl) rfl (fun M_1 s_1 => ?_)
  have s_1 : jst _ _ _ (aC 80 jz) := s_1
  have hD := hD.snoc s_1
  have ho := ho.st (i := 1) s_1 (by omega)
  refine jk_putF (q := 12) h (fp_X4_9 _) dX4_init_9 rfl fd_X4_0 (hD.at 0 rfl) (Nat.le_of_ble_eq_true rfl) rfl (fun M_2 s_2 => ?_)
  have hD := hD.put (i := 0) s_2 rfl
  have ho := ho.st (i := 0) s_2 (by omega)
  exact jk_vret h hR dX4_init_12 (Nat.le_of_ble_eq_true rfl) (Nat.le_of_ble_eq_true rfl) ⟨rfl, rfl, hD, ho⟩

set_option maxHeartbeats 4000000 in
set_option maxRecDepth 100000 in
theorem c_X6_init {l : Launch} {D : va_G} {b0 : Nat} {n : Nat} {M : jM} {r p : Nat} (hR9 : jPic M r [oB 5 [.null, jI 0, jI 0, jI 0, jI 0, jI 0]]) {sg : Nat → Int} {len : Int} (hD : jPic M p (pdL p sg len)) (hd : r + 1 ≤ p ∨ p + 2 ≤ r) : jCtr l D b0 yX6_init cX6_init 2 none 1 0 0 [.ref r, .ref p] n M (fun v n2 M2 => none = v ∧ n = n2 ∧ jPic M2 r (rdL p 0 0 0 0 0) ∧ jout M M2 r 1) := by
  refine jctr (lv := [some (.ref r), some (.ref p)]) RX6 "<init>" rfl rfl (by decide) (Nat.le_of_ble_eq_true rfl) rfl ?_
  intro X h hR hX
  have ho := jout.rf M r 1
  refine jk_aload_n (q := 1) h dX6_init_0 rfl rfl ?_
  refine jk_objInit (q := 4) h dX6_init_1 ml_X6_3 ko_i ko_c (Nat.le_of_ble_eq_true rfl) (Nat.le_of_ble_eq_true rfl) rfl ?_
  refine jk_aload_n (q := 5) h dX6_init_4 rfl rfl ?_
  refine jk_aload_n (q := 6) h dX6_init_5 rfl rfl ?_
  refine jk_putF (q := 9) h (fp_X6_9 _) dX6_init_6 rfl fd_X6_0 (hR9.at 0 rfl) (Nat.le_of_ble_eq_true rfl) rfl (fun M_1 s_1 => ?_)
  have hR9 := hR9.put (i := 0) s_1 rfl
  have hD := hD.other s_1 2 rfl (by omega)
  have ho := ho.st (i := 0) s_1 (by omega)
  exact jk_vret h hR dX6_init_9 (Nat.le_of_ble_eq_true rfl) (Nat.le_of_ble_eq_true rfl) ⟨rfl, rfl, hR9, ho⟩
