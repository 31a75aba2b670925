/-! EqualHeights: what only answers -/
abbrev colA (x : TS) (c : Int) : TC := if c = 0 then x.2.2.2.1 else x.2.2.2.2.1
def rowR (x : TS) (r c : Int) : Int := if 0 ≤ r ∧ r < x.2.1.2.2 then (if c = 0 ∨ c = 1 then (if c = 0 then x.2.1.1 r.toNat else x.2.1.2.1 r.toNat) else -2) else -1
abbrev tbkT (y : TC) (k q : Int) : Int := if 0 ≤ k ∧ k < y.2.2.2.2.2.2.2.2 then (if q = 0 then y.2.2.2.2.1 k.toNat else if q = 1 then y.2.2.2.2.2.1 k.toNat else if q = 2 then y.2.2.2.2.2.2.1 k.toNat else y.2.2.2.2.2.2.2.1 k.toNat) else -1
def bktR (x : TS) (c k w : Int) : Int := if (c = 0 ∨ c = 1) ∧ (0 ≤ w ∧ w ≤ 3) then tbkT (colA x c) k w else -2
abbrev tcmT (y : TC) (k q : Int) : Int := if 0 ≤ k ∧ k < y.2.2.2.1 then (if q = 0 then y.2.1 k.toNat else y.2.2.1 k.toNat) else -1
def cmnR (x : TS) (c k w : Int) : Int := if (c = 0 ∨ c = 1) ∧ (0 ≤ w ∧ w ≤ 1) then tcmT (colA x c) k w else -2
def parR (x : TS) (k w : Int) : Int := if 0 ≤ w ∧ w ≤ 2 then (if 0 ≤ k ∧ k < x.2.2.2.2.2.2.2.2 then (if w = 0 then x.2.2.2.2.2.1 k.toNat else if w = 1 then x.2.2.2.2.2.2.1 k.toNat else x.2.2.2.2.2.2.2.1 k.toNat) else -1) else -2
def stlR (x : TS) : Int := if 0 < x.2.2.1.1 then (if x.1 3 * x.2.2.1.1 < 100 * x.2.2.1.2 then 1 else 0) else -6
def cnQ (x : TS) (len hl w r : Int) : Prop := (w = 0 → r = x.2.1.2.2) ∧ (w = 1 → r = x.2.2.1.1) ∧ (w = 2 → r = x.2.2.1.2) ∧ (w = 3 → r = stlR x) ∧ (w = 4 → r = x.2.2.2.1.2.2.2.2.2.2.2.2) ∧ (w = 5 → r = x.2.2.2.2.1.2.2.2.2.2.2.2.2) ∧ (w = 6 → r = x.2.2.2.1.2.2.2.1) ∧ (w = 7 → r = x.2.2.2.2.1.2.2.2.1) ∧ (w = 8 → r = x.2.2.2.2.2.2.2.2) ∧ (w = 9 → r = x.1 0) ∧ (w = 10 → r = x.1 1) ∧ (w = 11 → r = x.1 2) ∧ (w = 12 → r = x.1 3) ∧ (w = 13 → r = len) ∧ (w = 14 → r = hl) ∧ (¬ (0 ≤ w ∧ w ≤ 14) → r = -2)
abbrev bdO (lo hi : Int) : Prop := 0 ≤ lo ∧ lo ≤ hi ∧ hi ≤ 99
abbrev sclR (x : TS) (g : Int) : Int := if 0 < x.2.2.1.1 then g * x.2.1.2.2 / x.2.2.1.1 else 0
abbrev truR (x : TS) (c lo hi : Int) : Int := if c = 0 then rib x.2.1.1 x.2.1.2.1 x.2.1.2.2 lo hi 0 99 else rib x.2.1.1 x.2.1.2.1 x.2.1.2.2 0 99 lo hi
def estR (x : TS) (c lo hi w : Int) : Int := if (c = 0 ∨ c = 1) ∧ bdO lo hi ∧ (0 ≤ w ∧ w ≤ 4) then (if w = 4 then truR x c lo hi else if 0 < x.2.2.1.1 then (if w = 0 then gsT (colA x c) lo hi else if w = 1 then lsT (colA x c) lo hi else if w = 2 then msT (colA x c) lo hi else sclR x (gsT (colA x c) lo hi)) else -6) else -2
def botR (x : TS) (la ha lb hb w : Int) : Int := if bdO la ha ∧ bdO lb hb ∧ (0 ≤ w ∧ w ≤ 2) then (if w = 2 then rib x.2.1.1 x.2.1.2.1 x.2.1.2.2 la ha lb hb else if 0 < x.2.2.1.1 then (if w = 0 then gbT x.2.2.1.1 x.2.2.2.1 x.2.2.2.2.1 x.2.2.2.2.2 la ha lb hb else sclR x (gbT x.2.2.1.1 x.2.2.2.1 x.2.2.2.2.1 x.2.2.2.2.2 la ha lb hb)) else -6) else -2
def wrsR (x : TS) (c w : Int) : Int := if (c = 0 ∨ c = 1) ∧ (0 ≤ w ∧ w ≤ 1) then (if 0 < x.2.2.1.1 then (if w = 0 then wvI (miT (colA x c)) 100 else miT (colA x c) (wvI (miT (colA x c)) 100)) else -6) else -2
theorem wvS_s (f : Int → Int) (n : Nat) : wvS f (n + 1) = if f (wvS f n) < f n then (n : Int) else wvS f n := rfl
theorem wvI_bd (f : Int → Int) : ∀ n : Nat, 0 ≤ wvS f (n + 1) ∧ wvS f (n + 1) ≤ n
  | 0 => by
    rw [wvS_s]
    have h0 : wvS f 0 = 0 := rfl
    rw [h0]
    split <;> decide
  | n + 1 => by
    have ih := wvI_bd f n
    rw [wvS_s]
    split <;> omega
theorem wvI_bd1 (f : Int → Int) : 0 ≤ wvI f 100 ∧ wvI f 100 ≤ 99 := wvI_bd f 99

set_option maxHeartbeats 4000000 in
set_option maxRecDepth 100000 in
theorem c_X9_bucket {l : Launch} {D : va_G} {b0 : Nat} {n : Nat} {M : jM} {e lo : Nat} {x : TS} {hl : Int} {hk : Nat → TS} {sl : Nat → Option TS} {sg : Nat → Int} {len : Int} (hW : ehP M n e lo x hl hk sl sg len none) {c : Int} {k : Int} {w : Int} (h_c : jRng c) (h_k : jRng k) (h_w : jRng w) : jCtr l D b0 yX9_bucket cX9_bucket 4 (some .int) 1 0 0 [.ref e, jI c, jI k, jI w] n M (jrd n M (bktR x c k w)) := by
  refine jctr (lv := [some (.ref e), some (jI c), some (jI k), some (jI w)]) RX9 "bucket" rfl rfl (by decide) (Nat.le_of_ble_eq_true rfl) rfl ?_
  intro X h hR hX
  obtain ⟨g, gs, nx, at9, kd, fi, se, ti, tr, L, f, hE, hNw, hL, hH, hD, hR9, hC, hdy, hrs, hsQ, hpQ, hcQ, hnx, hhl, hlo1, hlo2⟩ := id hW
  obtain ⟨hS, hT, hN, hA, hB, hP⟩ := hNw
  obtain ⟨hse, htb, hr, hch, hOA, hOB, hOP⟩ := id hsQ
  obtain ⟨hya, hyb, hys⟩ := id htb
  refine jk_iload_n (q := 1) h dX9_bucket_0 rfl rfl ?_
  refine jk_callS (q := 4) h hX (c_X9_isColumn ⟨by omega, by omega⟩) ms_X9_isColumn dX9_bucket_1 ml_X9_82 ⟨rfl, Nat.le_refl _⟩ rfl rfl (Nat.le_of_ble_eq_true rfl) (Nat.le_of_ble_eq_true rfl) rfl rfl (Nat.le_of_ble_eq_true rfl) rfl (fun v9 n9 M9 hp9 => ?_)
  obtain ⟨rfl, rfl, rfl⟩ := hp9
  refine jk_if_eqB (q := 7) (tgt := 16) h dX9_bucket_4 (by decide) rfl (fun c4 => ?_) (fun c4 => ?_)
  · refine jk_bipush (q := 18) h dX9_bucket_16 (by decide) rfl ?_
    exact jk_iret h hR dX9_bucket_18 (Nat.le_of_ble_eq_true rfl) (Nat.le_of_ble_eq_true rfl) (jrd_of (by unfold bktR; rw [if_neg (by omega)]))
  · refine jk_iload_n (q := 8) h dX9_bucket_7 rfl rfl ?_
    refine jk_iconst (q := 9) h dX9_bucket_8 rfl ?_
    refine jk_iconst (q := 10) h dX9_bucket_9 rfl ?_
    refine jk_callS (q := 13) h hX (c_X9_isBetween ⟨by omega, by omega⟩ ⟨by omega, by omega⟩ ⟨by omega, by omega⟩) ms_X9_isBetween dX9_bucket_10 ml_X9_88 ⟨rfl, Nat.le_refl _⟩ rfl rfl (Nat.le_of_ble_eq_true rfl) (Nat.le_of_ble_eq_true rfl) rfl rfl (Nat.le_of_ble_eq_true rfl) rfl (fun v9 n9 M9 hp9 => ?_)
    obtain ⟨rfl, rfl, rfl⟩ := hp9
    refine jk_if_neB (q := 16) (tgt := 19) h dX9_bucket_13 (by decide) rfl (fun c13 => ?_) (fun c13 => ?_)
    · refine jk_aload_n (q := 20) h dX9_bucket_19 rfl rfl ?_
      refine jk_get (q := 23) h fg_X9_12 dX9_bucket_20 (hE.at 0 rfl) rfl rfl ?_
      refine jk_getN (q := 26) h fg_X9_92 dX9_bucket_23 (hS.at 0 rfl) rfl rfl ?_
      refine jk_iload_n (q := 27) h dX9_bucket_26 rfl rfl ?_
      rcases Decidable.em (c = 0) with hq0 | hq0
      · refine jk_callV (q := 30) h hX (c_X0_facts hN ⟨by omega, by omega⟩) mv_X0_facts (hN.at 0 rfl) dX9_bucket_27 ml_X9_96 ⟨rfl, Nat.le_refl _⟩ rfl rfl (Nat.le_of_ble_eq_true rfl) (Nat.le_of_ble_eq_true rfl) rfl rfl (Nat.le_of_ble_eq_true rfl) rfl (fun v9 n9 M9 hp9 => ?_)
        obtain ⟨rfl, rfl, rfl⟩ := hp9
        rw [if_pos hq0]
        have hO := hOA
        have hcol : colA x c = x.2.2.2.1 := if_pos hq0
        refine jk_iload_n (q := 31) h dX9_bucket_30 rfl rfl ?_
        refine jk_iload_n (q := 32) h dX9_bucket_31 rfl rfl ?_
        refine jk_callV (q := 35) h hX (c_X2_tellBucket hA hO ⟨by omega, by omega⟩ ⟨by omega, by omega⟩) mv_X2_tellBucket (hA.at 0 rfl) dX9_bucket_32 ml_X9_102 ⟨rfl, Nat.le_refl _⟩ rfl rfl (Nat.le_of_ble_eq_true rfl) (Nat.le_of_ble_eq_true rfl) rfl rfl (Nat.le_of_ble_eq_true rfl) rfl (fun v9 n9 M9 hp9 => ?_)
        obtain ⟨rfl, rfl, rfl⟩ := hp9
        exact jk_iret h hR dX9_bucket_35 (Nat.le_of_ble_eq_true rfl) (Nat.le_of_ble_eq_true rfl) (jrd_of (by unfold bktR; rw [if_pos ⟨by omega, by omega⟩, hcol]))
      · refine jk_callV (q := 30) h hX (c_X0_facts hN ⟨by omega, by omega⟩) mv_X0_facts (hN.at 0 rfl) dX9_bucket_27 ml_X9_96 ⟨rfl, Nat.le_refl _⟩ rfl rfl (Nat.le_of_ble_eq_true rfl) (Nat.le_of_ble_eq_true rfl) rfl rfl (Nat.le_of_ble_eq_true rfl) rfl (fun v9 n9 M9 hp9 => ?_)
        obtain ⟨rfl, rfl, rfl⟩ := hp9
        rw [if_neg hq0]
        have hO := hOB
        have hcol : colA x c = x.2.2.2.2.1 := if_neg hq0
        refine jk_iload_n (q := 31) h dX9_bucket_30 rfl rfl ?_
        refine jk_iload_n (q := 32) h dX9_bucket_31 rfl rfl ?_
        refine jk_callV (q := 35) h hX (c_X2_tellBucket hB hO ⟨by omega, by omega⟩ ⟨by omega, by omega⟩) mv_X2_tellBucket (hB.at 0 rfl) dX9_bucket_32 ml_X9_102 ⟨rfl, Nat.le_refl _⟩ rfl rfl (Nat.le_of_ble_eq_true rfl) (Nat.le_of_ble_eq_true rfl) rfl rfl (Nat.le_of_ble_eq_true rfl) rfl (fun v9 n9 M9 hp9 => ?_)
        obtain ⟨rfl, rfl, rfl⟩ := hp9
        exact jk_iret h hR dX9_bucket_35 (Nat.le_of_ble_eq_true rfl) (Nat.le_of_ble_eq_true rfl) (jrd_of (by unfold bktR; rw [if_pos ⟨by omega, by omega⟩, hcol]))
    · refine jk_bipush (q := 18) h dX9_bucket_16 (by decide) rfl ?_
      exact jk_iret h hR dX9_bucket_18 (Nat.le_of_ble_eq_true rfl) (Nat.le_of_ble_eq_true rfl) (jrd_of (by unfold bktR; rw [if_neg (by omega)]))

set_option maxHeartbeats 4000000 in
set_option maxRecDepth 100000 in
theorem c_X9_common {l : Launch} {D : va_G} {b0 : Nat} {n : Nat} {M : jM} {e lo : Nat} {x : TS} {hl : Int} {hk : Nat → TS} {sl : Nat → Option TS} {sg : Nat → Int} {len : Int} (hW : ehP M n e lo x hl hk sl sg len none) {c : Int} {k : Int} {w : Int} (h_c : jRng c) (h_k : jRng k) (h_w : jRng w) : jCtr l D b0 yX9_common cX9_common 4 (some .int) 1 0 0 [.ref e, jI c, jI k, jI w] n M (jrd n M (cmnR x c k w)) := by
  refine jctr (lv := [some (.ref e), some (jI c), some (jI k), some (jI w)]) RX9 "common" rfl rfl (by decide) (Nat.le_of_ble_eq_true rfl) rfl ?_
  intro X h hR hX
  obtain ⟨g, gs, nx, at9, kd, fi, se, ti, tr, L, f, hE, hNw, hL, hH, hD, hR9, hC, hdy, hrs, hsQ, hpQ, hcQ, hnx, hhl, hlo1, hlo2⟩ := id hW
  obtain ⟨hS, hT, hN, hA, hB, hP⟩ := hNw
  obtain ⟨hse, htb, hr, hch, hOA, hOB, hOP⟩ := id hsQ
  obtain ⟨hya, hyb, hys⟩ := id htb
  refine jk_iload_n (q := 1) h dX9_common_0 rfl rfl ?_
  refine jk_callS (q := 4) h hX (c_X9_isColumn ⟨by omega, by omega⟩) ms_X9_isColumn dX9_common_1 ml_X9_82 ⟨rfl, Nat.le_refl _⟩ rfl rfl (Nat.le_of_ble_eq_true rfl) (Nat.le_of_ble_eq_true rfl) rfl rfl (Nat.le_of_ble_eq_true rfl) rfl (fun v9 n9 M9 hp9 => ?_)
  obtain ⟨rfl, rfl, rfl⟩ := hp9
  refine jk_if_eqB (q := 7) (tgt := 16) h dX9_common_4 (by decide) rfl (fun c4 => ?_) (fun c4 => ?_)
  · refine jk_bipush (q := 18) h dX9_common_16 (by decide) rfl ?_
    exact jk_iret h hR dX9_common_18 (Nat.le_of_ble_eq_true rfl) (Nat.le_of_ble_eq_true rfl) (jrd_of (by unfold cmnR; rw [if_neg (by omega)]))
  · refine jk_iload_n (q := 8) h dX9_common_7 rfl rfl ?_
    refine jk_iconst (q := 9) h dX9_common_8 rfl ?_
    refine jk_iconst (q := 10) h dX9_common_9 rfl ?_
    refine jk_callS (q := 13) h hX (c_X9_isBetween ⟨by omega, by omega⟩ ⟨by omega, by omega⟩ ⟨by omega, by omega⟩) ms_X9_isBetween dX9_common_10 ml_X9_88 ⟨rfl, Nat.le_refl _⟩ rfl rfl (Nat.le_of_ble_eq_true rfl) (Nat.le_of_ble_eq_true rfl) rfl rfl (Nat.le_of_ble_eq_true rfl) rfl (fun v9 n9 M9 hp9 => ?_)
    obtain ⟨rfl, rfl, rfl⟩ := hp9
    refine jk_if_neB (q := 16) (tgt := 19) h dX9_common_13 (by decide) rfl (fun c13 => ?_) (fun c13 => ?_)
    · refine jk_aload_n (q := 20) h dX9_common_19 rfl rfl ?_
      refine jk_get (q := 23) h fg_X9_12 dX9_common_20 (hE.at 0 rfl) rfl rfl ?_
      refine jk_getN (q := 26) h fg_X9_92 dX9_common_23 (hS.at 0 rfl) rfl rfl ?_
      refine jk_iload_n (q := 27) h dX9_common_26 rfl rfl ?_
      rcases Decidable.em (c = 0) with hq0 | hq0
      · refine jk_callV (q := 30) h hX (c_X0_facts hN ⟨by omega, by omega⟩) mv_X0_facts (hN.at 0 rfl) dX9_common_27 ml_X9_96 ⟨rfl, Nat.le_refl _⟩ rfl rfl (Nat.le_of_ble_eq_true rfl) (Nat.le_of_ble_eq_true rfl) rfl rfl (Nat.le_of_ble_eq_true rfl) rfl (fun v9 n9 M9 hp9 => ?_)
        obtain ⟨rfl, rfl, rfl⟩ := hp9
        rw [if_pos hq0]
        have hO := hOA
        have hcol : colA x c = x.2.2.2.1 := if_pos hq0
        refine jk_iload_n (q := 31) h dX9_common_30 rfl rfl ?_
        refine jk_iload_n (q := 32) h dX9_common_31 rfl rfl ?_
        refine jk_callV (q := 35) h hX (c_X2_tellCommon hA hO ⟨by omega, by omega⟩ ⟨by omega, by omega⟩) mv_X2_tellCommon (hA.at 0 rfl) dX9_common_32 ml_X9_105 ⟨rfl, Nat.le_refl _⟩ rfl rfl (Nat.le_of_ble_eq_true rfl) (Nat.le_of_ble_eq_true rfl) rfl rfl (Nat.le_of_ble_eq_true rfl) rfl (fun v9 n9 M9 hp9 => ?_)
        obtain ⟨rfl, rfl, rfl⟩ := hp9
        exact jk_iret h hR dX9_common_35 (Nat.le_of_ble_eq_true rfl) (Nat.le_of_ble_eq_true rfl) (jrd_of (by unfold cmnR; rw [if_pos ⟨by omega, by omega⟩, hcol]))
      · refine jk_callV (q := 30) h hX (c_X0_facts hN ⟨by omega, by omega⟩) mv_X0_facts (hN.at 0 rfl) dX9_common_27 ml_X9_96 ⟨rfl, Nat.le_refl _⟩ rfl rfl (Nat.le_of_ble_eq_true rfl) (Nat.le_of_ble_eq_true rfl) rfl rfl (Nat.le_of_ble_eq_true rfl) rfl (fun v9 n9 M9 hp9 => ?_)
        obtain ⟨rfl, rfl, rfl⟩ := hp9
        rw [if_neg hq0]
        have hO := hOB
        have hcol : colA x c = x.2.2.2.2.1 := if_neg hq0
        refine jk_iload_n (q := 31) h dX9_common_30 rfl rfl ?_
        refine jk_iload_n (q := 32) h dX9_common_31 rfl rfl ?_
        refine jk_callV (q := 35) h hX (c_X2_tellCommon hB hO ⟨by omega, by omega⟩ ⟨by omega, by omega⟩) mv_X2_tellCommon (hB.at 0 rfl) dX9_common_32 ml_X9_105 ⟨rfl, Nat.le_refl _⟩ rfl rfl (Nat.le_of_ble_eq_true rfl) (Nat.le_of_ble_eq_true rfl) rfl rfl (Nat.le_of_ble_eq_true rfl) rfl (fun v9 n9 M9 hp9 => ?_)
        obtain ⟨rfl, rfl, rfl⟩ := hp9
        exact jk_iret h hR dX9_common_35 (Nat.le_of_ble_eq_true rfl) (Nat.le_of_ble_eq_true rfl) (jrd_of (by unfold cmnR; rw [if_pos ⟨by omega, by omega⟩, hcol]))
    · refine jk_bipush (q := 18) h dX9_common_16 (by decide) rfl ?_
      exact jk_iret h hR dX9_common_18 (Nat.le_of_ble_eq_true rfl) (Nat.le_of_ble_eq_true rfl) (jrd_of (by unfold cmnR; rw [if_neg (by omega)]))

set_option maxHeartbeats 4000000 in
set_option maxRecDepth 100000 in
theorem c_X9_tellStale {l : Launch} {D : va_G} {b0 : Nat} {n : Nat} {M : jM} {e lo : Nat} {x : TS} {hl : Int} {hk : Nat → TS} {sl : Nat → Option TS} {sg : Nat → Int} {len : Int} (hW : ehP M n e lo x hl hk sl sg len none) : jCtr l D b0 yX9_tellStale cX9_tellStale 1 (some .int) 2 0 0 [.ref e] n M (jrd n M (stlR x)) := by
  refine jctr (lv := [some (.ref e)]) RX9 "tellStale" rfl rfl (by decide) (Nat.le_of_ble_eq_true rfl) rfl ?_
  intro X h hR hX
  obtain ⟨g, gs, nx, at9, kd, fi, se, ti, tr, L, f, hE, hNw, hL, hH, hD, hR9, hC, hdy, hrs, hsQ, hpQ, hcQ, hnx, hhl, hlo1, hlo2⟩ := id hW
  obtain ⟨hS, hT, hN, hA, hB, hP⟩ := hNw
  obtain ⟨hse, htb, hr, hch, hOA, hOB, hOP⟩ := id hsQ
  obtain ⟨hya, hyb, hys⟩ := id htb
  have hs3 := hse.2.2.2
  refine jk_aload_n (q := 1) h dX9_tellStale_0 rfl rfl ?_
  refine jk_get (q := 4) h fg_X9_12 dX9_tellStale_1 (hE.at 0 rfl) rfl rfl ?_
  refine jk_getN (q := 7) h fg_X9_92 dX9_tellStale_4 (hS.at 0 rfl) rfl rfl ?_
  refine jk_callV (q := 10) h hX (c_X0_isMade hN hr hch) mv_X0_isMade (hN.at 0 rfl) dX9_tellStale_7 ml_X9_147 ⟨rfl, Nat.le_refl _⟩ rfl rfl (Nat.le_of_ble_eq_true rfl) (Nat.le_of_ble_eq_true rfl) rfl rfl (Nat.le_of_ble_eq_true rfl) rfl (fun v9 n9 M9 hp9 => ?_)
  obtain ⟨rfl, rfl, rfl⟩ := hp9
  refine jk_if_neB (q := 13) (tgt := 16) h dX9_tellStale_10 (by decide) rfl (fun c10 => ?_) (fun c10 => ?_)
  · refine jk_aload_n (q := 17) h dX9_tellStale_16 rfl rfl ?_
    refine jk_get (q := 20) h fg_X9_12 dX9_tellStale_17 (hE.at 0 rfl) rfl rfl ?_
    refine jk_getN (q := 23) h fg_X9_92 dX9_tellStale_20 (hS.at 0 rfl) rfl rfl ?_
    refine jk_aload_n (q := 24) h dX9_tellStale_23 rfl rfl ?_
    refine jk_get (q := 27) h fg_X9_12 dX9_tellStale_24 (hE.at 0 rfl) rfl rfl ?_
    refine jk_iconst (q := 28) h dX9_tellStale_27 rfl ?_
    refine jk_callV (q := 31) h hX (c_X7_setting ⟨hS, hT, hN, hA, hB, hP⟩ hsQ ⟨by omega, by omega⟩) mv_X7_setting (hS.at 0 rfl) dX9_tellStale_28 ml_X9_138 ⟨rfl, Nat.le_refl _⟩ rfl rfl (Nat.le_of_ble_eq_true rfl) (Nat.le_of_ble_eq_true rfl) rfl rfl (Nat.le_of_ble_eq_true rfl) rfl (fun v9 n9 M9 hp9 => ?_)
    obtain ⟨rfl, rfl, rfl⟩ := hp9
    refine jk_callV (q := 34) h hX (c_X0_isStale hN hr hch ⟨hse.2.2.2.1, hse.2.2.2.2⟩) mv_X0_isStale (hN.at 0 rfl) dX9_tellStale_31 ml_X9_151 ⟨rfl, Nat.le_refl _⟩ rfl rfl (Nat.le_of_ble_eq_true rfl) (Nat.le_of_ble_eq_true rfl) rfl rfl (Nat.le_of_ble_eq_true rfl) rfl (fun v9 n9 M9 hp9 => ?_)
    obtain ⟨rfl, rfl, rfl⟩ := hp9
    refine jk_if_eqB (q := 37) (tgt := 41) h dX9_tellStale_34 (by decide) rfl (fun c34 => ?_) (fun c34 => ?_)
    · refine jk_iconst (q := 42) h dX9_tellStale_41 rfl ?_
      exact jk_iret h hR dX9_tellStale_42 (Nat.le_of_ble_eq_true rfl) (Nat.le_of_ble_eq_true rfl) (jrd_of (by unfold stlR; rw [if_pos (by omega)]; first | exact if_pos c34 | exact if_neg c34))
    · refine jk_iconst (q := 38) h dX9_tellStale_37 rfl ?_
      refine jk_goto (q := 41) (tgt := 42) h dX9_tellStale_38 (by decide) ?_
      exact jk_iret h hR dX9_tellStale_42 (Nat.le_of_ble_eq_true rfl) (Nat.le_of_ble_eq_true rfl) (jrd_of (by unfold stlR; rw [if_pos (by omega)]; first | exact if_pos c34 | exact if_neg c34))
  · refine jk_bipush (q := 15) h dX9_tellStale_13 (by decide) rfl ?_
    exact jk_iret h hR dX9_tellStale_15 (Nat.le_of_ble_eq_true rfl) (Nat.le_of_ble_eq_true rfl) (jrd_of (by unfold stlR; rw [if_neg (by omega)]))

set_option maxHeartbeats 4000000 in
set_option maxRecDepth 100000 in
theorem c_X9_count {l : Launch} {D : va_G} {b0 : Nat} {n : Nat} {M : jM} {e lo : Nat} {x : TS} {hl : Int} {hk : Nat → TS} {sl : Nat → Option TS} {sg : Nat → Int} {len : Int} (hW : ehP M n e lo x hl hk sl sg len none) {w : Int} (h_w : jRng w) : jCtr l D b0 yX9_count cX9_count 3 (some .int) 3 0 0 [.ref e, jI w] n M (fun v n2 M2 => ∃ r : Int, some (jI r) = v ∧ n = n2 ∧ M = M2 ∧ cnQ x len hl w r) := by
  refine jctr (lv := [some (.ref e), some (jI w), none]) RX9 "count" rfl rfl (by decide) (Nat.le_of_ble_eq_true rfl) rfl ?_
  intro X h hR hX
  obtain ⟨g, gs, nx, at9, kd, fi, se, ti, tr, L, f, hE, hNw, hL, hH, hD, hR9, hC, hdy, hrs, hsQ, hpQ, hcQ, hnx, hhl, hlo1, hlo2⟩ := id hW
  obtain ⟨hS, hT, hN, hA, hB, hP⟩ := hNw
  obtain ⟨hse, htb, hr, hch, hOA, hOB, hOP⟩ := id hsQ
  obtain ⟨hya, hyb, hys⟩ := id htb
  refine jk_aload_n (q := 1) h dX9_count_0 rfl rfl ?_
  refine jk_get (q := 4) h fg_X9_12 dX9_count_1 (hE.at 0 rfl) rfl rfl ?_
  refine jk_getN (q := 7) h fg_X9_92 dX9_count_4 (hS.at 0 rfl) rfl rfl ?_
  refine jk_astore_n (q := 8) h dX9_count_7 rfl (Nat.le_of_ble_eq_true rfl) rfl rfl ?_
  refine jk_iload_n (q := 9) h dX9_count_8 rfl rfl ?_
  refine jk_case (0) (fun c9_0 => ?_) (fun c9_0 => ?_)
  · refine jk_tabIn (q := 0) (tgt := 84) h dX9_count_9 ⟨by omega, by omega⟩ (by omega) (by omega) (by rw [c9_0]; try rfl) (by decide) ?_
    refine jk_aload_n (q := 85) h dX9_count_84 rfl rfl ?_
    refine jk_get (q := 88) h fg_X9_12 dX9_count_85 (hE.at 0 rfl) rfl rfl ?_
    refine jk_getN (q := 91) h fg_X9_72 dX9_count_88 (hS.at 0 rfl) rfl rfl ?_
    refine jk_getN (q := 94) h fg_X9_117 dX9_count_91 (hT.at 0 rfl) rfl rfl ?_
    exact jk_iret h hR dX9_count_94 (Nat.le_of_ble_eq_true rfl) (Nat.le_of_ble_eq_true rfl) (⟨_, rfl, rfl, rfl, by refine ⟨fun z => ?_, fun z => ?_, fun z => ?_, fun z => ?_, fun z => ?_, fun z => ?_, fun z => ?_, fun z => ?_, fun z => ?_, fun z => ?_, fun z => ?_, fun z => ?_, fun z => ?_, fun z => ?_, fun z => ?_, fun z => ?_⟩ <;> first | (exfalso; omega) | rfl⟩)
  refine jk_case (1) (fun c9_1 => ?_) (fun c9_1 => ?_)
  · refine jk_tabIn (q := 0) (tgt := 95) h dX9_count_9 ⟨by omega, by omega⟩ (by omega) (by omega) (by rw [c9_1]; try rfl) (by decide) ?_
    refine jk_aload_n (q := 96) h dX9_count_95 rfl rfl ?_
    refine jk_getN (q := 99) h fg_X9_121 dX9_count_96 (hN.at 0 rfl) rfl rfl ?_
    exact jk_iret h hR dX9_count_99 (Nat.le_of_ble_eq_true rfl) (Nat.le_of_ble_eq_true rfl) (⟨_, rfl, rfl, rfl, by refine ⟨fun z => ?_, fun z => ?_, fun z => ?_, fun z => ?_, fun z => ?_, fun z => ?_, fun z => ?_, fun z => ?_, fun z => ?_, fun z => ?_, fun z => ?_, fun z => ?_, fun z => ?_, fun z => ?_, fun z => ?_, fun z => ?_⟩ <;> first | (exfalso; omega) | rfl⟩)
  refine jk_case (2) (fun c9_2 => ?_) (fun c9_2 => ?_)
  · refine jk_tabIn (q := 0) (tgt := 100) h dX9_count_9 ⟨by omega, by omega⟩ (by omega) (by omega) (by rw [c9_2]; try rfl) (by decide) ?_
    refine jk_aload_n (q := 101) h dX9_count_100 rfl rfl ?_
    refine jk_getN (q := 104) h fg_X9_124 dX9_count_101 (hN.at 0 rfl) rfl rfl ?_
    exact jk_iret h hR dX9_count_104 (Nat.le_of_ble_eq_true rfl) (Nat.le_of_ble_eq_true rfl) (⟨_, rfl, rfl, rfl, by refine ⟨fun z => ?_, fun z => ?_, fun z => ?_, fun z => ?_, fun z => ?_, fun z => ?_, fun z => ?_, fun z => ?_, fun z => ?_, fun z => ?_, fun z => ?_, fun z => ?_, fun z => ?_, fun z => ?_, fun z => ?_, fun z => ?_⟩ <;> first | (exfalso; omega) | rfl⟩)
  refine jk_case (3) (fun c9_3 => ?_) (fun c9_3 => ?_)
  · refine jk_tabIn (q := 0) (tgt := 105) h dX9_count_9 ⟨by omega, by omega⟩ (by omega) (by omega) (by rw [c9_3]; try rfl) (by decide) ?_
    refine jk_aload_n (q := 106) h dX9_count_105 rfl rfl ?_
    refine jk_callV (q := 109) h hX (c_X9_tellStale hW) mv_X9_tellStale (hE.at 0 rfl) dX9_count_106 ml_X9_127 ⟨rfl, Nat.le_refl _⟩ rfl rfl (Nat.le_of_ble_eq_true rfl) (Nat.le_of_ble_eq_true rfl) rfl rfl (Nat.le_of_ble_eq_true rfl) rfl (fun v9 n9 M9 hp9 => ?_)
    obtain ⟨rfl, rfl, rfl⟩ := hp9
    exact jk_iret h hR dX9_count_109 (Nat.le_of_ble_eq_true rfl) (Nat.le_of_ble_eq_true rfl) (⟨_, rfl, rfl, rfl, by refine ⟨fun z => ?_, fun z => ?_, fun z => ?_, fun z => ?_, fun z => ?_, fun z => ?_, fun z => ?_, fun z => ?_, fun z => ?_, fun z => ?_, fun z => ?_, fun z => ?_, fun z => ?_, fun z => ?_, fun z => ?_, fun z => ?_⟩ <;> first | (exfalso; omega) | rfl⟩)
  refine jk_case (4) (fun c9_4 => ?_) (fun c9_4 => ?_)
  · refine jk_tabIn (q := 0) (tgt := 110) h dX9_count_9 ⟨by omega, by omega⟩ (by omega) (by omega) (by rw [c9_4]; try rfl) (by decide) ?_
    refine jk_aload_n (q := 111) h dX9_count_110 rfl rfl ?_
    refine jk_iconst (q := 112) h dX9_count_111 rfl ?_
    refine jk_callV (q := 115) h hX (c_X0_facts hN ⟨by omega, by omega⟩) mv_X0_facts (hN.at 0 rfl) dX9_count_112 ml_X9_96 ⟨rfl, Nat.le_refl _⟩ rfl rfl (Nat.le_of_ble_eq_true rfl) (Nat.le_of_ble_eq_true rfl) rfl rfl (Nat.le_of_ble_eq_true rfl) rfl (fun v9 n9 M9 hp9 => ?_)
    obtain ⟨rfl, rfl, rfl⟩ := hp9
    rw [if_pos (by omega)]
    have hO := hOA
    refine jk_getN (q := 118) h fg_X9_130 dX9_count_115 (hA.at 0 rfl) rfl rfl ?_
    exact jk_iret h hR dX9_count_118 (Nat.le_of_ble_eq_true rfl) (Nat.le_of_ble_eq_true rfl) (⟨_, rfl, rfl, rfl, by refine ⟨fun z => ?_, fun z => ?_, fun z => ?_, fun z => ?_, fun z => ?_, fun z => ?_, fun z => ?_, fun z => ?_, fun z => ?_, fun z => ?_, fun z => ?_, fun z => ?_, fun z => ?_, fun z => ?_, fun z => ?_, fun z => ?_⟩ <;> first | (exfalso; omega) | rfl⟩)
  refine jk_case (5) (fun c9_5 => ?_) (fun c9_5 => ?_)
  · refine jk_tabIn (q := 0) (tgt := 119) h dX9_count_9 ⟨by omega, by omega⟩ (by omega) (by omega) (by rw [c9_5]; try rfl) (by decide) ?_
    refine jk_aload_n (q := 120) h dX9_count_119 rfl rfl ?_
    refine jk_iconst (q := 121) h dX9_count_120 rfl ?_
    refine jk_callV (q := 124) h hX (c_X0_facts hN ⟨by omega, by omega⟩) mv_X0_facts (hN.at 0 rfl) dX9_count_121 ml_X9_96 ⟨rfl, Nat.le_refl _⟩ rfl rfl (Nat.le_of_ble_eq_true rfl) (Nat.le_of_ble_eq_true rfl) rfl rfl (Nat.le_of_ble_eq_true rfl) rfl (fun v9 n9 M9 hp9 => ?_)
    obtain ⟨rfl, rfl, rfl⟩ := hp9
    rw [if_neg (by omega)]
    have hO := hOB
    refine jk_getN (q := 127) h fg_X9_130 dX9_count_124 (hB.at 0 rfl) rfl rfl ?_
    exact jk_iret h hR dX9_count_127 (Nat.le_of_ble_eq_true rfl) (Nat.le_of_ble_eq_true rfl) (⟨_, rfl, rfl, rfl, by refine ⟨fun z => ?_, fun z => ?_, fun z => ?_, fun z => ?_, fun z => ?_, fun z => ?_, fun z => ?_, fun z => ?_, fun z => ?_, fun z => ?_, fun z => ?_, fun z => ?_, fun z => ?_, fun z => ?_, fun z => ?_, fun z => ?_⟩ <;> first | (exfalso; omega) | rfl⟩)
  refine jk_case (6) (fun c9_6 => ?_) (fun c9_6 => ?_)
  · refine jk_tabIn (q := 0) (tgt := 128) h dX9_count_9 ⟨by omega, by omega⟩ (by omega) (by omega) (by rw [c9_6]; try rfl) (by decide) ?_
    refine jk_aload_n (q := 129) h dX9_count_128 rfl rfl ?_
    refine jk_iconst (q := 130) h dX9_count_129 rfl ?_
    refine jk_callV (q := 133) h hX (c_X0_facts hN ⟨by omega, by omega⟩) mv_X0_facts (hN.at 0 rfl) dX9_count_130 ml_X9_96 ⟨rfl, Nat.le_refl _⟩ rfl rfl (Nat.le_of_ble_eq_true rfl) (Nat.le_of_ble_eq_true rfl) rfl rfl (Nat.le_of_ble_eq_true rfl) rfl (fun v9 n9 M9 hp9 => ?_)
    obtain ⟨rfl, rfl, rfl⟩ := hp9
    rw [if_pos (by omega)]
    have hO := hOA
    refine jk_getN (q := 136) h fg_X9_133 dX9_count_133 (hA.at 0 rfl) rfl rfl ?_
    exact jk_iret h hR dX9_count_136 (Nat.le_of_ble_eq_true rfl) (Nat.le_of_ble_eq_true rfl) (⟨_, rfl, rfl, rfl, by refine ⟨fun z => ?_, fun z => ?_, fun z => ?_, fun z => ?_, fun z => ?_, fun z => ?_, fun z => ?_, fun z => ?_, fun z => ?_, fun z => ?_, fun z => ?_, fun z => ?_, fun z => ?_, fun z => ?_, fun z => ?_, fun z => ?_⟩ <;> first | (exfalso; omega) | rfl⟩)
  refine jk_case (7) (fun c9_7 => ?_) (fun c9_7 => ?_)
  · refine jk_tabIn (q := 0) (tgt := 137) h dX9_count_9 ⟨by omega, by omega⟩ (by omega) (by omega) (by rw [c9_7]; try rfl) (by decide) ?_
    refine jk_aload_n (q := 138) h dX9_count_137 rfl rfl ?_
    refine jk_iconst (q := 139) h dX9_count_138 rfl ?_
    refine jk_callV (q := 142) h hX (c_X0_facts hN ⟨by omega, by omega⟩) mv_X0_facts (hN.at 0 rfl) dX9_count_139 ml_X9_96 ⟨rfl, Nat.le_refl _⟩ rfl rfl (Nat.le_of_ble_eq_true rfl) (Nat.le_of_ble_eq_true rfl) rfl rfl (Nat.le_of_ble_eq_true rfl) rfl (fun v9 n9 M9 hp9 => ?_)
    obtain ⟨rfl, rfl, rfl⟩ := hp9
    rw [if_neg (by omega)]
    have hO := hOB
    refine jk_getN (q := 145) h fg_X9_133 dX9_count_142 (hB.at 0 rfl) rfl rfl ?_
    exact jk_iret h hR dX9_count_145 (Nat.le_of_ble_eq_true rfl) (Nat.le_of_ble_eq_true rfl) (⟨_, rfl, rfl, rfl, by refine ⟨fun z => ?_, fun z => ?_, fun z => ?_, fun z => ?_, fun z => ?_, fun z => ?_, fun z => ?_, fun z => ?_, fun z => ?_, fun z => ?_, fun z => ?_, fun z => ?_, fun z => ?_, fun z => ?_, fun z => ?_, fun z => ?_⟩ <;> first | (exfalso; omega) | rfl⟩)
  refine jk_case (8) (fun c9_8 => ?_) (fun c9_8 => ?_)
  · refine jk_tabIn (q := 0) (tgt := 146) h dX9_count_9 ⟨by omega, by omega⟩ (by omega) (by omega) (by rw [c9_8]; try rfl) (by decide) ?_
    refine jk_aload_n (q := 147) h dX9_count_146 rfl rfl ?_
    refine jk_getN (q := 150) h fg_X9_108 dX9_count_147 (hN.at 0 rfl) rfl rfl ?_
    refine jk_getN (q := 153) h fg_X9_136 dX9_count_150 (hP.at 0 rfl) rfl rfl ?_
    exact jk_iret h hR dX9_count_153 (Nat.le_of_ble_eq_true rfl) (Nat.le_of_ble_eq_true rfl) (⟨_, rfl, rfl, rfl, by refine ⟨fun z => ?_, fun z => ?_, fun z => ?_, fun z => ?_, fun z => ?_, fun z => ?_, fun z => ?_, fun z => ?_, fun z => ?_, fun z => ?_, fun z => ?_, fun z => ?_, fun z => ?_, fun z => ?_, fun z => ?_, fun z => ?_⟩ <;> first | (exfalso; omega) | rfl⟩)
  refine jk_case (9) (fun c9_9 => ?_) (fun c9_9 => ?_)
  · refine jk_tabIn (q := 0) (tgt := 154) h dX9_count_9 ⟨by omega, by omega⟩ (by omega) (by omega) (by rw [c9_9]; try rfl) (by decide) ?_
    refine jk_aload_n (q := 155) h dX9_count_154 rfl rfl ?_
    refine jk_get (q := 158) h fg_X9_12 dX9_count_155 (hE.at 0 rfl) rfl rfl ?_
    refine jk_iconst (q := 159) h dX9_count_158 rfl ?_
    refine jk_callV (q := 162) h hX (c_X7_setting ⟨hS, hT, hN, hA, hB, hP⟩ hsQ ⟨by omega, by omega⟩) mv_X7_setting (hS.at 0 rfl) dX9_count_159 ml_X9_138 ⟨rfl, Nat.le_refl _⟩ rfl rfl (Nat.le_of_ble_eq_true rfl) (Nat.le_of_ble_eq_true rfl) rfl rfl (Nat.le_of_ble_eq_true rfl) rfl (fun v9 n9 M9 hp9 => ?_)
    obtain ⟨rfl, rfl, rfl⟩ := hp9
    exact jk_iret h hR dX9_count_162 (Nat.le_of_ble_eq_true rfl) (Nat.le_of_ble_eq_true rfl) (⟨_, rfl, rfl, rfl, by refine ⟨fun z => ?_, fun z => ?_, fun z => ?_, fun z => ?_, fun z => ?_, fun z => ?_, fun z => ?_, fun z => ?_, fun z => ?_, fun z => ?_, fun z => ?_, fun z => ?_, fun z => ?_, fun z => ?_, fun z => ?_, fun z => ?_⟩ <;> first | (exfalso; omega) | rfl⟩)
  refine jk_case (10) (fun c9_10 => ?_) (fun c9_10 => ?_)
  · refine jk_tabIn (q := 0) (tgt := 163) h dX9_count_9 ⟨by omega, by omega⟩ (by omega) (by omega) (by rw [c9_10]; try rfl) (by decide) ?_
    refine jk_aload_n (q := 164) h dX9_count_163 rfl rfl ?_
    refine jk_get (q := 167) h fg_X9_12 dX9_count_164 (hE.at 0 rfl) rfl rfl ?_
    refine jk_iconst (q := 168) h dX9_count_167 rfl ?_
    refine jk_callV (q := 171) h hX (c_X7_setting ⟨hS, hT, hN, hA, hB, hP⟩ hsQ ⟨by omega, by omega⟩) mv_X7_setting (hS.at 0 rfl) dX9_count_168 ml_X9_138 ⟨rfl, Nat.le_refl _⟩ rfl rfl (Nat.le_of_ble_eq_true rfl) (Nat.le_of_ble_eq_true rfl) rfl rfl (Nat.le_of_ble_eq_true rfl) rfl (fun v9 n9 M9 hp9 => ?_)
    obtain ⟨rfl, rfl, rfl⟩ := hp9
    exact jk_iret h hR dX9_count_171 (Nat.le_of_ble_eq_true rfl) (Nat.le_of_ble_eq_true rfl) (⟨_, rfl, rfl, rfl, by refine ⟨fun z => ?_, fun z => ?_, fun z => ?_, fun z => ?_, fun z => ?_, fun z => ?_, fun z => ?_, fun z => ?_, fun z => ?_, fun z => ?_, fun z => ?_, fun z => ?_, fun z => ?_, fun z => ?_, fun z => ?_, fun z => ?_⟩ <;> first | (exfalso; omega) | rfl⟩)
  refine jk_case (11) (fun c9_11 => ?_) (fun c9_11 => ?_)
  · refine jk_tabIn (q := 0) (tgt := 172) h dX9_count_9 ⟨by omega, by omega⟩ (by omega) (by omega) (by rw [c9_11]; try rfl) (by decide) ?_
    refine jk_aload_n (q := 173) h dX9_count_172 rfl rfl ?_
    refine jk_get (q := 176) h fg_X9_12 dX9_count_173 (hE.at 0 rfl) rfl rfl ?_
    refine jk_iconst (q := 177) h dX9_count_176 rfl ?_
    refine jk_callV (q := 180) h hX (c_X7_setting ⟨hS, hT, hN, hA, hB, hP⟩ hsQ ⟨by omega, by omega⟩) mv_X7_setting (hS.at 0 rfl) dX9_count_177 ml_X9_138 ⟨rfl, Nat.le_refl _⟩ rfl rfl (Nat.le_of_ble_eq_true rfl) (Nat.le_of_ble_eq_true rfl) rfl rfl (Nat.le_of_ble_eq_true rfl) rfl (fun v9 n9 M9 hp9 => ?_)
    obtain ⟨rfl, rfl, rfl⟩ := hp9
    exact jk_iret h hR dX9_count_180 (Nat.le_of_ble_eq_true rfl) (Nat.le_of_ble_eq_true rfl) (⟨_, rfl, rfl, rfl, by refine ⟨fun z => ?_, fun z => ?_, fun z => ?_, fun z => ?_, fun z => ?_, fun z => ?_, fun z => ?_, fun z => ?_, fun z => ?_, fun z => ?_, fun z => ?_, fun z => ?_, fun z => ?_, fun z => ?_, fun z => ?_, fun z => ?_⟩ <;> first | (exfalso; omega) | rfl⟩)
  refine jk_case (12) (fun c9_12 => ?_) (fun c9_12 => ?_)
  · refine jk_tabIn (q := 0) (tgt := 181) h dX9_count_9 ⟨by omega, by omega⟩ (by omega) (by omega) (by rw [c9_12]; try rfl) (by decide) ?_
    refine jk_aload_n (q := 182) h dX9_count_181 rfl rfl ?_
    refine jk_get (q := 185) h fg_X9_12 dX9_count_182 (hE.at 0 rfl) rfl rfl ?_
    refine jk_iconst (q := 186) h dX9_count_185 rfl ?_
    refine jk_callV (q := 189) h hX (c_X7_setting ⟨hS, hT, hN, hA, hB, hP⟩ hsQ ⟨by omega, by omega⟩) mv_X7_setting (hS.at 0 rfl) dX9_count_186 ml_X9_138 ⟨rfl, Nat.le_refl _⟩ rfl rfl (Nat.le_of_ble_eq_true rfl) (Nat.le_of_ble_eq_true rfl) rfl rfl (Nat.le_of_ble_eq_true rfl) rfl (fun v9 n9 M9 hp9 => ?_)
    obtain ⟨rfl, rfl, rfl⟩ := hp9
    exact jk_iret h hR dX9_count_189 (Nat.le_of_ble_eq_true rfl) (Nat.le_of_ble_eq_true rfl) (⟨_, rfl, rfl, rfl, by refine ⟨fun z => ?_, fun z => ?_, fun z => ?_, fun z => ?_, fun z => ?_, fun z => ?_, fun z => ?_, fun z => ?_, fun z => ?_, fun z => ?_, fun z => ?_, fun z => ?_, fun z => ?_, fun z => ?_, fun z => ?_, fun z => ?_⟩ <;> first | (exfalso; omega) | rfl⟩)
  refine jk_case (13) (fun c9_13 => ?_) (fun c9_13 => ?_)
  · refine jk_tabIn (q := 0) (tgt := 190) h dX9_count_9 ⟨by omega, by omega⟩ (by omega) (by omega) (by rw [c9_13]; try rfl) (by decide) ?_
    refine jk_aload_n (q := 191) h dX9_count_190 rfl rfl ?_
    refine jk_get (q := 194) h fg_X9_30 dX9_count_191 (hE.at 0 rfl) rfl rfl ?_
    refine jk_getN (q := 197) h fg_X9_141 dX9_count_194 (hD.at 0 rfl) rfl rfl ?_
    exact jk_iret h hR dX9_count_197 (Nat.le_of_ble_eq_true rfl) (Nat.le_of_ble_eq_true rfl) (⟨_, rfl, rfl, rfl, by refine ⟨fun z => ?_, fun z => ?_, fun z => ?_, fun z => ?_, fun z => ?_, fun z => ?_, fun z => ?_, fun z => ?_, fun z => ?_, fun z => ?_, fun z => ?_, fun z => ?_, fun z => ?_, fun z => ?_, fun z => ?_, fun z => ?_⟩ <;> first | (exfalso; omega) | rfl⟩)
  refine jk_case (14) (fun c9_14 => ?_) (fun c9_14 => ?_)
  · refine jk_tabIn (q := 0) (tgt := 198) h dX9_count_9 ⟨by omega, by omega⟩ (by omega) (by omega) (by rw [c9_14]; try rfl) (by decide) ?_
    refine jk_aload_n (q := 199) h dX9_count_198 rfl rfl ?_
    refine jk_get (q := 202) h fg_X9_23 dX9_count_199 (hE.at 0 rfl) rfl rfl ?_
    refine jk_getN (q := 205) h fg_X9_144 dX9_count_202 (hH.at 0 rfl) rfl rfl ?_
    exact jk_iret h hR dX9_count_205 (Nat.le_of_ble_eq_true rfl) (Nat.le_of_ble_eq_true rfl) (⟨_, rfl, rfl, rfl, by refine ⟨fun z => ?_, fun z => ?_, fun z => ?_, fun z => ?_, fun z => ?_, fun z => ?_, fun z => ?_, fun z => ?_, fun z => ?_, fun z => ?_, fun z => ?_, fun z => ?_, fun z => ?_, fun z => ?_, fun z => ?_, fun z => ?_⟩ <;> first | (exfalso; omega) | rfl⟩)
  refine jk_tabOut (q := 0) (tgt := 206) h dX9_count_9 ⟨by omega, by omega⟩ (by omega) (by decide) ?_
  refine jk_bipush (q := 208) h dX9_count_206 (by decide) rfl ?_
  exact jk_iret h hR dX9_count_208 (Nat.le_of_ble_eq_true rfl) (Nat.le_of_ble_eq_true rfl) (⟨_, rfl, rfl, rfl, by refine ⟨fun z => ?_, fun z => ?_, fun z => ?_, fun z => ?_, fun z => ?_, fun z => ?_, fun z => ?_, fun z => ?_, fun z => ?_, fun z => ?_, fun z => ?_, fun z => ?_, fun z => ?_, fun z => ?_, fun z => ?_, fun z => ?_⟩ <;> first | (exfalso; omega) | rfl⟩)

set_option maxHeartbeats 4000000 in
set_option maxRecDepth 100000 in
theorem c_X9_estimate {l : Launch} {D : va_G} {b0 : Nat} {n : Nat} {M : jM} {e lo : Nat} {x : TS} {hl : Int} {hk : Nat → TS} {sl : Nat → Option TS} {sg : Nat → Int} {len : Int} (hW : ehP M n e lo x hl hk sl sg len none) {c : Int} {lo9 : Int} {hi : Int} {w : Int} (h_c : jRng c) (h_lo9 : jRng lo9) (h_hi : jRng hi) (h_w : jRng w) : jCtr l D b0 yX9_estimate cX9_estimate 6 (some .int) 3 0 0 [.ref e, jI c, jI lo9, jI hi, jI w] n M (jrd n M (estR x c lo9 hi w)) := by
  refine jctr (lv := [some (.ref e), some (jI c), some (jI lo9), some (jI hi), some (jI w), none]) RX9 "estimate" rfl rfl (by decide) (Nat.le_of_ble_eq_true rfl) rfl ?_
  intro X h hR hX
  obtain ⟨g, gs, nx, at9, kd, fi, se, ti, tr, L, f, hE, hNw, hL, hH, hD, hR9, hC, hdy, hrs, hsQ, hpQ, hcQ, hnx, hhl, hlo1, hlo2⟩ := id hW
  obtain ⟨hS, hT, hN, hA, hB, hP⟩ := hNw
  obtain ⟨hse, htb, hr, hch, hOA, hOB, hOP⟩ := id hsQ
  obtain ⟨hya, hyb, hys⟩ := id htb
  have hg0 := gsT_bd (low := lo9) (high := hi) hOA
  have hg1 := gsT_bd (low := lo9) (high := hi) hOB
  refine jk_iload_n (q := 1) h dX9_estimate_0 rfl rfl ?_
  refine jk_callS (q := 4) h hX (c_X9_isColumn ⟨by omega, by omega⟩) ms_X9_isColumn dX9_estimate_1 ml_X9_82 ⟨rfl, Nat.le_refl _⟩ rfl rfl (Nat.le_of_ble_eq_true rfl) (Nat.le_of_ble_eq_true rfl) rfl rfl (Nat.le_of_ble_eq_true rfl) rfl (fun v9 n9 M9 hp9 => ?_)
  obtain ⟨rfl, rfl, rfl⟩ := hp9
  refine jk_if_eqB (q := 7) (tgt := 25) h dX9_estimate_4 (by decide) rfl (fun c4 => ?_) (fun c4 => ?_)
  · refine jk_bipush (q := 27) h dX9_estimate_25 (by decide) rfl ?_
    exact jk_iret h hR dX9_estimate_27 (Nat.le_of_ble_eq_true rfl) (Nat.le_of_ble_eq_true rfl) (jrd_of (by unfold estR; rw [if_neg (by omega)]))
  · refine jk_iload_n (q := 8) h dX9_estimate_7 rfl rfl ?_
    refine jk_iload_n (q := 9) h dX9_estimate_8 rfl rfl ?_
    refine jk_callS (q := 12) h hX (c_X9_areBounds ⟨by omega, by omega⟩ ⟨by omega, by omega⟩) ms_X9_areBounds dX9_estimate_9 ml_X9_154 ⟨rfl, Nat.le_refl _⟩ rfl rfl (Nat.le_of_ble_eq_true rfl) (Nat.le_of_ble_eq_true rfl) rfl rfl (Nat.le_of_ble_eq_true rfl) rfl (fun v9 n9 M9 hp9 => ?_)
    obtain ⟨rfl, rfl, rfl⟩ := hp9
    refine jk_if_eqB (q := 15) (tgt := 25) h dX9_estimate_12 (by decide) rfl (fun c12 => ?_) (fun c12 => ?_)
    · refine jk_bipush (q := 27) h dX9_estimate_25 (by decide) rfl ?_
      exact jk_iret h hR dX9_estimate_27 (Nat.le_of_ble_eq_true rfl) (Nat.le_of_ble_eq_true rfl) (jrd_of (by unfold estR; rw [if_neg (by omega)]))
    · refine jk_iload (q := 17) h dX9_estimate_15 rfl rfl ?_
      refine jk_iconst (q := 18) h dX9_estimate_17 rfl ?_
      refine jk_iconst (q := 19) h dX9_estimate_18 rfl ?_
      refine jk_callS (q := 22) h hX (c_X9_isBetween ⟨by omega, by omega⟩ ⟨by omega, by omega⟩ ⟨by omega, by omega⟩) ms_X9_isBetween dX9_estimate_19 ml_X9_88 ⟨rfl, Nat.le_refl _⟩ rfl rfl (Nat.le_of_ble_eq_true rfl) (Nat.le_of_ble_eq_true rfl) rfl rfl (Nat.le_of_ble_eq_true rfl) rfl (fun v9 n9 M9 hp9 => ?_)
      obtain ⟨rfl, rfl, rfl⟩ := hp9
      refine jk_if_neB (q := 25) (tgt := 28) h dX9_estimate_22 (by decide) rfl (fun c22 => ?_) (fun c22 => ?_)
      · refine jk_iload (q := 30) h dX9_estimate_28 rfl rfl ?_
        refine jk_iconst (q := 31) h dX9_estimate_30 rfl ?_
        refine jk_icmp_ne (q := 34) (tgt := 48) h dX9_estimate_31 (by decide) rfl ⟨by omega, by omega⟩ ⟨by omega, by omega⟩ (fun c31 => ?_) (fun c31 => ?_)
        · refine jk_aload_n (q := 49) h dX9_estimate_48 rfl rfl ?_
          refine jk_get (q := 52) h fg_X9_12 dX9_estimate_49 (hE.at 0 rfl) rfl rfl ?_
          refine jk_getN (q := 55) h fg_X9_92 dX9_estimate_52 (hS.at 0 rfl) rfl rfl ?_
          refine jk_callV (q := 58) h hX (c_X0_isMade hN hr hch) mv_X0_isMade (hN.at 0 rfl) dX9_estimate_55 ml_X9_147 ⟨rfl, Nat.le_refl _⟩ rfl rfl (Nat.le_of_ble_eq_true rfl) (Nat.le_of_ble_eq_true rfl) rfl rfl (Nat.le_of_ble_eq_true rfl) rfl (fun v9 n9 M9 hp9 => ?_)
          obtain ⟨rfl, rfl, rfl⟩ := hp9
          refine jk_if_neB (q := 61) (tgt := 64) h dX9_estimate_58 (by decide) rfl (fun c58 => ?_) (fun c58 => ?_)
          · refine jk_aload_n (q := 65) h dX9_estimate_64 rfl rfl ?_
            refine jk_get (q := 68) h fg_X9_12 dX9_estimate_65 (hE.at 0 rfl) rfl rfl ?_
            refine jk_getN (q := 71) h fg_X9_92 dX9_estimate_68 (hS.at 0 rfl) rfl rfl ?_
            refine jk_iload_n (q := 72) h dX9_estimate_71 rfl rfl ?_
            rcases Decidable.em (c = 0) with hq0 | hq0
            · refine jk_callV (q := 75) h hX (c_X0_facts hN ⟨by omega, by omega⟩) mv_X0_facts (hN.at 0 rfl) dX9_estimate_72 ml_X9_96 ⟨rfl, Nat.le_refl _⟩ rfl rfl (Nat.le_of_ble_eq_true rfl) (Nat.le_of_ble_eq_true rfl) rfl rfl (Nat.le_of_ble_eq_true rfl) rfl (fun v9 n9 M9 hp9 => ?_)
              obtain ⟨rfl, rfl, rfl⟩ := hp9
              rw [if_pos hq0]
              have hO := hOA
              have hcol : colA x c = x.2.2.2.1 := if_pos hq0
              refine jk_astore (q := 77) h dX9_estimate_75 rfl (Nat.le_of_ble_eq_true rfl) rfl rfl ?_
              refine jk_iload (q := 79) h dX9_estimate_77 rfl rfl ?_
              refine jk_case (0) (fun c79_0 => ?_) (fun c79_0 => ?_)
              · refine jk_tabIn (q := 0) (tgt := 104) h dX9_estimate_79 ⟨by omega, by omega⟩ (by omega) (by omega) (by rw [c79_0]; try rfl) (by decide) ?_
                refine jk_aload (q := 106) h dX9_estimate_104 rfl rfl ?_
                refine jk_iload_n (q := 107) h dX9_estimate_106 rfl rfl ?_
                refine jk_iload_n (q := 108) h dX9_estimate_107 rfl rfl ?_
                refine jk_callV (q := 111) h hX (c_X2_guess hA hO ⟨by omega, by omega⟩ ⟨by omega, by omega⟩) mv_X2_guess (hA.at 0 rfl) dX9_estimate_108 ml_X9_162 ⟨rfl, Nat.le_refl _⟩ rfl rfl (Nat.le_of_ble_eq_true rfl) (Nat.le_of_ble_eq_true rfl) rfl rfl (Nat.le_of_ble_eq_true rfl) rfl (fun v9 n9 M9 hp9 => ?_)
                obtain ⟨rfl, rfl, rfl⟩ := hp9
                exact jk_iret h hR dX9_estimate_111 (Nat.le_of_ble_eq_true rfl) (Nat.le_of_ble_eq_true rfl) (jrd_of (by unfold estR; rw [if_pos ⟨by omega, by omega, by omega⟩, if_neg (by omega), if_pos (by omega), if_pos (by omega), hcol]))
              refine jk_case (1) (fun c79_1 => ?_) (fun c79_1 => ?_)
              · refine jk_tabIn (q := 0) (tgt := 112) h dX9_estimate_79 ⟨by omega, by omega⟩ (by omega) (by omega) (by rw [c79_1]; try rfl) (by decide) ?_
                refine jk_aload (q := 114) h dX9_estimate_112 rfl rfl ?_
                refine jk_iload_n (q := 115) h dX9_estimate_114 rfl rfl ?_
                refine jk_iload_n (q := 116) h dX9_estimate_115 rfl rfl ?_
                refine jk_callV (q := 119) h hX (c_X2_least hA hO ⟨by omega, by omega⟩ ⟨by omega, by omega⟩) mv_X2_least (hA.at 0 rfl) dX9_estimate_116 ml_X9_165 ⟨rfl, Nat.le_refl _⟩ rfl rfl (Nat.le_of_ble_eq_true rfl) (Nat.le_of_ble_eq_true rfl) rfl rfl (Nat.le_of_ble_eq_true rfl) rfl (fun v9 n9 M9 hp9 => ?_)
                obtain ⟨rfl, rfl, rfl⟩ := hp9
                exact jk_iret h hR dX9_estimate_119 (Nat.le_of_ble_eq_true rfl) (Nat.le_of_ble_eq_true rfl) (jrd_of (by unfold estR; rw [if_pos ⟨by omega, by omega, by omega⟩, if_neg (by omega), if_pos (by omega), if_neg (by omega), if_pos (by omega), hcol]))
              refine jk_case (2) (fun c79_2 => ?_) (fun c79_2 => ?_)
              · refine jk_tabIn (q := 0) (tgt := 120) h dX9_estimate_79 ⟨by omega, by omega⟩ (by omega) (by omega) (by rw [c79_2]; try rfl) (by decide) ?_
                refine jk_aload (q := 122) h dX9_estimate_120 rfl rfl ?_
                refine jk_iload_n (q := 123) h dX9_estimate_122 rfl rfl ?_
                refine jk_iload_n (q := 124) h dX9_estimate_123 rfl rfl ?_
                refine jk_callV (q := 127) h hX (c_X2_most hA hO ⟨by omega, by omega⟩ ⟨by omega, by omega⟩) mv_X2_most (hA.at 0 rfl) dX9_estimate_124 ml_X9_168 ⟨rfl, Nat.le_refl _⟩ rfl rfl (Nat.le_of_ble_eq_true rfl) (Nat.le_of_ble_eq_true rfl) rfl rfl (Nat.le_of_ble_eq_true rfl) rfl (fun v9 n9 M9 hp9 => ?_)
                obtain ⟨rfl, rfl, rfl⟩ := hp9
                exact jk_iret h hR dX9_estimate_127 (Nat.le_of_ble_eq_true rfl) (Nat.le_of_ble_eq_true rfl) (jrd_of (by unfold estR; rw [if_pos ⟨by omega, by omega, by omega⟩, if_neg (by omega), if_pos (by omega), if_neg (by omega), if_neg (by omega), if_pos (by omega), hcol]))
              refine jk_tabOut (q := 0) (tgt := 128) h dX9_estimate_79 ⟨by omega, by omega⟩ (by omega) (by decide) ?_
              refine jk_aload_n (q := 129) h dX9_estimate_128 rfl rfl ?_
              refine jk_get (q := 132) h fg_X9_12 dX9_estimate_129 (hE.at 0 rfl) rfl rfl ?_
              refine jk_aload (q := 134) h dX9_estimate_132 rfl rfl ?_
              refine jk_iload_n (q := 135) h dX9_estimate_134 rfl rfl ?_
              refine jk_iload_n (q := 136) h dX9_estimate_135 rfl rfl ?_
              refine jk_callV (q := 139) h hX (c_X2_guess hA hO ⟨by omega, by omega⟩ ⟨by omega, by omega⟩) mv_X2_guess (hA.at 0 rfl) dX9_estimate_136 ml_X9_162 ⟨rfl, Nat.le_refl _⟩ rfl rfl (Nat.le_of_ble_eq_true rfl) (Nat.le_of_ble_eq_true rfl) rfl rfl (Nat.le_of_ble_eq_true rfl) rfl (fun v9 n9 M9 hp9 => ?_)
              obtain ⟨rfl, rfl, rfl⟩ := hp9
              refine jk_callV (q := 142) h hX (c_X7_scale ⟨hS, hT, hN, hA, hB, hP⟩ hsQ ⟨by first | exact hg0.1 | exact hg1.1, by first | exact Int.le_trans hg0.2 (by decide) | exact Int.le_trans hg1.2 (by decide)⟩) mv_X7_scale (hS.at 0 rfl) dX9_estimate_139 ml_X9_171 ⟨rfl, Nat.le_refl _⟩ rfl rfl (Nat.le_of_ble_eq_true rfl) (Nat.le_of_ble_eq_true rfl) rfl rfl (Nat.le_of_ble_eq_true rfl) rfl (fun v9 n9 M9 hp9 => ?_)
              obtain ⟨rfl, rfl, rfl⟩ := hp9
              exact jk_iret h hR dX9_estimate_142 (Nat.le_of_ble_eq_true rfl) (Nat.le_of_ble_eq_true rfl) (jrd_of (by unfold estR; rw [if_pos ⟨by omega, by omega, by omega⟩, if_neg (by omega), if_pos (by omega), if_neg (by omega), if_neg (by omega), if_neg (by omega), hcol]))
            · refine jk_callV (q := 75) h hX (c_X0_facts hN ⟨by omega, by omega⟩) mv_X0_facts (hN.at 0 rfl) dX9_estimate_72 ml_X9_96 ⟨rfl, Nat.le_refl _⟩ rfl rfl (Nat.le_of_ble_eq_true rfl) (Nat.le_of_ble_eq_true rfl) rfl rfl (Nat.le_of_ble_eq_true rfl) rfl (fun v9 n9 M9 hp9 => ?_)
              obtain ⟨rfl, rfl, rfl⟩ := hp9
              rw [if_neg hq0]
              have hO := hOB
              have hcol : colA x c = x.2.2.2.2.1 := if_neg hq0
              refine jk_astore (q := 77) h dX9_estimate_75 rfl (Nat.le_of_ble_eq_true rfl) rfl rfl ?_
              refine jk_iload (q := 79) h dX9_estimate_77 rfl rfl ?_
              refine jk_case (0) (fun c79_0 => ?_) (fun c79_0 => ?_)
              · refine jk_tabIn (q := 0) (tgt := 104) h dX9_estimate_79 ⟨by omega, by omega⟩ (by omega) (by omega) (by rw [c79_0]; try rfl) (by decide) ?_
                refine jk_aload (q := 106) h dX9_estimate_104 rfl rfl ?_
                refine jk_iload_n (q := 107) h dX9_estimate_106 rfl rfl ?_
                refine jk_iload_n (q := 108) h dX9_estimate_107 rfl rfl ?_
                refine jk_callV (q := 111) h hX (c_X2_guess hB hO ⟨by omega, by omega⟩ ⟨by omega, by omega⟩) mv_X2_guess (hB.at 0 rfl) dX9_estimate_108 ml_X9_162 ⟨rfl, Nat.le_refl _⟩ rfl rfl (Nat.le_of_ble_eq_true rfl) (Nat.le_of_ble_eq_true rfl) rfl rfl (Nat.le_of_ble_eq_true rfl) rfl (fun v9 n9 M9 hp9 => ?_)
                obtain ⟨rfl, rfl, rfl⟩ := hp9
                exact jk_iret h hR dX9_estimate_111 (Nat.le_of_ble_eq_true rfl) (Nat.le_of_ble_eq_true rfl) (jrd_of (by unfold estR; rw [if_pos ⟨by omega, by omega, by omega⟩, if_neg (by omega), if_pos (by omega), if_pos (by omega), hcol]))
              refine jk_case (1) (fun c79_1 => ?_) (fun c79_1 => ?_)
              · refine jk_tabIn (q := 0) (tgt := 112) h dX9_estimate_79 ⟨by omega, by omega⟩ (by omega) (by omega) (by rw [c79_1]; try rfl) (by decide) ?_
                refine jk_aload (q := 114) h dX9_estimate_112 rfl rfl ?_
                refine jk_iload_n (q := 115) h dX9_estimate_114 rfl rfl ?_
                refine jk_iload_n (q := 116) h dX9_estimate_115 rfl rfl ?_
                refine jk_callV (q := 119) h hX (c_X2_least hB hO ⟨by omega, by omega⟩ ⟨by omega, by omega⟩) mv_X2_least (hB.at 0 rfl) dX9_estimate_116 ml_X9_165 ⟨rfl, Nat.le_refl _⟩ rfl rfl (Nat.le_of_ble_eq_true rfl) (Nat.le_of_ble_eq_true rfl) rfl rfl (Nat.le_of_ble_eq_true rfl) rfl (fun v9 n9 M9 hp9 => ?_)
                obtain ⟨rfl, rfl, rfl⟩ := hp9
                exact jk_iret h hR dX9_estimate_119 (Nat.le_of_ble_eq_true rfl) (Nat.le_of_ble_eq_true rfl) (jrd_of (by unfold estR; rw [if_pos ⟨by omega, by omega, by omega⟩, if_neg (by omega), if_pos (by omega), if_neg (by omega), if_pos (by omega), hcol]))
              refine jk_case (2) (fun c79_2 => ?_) (fun c79_2 => ?_)
              · refine jk_tabIn (q := 0) (tgt := 120) h dX9_estimate_79 ⟨by omega, by omega⟩ (by omega) (by omega) (by rw [c79_2]; try rfl) (by decide) ?_
                refine jk_aload (q := 122) h dX9_estimate_120 rfl rfl ?_
                refine jk_iload_n (q := 123) h dX9_estimate_122 rfl rfl ?_
                refine jk_iload_n (q := 124) h dX9_estimate_123 rfl rfl ?_
                refine jk_callV (q := 127) h hX (c_X2_most hB hO ⟨by omega, by omega⟩ ⟨by omega, by omega⟩) mv_X2_most (hB.at 0 rfl) dX9_estimate_124 ml_X9_168 ⟨rfl, Nat.le_refl _⟩ rfl rfl (Nat.le_of_ble_eq_true rfl) (Nat.le_of_ble_eq_true rfl) rfl rfl (Nat.le_of_ble_eq_true rfl) rfl (fun v9 n9 M9 hp9 => ?_)
                obtain ⟨rfl, rfl, rfl⟩ := hp9
                exact jk_iret h hR dX9_estimate_127 (Nat.le_of_ble_eq_true rfl) (Nat.le_of_ble_eq_true rfl) (jrd_of (by unfold estR; rw [if_pos ⟨by omega, by omega, by omega⟩, if_neg (by omega), if_pos (by omega), if_neg (by omega), if_neg (by omega), if_pos (by omega), hcol]))
              refine jk_tabOut (q := 0) (tgt := 128) h dX9_estimate_79 ⟨by omega, by omega⟩ (by omega) (by decide) ?_
              refine jk_aload_n (q := 129) h dX9_estimate_128 rfl rfl ?_
              refine jk_get (q := 132) h fg_X9_12 dX9_estimate_129 (hE.at 0 rfl) rfl rfl ?_
              refine jk_aload (q := 134) h dX9_estimate_132 rfl rfl ?_
              refine jk_iload_n (q := 135) h dX9_estimate_134 rfl rfl ?_
              refine jk_iload_n (q := 136) h dX9_estimate_135 rfl rfl ?_
              refine jk_callV (q := 139) h hX (c_X2_guess hB hO ⟨by omega, by omega⟩ ⟨by omega, by omega⟩) mv_X2_guess (hB.at 0 rfl) dX9_estimate_136 ml_X9_162 ⟨rfl, Nat.le_refl _⟩ rfl rfl (Nat.le_of_ble_eq_true rfl) (Nat.le_of_ble_eq_true rfl) rfl rfl (Nat.le_of_ble_eq_true rfl) rfl (fun v9 n9 M9 hp9 => ?_)
              obtain ⟨rfl, rfl, rfl⟩ := hp9
              refine jk_callV (q := 142) h hX (c_X7_scale ⟨hS, hT, hN, hA, hB, hP⟩ hsQ ⟨by first | exact hg0.1 | exact hg1.1, by first | exact Int.le_trans hg0.2 (by decide) | exact Int.le_trans hg1.2 (by decide)⟩) mv_X7_scale (hS.at 0 rfl) dX9_estimate_139 ml_X9_171 ⟨rfl, Nat.le_refl _⟩ rfl rfl (Nat.le_of_ble_eq_true rfl) (Nat.le_of_ble_eq_true rfl) rfl rfl (Nat.le_of_ble_eq_true rfl) rfl (fun v9 n9 M9 hp9 => ?_)
              obtain ⟨rfl, rfl, rfl⟩ := hp9
              exact jk_iret h hR dX9_estimate_142 (Nat.le_of_ble_eq_true rfl) (Nat.le_of_ble_eq_true rfl) (jrd_of (by unfold estR; rw [if_pos ⟨by omega, by omega, by omega⟩, if_neg (by omega), if_pos (by omega), if_neg (by omega), if_neg (by omega), if_neg (by omega), hcol]))
          · refine jk_bipush (q := 63) h dX9_estimate_61 (by decide) rfl ?_
            exact jk_iret h hR dX9_estimate_63 (Nat.le_of_ble_eq_true rfl) (Nat.le_of_ble_eq_true rfl) (jrd_of (by unfold estR; rw [if_pos ⟨by omega, by omega, by omega⟩, if_neg (by omega), if_neg (by omega)]))
        · refine jk_aload_n (q := 35) h dX9_estimate_34 rfl rfl ?_
          refine jk_get (q := 38) h fg_X9_12 dX9_estimate_35 (hE.at 0 rfl) rfl rfl ?_
          refine jk_getN (q := 41) h fg_X9_72 dX9_estimate_38 (hS.at 0 rfl) rfl rfl ?_
          refine jk_iload_n (q := 42) h dX9_estimate_41 rfl rfl ?_
          refine jk_iload_n (q := 43) h dX9_estimate_42 rfl rfl ?_
          refine jk_iload_n (q := 44) h dX9_estimate_43 rfl rfl ?_
          refine jk_callV (q := 47) h hX (c_X8_rowsInside hT ⟨by omega, by omega⟩ hya hyb ⟨by omega, by omega⟩ ⟨by omega, by omega⟩ ⟨by omega, by omega⟩) mv_X8_rowsInside (hT.at 0 rfl) dX9_estimate_44 ml_X9_158 ⟨rfl, Nat.le_refl _⟩ rfl rfl (Nat.le_of_ble_eq_true rfl) (Nat.le_of_ble_eq_true rfl) rfl rfl (Nat.le_of_ble_eq_true rfl) rfl (fun v9 n9 M9 hp9 => ?_)
          obtain ⟨rfl, rfl, rfl⟩ := hp9
          exact jk_iret h hR dX9_estimate_47 (Nat.le_of_ble_eq_true rfl) (Nat.le_of_ble_eq_true rfl) (jrd_of (by unfold estR; rw [if_pos ⟨by omega, by omega, by omega⟩, if_pos (by omega)]))
      · refine jk_bipush (q := 27) h dX9_estimate_25 (by decide) rfl ?_
        exact jk_iret h hR dX9_estimate_27 (Nat.le_of_ble_eq_true rfl) (Nat.le_of_ble_eq_true rfl) (jrd_of (by unfold estR; rw [if_neg (by omega)]))

set_option maxHeartbeats 4000000 in
set_option maxRecDepth 100000 in
theorem c_X9_both {l : Launch} {D : va_G} {b0 : Nat} {n : Nat} {M : jM} {e lo : Nat} {x : TS} {hl : Int} {hk : Nat → TS} {sl : Nat → Option TS} {sg : Nat → Int} {len : Int} (hW : ehP M n e lo x hl hk sl sg len none) {la : Int} {ha : Int} {lb : Int} {hb : Int} {w : Int} (h_la : jRng la) (h_ha : jRng ha) (h_lb : jRng lb) (h_hb : jRng hb) (h_w : jRng w) : jCtr l D b0 yX9_both cX9_both 7 (some .int) 4 0 0 [.ref e, jI la, jI ha, jI lb, jI hb, jI w] n M (jrd n M (botR x la ha lb hb w)) := by
  refine jctr (lv := [some (.ref e), some (jI la), some (jI ha), some (jI lb), some (jI hb), some (jI w), none]) RX9 "both" rfl rfl (by decide) (Nat.le_of_ble_eq_true rfl) rfl ?_
  intro X h hR hX
  obtain ⟨g, gs, nx, at9, kd, fi, se, ti, tr, L, f, hE, hNw, hL, hH, hD, hR9, hC, hdy, hrs, hsQ, hpQ, hcQ, hnx, hhl, hlo1, hlo2⟩ := id hW
  obtain ⟨hS, hT, hN, hA, hB, hP⟩ := hNw
  obtain ⟨hse, htb, hr, hch, hOA, hOB, hOP⟩ := id hsQ
  obtain ⟨hya, hyb, hys⟩ := id htb
  have hgb := gbT_bd (rows := x.2.2.1.1) (la := la) (ha := ha) (lb := lb) (hb := hb) hOA hOB hOP
  refine jk_iload_n (q := 1) h dX9_both_0 rfl rfl ?_
  refine jk_iload_n (q := 2) h dX9_both_1 rfl rfl ?_
  refine jk_callS (q := 5) h hX (c_X9_areBounds ⟨by omega, by omega⟩ ⟨by omega, by omega⟩) ms_X9_areBounds dX9_both_2 ml_X9_154 ⟨rfl, Nat.le_refl _⟩ rfl rfl (Nat.le_of_ble_eq_true rfl) (Nat.le_of_ble_eq_true rfl) rfl rfl (Nat.le_of_ble_eq_true rfl) rfl (fun v9 n9 M9 hp9 => ?_)
  obtain ⟨rfl, rfl, rfl⟩ := hp9
  refine jk_if_eqB (q := 8) (tgt := 27) h dX9_both_5 (by decide) rfl (fun c5 => ?_) (fun c5 => ?_)
  · refine jk_bipush (q := 29) h dX9_both_27 (by decide) rfl ?_
    exact jk_iret h hR dX9_both_29 (Nat.le_of_ble_eq_true rfl) (Nat.le_of_ble_eq_true rfl) (jrd_of (by unfold botR; rw [if_neg (by omega)]))
  · refine jk_iload_n (q := 9) h dX9_both_8 rfl rfl ?_
    refine jk_iload (q := 11) h dX9_both_9 rfl rfl ?_
    refine jk_callS (q := 14) h hX (c_X9_areBounds ⟨by omega, by omega⟩ ⟨by omega, by omega⟩) ms_X9_areBounds dX9_both_11 ml_X9_154 ⟨rfl, Nat.le_refl _⟩ rfl rfl (Nat.le_of_ble_eq_true rfl) (Nat.le_of_ble_eq_true rfl) rfl rfl (Nat.le_of_ble_eq_true rfl) rfl (fun v9 n9 M9 hp9 => ?_)
    obtain ⟨rfl, rfl, rfl⟩ := hp9
    refine jk_if_eqB (q := 17) (tgt := 27) h dX9_both_14 (by decide) rfl (fun c14 => ?_) (fun c14 => ?_)
    · refine jk_bipush (q := 29) h dX9_both_27 (by decide) rfl ?_
      exact jk_iret h hR dX9_both_29 (Nat.le_of_ble_eq_true rfl) (Nat.le_of_ble_eq_true rfl) (jrd_of (by unfold botR; rw [if_neg (by omega)]))
    · refine jk_iload (q := 19) h dX9_both_17 rfl rfl ?_
      refine jk_iconst (q := 20) h dX9_both_19 rfl ?_
      refine jk_iconst (q := 21) h dX9_both_20 rfl ?_
      refine jk_callS (q := 24) h hX (c_X9_isBetween ⟨by omega, by omega⟩ ⟨by omega, by omega⟩ ⟨by omega, by omega⟩) ms_X9_isBetween dX9_both_21 ml_X9_88 ⟨rfl, Nat.le_refl _⟩ rfl rfl (Nat.le_of_ble_eq_true rfl) (Nat.le_of_ble_eq_true rfl) rfl rfl (Nat.le_of_ble_eq_true rfl) rfl (fun v9 n9 M9 hp9 => ?_)
      obtain ⟨rfl, rfl, rfl⟩ := hp9
      refine jk_if_neB (q := 27) (tgt := 30) h dX9_both_24 (by decide) rfl (fun c24 => ?_) (fun c24 => ?_)
      · refine jk_iload (q := 32) h dX9_both_30 rfl rfl ?_
        refine jk_iconst (q := 33) h dX9_both_32 rfl ?_
        refine jk_icmp_ne (q := 36) (tgt := 52) h dX9_both_33 (by decide) rfl ⟨by omega, by omega⟩ ⟨by omega, by omega⟩ (fun c33 => ?_) (fun c33 => ?_)
        · refine jk_aload_n (q := 53) h dX9_both_52 rfl rfl ?_
          refine jk_get (q := 56) h fg_X9_12 dX9_both_53 (hE.at 0 rfl) rfl rfl ?_
          refine jk_getN (q := 59) h fg_X9_92 dX9_both_56 (hS.at 0 rfl) rfl rfl ?_
          refine jk_callV (q := 62) h hX (c_X0_isMade hN hr hch) mv_X0_isMade (hN.at 0 rfl) dX9_both_59 ml_X9_147 ⟨rfl, Nat.le_refl _⟩ rfl rfl (Nat.le_of_ble_eq_true rfl) (Nat.le_of_ble_eq_true rfl) rfl rfl (Nat.le_of_ble_eq_true rfl) rfl (fun v9 n9 M9 hp9 => ?_)
          obtain ⟨rfl, rfl, rfl⟩ := hp9
          refine jk_if_neB (q := 65) (tgt := 68) h dX9_both_62 (by decide) rfl (fun c62 => ?_) (fun c62 => ?_)
          · refine jk_aload_n (q := 69) h dX9_both_68 rfl rfl ?_
            refine jk_get (q := 72) h fg_X9_12 dX9_both_69 (hE.at 0 rfl) rfl rfl ?_
            refine jk_getN (q := 75) h fg_X9_92 dX9_both_72 (hS.at 0 rfl) rfl rfl ?_
            refine jk_iload_n (q := 76) h dX9_both_75 rfl rfl ?_
            refine jk_iload_n (q := 77) h dX9_both_76 rfl rfl ?_
            refine jk_iload_n (q := 78) h dX9_both_77 rfl rfl ?_
            refine jk_iload (q := 80) h dX9_both_78 rfl rfl ?_
            refine jk_callV (q := 83) h hX (c_X0_guessBoth hN hA hB hP hr hOA hOB hOP ⟨by omega, by omega⟩ ⟨by omega, by omega⟩ ⟨by omega, by omega⟩ ⟨by omega, by omega⟩) mv_X0_guessBoth (hN.at 0 rfl) dX9_both_80 ml_X9_178 ⟨rfl, Nat.le_refl _⟩ rfl rfl (Nat.le_of_ble_eq_true rfl) (Nat.le_of_ble_eq_true rfl) rfl rfl (Nat.le_of_ble_eq_true rfl) rfl (fun v9 n9 M9 hp9 => ?_)
            obtain ⟨rfl, rfl, rfl⟩ := hp9
            refine jk_istore (q := 85) h dX9_both_83 rfl (Nat.le_of_ble_eq_true rfl) rfl rfl ?_
            refine jk_iload (q := 87) h dX9_both_85 rfl rfl ?_
            refine jk_if_ne (q := 90) (tgt := 95) h dX9_both_87 (by decide) rfl ⟨by omega, by omega⟩ (fun c87 => ?_) (fun c87 => ?_)
            · refine jk_aload_n (q := 96) h dX9_both_95 rfl rfl ?_
              refine jk_get (q := 99) h fg_X9_12 dX9_both_96 (hE.at 0 rfl) rfl rfl ?_
              refine jk_iload (q := 101) h dX9_both_99 rfl rfl ?_
              refine jk_callV (q := 104) h hX (c_X7_scale ⟨hS, hT, hN, hA, hB, hP⟩ hsQ hgb) mv_X7_scale (hS.at 0 rfl) dX9_both_101 ml_X9_171 ⟨rfl, Nat.le_refl _⟩ rfl rfl (Nat.le_of_ble_eq_true rfl) (Nat.le_of_ble_eq_true rfl) rfl rfl (Nat.le_of_ble_eq_true rfl) rfl (fun v9 n9 M9 hp9 => ?_)
              obtain ⟨rfl, rfl, rfl⟩ := hp9
              exact jk_iret h hR dX9_both_104 (Nat.le_of_ble_eq_true rfl) (Nat.le_of_ble_eq_true rfl) (jrd_of (by unfold botR; first | rw [if_pos ⟨by omega, by omega, by omega⟩, if_neg (by omega), if_pos (by omega), if_pos (by omega)] | rw [if_pos ⟨by omega, by omega, by omega⟩, if_neg (by omega), if_pos (by omega), if_neg (by omega)]))
            · refine jk_iload (q := 92) h dX9_both_90 rfl rfl ?_
              refine jk_goto (q := 95) (tgt := 104) h dX9_both_92 (by decide) ?_
              exact jk_iret h hR dX9_both_104 (Nat.le_of_ble_eq_true rfl) (Nat.le_of_ble_eq_true rfl) (jrd_of (by unfold botR; first | rw [if_pos ⟨by omega, by omega, by omega⟩, if_neg (by omega), if_pos (by omega), if_pos (by omega)] | rw [if_pos ⟨by omega, by omega, by omega⟩, if_neg (by omega), if_pos (by omega), if_neg (by omega)]))
          · refine jk_bipush (q := 67) h dX9_both_65 (by decide) rfl ?_
            exact jk_iret h hR dX9_both_67 (Nat.le_of_ble_eq_true rfl) (Nat.le_of_ble_eq_true rfl) (jrd_of (by unfold botR; rw [if_pos ⟨by omega, by omega, by omega⟩, if_neg (by omega), if_neg (by omega)]))
        · refine jk_aload_n (q := 37) h dX9_both_36 rfl rfl ?_
          refine jk_get (q := 40) h fg_X9_12 dX9_both_37 (hE.at 0 rfl) rfl rfl ?_
          refine jk_getN (q := 43) h fg_X9_72 dX9_both_40 (hS.at 0 rfl) rfl rfl ?_
          refine jk_iload_n (q := 44) h dX9_both_43 rfl rfl ?_
          refine jk_iload_n (q := 45) h dX9_both_44 rfl rfl ?_
          refine jk_iload_n (q := 46) h dX9_both_45 rfl rfl ?_
          refine jk_iload (q := 48) h dX9_both_46 rfl rfl ?_
          refine jk_callV (q := 51) h hX (c_X8_rowsInsideBoth hT ⟨by omega, by omega⟩ hya hyb ⟨by omega, by omega⟩ ⟨by omega, by omega⟩ ⟨by omega, by omega⟩ ⟨by omega, by omega⟩) mv_X8_rowsInsideBoth (hT.at 0 rfl) dX9_both_48 ml_X9_174 ⟨rfl, Nat.le_refl _⟩ rfl rfl (Nat.le_of_ble_eq_true rfl) (Nat.le_of_ble_eq_true rfl) rfl rfl (Nat.le_of_ble_eq_true rfl) rfl (fun v9 n9 M9 hp9 => ?_)
          obtain ⟨rfl, rfl, rfl⟩ := hp9
          exact jk_iret h hR dX9_both_51 (Nat.le_of_ble_eq_true rfl) (Nat.le_of_ble_eq_true rfl) (jrd_of (by unfold botR; rw [if_pos ⟨by omega, by omega, by omega⟩, if_pos (by omega)]))
      · refine jk_bipush (q := 29) h dX9_both_27 (by decide) rfl ?_
        exact jk_iret h hR dX9_both_29 (Nat.le_of_ble_eq_true rfl) (Nat.le_of_ble_eq_true rfl) (jrd_of (by unfold botR; rw [if_neg (by omega)]))

set_option maxHeartbeats 4000000 in
set_option maxRecDepth 100000 in
theorem c_X9_worst {l : Launch} {D : va_G} {b0 : Nat} {n : Nat} {M : jM} {e lo : Nat} {x : TS} {hl : Int} {hk : Nat → TS} {sl : Nat → Option TS} {sg : Nat → Int} {len : Int} (hW : ehP M n e lo x hl hk sl sg len none) {c : Int} {w : Int} (h_c : jRng c) (h_w : jRng w) : jCtr l D b0 yX9_worst cX9_worst 5 (some .int) 5 0 0 [.ref e, jI c, jI w] n M (jrd n M (wrsR x c w)) := by
  refine jctr (lv := [some (.ref e), some (jI c), some (jI w), none, none]) RX9 "worst" rfl rfl (by decide) (Nat.le_of_ble_eq_true rfl) rfl ?_
  intro X h hR hX
  obtain ⟨g, gs, nx, at9, kd, fi, se, ti, tr, L, f, hE, hNw, hL, hH, hD, hR9, hC, hdy, hrs, hsQ, hpQ, hcQ, hnx, hhl, hlo1, hlo2⟩ := id hW
  obtain ⟨hS, hT, hN, hA, hB, hP⟩ := hNw
  obtain ⟨hse, htb, hr, hch, hOA, hOB, hOP⟩ := id hsQ
  obtain ⟨hya, hyb, hys⟩ := id htb
  have hwa := wvI_bd1 (miT x.2.2.2.1)
  have hwb := wvI_bd1 (miT x.2.2.2.2.1)
  refine jk_iload_n (q := 1) h dX9_worst_0 rfl rfl ?_
  refine jk_callS (q := 4) h hX (c_X9_isColumn ⟨by omega, by omega⟩) ms_X9_isColumn dX9_worst_1 ml_X9_82 ⟨rfl, Nat.le_refl _⟩ rfl rfl (Nat.le_of_ble_eq_true rfl) (Nat.le_of_ble_eq_true rfl) rfl rfl (Nat.le_of_ble_eq_true rfl) rfl (fun v9 n9 M9 hp9 => ?_)
  obtain ⟨rfl, rfl, rfl⟩ := hp9
  refine jk_if_eqB (q := 7) (tgt := 16) h dX9_worst_4 (by decide) rfl (fun c4 => ?_) (fun c4 => ?_)
  · refine jk_bipush (q := 18) h dX9_worst_16 (by decide) rfl ?_
    exact jk_iret h hR dX9_worst_18 (Nat.le_of_ble_eq_true rfl) (Nat.le_of_ble_eq_true rfl) (jrd_of (by unfold wrsR; rw [if_neg (by omega)]))
  · refine jk_iload_n (q := 8) h dX9_worst_7 rfl rfl ?_
    refine jk_iconst (q := 9) h dX9_worst_8 rfl ?_
    refine jk_iconst (q := 10) h dX9_worst_9 rfl ?_
    refine jk_callS (q := 13) h hX (c_X9_isBetween ⟨by omega, by omega⟩ ⟨by omega, by omega⟩ ⟨by omega, by omega⟩) ms_X9_isBetween dX9_worst_10 ml_X9_88 ⟨rfl, Nat.le_refl _⟩ rfl rfl (Nat.le_of_ble_eq_true rfl) (Nat.le_of_ble_eq_true rfl) rfl rfl (Nat.le_of_ble_eq_true rfl) rfl (fun v9 n9 M9 hp9 => ?_)
    obtain ⟨rfl, rfl, rfl⟩ := hp9
    refine jk_if_neB (q := 16) (tgt := 19) h dX9_worst_13 (by decide) rfl (fun c13 => ?_) (fun c13 => ?_)
    · refine jk_aload_n (q := 20) h dX9_worst_19 rfl rfl ?_
      refine jk_get (q := 23) h fg_X9_12 dX9_worst_20 (hE.at 0 rfl) rfl rfl ?_
      refine jk_getN (q := 26) h fg_X9_92 dX9_worst_23 (hS.at 0 rfl) rfl rfl ?_
      refine jk_callV (q := 29) h hX (c_X0_isMade hN hr hch) mv_X0_isMade (hN.at 0 rfl) dX9_worst_26 ml_X9_147 ⟨rfl, Nat.le_refl _⟩ rfl rfl (Nat.le_of_ble_eq_true rfl) (Nat.le_of_ble_eq_true rfl) rfl rfl (Nat.le_of_ble_eq_true rfl) rfl (fun v9 n9 M9 hp9 => ?_)
      obtain ⟨rfl, rfl, rfl⟩ := hp9
      refine jk_if_neB (q := 32) (tgt := 35) h dX9_worst_29 (by decide) rfl (fun c29 => ?_) (fun c29 => ?_)
      · refine jk_aload_n (q := 36) h dX9_worst_35 rfl rfl ?_
        refine jk_get (q := 39) h fg_X9_12 dX9_worst_36 (hE.at 0 rfl) rfl rfl ?_
        refine jk_getN (q := 42) h fg_X9_92 dX9_worst_39 (hS.at 0 rfl) rfl rfl ?_
        refine jk_iload_n (q := 43) h dX9_worst_42 rfl rfl ?_
        rcases Decidable.em (c = 0) with hq0 | hq0
        · refine jk_callV (q := 46) h hX (c_X0_facts hN ⟨by omega, by omega⟩) mv_X0_facts (hN.at 0 rfl) dX9_worst_43 ml_X9_96 ⟨rfl, Nat.le_refl _⟩ rfl rfl (Nat.le_of_ble_eq_true rfl) (Nat.le_of_ble_eq_true rfl) rfl rfl (Nat.le_of_ble_eq_true rfl) rfl (fun v9 n9 M9 hp9 => ?_)
          obtain ⟨rfl, rfl, rfl⟩ := hp9
          rw [if_pos hq0]
          have hO := hOA
          have hwv := hwa
          have hcol : colA x c = x.2.2.2.1 := if_pos hq0
          refine jk_astore_n (q := 47) h dX9_worst_46 rfl (Nat.le_of_ble_eq_true rfl) rfl rfl ?_
          refine jk_aload_n (q := 48) h dX9_worst_47 rfl rfl ?_
          refine jk_callV (q := 51) h hX (c_X2_worstValue hA hO) mv_X2_worstValue (hA.at 0 rfl) dX9_worst_48 ml_X9_196 ⟨rfl, Nat.le_refl _⟩ rfl rfl (Nat.le_of_ble_eq_true rfl) (Nat.le_of_ble_eq_true rfl) rfl rfl (Nat.le_of_ble_eq_true rfl) rfl (fun v9 n9 M9 hp9 => ?_)
          obtain ⟨rfl, rfl, rfl⟩ := hp9
          refine jk_istore (q := 53) h dX9_worst_51 rfl (Nat.le_of_ble_eq_true rfl) rfl rfl ?_
          refine jk_iload_n (q := 54) h dX9_worst_53 rfl rfl ?_
          refine jk_if_ne (q := 57) (tgt := 62) h dX9_worst_54 (by decide) rfl ⟨by omega, by omega⟩ (fun c54 => ?_) (fun c54 => ?_)
          · refine jk_aload_n (q := 63) h dX9_worst_62 rfl rfl ?_
            refine jk_iload (q := 65) h dX9_worst_63 rfl rfl ?_
            refine jk_callV (q := 68) h hX (c_X2_miss hA hO hwv) mv_X2_miss (hA.at 0 rfl) dX9_worst_65 ml_X9_199 ⟨rfl, Nat.le_refl _⟩ rfl rfl (Nat.le_of_ble_eq_true rfl) (Nat.le_of_ble_eq_true rfl) rfl rfl (Nat.le_of_ble_eq_true rfl) rfl (fun v9 n9 M9 hp9 => ?_)
            obtain ⟨rfl, rfl, rfl⟩ := hp9
            exact jk_iret h hR dX9_worst_68 (Nat.le_of_ble_eq_true rfl) (Nat.le_of_ble_eq_true rfl) (jrd_of (by unfold wrsR; first | rw [if_pos ⟨by omega, by omega⟩, if_pos (by omega), if_pos (by omega), hcol] | rw [if_pos ⟨by omega, by omega⟩, if_pos (by omega), if_neg (by omega), hcol]))
          · refine jk_iload (q := 59) h dX9_worst_57 rfl rfl ?_
            refine jk_goto (q := 62) (tgt := 68) h dX9_worst_59 (by decide) ?_
            exact jk_iret h hR dX9_worst_68 (Nat.le_of_ble_eq_true rfl) (Nat.le_of_ble_eq_true rfl) (jrd_of (by unfold wrsR; first | rw [if_pos ⟨by omega, by omega⟩, if_pos (by omega), if_pos (by omega), hcol] | rw [if_pos ⟨by omega, by omega⟩, if_pos (by omega), if_neg (by omega), hcol]))
        · refine jk_callV (q := 46) h hX (c_X0_facts hN ⟨by omega, by omega⟩) mv_X0_facts (hN.at 0 rfl) dX9_worst_43 ml_X9_96 ⟨rfl, Nat.le_refl _⟩ rfl rfl (Nat.le_of_ble_eq_true rfl) (Nat.le_of_ble_eq_true rfl) rfl rfl (Nat.le_of_ble_eq_true rfl) rfl (fun v9 n9 M9 hp9 => ?_)
          obtain ⟨rfl, rfl, rfl⟩ := hp9
          rw [if_neg hq0]
          have hO := hOB
          have hwv := hwb
          have hcol : colA x c = x.2.2.2.2.1 := if_neg hq0
          refine jk_astore_n (q := 47) h dX9_worst_46 rfl (Nat.le_of_ble_eq_true rfl) rfl rfl ?_
          refine jk_aload_n (q := 48) h dX9_worst_47 rfl rfl ?_
          refine jk_callV (q := 51) h hX (c_X2_worstValue hB hO) mv_X2_worstValue (hB.at 0 rfl) dX9_worst_48 ml_X9_196 ⟨rfl, Nat.le_refl _⟩ rfl rfl (Nat.le_of_ble_eq_true rfl) (Nat.le_of_ble_eq_true rfl) rfl rfl (Nat.le_of_ble_eq_true rfl) rfl (fun v9 n9 M9 hp9 => ?_)
          obtain ⟨rfl, rfl, rfl⟩ := hp9
          refine jk_istore (q := 53) h dX9_worst_51 rfl (Nat.le_of_ble_eq_true rfl) rfl rfl ?_
          refine jk_iload_n (q := 54) h dX9_worst_53 rfl rfl ?_
          refine jk_if_ne (q := 57) (tgt := 62) h dX9_worst_54 (by decide) rfl ⟨by omega, by omega⟩ (fun c54 => ?_) (fun c54 => ?_)
          · refine jk_aload_n (q := 63) h dX9_worst_62 rfl rfl ?_
            refine jk_iload (q := 65) h dX9_worst_63 rfl rfl ?_
            refine jk_callV (q := 68) h hX (c_X2_miss hB hO hwv) mv_X2_miss (hB.at 0 rfl) dX9_worst_65 ml_X9_199 ⟨rfl, Nat.le_refl _⟩ rfl rfl (Nat.le_of_ble_eq_true rfl) (Nat.le_of_ble_eq_true rfl) rfl rfl (Nat.le_of_ble_eq_true rfl) rfl (fun v9 n9 M9 hp9 => ?_)
            obtain ⟨rfl, rfl, rfl⟩ := hp9
            exact jk_iret h hR dX9_worst_68 (Nat.le_of_ble_eq_true rfl) (Nat.le_of_ble_eq_true rfl) (jrd_of (by unfold wrsR; first | rw [if_pos ⟨by omega, by omega⟩, if_pos (by omega), if_pos (by omega), hcol] | rw [if_pos ⟨by omega, by omega⟩, if_pos (by omega), if_neg (by omega), hcol]))
          · refine jk_iload (q := 59) h dX9_worst_57 rfl rfl ?_
            refine jk_goto (q := 62) (tgt := 68) h dX9_worst_59 (by decide) ?_
            exact jk_iret h hR dX9_worst_68 (Nat.le_of_ble_eq_true rfl) (Nat.le_of_ble_eq_true rfl) (jrd_of (by unfold wrsR; first | rw [if_pos ⟨by omega, by omega⟩, if_pos (by omega), if_pos (by omega), hcol] | rw [if_pos ⟨by omega, by omega⟩, if_pos (by omega), if_neg (by omega), hcol]))
      · refine jk_bipush (q := 34) h dX9_worst_32 (by decide) rfl ?_
        exact jk_iret h hR dX9_worst_34 (Nat.le_of_ble_eq_true rfl) (Nat.le_of_ble_eq_true rfl) (jrd_of (by unfold wrsR; rw [if_pos ⟨by omega, by omega⟩, if_neg (by omega)]))
    · refine jk_bipush (q := 18) h dX9_worst_16 (by decide) rfl ?_
      exact jk_iret h hR dX9_worst_18 (Nat.le_of_ble_eq_true rfl) (Nat.le_of_ble_eq_true rfl) (jrd_of (by unfold wrsR; rw [if_neg (by omega)]))
