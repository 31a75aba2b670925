set_option maxHeartbeats 4000000 in
set_option maxRecDepth 100000 in
theorem c_X9_isBetween {l : Launch} {D : va_G} {b0 : Nat} {n : Nat} {M : jM} {a b c : Int} (ha : jRng a) (hb : jRng b) (hc : jRng c) : jCtr l D b0 yX9_isBetween cX9_isBetween 3 (some .boolean) 0 0 0 [jI a, jI b, jI c] n M (jrd n M (if b ≤ a ∧ a ≤ c then 1 else 0)) := by
  refine jctr (lv := [some (jI a), some (jI b), some (jI c)]) RX9 "isBetween" rfl rfl (by decide) (Nat.le_of_ble_eq_true rfl) rfl ?_
  intro X h hR hX
  have ha := id ha
  have hb := id hb
  have hc := id hc
  refine jk_iload_n (q := 1) h dX9_isBetween_0 rfl rfl ?_
  refine jk_iload_n (q := 2) h dX9_isBetween_1 rfl rfl ?_
  refine jk_icmp_gt (q := 5) (tgt := 14) h dX9_isBetween_2 (by decide) rfl ⟨by omega, by omega⟩ ⟨by omega, by omega⟩ (fun c2 => ?_) (fun c2 => ?_)
  · refine jk_iconst (q := 15) h dX9_isBetween_14 rfl ?_
    exact jk_zret h hR dX9_isBetween_15 (Nat.le_of_ble_eq_true rfl) (Nat.le_of_ble_eq_true rfl) (by first | exact Or.inl rfl | exact Or.inr rfl | omega) (jrd_of (by first | rfl | exact (if_pos (by omega)).symm | exact if_pos (by omega) | exact if_neg (by omega)))
  · refine jk_iload_n (q := 6) h dX9_isBetween_5 rfl rfl ?_
    refine jk_iload_n (q := 7) h dX9_isBetween_6 rfl rfl ?_
    refine jk_icmp_gt (q := 10) (tgt := 14) h dX9_isBetween_7 (by decide) rfl ⟨by omega, by omega⟩ ⟨by omega, by omega⟩ (fun c7 => ?_) (fun c7 => ?_)
    · refine jk_iconst (q := 15) h dX9_isBetween_14 rfl ?_
      exact jk_zret h hR dX9_isBetween_15 (Nat.le_of_ble_eq_true rfl) (Nat.le_of_ble_eq_true rfl) (by first | exact Or.inl rfl | exact Or.inr rfl | omega) (jrd_of (by first | rfl | exact (if_pos (by omega)).symm | exact if_pos (by omega) | exact if_neg (by omega)))
    · refine jk_iconst (q := 11) h dX9_isBetween_10 rfl ?_
      refine jk_goto (q := 14) (tgt := 15) h dX9_isBetween_11 (by decide) ?_
      exact jk_zret h hR dX9_isBetween_15 (Nat.le_of_ble_eq_true rfl) (Nat.le_of_ble_eq_true rfl) (by first | exact Or.inl rfl | exact Or.inr rfl | omega) (jrd_of (by first | rfl | exact (if_pos (by omega)).symm | exact if_pos (by omega) | exact if_neg (by omega)))

set_option maxHeartbeats 4000000 in
set_option maxRecDepth 100000 in
theorem c_X9_isColumn {l : Launch} {D : va_G} {b0 : Nat} {n : Nat} {M : jM} {a : Int} (ha : jRng a) : jCtr l D b0 yX9_isColumn cX9_isColumn 1 (some .boolean) 0 0 0 [jI a] n M (jrd n M (if a = 0 ∨ a = 1 then 1 else 0)) := by
  refine jctr (lv := [some (jI a)]) RX9 "isColumn" rfl rfl (by decide) (Nat.le_of_ble_eq_true rfl) rfl ?_
  intro X h hR hX
  refine jk_iload_n (q := 1) h dX9_isColumn_0 rfl rfl ?_
  refine jk_if_eq (q := 4) (tgt := 9) h dX9_isColumn_1 (by decide) rfl ⟨by omega, by omega⟩ (fun c1 => ?_) (fun c1 => ?_)
  · refine jk_iconst (q := 10) h dX9_isColumn_9 rfl ?_
    refine jk_goto (q := 13) (tgt := 14) h dX9_isColumn_10 (by decide) ?_
    exact jk_zret h hR dX9_isColumn_14 (Nat.le_of_ble_eq_true rfl) (Nat.le_of_ble_eq_true rfl) (by first | exact Or.inl rfl | exact Or.inr rfl | omega) (jrd_of (by first | rfl | exact (if_pos (by omega)).symm | exact if_pos (by omega) | exact if_neg (by omega)))
  · refine jk_iload_n (q := 5) h dX9_isColumn_4 rfl rfl ?_
    refine jk_iconst (q := 6) h dX9_isColumn_5 rfl ?_
    refine jk_icmp_ne (q := 9) (tgt := 13) h dX9_isColumn_6 (by decide) rfl ⟨by omega, by omega⟩ ⟨by omega, by omega⟩ (fun c6 => ?_) (fun c6 => ?_)
    · refine jk_iconst (q := 14) h dX9_isColumn_13 rfl ?_
      exact jk_zret h hR dX9_isColumn_14 (Nat.le_of_ble_eq_true rfl) (Nat.le_of_ble_eq_true rfl) (by first | exact Or.inl rfl | exact Or.inr rfl | omega) (jrd_of (by first | rfl | exact (if_pos (by omega)).symm | exact if_pos (by omega) | exact if_neg (by omega)))
    · refine jk_iconst (q := 10) h dX9_isColumn_9 rfl ?_
      refine jk_goto (q := 13) (tgt := 14) h dX9_isColumn_10 (by decide) ?_
      exact jk_zret h hR dX9_isColumn_14 (Nat.le_of_ble_eq_true rfl) (Nat.le_of_ble_eq_true rfl) (by first | exact Or.inl rfl | exact Or.inr rfl | omega) (jrd_of (by first | rfl | exact (if_pos (by omega)).symm | exact if_pos (by omega) | exact if_neg (by omega)))

set_option maxHeartbeats 4000000 in
set_option maxRecDepth 100000 in
theorem c_X9_isValue {l : Launch} {D : va_G} {b0 : Nat} {n : Nat} {M : jM} {a : Int} (ha : jRng a) : jCtr l D b0 yX9_isValue cX9_isValue 1 (some .boolean) 1 0 0 [jI a] n M (jrd n M (if 0 ≤ a ∧ a ≤ 99 then 1 else 0)) := by
  refine jctr (lv := [some (jI a)]) RX9 "isValue" rfl rfl (by decide) (Nat.le_of_ble_eq_true rfl) rfl ?_
  intro X h hR hX
  refine jk_iload_n (q := 1) h dX9_isValue_0 rfl rfl ?_
  refine jk_iconst (q := 2) h dX9_isValue_1 rfl ?_
  refine jk_bipush (q := 4) h dX9_isValue_2 (by decide) rfl ?_
  refine jk_callS (q := 7) h hX (c_X9_isBetween ⟨by omega, by omega⟩ ⟨by omega, by omega⟩ ⟨by omega, by omega⟩) ms_X9_isBetween dX9_isValue_4 ml_X9_88 ⟨rfl, Nat.le_refl _⟩ rfl rfl (Nat.le_of_ble_eq_true rfl) (Nat.le_of_ble_eq_true rfl) rfl rfl (Nat.le_of_ble_eq_true rfl) rfl (fun v9 n9 M9 hp9 => ?_)
  obtain ⟨rfl, rfl, rfl⟩ := hp9
  exact jk_zret h hR dX9_isValue_7 (Nat.le_of_ble_eq_true rfl) (Nat.le_of_ble_eq_true rfl) (by split <;> simp) (jrd_of rfl)

set_option maxHeartbeats 4000000 in
set_option maxRecDepth 100000 in
theorem c_X9_areBounds {l : Launch} {D : va_G} {b0 : Nat} {n : Nat} {M : jM} {a b : Int} (ha : jRng a) (hb : jRng b) : jCtr l D b0 yX9_areBounds cX9_areBounds 2 (some .boolean) 2 0 0 [jI a, jI b] n M (jrd n M (if 0 ≤ a ∧ a ≤ b ∧ b ≤ 99 then 1 else 0)) := by
  refine jctr (lv := [some (jI a), some (jI b)]) RX9 "areBounds" rfl rfl (by decide) (Nat.le_of_ble_eq_true rfl) rfl ?_
  intro X h hR hX
  refine jk_iload_n (q := 1) h dX9_areBounds_0 rfl rfl ?_
  refine jk_callS (q := 4) h hX (c_X9_isValue ⟨by omega, by omega⟩) ms_X9_isValue dX9_areBounds_1 ml_X9_254 ⟨rfl, Nat.le_refl _⟩ rfl rfl (Nat.le_of_ble_eq_true rfl) (Nat.le_of_ble_eq_true rfl) rfl rfl (Nat.le_of_ble_eq_true rfl) rfl (fun v9 n9 M9 hp9 => ?_)
  obtain ⟨rfl, rfl, rfl⟩ := hp9
  refine jk_if_eqB (q := 7) (tgt := 23) h dX9_areBounds_4 (by decide) rfl (fun c4 => ?_) (fun c4 => ?_)
  · refine jk_iconst (q := 24) h dX9_areBounds_23 rfl ?_
    exact jk_zret h hR dX9_areBounds_24 (Nat.le_of_ble_eq_true rfl) (Nat.le_of_ble_eq_true rfl) (by first | exact Or.inl rfl | exact Or.inr rfl | omega) (jrd_of (by first | rfl | exact (if_pos (by omega)).symm | exact if_pos (by omega) | exact if_neg (by omega)))
  · refine jk_iload_n (q := 8) h dX9_areBounds_7 rfl rfl ?_
    refine jk_callS (q := 11) h hX (c_X9_isValue ⟨by omega, by omega⟩) ms_X9_isValue dX9_areBounds_8 ml_X9_254 ⟨rfl, Nat.le_refl _⟩ rfl rfl (Nat.le_of_ble_eq_true rfl) (Nat.le_of_ble_eq_true rfl) rfl rfl (Nat.le_of_ble_eq_true rfl) rfl (fun v9 n9 M9 hp9 => ?_)
    obtain ⟨rfl, rfl, rfl⟩ := hp9
    refine jk_if_eqB (q := 14) (tgt := 23) h dX9_areBounds_11 (by decide) rfl (fun c11 => ?_) (fun c11 => ?_)
    · refine jk_iconst (q := 24) h dX9_areBounds_23 rfl ?_
      exact jk_zret h hR dX9_areBounds_24 (Nat.le_of_ble_eq_true rfl) (Nat.le_of_ble_eq_true rfl) (by first | exact Or.inl rfl | exact Or.inr rfl | omega) (jrd_of (by first | rfl | exact (if_pos (by omega)).symm | exact if_pos (by omega) | exact if_neg (by omega)))
    · refine jk_iload_n (q := 15) h dX9_areBounds_14 rfl rfl ?_
      refine jk_iload_n (q := 16) h dX9_areBounds_15 rfl rfl ?_
      refine jk_icmp_gt (q := 19) (tgt := 23) h dX9_areBounds_16 (by decide) rfl ⟨by omega, by omega⟩ ⟨by omega, by omega⟩ (fun c16 => ?_) (fun c16 => ?_)
      · refine jk_iconst (q := 24) h dX9_areBounds_23 rfl ?_
        exact jk_zret h hR dX9_areBounds_24 (Nat.le_of_ble_eq_true rfl) (Nat.le_of_ble_eq_true rfl) (by first | exact Or.inl rfl | exact Or.inr rfl | omega) (jrd_of (by first | rfl | exact (if_pos (by omega)).symm | exact if_pos (by omega) | exact if_neg (by omega)))
      · refine jk_iconst (q := 20) h dX9_areBounds_19 rfl ?_
        refine jk_goto (q := 23) (tgt := 24) h dX9_areBounds_20 (by decide) ?_
        exact jk_zret h hR dX9_areBounds_24 (Nat.le_of_ble_eq_true rfl) (Nat.le_of_ble_eq_true rfl) (by first | exact Or.inl rfl | exact Or.inr rfl | omega) (jrd_of (by first | rfl | exact (if_pos (by omega)).symm | exact if_pos (by omega) | exact if_neg (by omega)))

def jmix (F G : Nat → Int) (i : Int) : Nat → Int := fun k => if (k : Int) < i then F k else G k
theorem jmix_0 (F G : Nat → Int) : jmix F G 0 = G := by
  funext k
  simp only [jmix]
  rw [if_neg (by omega)]
theorem jmix_up {F G : Nat → Int} {i : Int} (h : 0 ≤ i) : jfup (jmix F G i) i.toNat (F i.toNat) = jmix F G (i + 1) := by
  funext k
  by_cases hk : k = i.toNat
  · subst hk
    simp only [jfup, jmix, if_true]
    rw [if_pos (by omega)]
  · simp only [jfup, jmix, if_neg hk]
    by_cases h2 : (k : Int) < i
    · rw [if_pos h2, if_pos (by omega)]
    · rw [if_neg h2, if_neg (by omega)]

set_option maxHeartbeats 4000000 in
set_option maxRecDepth 100000 in
theorem c_X9_copyNumbers {l : Launch} {D : va_G} {b0 : Nat} {n : Nat} {M : jM} {f t len : Nat} {F G : Nat → Int} (hlen : Nat.ble len 2147483647 = true) (hF : jPic M f [aI len F]) (hG : jPic M t [aI len G]) (hft : f ≠ t) : jCtr l D b0 yX9_copyNumbers cX9_copyNumbers 3 none 0 0 0 [.ref f, .ref t] n M (fun v n2 M2 => none = v ∧ n = n2 ∧ jst M M2 t (aI len F)) := by
  refine jctr (lv := [some (.ref f), some (.ref t), none]) RX9 "copyNumbers" rfl rfl (by decide) (Nat.le_of_ble_eq_true rfl) rfl ?_
  intro X h hR hX
  have hl9 := Nat.le_of_ble_eq_true hlen
  refine jk_iconst (q := 1) h dX9_copyNumbers_0 rfl ?_
  refine jk_istore_n (q := 2) h dX9_copyNumbers_1 rfl (Nat.le_of_ble_eq_true rfl) rfl rfl ?_
  have lp2 : ∀ (k9 : Nat) (i : Int) (M9 : jM) (hi : 0 ≤ i) (hi2 : i ≤ len) (hF : jPic M9 f [aI len F]) (hG : jPic M9 t [aI len (jmix F G i)]) (hs : jst M M9 t (aI len (jmix F G i))) (hk9 : ((len : Int) - i).toNat = k9), jJ X 2 [some (.ref (f)), some (.ref (t)), some (jI (i))] [] n M9 0 0 := by
    intro k9
    induction k9 using Nat.strongRecOn with
    | _ k9 ih2 =>
      intro i M9 hi hi2 hF hG hs hk9
      refine jk_iload_n (q := 3) h dX9_copyNumbers_2 rfl rfl ?_
      refine jk_aload_n (q := 4) h dX9_copyNumbers_3 rfl rfl ?_
      refine jk_alen (q := 5) h dX9_copyNumbers_4 (hF.at 0 rfl) rfl ?_
      refine jk_icmp_ge (q := 8) (tgt := 26) h dX9_copyNumbers_5 (by decide) rfl ⟨by omega, by omega⟩ ⟨by omega, by omega⟩ (fun c5 => ?_) (fun c5 => ?_)
      · refine  jk_ext (G := fun k => jI (F k)) (hG.at 0 rfl) (fun k hk => ?_) (fun M10 hs10 => ?_)
        · show jI (jmix F G i k) = jI (F k)
          simp only [jmix]
          rw [if_pos (by omega)]
        exact jk_vret h hR dX9_copyNumbers_26 (Nat.le_of_ble_eq_true rfl) (Nat.le_of_ble_eq_true rfl) ⟨rfl, rfl, hs.tr hs10⟩
      · refine jk_iload_n (q := 9) h dX9_copyNumbers_8 rfl rfl ?_
        refine jk_aload_n (q := 10) h dX9_copyNumbers_9 rfl rfl ?_
        refine jk_alen (q := 11) h dX9_copyNumbers_10 (hG.at 0 rfl) rfl ?_
        refine jk_icmp_ge (q := 14) (tgt := 26) h dX9_copyNumbers_11 (by decide) rfl ⟨by omega, by omega⟩ ⟨by omega, by omega⟩ (fun c11 => ?_) (fun c11 => ?_)
        · refine  jk_ext (G := fun k => jI (F k)) (hG.at 0 rfl) (fun k hk => ?_) (fun M10 hs10 => ?_)
          · show jI (jmix F G i k) = jI (F k)
            simp only [jmix]
            rw [if_pos (by omega)]
          exact jk_vret h hR dX9_copyNumbers_26 (Nat.le_of_ble_eq_true rfl) (Nat.le_of_ble_eq_true rfl) ⟨rfl, rfl, hs.tr hs10⟩
        · refine jk_aload_n (q := 15) h dX9_copyNumbers_14 rfl rfl ?_
          refine jk_iload_n (q := 16) h dX9_copyNumbers_15 rfl rfl ?_
          refine jk_aload_n (q := 17) h dX9_copyNumbers_16 rfl rfl ?_
          refine jk_iload_n (q := 18) h dX9_copyNumbers_17 rfl rfl ?_
          refine jk_ialdI (q := 19) h dX9_copyNumbers_18 (hF.at 0 rfl) (by omega) (by omega) hlen rfl ?_
          refine jk_iast (q := 20) h dX9_copyNumbers_19 (hG.at 0 rfl) (by omega) (by omega) hlen rfl (fun M_1 s_1 => ?_)
          have hF := hF.other s_1 1 rfl (by omega)
          have hG := hG.put (i := 0) s_1 rfl
          refine jk_iinc (q := 23) h dX9_copyNumbers_20 rfl rfl rfl rfl ?_
          refine jk_goto (q := 26) (tgt := 2) h dX9_copyNumbers_23 (by decide) ?_
          exact jk_weak (jwk_s rfl (jwk_s rfl (jwk_s rfl jwk_0))) (ih2 _ (by omega) _ _ (by omega) (by omega) hF (by rw [← jmix_up hi]; exact hG) (by rw [← jmix_up hi]; exact hs.tr s_1) rfl)
  exact jk_weak (jwk_s rfl (jwk_s rfl (jwk_s rfl jwk_0))) (lp2 _ _ _ (by omega) (by omega) hF (by rw [jmix_0]; exact hG) (by rw [jmix_0]; exact ⟨hG.at 0 rfl, fun _ _ => rfl⟩) rfl)
