theorem Met.ofWF {l : Launch} {y : MethodName} {ws ws' : List Cond} {rm : Room} {Pc : Array Value → State → Prop} {Qc : Array Value → State → Outcome → State → Prop} {mc ms : Nat} {free : Addr → Prop} {cc : ByteArray} {maxL : Nat} {ret : Option FieldType}
    (hy : plainFor y = true) (hw : ws = Cond.code y cc maxL ret :: ws')
    (body : ∀ p e s m args below meth c s₁, BodyLoose p l y (headSpec ws rm) cc maxL ret e s m args below meth c s₁ → c.maxLocals = maxL → Pc args s →
      W p l e (headSpec ws rm).room s m args below meth c s.heap [] 0 0 (MQ below Qc args s mc ms free) (entryFrame m args maxL)) : Met l y ws rm Pc Qc mc ms free := by
  refine MetFree.of_bodySF (code := cc) (maxLocals := maxL) (ret := ret) hy ?_ ?_
  · intro args s m h hn
    obtain ⟨meth, c, h1, h2, h3, h4, h5, h6, -, -⟩ := Cond.code_spec hn (atoms_spec (ws := ws) h _ (by rw [hw]; exact List.mem_cons_self))
    exact ⟨meth, c, h1, h2, h3, h4, h5, h6⟩
  · intro p e s m args below meth c s₁ B hml hP _
    have hh0 : s₁.heap = s.heap := by rw [B.state]; rfl
    obtain ⟨t, a1, o, b1, b2, b3⟩ := body p e s m args below meth c s₁ B hml hP s₁ hh0 (Stand.of_body B)
    exact ⟨t, o, a1, b1, b2, ⟨b3.1, b3.2⟩⟩
theorem jctrF {l : Launch} {D : va_G} {b0 : Nat} {y : MethodName} {cc : ByteArray} {nL : Nat} {ret : Option FieldType} {d mc ms : Nat} {av : List Value} {n : Nat} {M : jM} {post : Option Value → Nat → jM → Prop} {lv : List (Option Value)} (own nm : String) (hown : y.cls = own) (hname : y.name = nm) (hy : plainFor y = true) (hlen : (lg_sl av).length ≤ nL) (hlv : jflat av ++ List.replicate (nL - (jflat av).length) none = lv)
    (body : ∀ X : jX, jB X cc own nm ret (jrm d mc ms) → jR X post mc ms → jF X l D b0 → jJ X 0 lv [] n M 0 0) : jCtr l D b0 y cc nL ret d mc ms av n M post := by
  subst hown; subst hname
  refine Met.ofWF (cc := cc) (maxL := nL) (ret := ret) hy rfl ?_
  intro p e s m args below meth c s₁ B hml hv
  obtain ⟨rfl, hH, hK, hb0⟩ := hv
  have hts0 := atoms_spec (ws := Cond.code y cc nL ret :: wsL_law) B.pre
  have hbd := body (p, l, e, jrm d mc ms, s, m, av.toArray, below, meth, c, MQ below (jQc D b0 post) av.toArray s mc ms (fun q => b0 ≤ q), D, b0, nL)
    ⟨B.exec, B.bytes, hml, findClass_of_methodNamed B.named, fun w hw => hts0 w (List.mem_cons_of_mem _ hw), hK, hb0, rfl, (name_of_methodNamed B.named B.method).1, B.returns, B.notSynchronized⟩ rfl ⟨rfl, rfl, rfl⟩
  rw [lg_entry_eq]
  exact hbd s.heap [] _ hH va_S.rf (jL_entry av hlen hlv)

set_option maxHeartbeats 4000000 in
set_option maxRecDepth 100000 in
theorem c_X1_bits {l : Launch} {D : va_G} {b0 : Nat} {n : Nat} {M : jM} {x : UInt64} {bias fb : Int} {z : Int64} (hb : bF x bias fb = some z) : jCtr l D b0 yX1_bits cX1_bits 10 (some .long) 0 0 0 [.double (x), jI bias, jI fb] n M (fun v n2 M2 => some (.long z) = v ∧ n = n2 ∧ M = M2) := by
  refine jctr (lv := [some (.double (x)), none, some (jI bias), some (jI fb), none, none, none, none, none, none]) RX1 "bits" rfl rfl (by decide) (Nat.le_of_ble_eq_true rfl) rfl ?_
  intro X h hR hX
  have hc := bF_c hb
  refine jk_dload_n (q := 1) h dX1_bits_0 rfl rfl ?_
  refine jk_dconst0 (q := 2) h dX1_bits_1 rfl ?_
  refine jk_dcmp (q := 3) h dX1_bits_2 (cvD_e .g x 0) rfl ?_
  refine jk_if_gt (q := 6) (tgt := 8) h dX1_bits_3 (by decide) rfl (cvD_r .g x 0) (fun c3 => ?_) (fun c3 => ?_)
  · obtain ⟨s1, e1, s2, e2, hA, hB, hn1, hn2, hz⟩ : ∃ s1 e1 s2 e2, bA 64 x (Int32.ofInt bias).toInt64 = some (s1, e1) ∧ bB 64 s1 e1 = some (s2, e2) ∧ vf_n64 (FP.dsub s2 d1) ∧ vf_n64 (FP.dmul (FP.dsub s2 d1) (bT fb)) ∧ z = (e2 <<< ((Int32.ofInt fb).toInt64 &&& 63)) + FP.d2l (FP.dmul (FP.dsub s2 d1) (bT fb)) := by
      rcases hc with q | q
      · omega
      · exact q.2
    clear hc hb
    refine jk_iload_n (q := 9) h dX1_bits_8 rfl rfl ?_
    refine jk_i2l (q := 10) h dX1_bits_9 rfl ?_
    refine jk_lstore (q := 12) h dX1_bits_10 rfl (Nat.le_of_ble_eq_true rfl) rfl rfl ?_
    refine jk_dload_n (q := 13) h dX1_bits_12 rfl rfl ?_
    refine jk_dstore (q := 15) h dX1_bits_13 rfl (Nat.le_of_ble_eq_true rfl) rfl rfl ?_
    refine jk_iconst (q := 16) h dX1_bits_15 rfl ?_
    refine jk_istore (q := 18) h dX1_bits_16 rfl (Nat.le_of_ble_eq_true rfl) rfl rfl ?_
    have lp18 : ∀ (k9 : Nat) (s : UInt64) (e : Int64) (i : Int) (hi1 : 0 ≤ i) (hi2 : i ≤ 64) (hA : bA (64 - i).toNat s e = some (s1, e1)) (hk9 : (64 - i).toNat = k9), jJ X 18 [some (.double (x)), none, some (jI (bias)), some (jI (fb)), some (.long (e)), none, some (.double (s)), none, some (jI (i)), none] [] n M 0 0 := by
      intro k9
      induction k9 using Nat.strongRecOn with
      | _ k9 ih18 =>
        intro s e i hi1 hi2 hA hk9
        have hbi := bA_i hi1 hA
        refine jk_iload (q := 20) h dX1_bits_18 rfl rfl ?_
        refine jk_bipush (q := 22) h dX1_bits_20 (by decide) rfl ?_
        refine jk_icmp_ge (q := 25) (tgt := 52) h dX1_bits_22 (by decide) rfl ⟨by omega, by omega⟩ ⟨by omega, by omega⟩ (fun c22 => ?_) (fun c22 => ?_)
        · obtain ⟨rfl, rfl⟩ := hbi.1 (by omega)
          refine jk_iconst (q := 53) h dX1_bits_52 rfl ?_
          refine jk_istore (q := 55) h dX1_bits_53 rfl (Nat.le_of_ble_eq_true rfl) rfl rfl ?_
          have lp55 : ∀ (k9 : Nat) (s : UInt64) (e : Int64) (i : Int) (hi1 : 0 ≤ i) (hi2 : i ≤ 64) (hB : bB (64 - i).toNat s e = some (s2, e2)) (hk9 : (64 - i).toNat = k9), jJ X 55 [some (.double (x)), none, some (jI (bias)), some (jI (fb)), some (.long (e)), none, some (.double (s)), none, some (jI (i)), none] [] n M 0 0 := by
            intro k9
            induction k9 using Nat.strongRecOn with
            | _ k9 ih55 =>
              intro s e i hi1 hi2 hB hk9
              have hbi := bB_i hi1 hB
              refine jk_iload (q := 57) h dX1_bits_55 rfl rfl ?_
              refine jk_bipush (q := 59) h dX1_bits_57 (by decide) rfl ?_
              refine jk_icmp_ge (q := 62) (tgt := 91) h dX1_bits_59 (by decide) rfl ⟨by omega, by omega⟩ ⟨by omega, by omega⟩ (fun c59 => ?_) (fun c59 => ?_)
              · obtain ⟨rfl, rfl⟩ := hbi.1 (by omega)
                refine jk_dload (q := 93) h dX1_bits_91 rfl rfl ?_
                refine jk_dconst1 (q := 94) h dX1_bits_93 rfl ?_
                refine jk_dsub (q := 95) h dX1_bits_94 hn1 rfl ?_
                refine jk_lconst (q := 96) h dX1_bits_95 rfl ?_
                refine jk_iload_n (q := 97) h dX1_bits_96 rfl rfl ?_
                refine jk_lshl (q := 98) h dX1_bits_97 rfl ?_
                refine jk_l2d (q := 99) h dX1_bits_98 rfl ?_
                refine jk_dmul (q := 100) h dX1_bits_99 hn2 rfl ?_
                refine jk_dstore (q := 102) h dX1_bits_100 rfl (Nat.le_of_ble_eq_true rfl) rfl rfl ?_
                refine jk_lload (q := 104) h dX1_bits_102 rfl rfl ?_
                refine jk_iload_n (q := 105) h dX1_bits_104 rfl rfl ?_
                refine jk_lshl (q := 106) h dX1_bits_105 rfl ?_
                refine jk_dload (q := 108) h dX1_bits_106 rfl rfl ?_
                refine jk_d2l (q := 109) h dX1_bits_108 rfl ?_
                refine jk_ladd (q := 110) h dX1_bits_109 rfl ?_
                exact jk_lret h hR dX1_bits_110 (Nat.le_of_ble_eq_true rfl) (Nat.le_of_ble_eq_true rfl) ⟨by rw [hz]; rfl, rfl, rfl⟩
              · refine jk_dload (q := 64) h dX1_bits_62 rfl rfl ?_
                refine jk_ldc2d (q := 67) h dX1_bits_64 kc_X1_13 rfl ?_
                refine jk_dcmp (q := 68) h dX1_bits_67 (cvD_e .l s d2) rfl ?_
                refine jk_if_lt (q := 71) (tgt := 91) h dX1_bits_68 (by decide) rfl (cvD_r .l s d2) (fun c68 => ?_) (fun c68 => ?_)
                · obtain ⟨rfl, rfl⟩ := hbi.2.1 (by omega) (by omega)
                  refine jk_dload (q := 93) h dX1_bits_91 rfl rfl ?_
                  refine jk_dconst1 (q := 94) h dX1_bits_93 rfl ?_
                  refine jk_dsub (q := 95) h dX1_bits_94 hn1 rfl ?_
                  refine jk_lconst (q := 96) h dX1_bits_95 rfl ?_
                  refine jk_iload_n (q := 97) h dX1_bits_96 rfl rfl ?_
                  refine jk_lshl (q := 98) h dX1_bits_97 rfl ?_
                  refine jk_l2d (q := 99) h dX1_bits_98 rfl ?_
                  refine jk_dmul (q := 100) h dX1_bits_99 hn2 rfl ?_
                  refine jk_dstore (q := 102) h dX1_bits_100 rfl (Nat.le_of_ble_eq_true rfl) rfl rfl ?_
                  refine jk_lload (q := 104) h dX1_bits_102 rfl rfl ?_
                  refine jk_iload_n (q := 105) h dX1_bits_104 rfl rfl ?_
                  refine jk_lshl (q := 106) h dX1_bits_105 rfl ?_
                  refine jk_dload (q := 108) h dX1_bits_106 rfl rfl ?_
                  refine jk_d2l (q := 109) h dX1_bits_108 rfl ?_
                  refine jk_ladd (q := 110) h dX1_bits_109 rfl ?_
                  exact jk_lret h hR dX1_bits_110 (Nat.le_of_ble_eq_true rfl) (Nat.le_of_ble_eq_true rfl) ⟨by rw [hz]; rfl, rfl, rfl⟩
                · obtain ⟨hnn, hbn⟩ := hbi.2.2 (by omega) (by omega)
                  refine jk_dload (q := 73) h dX1_bits_71 rfl rfl ?_
                  refine jk_ldc2d (q := 76) h dX1_bits_73 kc_X1_13 rfl ?_
                  refine jk_ddiv (q := 77) h dX1_bits_76 hnn rfl ?_
                  refine jk_dstore (q := 79) h dX1_bits_77 rfl (Nat.le_of_ble_eq_true rfl) rfl rfl ?_
                  refine jk_lload (q := 81) h dX1_bits_79 rfl rfl ?_
                  refine jk_lconst (q := 82) h dX1_bits_81 rfl ?_
                  refine jk_ladd (q := 83) h dX1_bits_82 rfl ?_
                  refine jk_lstore (q := 85) h dX1_bits_83 rfl (Nat.le_of_ble_eq_true rfl) rfl rfl ?_
                  refine jk_iinc (q := 88) h dX1_bits_85 rfl rfl rfl rfl ?_
                  refine jk_goto (q := 91) (tgt := 55) h dX1_bits_88 (by decide) ?_
                  exact jk_weak (jwk_s rfl (jwk_n (jwk_s rfl (jwk_s rfl (jwk_s rfl (jwk_n (jwk_s rfl (jwk_n (jwk_s rfl (jwk_n jwk_0)))))))))) (ih55 _ (by omega) _ _ _ (by omega) (by omega) hbn rfl)
          exact jk_weak (jwk_s rfl (jwk_n (jwk_s rfl (jwk_s rfl (jwk_s rfl (jwk_n (jwk_s rfl (jwk_n (jwk_s rfl (jwk_n jwk_0)))))))))) (lp55 _ _ _ _ (by omega) (by omega) hB rfl)
        · refine jk_dload (q := 27) h dX1_bits_25 rfl rfl ?_
          refine jk_dconst1 (q := 28) h dX1_bits_27 rfl ?_
          refine jk_dcmp (q := 29) h dX1_bits_28 (cvD_e .g s d1) rfl ?_
          refine jk_if_ge (q := 32) (tgt := 52) h dX1_bits_29 (by decide) rfl (cvD_r .g s d1) (fun c29 => ?_) (fun c29 => ?_)
          · obtain ⟨rfl, rfl⟩ := hbi.2.1 (by omega) (by omega)
            refine jk_iconst (q := 53) h dX1_bits_52 rfl ?_
            refine jk_istore (q := 55) h dX1_bits_53 rfl (Nat.le_of_ble_eq_true rfl) rfl rfl ?_
            have lp55 : ∀ (k9 : Nat) (s : UInt64) (e : Int64) (i : Int) (hi1 : 0 ≤ i) (hi2 : i ≤ 64) (hB : bB (64 - i).toNat s e = some (s2, e2)) (hk9 : (64 - i).toNat = k9), jJ X 55 [some (.double (x)), none, some (jI (bias)), some (jI (fb)), some (.long (e)), none, some (.double (s)), none, some (jI (i)), none] [] n M 0 0 := by
              intro k9
              induction k9 using Nat.strongRecOn with
              | _ k9 ih55 =>
                intro s e i hi1 hi2 hB hk9
                have hbi := bB_i hi1 hB
                refine jk_iload (q := 57) h dX1_bits_55 rfl rfl ?_
                refine jk_bipush (q := 59) h dX1_bits_57 (by decide) rfl ?_
                refine jk_icmp_ge (q := 62) (tgt := 91) h dX1_bits_59 (by decide) rfl ⟨by omega, by omega⟩ ⟨by omega, by omega⟩ (fun c59 => ?_) (fun c59 => ?_)
                · obtain ⟨rfl, rfl⟩ := hbi.1 (by omega)
                  refine jk_dload (q := 93) h dX1_bits_91 rfl rfl ?_
                  refine jk_dconst1 (q := 94) h dX1_bits_93 rfl ?_
                  refine jk_dsub (q := 95) h dX1_bits_94 hn1 rfl ?_
                  refine jk_lconst (q := 96) h dX1_bits_95 rfl ?_
                  refine jk_iload_n (q := 97) h dX1_bits_96 rfl rfl ?_
                  refine jk_lshl (q := 98) h dX1_bits_97 rfl ?_
                  refine jk_l2d (q := 99) h dX1_bits_98 rfl ?_
                  refine jk_dmul (q := 100) h dX1_bits_99 hn2 rfl ?_
                  refine jk_dstore (q := 102) h dX1_bits_100 rfl (Nat.le_of_ble_eq_true rfl) rfl rfl ?_
                  refine jk_lload (q := 104) h dX1_bits_102 rfl rfl ?_
                  refine jk_iload_n (q := 105) h dX1_bits_104 rfl rfl ?_
                  refine jk_lshl (q := 106) h dX1_bits_105 rfl ?_
                  refine jk_dload (q := 108) h dX1_bits_106 rfl rfl ?_
                  refine jk_d2l (q := 109) h dX1_bits_108 rfl ?_
                  refine jk_ladd (q := 110) h dX1_bits_109 rfl ?_
                  exact jk_lret h hR dX1_bits_110 (Nat.le_of_ble_eq_true rfl) (Nat.le_of_ble_eq_true rfl) ⟨by rw [hz]; rfl, rfl, rfl⟩
                · refine jk_dload (q := 64) h dX1_bits_62 rfl rfl ?_
                  refine jk_ldc2d (q := 67) h dX1_bits_64 kc_X1_13 rfl ?_
                  refine jk_dcmp (q := 68) h dX1_bits_67 (cvD_e .l s d2) rfl ?_
                  refine jk_if_lt (q := 71) (tgt := 91) h dX1_bits_68 (by decide) rfl (cvD_r .l s d2) (fun c68 => ?_) (fun c68 => ?_)
                  · obtain ⟨rfl, rfl⟩ := hbi.2.1 (by omega) (by omega)
                    refine jk_dload (q := 93) h dX1_bits_91 rfl rfl ?_
                    refine jk_dconst1 (q := 94) h dX1_bits_93 rfl ?_
                    refine jk_dsub (q := 95) h dX1_bits_94 hn1 rfl ?_
                    refine jk_lconst (q := 96) h dX1_bits_95 rfl ?_
                    refine jk_iload_n (q := 97) h dX1_bits_96 rfl rfl ?_
                    refine jk_lshl (q := 98) h dX1_bits_97 rfl ?_
                    refine jk_l2d (q := 99) h dX1_bits_98 rfl ?_
                    refine jk_dmul (q := 100) h dX1_bits_99 hn2 rfl ?_
                    refine jk_dstore (q := 102) h dX1_bits_100 rfl (Nat.le_of_ble_eq_true rfl) rfl rfl ?_
                    refine jk_lload (q := 104) h dX1_bits_102 rfl rfl ?_
                    refine jk_iload_n (q := 105) h dX1_bits_104 rfl rfl ?_
                    refine jk_lshl (q := 106) h dX1_bits_105 rfl ?_
                    refine jk_dload (q := 108) h dX1_bits_106 rfl rfl ?_
                    refine jk_d2l (q := 109) h dX1_bits_108 rfl ?_
                    refine jk_ladd (q := 110) h dX1_bits_109 rfl ?_
                    exact jk_lret h hR dX1_bits_110 (Nat.le_of_ble_eq_true rfl) (Nat.le_of_ble_eq_true rfl) ⟨by rw [hz]; rfl, rfl, rfl⟩
                  · obtain ⟨hnn, hbn⟩ := hbi.2.2 (by omega) (by omega)
                    refine jk_dload (q := 73) h dX1_bits_71 rfl rfl ?_
                    refine jk_ldc2d (q := 76) h dX1_bits_73 kc_X1_13 rfl ?_
                    refine jk_ddiv (q := 77) h dX1_bits_76 hnn rfl ?_
                    refine jk_dstore (q := 79) h dX1_bits_77 rfl (Nat.le_of_ble_eq_true rfl) rfl rfl ?_
                    refine jk_lload (q := 81) h dX1_bits_79 rfl rfl ?_
                    refine jk_lconst (q := 82) h dX1_bits_81 rfl ?_
                    refine jk_ladd (q := 83) h dX1_bits_82 rfl ?_
                    refine jk_lstore (q := 85) h dX1_bits_83 rfl (Nat.le_of_ble_eq_true rfl) rfl rfl ?_
                    refine jk_iinc (q := 88) h dX1_bits_85 rfl rfl rfl rfl ?_
                    refine jk_goto (q := 91) (tgt := 55) h dX1_bits_88 (by decide) ?_
                    exact jk_weak (jwk_s rfl (jwk_n (jwk_s rfl (jwk_s rfl (jwk_s rfl (jwk_n (jwk_s rfl (jwk_n (jwk_s rfl (jwk_n jwk_0)))))))))) (ih55 _ (by omega) _ _ _ (by omega) (by omega) hbn rfl)
            exact jk_weak (jwk_s rfl (jwk_n (jwk_s rfl (jwk_s rfl (jwk_s rfl (jwk_n (jwk_s rfl (jwk_n (jwk_s rfl (jwk_n jwk_0)))))))))) (lp55 _ _ _ _ (by omega) (by omega) hB rfl)
          · obtain ⟨hnn, hbn⟩ := hbi.2.2 (by omega) (by omega)
            refine jk_dload (q := 34) h dX1_bits_32 rfl rfl ?_
            refine jk_ldc2d (q := 37) h dX1_bits_34 kc_X1_13 rfl ?_
            refine jk_dmul (q := 38) h dX1_bits_37 hnn rfl ?_
            refine jk_dstore (q := 40) h dX1_bits_38 rfl (Nat.le_of_ble_eq_true rfl) rfl rfl ?_
            refine jk_lload (q := 42) h dX1_bits_40 rfl rfl ?_
            refine jk_lconst (q := 43) h dX1_bits_42 rfl ?_
            refine jk_lsub (q := 44) h dX1_bits_43 rfl ?_
            refine jk_lstore (q := 46) h dX1_bits_44 rfl (Nat.le_of_ble_eq_true rfl) rfl rfl ?_
            refine jk_iinc (q := 49) h dX1_bits_46 rfl rfl rfl rfl ?_
            refine jk_goto (q := 52) (tgt := 18) h dX1_bits_49 (by decide) ?_
            exact jk_weak (jwk_s rfl (jwk_n (jwk_s rfl (jwk_s rfl (jwk_s rfl (jwk_n (jwk_s rfl (jwk_n (jwk_s rfl (jwk_n jwk_0)))))))))) (ih18 _ (by omega) _ _ _ (by omega) (by omega) hbn rfl)
    exact jk_weak (jwk_s rfl (jwk_n (jwk_s rfl (jwk_s rfl (jwk_s rfl (jwk_n (jwk_s rfl (jwk_n (jwk_s rfl (jwk_n jwk_0)))))))))) (lp18 _ _ _ _ (by omega) (by omega) hA rfl)
  · refine jk_lconst (q := 7) h dX1_bits_6 rfl ?_
    exact jk_lret h hR dX1_bits_7 (Nat.le_of_ble_eq_true rfl) (Nat.le_of_ble_eq_true rfl) (by rcases hc with q | q; exact ⟨by rw [q.2]; rfl, rfl, rfl⟩; omega)

set_option maxHeartbeats 4000000 in
set_option maxRecDepth 100000 in
theorem c_X1_ofFloat {l : Launch} {D : va_G} {b0 : Nat} {n : Nat} {M : jM} {y : UInt32} {w : Int32} (hn : vf_n64 (FP.f2d y)) (hb : (bF (FP.f2d y) 127 23).map (fun z => z.toInt32) = some w) : jCtr l D b0 yX1_ofFloat cX1_ofFloat 1 (some .int) 1 0 0 [.float (y)] n M (fun v n2 M2 => some (jI w.toInt) = v ∧ n = n2 ∧ M = M2) := by
  refine jctr (lv := [some (.float (y))]) RX1 "ofFloat" rfl rfl (by decide) (Nat.le_of_ble_eq_true rfl) rfl ?_
  intro X h hR hX
  obtain ⟨z, hb1, hb2⟩ := Option.map_eq_some_iff.mp hb
  refine jk_fload_n (q := 1) h dX1_ofFloat_0 rfl rfl ?_
  refine jk_f2d (q := 2) h dX1_ofFloat_1 hn rfl ?_
  refine jk_bipush (q := 4) h dX1_ofFloat_2 (by decide) rfl ?_
  refine jk_bipush (q := 6) h dX1_ofFloat_4 (by decide) rfl ?_
  refine jk_callS (q := 9) h hX (c_X1_bits hb1) ms_X1_bits dX1_ofFloat_6 ml_X1_7 ⟨rfl, Nat.le_refl _⟩ rfl rfl (Nat.le_of_ble_eq_true rfl) (Nat.le_of_ble_eq_true rfl) rfl rfl (Nat.le_of_ble_eq_true rfl) rfl (fun v9 n9 M9 hp9 => ?_)
  obtain ⟨rfl, rfl, rfl⟩ := hp9
  refine jk_l2i (q := 10) h dX1_ofFloat_9 (Int32.ofInt_toInt _).symm rfl ?_
  exact jk_iret h hR dX1_ofFloat_10 (Nat.le_of_ble_eq_true rfl) (Nat.le_of_ble_eq_true rfl) ⟨by rw [← hb2], rfl, rfl⟩

set_option maxHeartbeats 4000000 in
set_option maxRecDepth 100000 in
theorem c_X1_ofDouble {l : Launch} {D : va_G} {b0 : Nat} {n : Nat} {M : jM} {y : UInt64} {w : Int64} (hb : bF y 1023 52 = some w) : jCtr l D b0 yX1_ofDouble cX1_ofDouble 2 (some .long) 1 0 0 [.double (y)] n M (fun v n2 M2 => some (.long w) = v ∧ n = n2 ∧ M = M2) := by
  refine jctr (lv := [some (.double (y)), none]) RX1 "ofDouble" rfl rfl (by decide) (Nat.le_of_ble_eq_true rfl) rfl ?_
  intro X h hR hX
  refine jk_dload_n (q := 1) h dX1_ofDouble_0 rfl rfl ?_
  refine jk_sipush (q := 4) h dX1_ofDouble_1 (by decide) rfl ?_
  refine jk_bipush (q := 6) h dX1_ofDouble_4 (by decide) rfl ?_
  refine jk_callS (q := 9) h hX (c_X1_bits hb) ms_X1_bits dX1_ofDouble_6 ml_X1_7 ⟨rfl, Nat.le_refl _⟩ rfl rfl (Nat.le_of_ble_eq_true rfl) (Nat.le_of_ble_eq_true rfl) rfl rfl (Nat.le_of_ble_eq_true rfl) rfl (fun v9 n9 M9 hp9 => ?_)
  obtain ⟨rfl, rfl, rfl⟩ := hp9
  exact jk_lret h hR dX1_ofDouble_9 (Nat.le_of_ble_eq_true rfl) (Nat.le_of_ble_eq_true rfl) ⟨rfl, rfl, rfl⟩

def arQ (x : TS) (p q : Int) : Nat → Int → TS → Prop
  | 0, r, x2 => r = -2 ∧ x2 = x
  | k + 1, r, x2 => ∃ r1 x1, arQ x p q k r1 x1 ∧ adQ x1 p q r x2
theorem nch_le (rows ch : Int) : nch rows ch ≤ ch + 1 := by unfold nch; split <;> omega
theorem adQ_ch {x x2 : TS} {p q r : Int} (h : adQ x p q r x2) : x2.2.2.1.2 ≤ x.2.2.1.2 + 1 := by
  rcases h with ⟨-, -, rfl⟩ | ⟨-, -, -, rfl⟩ | ⟨-, -, -, rfl⟩
  · omega
  · omega
  · exact nch_le _ _
theorem adQ_r {x x2 : TS} {p q r : Int} (hx : stQ x) (h : adQ x p q r x2) : -4 ≤ r ∧ r < 60 := by
  have := hx.2.1.2.2
  rcases h with ⟨-, rfl, -⟩ | ⟨-, -, rfl, -⟩ | ⟨-, h1, rfl, -⟩ <;> omega
