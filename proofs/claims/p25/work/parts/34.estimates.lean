/-! the law: estimates -/
set_option maxHeartbeats 4000000 in
set_option maxRecDepth 100000 in
theorem c_L_estimates {l : Launch} {D : va_G} {b0 : Nat} {n : Nat} {M : jM} {e lo : Nat} {x : TS} {hl : Int} {hk : Nat → TS} {sl : Nat → Option TS} {sg : Nat → Int} {len : Int} (hW : ehP M n e lo x hl hk sl sg len none) (hg : gdQ x) (hp : 0 < x.2.2.1.1) {a b : Int} (ha : 0 ≤ a ∧ a ≤ 99) (hb9 : 0 ≤ b ∧ b ≤ 99) : jCtr l D b0 yL_estimates cL_estimates 9 (some .boolean) 5 0 0 [.ref e, jI a, jI b] n M (jrd n M 1) := by
  refine jctr (lv := [some (.ref e), some (jI a), some (jI b), none, none, none, none, none, none]) RL "estimates" rfl rfl (by decide) (Nat.le_of_ble_eq_true rfl) rfl ?_
  intro X h hR hX
  have hx := hW.qs.1
  have hE := hW.ob
  have hN := hx.2.2.1.2
  have hZ := hx.2.1.2.2
  have hch := hx.2.2.2.1
  have jn10 : ∀ (f : Int) (hf : (a < b ∧ f = a) ∨ (¬ a < b ∧ f = b)), jJ X 10 [some (.ref (e)), some (jI (a)), some (jI (b)), none, none, none, none, none, none] [jI f] n M 0 0 := by
    intro f hf
    refine jk_istore_n (q := 11) h dL_estimates_10 rfl (Nat.le_of_ble_eq_true rfl) rfl rfl ?_
    have jn21 : ∀ (t : Int) (ht : (a < b ∧ t = b) ∨ (¬ a < b ∧ t = a)), jJ X 21 [some (.ref (e)), some (jI (a)), some (jI (b)), some (jI (f)), none, none, none, none, none] [jI t] n M 0 0 := by
      intro t ht
      refine jk_istore (q := 23) h dL_estimates_21 rfl (Nat.le_of_ble_eq_true rfl) rfl rfl ?_
      have hb : bdO f t := ⟨by omega, by omega, by omega⟩
      obtain ⟨b0, ball, b1, b2, b3, b4⟩ := es_2 hg hx hp hb
      refine jk_iconst (q := 24) h dL_estimates_23 rfl ?_
      refine jk_istore (q := 26) h dL_estimates_24 rfl (Nat.le_of_ble_eq_true rfl) rfl rfl ?_
      refine jk_iconst (q := 27) h dL_estimates_26 rfl ?_
      refine jk_istore (q := 29) h dL_estimates_27 rfl (Nat.le_of_ble_eq_true rfl) rfl rfl ?_
      have lp29 : ∀ (k9 : Nat) (c : Int) (hc0 : 0 ≤ c ∧ c ≤ 2) (hk9 : (2 - c).toNat = k9), jJ X 29 [some (.ref (e)), some (jI (a)), some (jI (b)), some (jI (f)), some (jI (t)), some (jI (1)), some (jI (c)), none, none] [] n M 0 0 := by
        intro k9
        induction k9 using Nat.strongRecOn with
        | _ k9 ih29 =>
          intro c hc0 hk9
          refine jk_iload (q := 31) h dL_estimates_29 rfl rfl ?_
          refine jk_iconst (q := 32) h dL_estimates_31 rfl ?_
          refine jk_icmp_ge (q := 35) (tgt := 184) h dL_estimates_32 (by decide) rfl ⟨by omega, by omega⟩ ⟨by omega, by omega⟩ (fun c32 => ?_) (fun c32 => ?_)
          · have hmul := jmulb (x := botR x f t 0 99 0) (y := x.2.1.2.2) (A := 1000000) (B := 60) b0.1 b0.2 hZ.1 hZ.2
            have hdv := jdivb hmul.1 hmul.2 hp
            have g0 := (es_1 hg hx hp (c := 0) (Or.inl rfl) hb).2.2.2.1
            have g1 := (es_1 hg hx hp (c := 1) (Or.inr rfl) hb).2.2.2.1
            refine jk_aload_n (q := 185) h dL_estimates_184 rfl rfl ?_
            refine jk_iload_n (q := 186) h dL_estimates_185 rfl rfl ?_
            refine jk_iload (q := 188) h dL_estimates_186 rfl rfl ?_
            refine jk_iconst (q := 189) h dL_estimates_188 rfl ?_
            refine jk_bipush (q := 191) h dL_estimates_189 (by decide) rfl ?_
            refine jk_iconst (q := 192) h dL_estimates_191 rfl ?_
            refine jk_callV (q := 195) h hX (c_X9_both hW ⟨by omega, by omega⟩ ⟨by omega, by omega⟩ ⟨by omega, by omega⟩ ⟨by omega, by omega⟩ ⟨by omega, by omega⟩) mv_X9_both (hE.at 0 rfl) dL_estimates_192 ml_L_34 ⟨rfl, Nat.le_refl _⟩ rfl rfl (Nat.le_of_ble_eq_true rfl) (Nat.le_of_ble_eq_true rfl) rfl rfl (Nat.le_of_ble_eq_true rfl) rfl (fun v9 n9 M9 hp9 => ?_)
            obtain ⟨rfl, rfl, rfl⟩ := hp9
            refine jk_istore (q := 197) h dL_estimates_195 rfl (Nat.le_of_ble_eq_true rfl) rfl rfl ?_
            refine jk_aload_n (q := 198) h dL_estimates_197 rfl rfl ?_
            refine jk_iload_n (q := 199) h dL_estimates_198 rfl rfl ?_
            refine jk_iload (q := 201) h dL_estimates_199 rfl rfl ?_
            refine jk_iload_n (q := 202) h dL_estimates_201 rfl rfl ?_
            refine jk_iload (q := 204) h dL_estimates_202 rfl rfl ?_
            refine jk_iconst (q := 205) h dL_estimates_204 rfl ?_
            refine jk_callV (q := 208) h hX (c_X9_both hW ⟨by omega, by omega⟩ ⟨by omega, by omega⟩ ⟨by omega, by omega⟩ ⟨by omega, by omega⟩ ⟨by omega, by omega⟩) mv_X9_both (hE.at 0 rfl) dL_estimates_205 ml_L_34 ⟨rfl, Nat.le_refl _⟩ rfl rfl (Nat.le_of_ble_eq_true rfl) (Nat.le_of_ble_eq_true rfl) rfl rfl (Nat.le_of_ble_eq_true rfl) rfl (fun v9 n9 M9 hp9 => ?_)
            obtain ⟨rfl, rfl, rfl⟩ := hp9
            refine jk_istore (q := 210) h dL_estimates_208 rfl (Nat.le_of_ble_eq_true rfl) rfl rfl ?_
            refine jk_iload (q := 212) h dL_estimates_210 rfl rfl ?_
            refine jk_if_eq (q := 215) (tgt := 271) h dL_estimates_212 (by decide) rfl ⟨by omega, by omega⟩ (fun c212 => ?_) (fun c212 => ?_)
            · omega
            · refine jk_iload (q := 217) h dL_estimates_215 rfl rfl ?_
              refine jk_if_lt (q := 220) (tgt := 271) h dL_estimates_217 (by decide) rfl ⟨by omega, by omega⟩ (fun c217 => ?_) (fun c217 => ?_)
              · omega
              · refine jk_aload_n (q := 221) h dL_estimates_220 rfl rfl ?_
                refine jk_iconst (q := 222) h dL_estimates_221 rfl ?_
                refine jk_bipush (q := 224) h dL_estimates_222 (by decide) rfl ?_
                refine jk_iconst (q := 225) h dL_estimates_224 rfl ?_
                refine jk_bipush (q := 227) h dL_estimates_225 (by decide) rfl ?_
                refine jk_iconst (q := 228) h dL_estimates_227 rfl ?_
                refine jk_callV (q := 231) h hX (c_X9_both hW ⟨by omega, by omega⟩ ⟨by omega, by omega⟩ ⟨by omega, by omega⟩ ⟨by omega, by omega⟩ ⟨by omega, by omega⟩) mv_X9_both (hE.at 0 rfl) dL_estimates_228 ml_L_34 ⟨rfl, Nat.le_refl _⟩ rfl rfl (Nat.le_of_ble_eq_true rfl) (Nat.le_of_ble_eq_true rfl) rfl rfl (Nat.le_of_ble_eq_true rfl) rfl (fun v9 n9 M9 hp9 => ?_)
                obtain ⟨rfl, rfl, rfl⟩ := hp9
                rw [ball]
                refine jk_aload_n (q := 232) h dL_estimates_231 rfl rfl ?_
                refine jk_iconst (q := 233) h dL_estimates_232 rfl ?_
                refine jk_callV (q := 236) h hX (c_X9_count hW ⟨by omega, by omega⟩) mv_X9_count (hE.at 0 rfl) dL_estimates_233 ml_L_15 ⟨rfl, Nat.le_refl _⟩ rfl rfl (Nat.le_of_ble_eq_true rfl) (Nat.le_of_ble_eq_true rfl) rfl rfl (Nat.le_of_ble_eq_true rfl) rfl (fun v9 n9 M9 hp9 => ?_)
                obtain ⟨r, rfl, rfl, rfl, hq9⟩ := hp9
                obtain rfl := cn_1 hq9
                refine jk_icmp_ne (q := 239) (tgt := 271) h dL_estimates_236 (by decide) rfl ⟨by omega, by omega⟩ ⟨by omega, by omega⟩ (fun c236 => ?_) (fun c236 => ?_)
                · omega
                · refine jk_aload_n (q := 240) h dL_estimates_239 rfl rfl ?_
                  refine jk_iload_n (q := 241) h dL_estimates_240 rfl rfl ?_
                  refine jk_iload (q := 243) h dL_estimates_241 rfl rfl ?_
                  refine jk_iconst (q := 244) h dL_estimates_243 rfl ?_
                  refine jk_bipush (q := 246) h dL_estimates_244 (by decide) rfl ?_
                  refine jk_iconst (q := 247) h dL_estimates_246 rfl ?_
                  refine jk_callV (q := 250) h hX (c_X9_both hW ⟨by omega, by omega⟩ ⟨by omega, by omega⟩ ⟨by omega, by omega⟩ ⟨by omega, by omega⟩ ⟨by omega, by omega⟩) mv_X9_both (hE.at 0 rfl) dL_estimates_247 ml_L_34 ⟨rfl, Nat.le_refl _⟩ rfl rfl (Nat.le_of_ble_eq_true rfl) (Nat.le_of_ble_eq_true rfl) rfl rfl (Nat.le_of_ble_eq_true rfl) rfl (fun v9 n9 M9 hp9 => ?_)
                  obtain ⟨rfl, rfl, rfl⟩ := hp9
                  rw [b1]
                  refine jk_iload (q := 252) h dL_estimates_250 rfl rfl ?_
                  refine jk_aload_n (q := 253) h dL_estimates_252 rfl rfl ?_
                  refine jk_iconst (q := 254) h dL_estimates_253 rfl ?_
                  refine jk_callV (q := 257) h hX (c_X9_count hW ⟨by omega, by omega⟩) mv_X9_count (hE.at 0 rfl) dL_estimates_254 ml_L_15 ⟨rfl, Nat.le_refl _⟩ rfl rfl (Nat.le_of_ble_eq_true rfl) (Nat.le_of_ble_eq_true rfl) rfl rfl (Nat.le_of_ble_eq_true rfl) rfl (fun v9 n9 M9 hp9 => ?_)
                  obtain ⟨r, rfl, rfl, rfl, hq9⟩ := hp9
                  obtain rfl := cn_0 hq9
                  refine jk_imul (q := 258) h dL_estimates_257 rfl ?_
                  refine jk_aload_n (q := 259) h dL_estimates_258 rfl rfl ?_
                  refine jk_iconst (q := 260) h dL_estimates_259 rfl ?_
                  refine jk_callV (q := 263) h hX (c_X9_count hW ⟨by omega, by omega⟩) mv_X9_count (hE.at 0 rfl) dL_estimates_260 ml_L_15 ⟨rfl, Nat.le_refl _⟩ rfl rfl (Nat.le_of_ble_eq_true rfl) (Nat.le_of_ble_eq_true rfl) rfl rfl (Nat.le_of_ble_eq_true rfl) rfl (fun v9 n9 M9 hp9 => ?_)
                  obtain ⟨r, rfl, rfl, rfl, hq9⟩ := hp9
                  obtain rfl := cn_1 hq9
                  refine jk_idiv (q := 264) h dL_estimates_263 hmul.1 (by omega) hp (by omega) rfl ?_
                  refine jk_icmp_ne (q := 267) (tgt := 271) h dL_estimates_264 (by decide) rfl ⟨by omega, by omega⟩ ⟨by omega, by omega⟩ (fun c264 => ?_) (fun c264 => ?_)
                  · exact absurd rfl c264
                  · refine jk_iconst (q := 268) h dL_estimates_267 rfl ?_
                    refine jk_goto (q := 271) (tgt := 272) h dL_estimates_268 (by decide) ?_
                    refine jk_istore (q := 274) h dL_estimates_272 rfl (Nat.le_of_ble_eq_true rfl) rfl rfl ?_
                    refine jk_iload (q := 276) h dL_estimates_274 rfl rfl ?_
                    refine jk_if_eq (q := 279) (tgt := 311) h dL_estimates_276 (by decide) rfl ⟨by omega, by omega⟩ (fun c276 => ?_) (fun c276 => ?_)
                    · omega
                    · refine jk_iload (q := 281) h dL_estimates_279 rfl rfl ?_
                      refine jk_aload_n (q := 282) h dL_estimates_281 rfl rfl ?_
                      refine jk_iconst (q := 283) h dL_estimates_282 rfl ?_
                      refine jk_iload_n (q := 284) h dL_estimates_283 rfl rfl ?_
                      refine jk_iload (q := 286) h dL_estimates_284 rfl rfl ?_
                      refine jk_iconst (q := 287) h dL_estimates_286 rfl ?_
                      refine jk_callV (q := 290) h hX (c_X9_estimate hW ⟨by omega, by omega⟩ ⟨by omega, by omega⟩ ⟨by omega, by omega⟩ ⟨by omega, by omega⟩) mv_X9_estimate (hE.at 0 rfl) dL_estimates_287 ml_L_9 ⟨rfl, Nat.le_refl _⟩ rfl rfl (Nat.le_of_ble_eq_true rfl) (Nat.le_of_ble_eq_true rfl) rfl rfl (Nat.le_of_ble_eq_true rfl) rfl (fun v9 n9 M9 hp9 => ?_)
                      obtain ⟨rfl, rfl, rfl⟩ := hp9
                      refine jk_icmp_gt (q := 293) (tgt := 311) h dL_estimates_290 (by decide) rfl ⟨by omega, by omega⟩ ⟨by omega, by omega⟩ (fun c290 => ?_) (fun c290 => ?_)
                      · omega
                      · refine jk_iload (q := 295) h dL_estimates_293 rfl rfl ?_
                        refine jk_aload_n (q := 296) h dL_estimates_295 rfl rfl ?_
                        refine jk_iconst (q := 297) h dL_estimates_296 rfl ?_
                        refine jk_iload_n (q := 298) h dL_estimates_297 rfl rfl ?_
                        refine jk_iload (q := 300) h dL_estimates_298 rfl rfl ?_
                        refine jk_iconst (q := 301) h dL_estimates_300 rfl ?_
                        refine jk_callV (q := 304) h hX (c_X9_estimate hW ⟨by omega, by omega⟩ ⟨by omega, by omega⟩ ⟨by omega, by omega⟩ ⟨by omega, by omega⟩) mv_X9_estimate (hE.at 0 rfl) dL_estimates_301 ml_L_9 ⟨rfl, Nat.le_refl _⟩ rfl rfl (Nat.le_of_ble_eq_true rfl) (Nat.le_of_ble_eq_true rfl) rfl rfl (Nat.le_of_ble_eq_true rfl) rfl (fun v9 n9 M9 hp9 => ?_)
                        obtain ⟨rfl, rfl, rfl⟩ := hp9
                        refine jk_icmp_gt (q := 307) (tgt := 311) h dL_estimates_304 (by decide) rfl ⟨by omega, by omega⟩ ⟨by omega, by omega⟩ (fun c304 => ?_) (fun c304 => ?_)
                        · omega
                        · refine jk_iconst (q := 308) h dL_estimates_307 rfl ?_
                          refine jk_goto (q := 311) (tgt := 312) h dL_estimates_308 (by decide) ?_
                          exact jk_zret h hR dL_estimates_312 (Nat.le_of_ble_eq_true rfl) (Nat.le_of_ble_eq_true rfl) (by first | exact Or.inl rfl | exact Or.inr rfl | omega) (jrd_of rfl)
          · refine jk_iload (q := 37) h dL_estimates_35 rfl rfl ?_
            refine jk_if_eq (q := 40) (tgt := 184) h dL_estimates_37 (by decide) rfl ⟨by omega, by omega⟩ (fun c37 => ?_) (fun c37 => ?_)
            · omega
            · have hcc : c = 0 ∨ c = 1 := by omega
              obtain ⟨h10, h12, h13, h14, h15⟩ := es_1 hg hx hp hcc hb
              have hmul := jmulb (x := estR x c f t 0) (y := x.2.1.2.2) (A := 60) (B := 60) (by omega) (by omega) hZ.1 hZ.2
              have hdv := jdivb hmul.1 hmul.2 hp
              refine jk_aload_n (q := 41) h dL_estimates_40 rfl rfl ?_
              refine jk_iload (q := 43) h dL_estimates_41 rfl rfl ?_
              refine jk_iload_n (q := 44) h dL_estimates_43 rfl rfl ?_
              refine jk_iload (q := 46) h dL_estimates_44 rfl rfl ?_
              refine jk_iconst (q := 47) h dL_estimates_46 rfl ?_
              refine jk_callV (q := 50) h hX (c_X9_estimate hW ⟨by omega, by omega⟩ ⟨by omega, by omega⟩ ⟨by omega, by omega⟩ ⟨by omega, by omega⟩) mv_X9_estimate (hE.at 0 rfl) dL_estimates_47 ml_L_9 ⟨rfl, Nat.le_refl _⟩ rfl rfl (Nat.le_of_ble_eq_true rfl) (Nat.le_of_ble_eq_true rfl) rfl rfl (Nat.le_of_ble_eq_true rfl) rfl (fun v9 n9 M9 hp9 => ?_)
              obtain ⟨rfl, rfl, rfl⟩ := hp9
              refine jk_istore (q := 52) h dL_estimates_50 rfl (Nat.le_of_ble_eq_true rfl) rfl rfl ?_
              refine jk_aload_n (q := 53) h dL_estimates_52 rfl rfl ?_
              refine jk_iload (q := 55) h dL_estimates_53 rfl rfl ?_
              refine jk_iload_n (q := 56) h dL_estimates_55 rfl rfl ?_
              refine jk_iload (q := 58) h dL_estimates_56 rfl rfl ?_
              refine jk_iconst (q := 59) h dL_estimates_58 rfl ?_
              refine jk_callV (q := 62) h hX (c_X9_estimate hW ⟨by omega, by omega⟩ ⟨by omega, by omega⟩ ⟨by omega, by omega⟩ ⟨by omega, by omega⟩) mv_X9_estimate (hE.at 0 rfl) dL_estimates_59 ml_L_9 ⟨rfl, Nat.le_refl _⟩ rfl rfl (Nat.le_of_ble_eq_true rfl) (Nat.le_of_ble_eq_true rfl) rfl rfl (Nat.le_of_ble_eq_true rfl) rfl (fun v9 n9 M9 hp9 => ?_)
              obtain ⟨rfl, rfl, rfl⟩ := hp9
              refine jk_istore (q := 64) h dL_estimates_62 rfl (Nat.le_of_ble_eq_true rfl) rfl rfl ?_
              refine jk_aload_n (q := 65) h dL_estimates_64 rfl rfl ?_
              refine jk_iload (q := 67) h dL_estimates_65 rfl rfl ?_
              refine jk_iload_n (q := 68) h dL_estimates_67 rfl rfl ?_
              refine jk_iload (q := 70) h dL_estimates_68 rfl rfl ?_
              refine jk_iconst (q := 71) h dL_estimates_70 rfl ?_
              refine jk_callV (q := 74) h hX (c_X9_estimate hW ⟨by omega, by omega⟩ ⟨by omega, by omega⟩ ⟨by omega, by omega⟩ ⟨by omega, by omega⟩) mv_X9_estimate (hE.at 0 rfl) dL_estimates_71 ml_L_9 ⟨rfl, Nat.le_refl _⟩ rfl rfl (Nat.le_of_ble_eq_true rfl) (Nat.le_of_ble_eq_true rfl) rfl rfl (Nat.le_of_ble_eq_true rfl) rfl (fun v9 n9 M9 hp9 => ?_)
              obtain ⟨rfl, rfl, rfl⟩ := hp9
              refine jk_iload (q := 76) h dL_estimates_74 rfl rfl ?_
              refine jk_icmp_gt (q := 79) (tgt := 125) h dL_estimates_76 (by decide) rfl ⟨by omega, by omega⟩ ⟨by omega, by omega⟩ (fun c76 => ?_) (fun c76 => ?_)
              · omega
              · refine jk_iload (q := 81) h dL_estimates_79 rfl rfl ?_
                refine jk_aload_n (q := 82) h dL_estimates_81 rfl rfl ?_
                refine jk_iload (q := 84) h dL_estimates_82 rfl rfl ?_
                refine jk_iload_n (q := 85) h dL_estimates_84 rfl rfl ?_
                refine jk_iload (q := 87) h dL_estimates_85 rfl rfl ?_
                refine jk_iconst (q := 88) h dL_estimates_87 rfl ?_
                refine jk_callV (q := 91) h hX (c_X9_estimate hW ⟨by omega, by omega⟩ ⟨by omega, by omega⟩ ⟨by omega, by omega⟩ ⟨by omega, by omega⟩) mv_X9_estimate (hE.at 0 rfl) dL_estimates_88 ml_L_9 ⟨rfl, Nat.le_refl _⟩ rfl rfl (Nat.le_of_ble_eq_true rfl) (Nat.le_of_ble_eq_true rfl) rfl rfl (Nat.le_of_ble_eq_true rfl) rfl (fun v9 n9 M9 hp9 => ?_)
                obtain ⟨rfl, rfl, rfl⟩ := hp9
                refine jk_icmp_gt (q := 94) (tgt := 125) h dL_estimates_91 (by decide) rfl ⟨by omega, by omega⟩ ⟨by omega, by omega⟩ (fun c91 => ?_) (fun c91 => ?_)
                · omega
                · refine jk_aload_n (q := 95) h dL_estimates_94 rfl rfl ?_
                  refine jk_iload (q := 97) h dL_estimates_95 rfl rfl ?_
                  refine jk_iload_n (q := 98) h dL_estimates_97 rfl rfl ?_
                  refine jk_iload (q := 100) h dL_estimates_98 rfl rfl ?_
                  refine jk_iconst (q := 101) h dL_estimates_100 rfl ?_
                  refine jk_callV (q := 104) h hX (c_X9_estimate hW ⟨by omega, by omega⟩ ⟨by omega, by omega⟩ ⟨by omega, by omega⟩ ⟨by omega, by omega⟩) mv_X9_estimate (hE.at 0 rfl) dL_estimates_101 ml_L_9 ⟨rfl, Nat.le_refl _⟩ rfl rfl (Nat.le_of_ble_eq_true rfl) (Nat.le_of_ble_eq_true rfl) rfl rfl (Nat.le_of_ble_eq_true rfl) rfl (fun v9 n9 M9 hp9 => ?_)
                  obtain ⟨rfl, rfl, rfl⟩ := hp9
                  rw [h13]
                  refine jk_iload (q := 106) h dL_estimates_104 rfl rfl ?_
                  refine jk_aload_n (q := 107) h dL_estimates_106 rfl rfl ?_
                  refine jk_iconst (q := 108) h dL_estimates_107 rfl ?_
                  refine jk_callV (q := 111) h hX (c_X9_count hW ⟨by omega, by omega⟩) mv_X9_count (hE.at 0 rfl) dL_estimates_108 ml_L_15 ⟨rfl, Nat.le_refl _⟩ rfl rfl (Nat.le_of_ble_eq_true rfl) (Nat.le_of_ble_eq_true rfl) rfl rfl (Nat.le_of_ble_eq_true rfl) rfl (fun v9 n9 M9 hp9 => ?_)
                  obtain ⟨r, rfl, rfl, rfl, hq9⟩ := hp9
                  obtain rfl := cn_0 hq9
                  refine jk_imul (q := 112) h dL_estimates_111 rfl ?_
                  refine jk_aload_n (q := 113) h dL_estimates_112 rfl rfl ?_
                  refine jk_iconst (q := 114) h dL_estimates_113 rfl ?_
                  refine jk_callV (q := 117) h hX (c_X9_count hW ⟨by omega, by omega⟩) mv_X9_count (hE.at 0 rfl) dL_estimates_114 ml_L_15 ⟨rfl, Nat.le_refl _⟩ rfl rfl (Nat.le_of_ble_eq_true rfl) (Nat.le_of_ble_eq_true rfl) rfl rfl (Nat.le_of_ble_eq_true rfl) rfl (fun v9 n9 M9 hp9 => ?_)
                  obtain ⟨r, rfl, rfl, rfl, hq9⟩ := hp9
                  obtain rfl := cn_1 hq9
                  refine jk_idiv (q := 118) h dL_estimates_117 hmul.1 (by omega) hp (by omega) rfl ?_
                  refine jk_icmp_ne (q := 121) (tgt := 125) h dL_estimates_118 (by decide) rfl ⟨by omega, by omega⟩ ⟨by omega, by omega⟩ (fun c118 => ?_) (fun c118 => ?_)
                  · exact absurd rfl c118
                  · refine jk_iconst (q := 122) h dL_estimates_121 rfl ?_
                    refine jk_goto (q := 125) (tgt := 126) h dL_estimates_122 (by decide) ?_
                    refine jk_istore (q := 128) h dL_estimates_126 rfl (Nat.le_of_ble_eq_true rfl) rfl rfl ?_
                    refine jk_iload (q := 130) h dL_estimates_128 rfl rfl ?_
                    refine jk_if_eq (q := 133) (tgt := 175) h dL_estimates_130 (by decide) rfl ⟨by omega, by omega⟩ (fun c130 => ?_) (fun c130 => ?_)
                    · omega
                    · refine jk_aload_n (q := 134) h dL_estimates_133 rfl rfl ?_
                      refine jk_iconst (q := 135) h dL_estimates_134 rfl ?_
                      refine jk_callV (q := 138) h hX (c_X9_count hW ⟨by omega, by omega⟩) mv_X9_count (hE.at 0 rfl) dL_estimates_135 ml_L_15 ⟨rfl, Nat.le_refl _⟩ rfl rfl (Nat.le_of_ble_eq_true rfl) (Nat.le_of_ble_eq_true rfl) rfl rfl (Nat.le_of_ble_eq_true rfl) rfl (fun v9 n9 M9 hp9 => ?_)
                      obtain ⟨r, rfl, rfl, rfl, hq9⟩ := hp9
                      obtain rfl := cn_2 hq9
                      refine jk_if_gt (q := 141) (tgt := 171) h dL_estimates_138 (by decide) rfl ⟨by omega, by omega⟩ (fun c138 => ?_) (fun c138 => ?_)
                      · refine jk_iconst (q := 172) h dL_estimates_171 rfl ?_
                        refine jk_goto (q := 175) (tgt := 176) h dL_estimates_172 (by decide) ?_
                        refine jk_istore (q := 178) h dL_estimates_176 rfl (Nat.le_of_ble_eq_true rfl) rfl rfl ?_
                        refine jk_iinc (q := 181) h dL_estimates_178 rfl rfl rfl rfl ?_
                        refine jk_goto (q := 184) (tgt := 29) h dL_estimates_181 (by decide) ?_
                        exact jk_weak (jwk_s rfl (jwk_s rfl (jwk_s rfl (jwk_s rfl (jwk_s rfl (jwk_s rfl (jwk_s rfl (jwk_n (jwk_n jwk_0))))))))) (ih29 _ (by omega) _ (by omega) rfl)
                      · have h16 := h15 (by omega)
                        refine jk_iload (q := 143) h dL_estimates_141 rfl rfl ?_
                        refine jk_aload_n (q := 144) h dL_estimates_143 rfl rfl ?_
                        refine jk_iload (q := 146) h dL_estimates_144 rfl rfl ?_
                        refine jk_iload_n (q := 147) h dL_estimates_146 rfl rfl ?_
                        refine jk_iload (q := 149) h dL_estimates_147 rfl rfl ?_
                        refine jk_iconst (q := 150) h dL_estimates_149 rfl ?_
                        refine jk_callV (q := 153) h hX (c_X9_estimate hW ⟨by omega, by omega⟩ ⟨by omega, by omega⟩ ⟨by omega, by omega⟩ ⟨by omega, by omega⟩) mv_X9_estimate (hE.at 0 rfl) dL_estimates_150 ml_L_9 ⟨rfl, Nat.le_refl _⟩ rfl rfl (Nat.le_of_ble_eq_true rfl) (Nat.le_of_ble_eq_true rfl) rfl rfl (Nat.le_of_ble_eq_true rfl) rfl (fun v9 n9 M9 hp9 => ?_)
                        obtain ⟨rfl, rfl, rfl⟩ := hp9
                        refine jk_icmp_lt (q := 156) (tgt := 175) h dL_estimates_153 (by decide) rfl ⟨by omega, by omega⟩ ⟨by omega, by omega⟩ (fun c153 => ?_) (fun c153 => ?_)
                        · omega
                        · refine jk_iload (q := 158) h dL_estimates_156 rfl rfl ?_
                          refine jk_aload_n (q := 159) h dL_estimates_158 rfl rfl ?_
                          refine jk_iload (q := 161) h dL_estimates_159 rfl rfl ?_
                          refine jk_iload_n (q := 162) h dL_estimates_161 rfl rfl ?_
                          refine jk_iload (q := 164) h dL_estimates_162 rfl rfl ?_
                          refine jk_iconst (q := 165) h dL_estimates_164 rfl ?_
                          refine jk_callV (q := 168) h hX (c_X9_estimate hW ⟨by omega, by omega⟩ ⟨by omega, by omega⟩ ⟨by omega, by omega⟩ ⟨by omega, by omega⟩) mv_X9_estimate (hE.at 0 rfl) dL_estimates_165 ml_L_9 ⟨rfl, Nat.le_refl _⟩ rfl rfl (Nat.le_of_ble_eq_true rfl) (Nat.le_of_ble_eq_true rfl) rfl rfl (Nat.le_of_ble_eq_true rfl) rfl (fun v9 n9 M9 hp9 => ?_)
                          obtain ⟨rfl, rfl, rfl⟩ := hp9
                          refine jk_icmp_gt (q := 171) (tgt := 175) h dL_estimates_168 (by decide) rfl ⟨by omega, by omega⟩ ⟨by omega, by omega⟩ (fun c168 => ?_) (fun c168 => ?_)
                          · omega
                          · refine jk_iconst (q := 172) h dL_estimates_171 rfl ?_
                            refine jk_goto (q := 175) (tgt := 176) h dL_estimates_172 (by decide) ?_
                            refine jk_istore (q := 178) h dL_estimates_176 rfl (Nat.le_of_ble_eq_true rfl) rfl rfl ?_
                            refine jk_iinc (q := 181) h dL_estimates_178 rfl rfl rfl rfl ?_
                            refine jk_goto (q := 184) (tgt := 29) h dL_estimates_181 (by decide) ?_
                            exact jk_weak (jwk_s rfl (jwk_s rfl (jwk_s rfl (jwk_s rfl (jwk_s rfl (jwk_s rfl (jwk_s rfl (jwk_n (jwk_n jwk_0))))))))) (ih29 _ (by omega) _ (by omega) rfl)
      exact jk_weak (jwk_s rfl (jwk_s rfl (jwk_s rfl (jwk_s rfl (jwk_s rfl (jwk_s rfl (jwk_s rfl (jwk_n (jwk_n jwk_0))))))))) (lp29 _ 0 (by omega) rfl)
    refine jk_iload_n (q := 12) h dL_estimates_11 rfl rfl ?_
    refine jk_iload_n (q := 13) h dL_estimates_12 rfl rfl ?_
    refine jk_icmp_ge (q := 16) (tgt := 20) h dL_estimates_13 (by decide) rfl ⟨by omega, by omega⟩ ⟨by omega, by omega⟩ (fun c13 => ?_) (fun c13 => ?_)
    · refine jk_iload_n (q := 21) h dL_estimates_20 rfl rfl ?_
      exact jk_weak (jwk_s rfl (jwk_s rfl (jwk_s rfl (jwk_s rfl (jwk_n (jwk_n (jwk_n (jwk_n (jwk_n jwk_0))))))))) (jn21 _ (by omega))
    · refine jk_iload_n (q := 17) h dL_estimates_16 rfl rfl ?_
      refine jk_goto (q := 20) (tgt := 21) h dL_estimates_17 (by decide) ?_
      exact jk_weak (jwk_s rfl (jwk_s rfl (jwk_s rfl (jwk_s rfl (jwk_n (jwk_n (jwk_n (jwk_n (jwk_n jwk_0))))))))) (jn21 _ (by omega))
  refine jk_iload_n (q := 1) h dL_estimates_0 rfl rfl ?_
  refine jk_iload_n (q := 2) h dL_estimates_1 rfl rfl ?_
  refine jk_icmp_ge (q := 5) (tgt := 9) h dL_estimates_2 (by decide) rfl ⟨by omega, by omega⟩ ⟨by omega, by omega⟩ (fun c2 => ?_) (fun c2 => ?_)
  · refine jk_iload_n (q := 10) h dL_estimates_9 rfl rfl ?_
    exact jk_weak (jwk_s rfl (jwk_s rfl (jwk_s rfl (jwk_n (jwk_n (jwk_n (jwk_n (jwk_n (jwk_n jwk_0))))))))) (jn10 _ (by omega))
  · refine jk_iload_n (q := 6) h dL_estimates_5 rfl rfl ?_
    refine jk_goto (q := 9) (tgt := 10) h dL_estimates_6 (by decide) ?_
    exact jk_weak (jwk_s rfl (jwk_s rfl (jwk_s rfl (jwk_n (jwk_n (jwk_n (jwk_n (jwk_n (jwk_n jwk_0))))))))) (jn10 _ (by omega))
