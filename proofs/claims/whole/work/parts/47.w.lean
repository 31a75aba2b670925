/-! the law: each call of both answers the same -/
set_option maxHeartbeats 4000000 in
set_option maxRecDepth 100000 in
theorem lq_0 {X : jX} {nm : String} {l : Launch} {D : va_G} {b0 b L : Nat} {xs : Nat → Int32} (h : jB X cL_law RL nm ret room_1) (hX : jF X l D b0) (hs : jS X b L xs) (hL : L ≤ 3072) {e n k : Nat} {M : jM} {i : Int} (hi0 : 0 ≤ i) (hi6 : i + 6 ≤ L) (hk : k < 512) {x : TS} {hl : Int} {hk9 : Nat → TS} {sl : Nat → Option TS} {sg : Nat → Int} {len : Int} (hG : lgW M n e x hl hk9 sl sg len k) (kk : lgK X b e i k) : jJ X 136 (lgL b e i) [] n M (50 + 26 * k) (5662 + 479 * k) := by
  obtain ⟨hW, hV, hI⟩ := id hG
  have hcc : x.2.2.1.2 ≤ 9990000 := by { have h2 := hI.1.2; omega }
  have hQ := hW.qs.1
  have hE := hW.ob
  refine jk_aload_n (q := 137) h dL_law_136 rfl rfl ?_
  refine jk_aload_n (q := 138) h dL_law_137 rfl rfl ?_
  refine jk_iload_n (q := 139) h dL_law_138 rfl rfl ?_
  refine jk_iconst (q := 140) h dL_law_139 rfl ?_
  refine jk_iadd (q := 141) h dL_law_140 rfl ?_
  refine jk_sld (q := 142) h hs (by omega) (by omega) hL dL_law_141 rfl ?_
  refine jk_aload_n (q := 143) h dL_law_142 rfl rfl ?_
  refine jk_iload_n (q := 144) h dL_law_143 rfl rfl ?_
  refine jk_iconst (q := 145) h dL_law_144 rfl ?_
  refine jk_iadd (q := 146) h dL_law_145 rfl ?_
  refine jk_sld (q := 147) h hs (by omega) (by omega) hL dL_law_146 rfl ?_
  refine jk_callV (q := 150) h hX (c_X9_set hW (jRng_of _) (jRng_of _)) mv_X9_set (hE.at 0 rfl) dL_law_147 ml_L_13 ⟨rfl, by decide⟩ rfl rfl (by show _ ≤ (600000 : Nat); omega) (by show _ ≤ (7302250 : Nat); omega) rfl rfl (Nat.le_of_ble_eq_true rfl) rfl (fun v9 n9 M_1 hp9 => ?_)
  obtain ⟨r, x2, rfl, hn1, hn2, hW, hsp, hj9⟩ := hp9
  have hV := hV.lo hj9 (by omega) (by omega)
  obtain ⟨fs9, hMr⟩ := hV.rcv
  have hM : jPic _ (e + 41) [.inr (9, fs9)] := jPic_c hMr
  refine jk_aload_n (q := 151) h dL_law_150 rfl rfl ?_
  refine jk_aload_n (q := 152) h dL_law_151 rfl rfl ?_
  refine jk_iload_n (q := 153) h dL_law_152 rfl rfl ?_
  refine jk_iconst (q := 154) h dL_law_153 rfl ?_
  refine jk_iadd (q := 155) h dL_law_154 rfl ?_
  refine jk_sld (q := 156) h hs (by omega) (by omega) hL dL_law_155 rfl ?_
  refine jk_aload_n (q := 157) h dL_law_156 rfl rfl ?_
  refine jk_iload_n (q := 158) h dL_law_157 rfl rfl ?_
  refine jk_iconst (q := 159) h dL_law_158 rfl ?_
  refine jk_iadd (q := 160) h dL_law_159 rfl ?_
  refine jk_sld (q := 161) h hs (by omega) (by omega) hL dL_law_160 rfl ?_
  refine jk_callV (q := 164) h hX (c_X10_set hV (jRng_of _) (jRng_of _) hsp) mv_X10_set (hM.at 0 rfl) dL_law_161 ml_L_17 ⟨rfl, by decide⟩ rfl rfl (by show _ ≤ (600000 : Nat); omega) (by show _ ≤ (7302250 : Nat); omega) rfl rfl (Nat.le_of_ble_eq_true rfl) rfl (fun v9 n9 M_2 hp9 => ?_)
  obtain ⟨rfl, rfl, hV, ho9⟩ := hp9
  have hW := hW.keepm ho9 (by omega) (by omega)
  refine jk_icmp_same (tgt := 813) h dL_law_164 (by decide) ?_
  exact jk_wid (by omega) (by omega) (kk _ _ _ _ _ _ _ _ ⟨hW, hV, hI.rc (hI.1.ch hsp)⟩)

set_option maxHeartbeats 4000000 in
set_option maxRecDepth 100000 in
theorem lq_1 {X : jX} {nm : String} {l : Launch} {D : va_G} {b0 b L : Nat} {xs : Nat → Int32} (h : jB X cL_law RL nm ret room_1) (hX : jF X l D b0) (hs : jS X b L xs) (hL : L ≤ 3072) {e n k : Nat} {M : jM} {i : Int} (hi0 : 0 ≤ i) (hi6 : i + 6 ≤ L) (hk : k < 512) {x : TS} {hl : Int} {hk9 : Nat → TS} {sl : Nat → Option TS} {sg : Nat → Int} {len : Int} (hG : lgW M n e x hl hk9 sl sg len k) (kk : lgK X b e i k) : jJ X 169 (lgL b e i) [] n M (50 + 26 * k) (5662 + 479 * k) := by
  obtain ⟨hW, hV, hI⟩ := id hG
  have hcc : x.2.2.1.2 ≤ 9990000 := by { have h2 := hI.1.2; omega }
  have hQ := hW.qs.1
  have hE := hW.ob
  refine jk_aload_n (q := 170) h dL_law_169 rfl rfl ?_
  refine jk_aload_n (q := 171) h dL_law_170 rfl rfl ?_
  refine jk_iload_n (q := 172) h dL_law_171 rfl rfl ?_
  refine jk_iconst (q := 173) h dL_law_172 rfl ?_
  refine jk_iadd (q := 174) h dL_law_173 rfl ?_
  refine jk_sld (q := 175) h hs (by omega) (by omega) hL dL_law_174 rfl ?_
  refine jk_aload_n (q := 176) h dL_law_175 rfl rfl ?_
  refine jk_iload_n (q := 177) h dL_law_176 rfl rfl ?_
  refine jk_iconst (q := 178) h dL_law_177 rfl ?_
  refine jk_iadd (q := 179) h dL_law_178 rfl ?_
  refine jk_sld (q := 180) h hs (by omega) (by omega) hL dL_law_179 rfl ?_
  refine jk_callV (q := 183) h hX (c_X9_insert hW (jRng_of _) (jRng_of _) (by omega)) mv_X9_insert (hE.at 0 rfl) dL_law_180 ml_L_18 ⟨rfl, by decide⟩ rfl rfl (by show _ ≤ (600000 : Nat); omega) (by show _ ≤ (7302250 : Nat); omega) rfl rfl (Nat.le_of_ble_eq_true rfl) rfl (fun v9 n9 M_1 hp9 => ?_)
  obtain ⟨r, x2, rfl, hn1, hn2, hW, hsp, hj9⟩ := hp9
  have hV := hV.lo hj9 (by omega) (by omega)
  obtain ⟨fs9, hMr⟩ := hV.rcv
  have hM : jPic _ (e + 41) [.inr (9, fs9)] := jPic_c hMr
  refine jk_aload_n (q := 184) h dL_law_183 rfl rfl ?_
  refine jk_aload_n (q := 185) h dL_law_184 rfl rfl ?_
  refine jk_iload_n (q := 186) h dL_law_185 rfl rfl ?_
  refine jk_iconst (q := 187) h dL_law_186 rfl ?_
  refine jk_iadd (q := 188) h dL_law_187 rfl ?_
  refine jk_sld (q := 189) h hs (by omega) (by omega) hL dL_law_188 rfl ?_
  refine jk_aload_n (q := 190) h dL_law_189 rfl rfl ?_
  refine jk_iload_n (q := 191) h dL_law_190 rfl rfl ?_
  refine jk_iconst (q := 192) h dL_law_191 rfl ?_
  refine jk_iadd (q := 193) h dL_law_192 rfl ?_
  refine jk_sld (q := 194) h hs (by omega) (by omega) hL dL_law_193 rfl ?_
  refine jk_callV (q := 197) h hX (c_X10_insert hV (jRng_of _) (jRng_of _) hsp hW.qs.1) mv_X10_insert (hM.at 0 rfl) dL_law_194 ml_L_21 ⟨rfl, by decide⟩ rfl rfl (by show _ ≤ (600000 : Nat); omega) (by show _ ≤ (7302250 : Nat); omega) rfl rfl (Nat.le_of_ble_eq_true rfl) rfl (fun v9 n9 M_2 hp9 => ?_)
  obtain ⟨rfl, rfl, hV, ho9⟩ := hp9
  have hW := hW.keepm ho9 (by omega) (by omega)
  refine jk_icmp_same (tgt := 813) h dL_law_197 (by decide) ?_
  exact jk_wid (by omega) (by omega) (kk _ _ _ _ _ _ _ _ ⟨hW, hV, hI.rc (hI.1.ad hsp)⟩)

set_option maxHeartbeats 4000000 in
set_option maxRecDepth 100000 in
theorem lq_2 {X : jX} {nm : String} {l : Launch} {D : va_G} {b0 b L : Nat} {xs : Nat → Int32} (h : jB X cL_law RL nm ret room_1) (hX : jF X l D b0) (hs : jS X b L xs) (hL : L ≤ 3072) {e n k : Nat} {M : jM} {i : Int} (hi0 : 0 ≤ i) (hi6 : i + 6 ≤ L) (hk : k < 512) {x : TS} {hl : Int} {hk9 : Nat → TS} {sl : Nat → Option TS} {sg : Nat → Int} {len : Int} (hG : lgW M n e x hl hk9 sl sg len k) (kk : lgK X b e i k) : jJ X 202 (lgL b e i) [] n M (50 + 26 * k) (5662 + 479 * k) := by
  obtain ⟨hW, hV, hI⟩ := id hG
  have hcc : x.2.2.1.2 ≤ 9990000 := by { have h2 := hI.1.2; omega }
  have hQ := hW.qs.1
  have hE := hW.ob
  refine jk_aload_n (q := 203) h dL_law_202 rfl rfl ?_
  refine jk_aload_n (q := 204) h dL_law_203 rfl rfl ?_
  refine jk_iload_n (q := 205) h dL_law_204 rfl rfl ?_
  refine jk_iconst (q := 206) h dL_law_205 rfl ?_
  refine jk_iadd (q := 207) h dL_law_206 rfl ?_
  refine jk_sld (q := 208) h hs (by omega) (by omega) hL dL_law_207 rfl ?_
  refine jk_callV (q := 211) h hX (c_X9_remove hW (jRng_of _) (by omega)) mv_X9_remove (hE.at 0 rfl) dL_law_208 ml_L_22 ⟨rfl, by decide⟩ rfl rfl (by show _ ≤ (600000 : Nat); omega) (by show _ ≤ (7302250 : Nat); omega) rfl rfl (Nat.le_of_ble_eq_true rfl) rfl (fun v9 n9 M_1 hp9 => ?_)
  obtain ⟨r, x2, rfl, hn1, hn2, hW, hsp, hj9⟩ := hp9
  have hV := hV.lo hj9 (by omega) (by omega)
  obtain ⟨fs9, hMr⟩ := hV.rcv
  have hM : jPic _ (e + 41) [.inr (9, fs9)] := jPic_c hMr
  refine jk_aload_n (q := 212) h dL_law_211 rfl rfl ?_
  refine jk_aload_n (q := 213) h dL_law_212 rfl rfl ?_
  refine jk_iload_n (q := 214) h dL_law_213 rfl rfl ?_
  refine jk_iconst (q := 215) h dL_law_214 rfl ?_
  refine jk_iadd (q := 216) h dL_law_215 rfl ?_
  refine jk_sld (q := 217) h hs (by omega) (by omega) hL dL_law_216 rfl ?_
  refine jk_callV (q := 220) h hX (c_X10_remove hV (jRng_of _) hsp hW.qs.1) mv_X10_remove (hM.at 0 rfl) dL_law_217 ml_L_26 ⟨rfl, by decide⟩ rfl rfl (by show _ ≤ (600000 : Nat); omega) (by show _ ≤ (7302250 : Nat); omega) rfl rfl (Nat.le_of_ble_eq_true rfl) rfl (fun v9 n9 M_2 hp9 => ?_)
  obtain ⟨rfl, rfl, hV, ho9⟩ := hp9
  have hW := hW.keepm ho9 (by omega) (by omega)
  refine jk_icmp_same (tgt := 813) h dL_law_220 (by decide) ?_
  exact jk_wid (by omega) (by omega) (kk _ _ _ _ _ _ _ _ ⟨hW, hV, hI.rc (hI.1.dr hsp)⟩)

set_option maxHeartbeats 4000000 in
set_option maxRecDepth 100000 in
theorem lq_3 {X : jX} {nm : String} {l : Launch} {D : va_G} {b0 b L : Nat} {xs : Nat → Int32} (h : jB X cL_law RL nm ret room_1) (hX : jF X l D b0) (hs : jS X b L xs) (hL : L ≤ 3072) {e n k : Nat} {M : jM} {i : Int} (hi0 : 0 ≤ i) (hi6 : i + 6 ≤ L) (hk : k < 512) {x : TS} {hl : Int} {hk9 : Nat → TS} {sl : Nat → Option TS} {sg : Nat → Int} {len : Int} (hG : lgW M n e x hl hk9 sl sg len k) (kk : lgK X b e i k) : jJ X 225 (lgL b e i) [] n M (50 + 26 * k) (5662 + 479 * k) := by
  obtain ⟨hW, hV, hI⟩ := id hG
  have hcc : x.2.2.1.2 ≤ 9990000 := by { have h2 := hI.1.2; omega }
  have hQ := hW.qs.1
  have hE := hW.ob
  refine jk_aload_n (q := 226) h dL_law_225 rfl rfl ?_
  refine jk_callV (q := 229) h hX (c_X9_analyse hW ) mv_X9_analyse (hE.at 0 rfl) dL_law_226 ml_L_27 ⟨rfl, by decide⟩ rfl rfl (by show _ ≤ (600000 : Nat); omega) (by show _ ≤ (7302250 : Nat); omega) rfl rfl (Nat.le_of_ble_eq_true rfl) rfl (fun v9 n9 M_1 hp9 => ?_)
  obtain ⟨r, x2, rfl, hn1, hn2, hW, hsp, hj9⟩ := hp9
  have hV := hV.lo hj9 (by omega) (by omega)
  obtain ⟨fs9, hMr⟩ := hV.rcv
  have hM : jPic _ (e + 41) [.inr (9, fs9)] := jPic_c hMr
  refine jk_aload_n (q := 230) h dL_law_229 rfl rfl ?_
  refine jk_callV (q := 233) h hX (c_X10_analyse hV  hsp hW.qs.1) mv_X10_analyse (hM.at 0 rfl) dL_law_230 ml_L_31 ⟨rfl, by decide⟩ rfl rfl (by show _ ≤ (600000 : Nat); omega) (by show _ ≤ (7302250 : Nat); omega) rfl rfl (Nat.le_of_ble_eq_true rfl) rfl (fun v9 n9 M_2 hp9 => ?_)
  obtain ⟨rfl, rfl, hV, ho9⟩ := hp9
  have hW := hW.keepm ho9 (by omega) (by omega)
  refine jk_icmp_same (tgt := 813) h dL_law_233 (by decide) ?_
  exact jk_wid (by omega) (by omega) (kk _ _ _ _ _ _ _ _ ⟨hW, hV, hI.rc (hI.1.an hQ hsp)⟩)

set_option maxHeartbeats 4000000 in
set_option maxRecDepth 100000 in
theorem lq_4 {X : jX} {nm : String} {l : Launch} {D : va_G} {b0 b L : Nat} {xs : Nat → Int32} (h : jB X cL_law RL nm ret room_1) (hX : jF X l D b0) (hs : jS X b L xs) (hL : L ≤ 3072) {e n k : Nat} {M : jM} {i : Int} (hi0 : 0 ≤ i) (hi6 : i + 6 ≤ L) (hk : k < 512) {x : TS} {hl : Int} {hk9 : Nat → TS} {sl : Nat → Option TS} {sg : Nat → Int} {len : Int} (hG : lgW M n e x hl hk9 sl sg len k) (kk : lgK X b e i k) : jJ X 238 (lgL b e i) [] n M (50 + 26 * k) (5662 + 479 * k) := by
  obtain ⟨hW, hV, hI⟩ := id hG
  have hcc : x.2.2.1.2 ≤ 9990000 := by { have h2 := hI.1.2; omega }
  have hQ := hW.qs.1
  have hE := hW.ob
  obtain ⟨σ, τ, ps, sv, hd, pd, a9, od, on, lf, hM, hm, hQm, hh9, hsl9, hpd9, hkp, hpQ⟩ := id hV
  refine jk_aload_n (q := 239) h dL_law_238 rfl rfl ?_
  refine jk_aload_n (q := 240) h dL_law_239 rfl rfl ?_
  refine jk_iload_n (q := 241) h dL_law_240 rfl rfl ?_
  refine jk_iconst (q := 242) h dL_law_241 rfl ?_
  refine jk_iadd (q := 243) h dL_law_242 rfl ?_
  refine jk_sld (q := 244) h hs (by omega) (by omega) hL dL_law_243 rfl ?_
  refine jk_aload_n (q := 245) h dL_law_244 rfl rfl ?_
  refine jk_iload_n (q := 246) h dL_law_245 rfl rfl ?_
  refine jk_iconst (q := 247) h dL_law_246 rfl ?_
  refine jk_iadd (q := 248) h dL_law_247 rfl ?_
  refine jk_sld (q := 249) h hs (by omega) (by omega) hL dL_law_248 rfl ?_
  refine jk_callV (q := 252) h hX (c_X9_row hW (jRng_of _) (jRng_of _)) mv_X9_row (hE.at 0 rfl) dL_law_249 ml_L_32 ⟨rfl, by decide⟩ rfl rfl (by show _ ≤ (600000 : Nat); omega) (by show _ ≤ (7302250 : Nat); omega) rfl rfl (Nat.le_of_ble_eq_true rfl) rfl (fun v9 n9 M9 hp9 => ?_)
  obtain ⟨rfl, rfl, rfl⟩ := hp9
  refine jk_aload_n (q := 253) h dL_law_252 rfl rfl ?_
  refine jk_aload_n (q := 254) h dL_law_253 rfl rfl ?_
  refine jk_iload_n (q := 255) h dL_law_254 rfl rfl ?_
  refine jk_iconst (q := 256) h dL_law_255 rfl ?_
  refine jk_iadd (q := 257) h dL_law_256 rfl ?_
  refine jk_sld (q := 258) h hs (by omega) (by omega) hL dL_law_257 rfl ?_
  refine jk_aload_n (q := 259) h dL_law_258 rfl rfl ?_
  refine jk_iload_n (q := 260) h dL_law_259 rfl rfl ?_
  refine jk_iconst (q := 261) h dL_law_260 rfl ?_
  refine jk_iadd (q := 262) h dL_law_261 rfl ?_
  refine jk_sld (q := 263) h hs (by omega) (by omega) hL dL_law_262 rfl ?_
  refine jk_callV (q := 266) h hX (c_X10_row hM hm hQm (jRng_of _) (jRng_of _)) mv_X10_row (hM.at 0 rfl) dL_law_263 ml_L_35 ⟨rfl, by decide⟩ rfl rfl (by show _ ≤ (600000 : Nat); omega) (by show _ ≤ (7302250 : Nat); omega) rfl rfl (Nat.le_of_ble_eq_true rfl) rfl (fun v9 n9 M9 hp9 => ?_)
  obtain ⟨rfl, rfl, rfl⟩ := hp9
  refine jk_icmp_same (tgt := 813) h dL_law_266 (by decide) ?_
  exact jk_wid (by omega) (by omega) (kk _ _ _ _ _ _ _ _ ⟨hW, hV, hI.up⟩)

set_option maxHeartbeats 4000000 in
set_option maxRecDepth 100000 in
theorem lq_5 {X : jX} {nm : String} {l : Launch} {D : va_G} {b0 b L : Nat} {xs : Nat → Int32} (h : jB X cL_law RL nm ret room_1) (hX : jF X l D b0) (hs : jS X b L xs) (hL : L ≤ 3072) {e n k : Nat} {M : jM} {i : Int} (hi0 : 0 ≤ i) (hi6 : i + 6 ≤ L) (hk : k < 512) {x : TS} {hl : Int} {hk9 : Nat → TS} {sl : Nat → Option TS} {sg : Nat → Int} {len : Int} (hG : lgW M n e x hl hk9 sl sg len k) (kk : lgK X b e i k) : jJ X 271 (lgL b e i) [] n M (50 + 26 * k) (5662 + 479 * k) := by
  obtain ⟨hW, hV, hI⟩ := id hG
  have hcc : x.2.2.1.2 ≤ 9990000 := by { have h2 := hI.1.2; omega }
  have hQ := hW.qs.1
  have hE := hW.ob
  obtain ⟨σ, τ, ps, sv, hd, pd, a9, od, on, lf, hM, hm, hQm, hh9, hsl9, hpd9, hkp, hpQ⟩ := id hV
  refine jk_aload_n (q := 272) h dL_law_271 rfl rfl ?_
  refine jk_aload_n (q := 273) h dL_law_272 rfl rfl ?_
  refine jk_iload_n (q := 274) h dL_law_273 rfl rfl ?_
  refine jk_iconst (q := 275) h dL_law_274 rfl ?_
  refine jk_iadd (q := 276) h dL_law_275 rfl ?_
  refine jk_sld (q := 277) h hs (by omega) (by omega) hL dL_law_276 rfl ?_
  refine jk_aload_n (q := 278) h dL_law_277 rfl rfl ?_
  refine jk_iload_n (q := 279) h dL_law_278 rfl rfl ?_
  refine jk_iconst (q := 280) h dL_law_279 rfl ?_
  refine jk_iadd (q := 281) h dL_law_280 rfl ?_
  refine jk_sld (q := 282) h hs (by omega) (by omega) hL dL_law_281 rfl ?_
  refine jk_aload_n (q := 283) h dL_law_282 rfl rfl ?_
  refine jk_iload_n (q := 284) h dL_law_283 rfl rfl ?_
  refine jk_iconst (q := 285) h dL_law_284 rfl ?_
  refine jk_iadd (q := 286) h dL_law_285 rfl ?_
  refine jk_sld (q := 287) h hs (by omega) (by omega) hL dL_law_286 rfl ?_
  refine jk_callV (q := 290) h hX (c_X9_bucket hW (jRng_of _) (jRng_of _) (jRng_of _)) mv_X9_bucket (hE.at 0 rfl) dL_law_287 ml_L_36 ⟨rfl, by decide⟩ rfl rfl (by show _ ≤ (600000 : Nat); omega) (by show _ ≤ (7302250 : Nat); omega) rfl rfl (Nat.le_of_ble_eq_true rfl) rfl (fun v9 n9 M9 hp9 => ?_)
  obtain ⟨rfl, rfl, rfl⟩ := hp9
  refine jk_aload_n (q := 291) h dL_law_290 rfl rfl ?_
  refine jk_aload_n (q := 292) h dL_law_291 rfl rfl ?_
  refine jk_iload_n (q := 293) h dL_law_292 rfl rfl ?_
  refine jk_iconst (q := 294) h dL_law_293 rfl ?_
  refine jk_iadd (q := 295) h dL_law_294 rfl ?_
  refine jk_sld (q := 296) h hs (by omega) (by omega) hL dL_law_295 rfl ?_
  refine jk_aload_n (q := 297) h dL_law_296 rfl rfl ?_
  refine jk_iload_n (q := 298) h dL_law_297 rfl rfl ?_
  refine jk_iconst (q := 299) h dL_law_298 rfl ?_
  refine jk_iadd (q := 300) h dL_law_299 rfl ?_
  refine jk_sld (q := 301) h hs (by omega) (by omega) hL dL_law_300 rfl ?_
  refine jk_aload_n (q := 302) h dL_law_301 rfl rfl ?_
  refine jk_iload_n (q := 303) h dL_law_302 rfl rfl ?_
  refine jk_iconst (q := 304) h dL_law_303 rfl ?_
  refine jk_iadd (q := 305) h dL_law_304 rfl ?_
  refine jk_sld (q := 306) h hs (by omega) (by omega) hL dL_law_305 rfl ?_
  refine jk_callV (q := 309) h hX (c_X10_bucket hM hm hQm (jRng_of _) (jRng_of _) (jRng_of _)) mv_X10_bucket (hM.at 0 rfl) dL_law_306 ml_L_40 ⟨rfl, by decide⟩ rfl rfl (by show _ ≤ (600000 : Nat); omega) (by show _ ≤ (7302250 : Nat); omega) rfl rfl (Nat.le_of_ble_eq_true rfl) rfl (fun v9 n9 M9 hp9 => ?_)
  obtain ⟨rfl, rfl, rfl⟩ := hp9
  refine jk_icmp_same (tgt := 813) h dL_law_309 (by decide) ?_
  exact jk_wid (by omega) (by omega) (kk _ _ _ _ _ _ _ _ ⟨hW, hV, hI.up⟩)

set_option maxHeartbeats 4000000 in
set_option maxRecDepth 100000 in
theorem lq_6 {X : jX} {nm : String} {l : Launch} {D : va_G} {b0 b L : Nat} {xs : Nat → Int32} (h : jB X cL_law RL nm ret room_1) (hX : jF X l D b0) (hs : jS X b L xs) (hL : L ≤ 3072) {e n k : Nat} {M : jM} {i : Int} (hi0 : 0 ≤ i) (hi6 : i + 6 ≤ L) (hk : k < 512) {x : TS} {hl : Int} {hk9 : Nat → TS} {sl : Nat → Option TS} {sg : Nat → Int} {len : Int} (hG : lgW M n e x hl hk9 sl sg len k) (kk : lgK X b e i k) : jJ X 314 (lgL b e i) [] n M (50 + 26 * k) (5662 + 479 * k) := by
  obtain ⟨hW, hV, hI⟩ := id hG
  have hcc : x.2.2.1.2 ≤ 9990000 := by { have h2 := hI.1.2; omega }
  have hQ := hW.qs.1
  have hE := hW.ob
  obtain ⟨σ, τ, ps, sv, hd, pd, a9, od, on, lf, hM, hm, hQm, hh9, hsl9, hpd9, hkp, hpQ⟩ := id hV
  refine jk_aload_n (q := 315) h dL_law_314 rfl rfl ?_
  refine jk_aload_n (q := 316) h dL_law_315 rfl rfl ?_
  refine jk_iload_n (q := 317) h dL_law_316 rfl rfl ?_
  refine jk_iconst (q := 318) h dL_law_317 rfl ?_
  refine jk_iadd (q := 319) h dL_law_318 rfl ?_
  refine jk_sld (q := 320) h hs (by omega) (by omega) hL dL_law_319 rfl ?_
  refine jk_aload_n (q := 321) h dL_law_320 rfl rfl ?_
  refine jk_iload_n (q := 322) h dL_law_321 rfl rfl ?_
  refine jk_iconst (q := 323) h dL_law_322 rfl ?_
  refine jk_iadd (q := 324) h dL_law_323 rfl ?_
  refine jk_sld (q := 325) h hs (by omega) (by omega) hL dL_law_324 rfl ?_
  refine jk_aload_n (q := 326) h dL_law_325 rfl rfl ?_
  refine jk_iload_n (q := 327) h dL_law_326 rfl rfl ?_
  refine jk_iconst (q := 328) h dL_law_327 rfl ?_
  refine jk_iadd (q := 329) h dL_law_328 rfl ?_
  refine jk_sld (q := 330) h hs (by omega) (by omega) hL dL_law_329 rfl ?_
  refine jk_callV (q := 333) h hX (c_X9_common hW (jRng_of _) (jRng_of _) (jRng_of _)) mv_X9_common (hE.at 0 rfl) dL_law_330 ml_L_41 ⟨rfl, by decide⟩ rfl rfl (by show _ ≤ (600000 : Nat); omega) (by show _ ≤ (7302250 : Nat); omega) rfl rfl (Nat.le_of_ble_eq_true rfl) rfl (fun v9 n9 M9 hp9 => ?_)
  obtain ⟨rfl, rfl, rfl⟩ := hp9
  refine jk_aload_n (q := 334) h dL_law_333 rfl rfl ?_
  refine jk_aload_n (q := 335) h dL_law_334 rfl rfl ?_
  refine jk_iload_n (q := 336) h dL_law_335 rfl rfl ?_
  refine jk_iconst (q := 337) h dL_law_336 rfl ?_
  refine jk_iadd (q := 338) h dL_law_337 rfl ?_
  refine jk_sld (q := 339) h hs (by omega) (by omega) hL dL_law_338 rfl ?_
  refine jk_aload_n (q := 340) h dL_law_339 rfl rfl ?_
  refine jk_iload_n (q := 341) h dL_law_340 rfl rfl ?_
  refine jk_iconst (q := 342) h dL_law_341 rfl ?_
  refine jk_iadd (q := 343) h dL_law_342 rfl ?_
  refine jk_sld (q := 344) h hs (by omega) (by omega) hL dL_law_343 rfl ?_
  refine jk_aload_n (q := 345) h dL_law_344 rfl rfl ?_
  refine jk_iload_n (q := 346) h dL_law_345 rfl rfl ?_
  refine jk_iconst (q := 347) h dL_law_346 rfl ?_
  refine jk_iadd (q := 348) h dL_law_347 rfl ?_
  refine jk_sld (q := 349) h hs (by omega) (by omega) hL dL_law_348 rfl ?_
  refine jk_callV (q := 352) h hX (c_X10_common hM hm hQm (jRng_of _) (jRng_of _) (jRng_of _)) mv_X10_common (hM.at 0 rfl) dL_law_349 ml_L_44 ⟨rfl, by decide⟩ rfl rfl (by show _ ≤ (600000 : Nat); omega) (by show _ ≤ (7302250 : Nat); omega) rfl rfl (Nat.le_of_ble_eq_true rfl) rfl (fun v9 n9 M9 hp9 => ?_)
  obtain ⟨rfl, rfl, rfl⟩ := hp9
  refine jk_icmp_same (tgt := 813) h dL_law_352 (by decide) ?_
  exact jk_wid (by omega) (by omega) (kk _ _ _ _ _ _ _ _ ⟨hW, hV, hI.up⟩)

set_option maxHeartbeats 4000000 in
set_option maxRecDepth 100000 in
theorem lq_7 {X : jX} {nm : String} {l : Launch} {D : va_G} {b0 b L : Nat} {xs : Nat → Int32} (h : jB X cL_law RL nm ret room_1) (hX : jF X l D b0) (hs : jS X b L xs) (hL : L ≤ 3072) {e n k : Nat} {M : jM} {i : Int} (hi0 : 0 ≤ i) (hi6 : i + 6 ≤ L) (hk : k < 512) {x : TS} {hl : Int} {hk9 : Nat → TS} {sl : Nat → Option TS} {sg : Nat → Int} {len : Int} (hG : lgW M n e x hl hk9 sl sg len k) (kk : lgK X b e i k) : jJ X 357 (lgL b e i) [] n M (50 + 26 * k) (5662 + 479 * k) := by
  obtain ⟨hW, hV, hI⟩ := id hG
  have hcc : x.2.2.1.2 ≤ 9990000 := by { have h2 := hI.1.2; omega }
  have hQ := hW.qs.1
  have hE := hW.ob
  obtain ⟨σ, τ, ps, sv, hd, pd, a9, od, on, lf, hM, hm, hQm, hh9, hsl9, hpd9, hkp, hpQ⟩ := id hV
  refine jk_aload_n (q := 358) h dL_law_357 rfl rfl ?_
  refine jk_aload_n (q := 359) h dL_law_358 rfl rfl ?_
  refine jk_iload_n (q := 360) h dL_law_359 rfl rfl ?_
  refine jk_iconst (q := 361) h dL_law_360 rfl ?_
  refine jk_iadd (q := 362) h dL_law_361 rfl ?_
  refine jk_sld (q := 363) h hs (by omega) (by omega) hL dL_law_362 rfl ?_
  refine jk_aload_n (q := 364) h dL_law_363 rfl rfl ?_
  refine jk_iload_n (q := 365) h dL_law_364 rfl rfl ?_
  refine jk_iconst (q := 366) h dL_law_365 rfl ?_
  refine jk_iadd (q := 367) h dL_law_366 rfl ?_
  refine jk_sld (q := 368) h hs (by omega) (by omega) hL dL_law_367 rfl ?_
  refine jk_callV (q := 371) h hX (c_X9_pair hW (jRng_of _) (jRng_of _)) mv_X9_pair (hE.at 0 rfl) dL_law_368 ml_L_45 ⟨rfl, by decide⟩ rfl rfl (by show _ ≤ (600000 : Nat); omega) (by show _ ≤ (7302250 : Nat); omega) rfl rfl (Nat.le_of_ble_eq_true rfl) rfl (fun v9 n9 M9 hp9 => ?_)
  obtain ⟨rfl, rfl, rfl⟩ := hp9
  refine jk_aload_n (q := 372) h dL_law_371 rfl rfl ?_
  refine jk_aload_n (q := 373) h dL_law_372 rfl rfl ?_
  refine jk_iload_n (q := 374) h dL_law_373 rfl rfl ?_
  refine jk_iconst (q := 375) h dL_law_374 rfl ?_
  refine jk_iadd (q := 376) h dL_law_375 rfl ?_
  refine jk_sld (q := 377) h hs (by omega) (by omega) hL dL_law_376 rfl ?_
  refine jk_aload_n (q := 378) h dL_law_377 rfl rfl ?_
  refine jk_iload_n (q := 379) h dL_law_378 rfl rfl ?_
  refine jk_iconst (q := 380) h dL_law_379 rfl ?_
  refine jk_iadd (q := 381) h dL_law_380 rfl ?_
  refine jk_sld (q := 382) h hs (by omega) (by omega) hL dL_law_381 rfl ?_
  refine jk_callV (q := 385) h hX (c_X10_pair hM hm hQm (jRng_of _) (jRng_of _)) mv_X10_pair (hM.at 0 rfl) dL_law_382 ml_L_48 ⟨rfl, by decide⟩ rfl rfl (by show _ ≤ (600000 : Nat); omega) (by show _ ≤ (7302250 : Nat); omega) rfl rfl (Nat.le_of_ble_eq_true rfl) rfl (fun v9 n9 M9 hp9 => ?_)
  obtain ⟨rfl, rfl, rfl⟩ := hp9
  refine jk_icmp_same (tgt := 813) h dL_law_385 (by decide) ?_
  exact jk_wid (by omega) (by omega) (kk _ _ _ _ _ _ _ _ ⟨hW, hV, hI.up⟩)

set_option maxHeartbeats 4000000 in
set_option maxRecDepth 100000 in
theorem lq_8 {X : jX} {nm : String} {l : Launch} {D : va_G} {b0 b L : Nat} {xs : Nat → Int32} (h : jB X cL_law RL nm ret room_1) (hX : jF X l D b0) (hs : jS X b L xs) (hL : L ≤ 3072) {e n k : Nat} {M : jM} {i : Int} (hi0 : 0 ≤ i) (hi6 : i + 6 ≤ L) (hk : k < 512) {x : TS} {hl : Int} {hk9 : Nat → TS} {sl : Nat → Option TS} {sg : Nat → Int} {len : Int} (hG : lgW M n e x hl hk9 sl sg len k) (kk : lgK X b e i k) : jJ X 390 (lgL b e i) [] n M (50 + 26 * k) (5662 + 479 * k) := by
  obtain ⟨hW, hV, hI⟩ := id hG
  have hcc : x.2.2.1.2 ≤ 9990000 := by { have h2 := hI.1.2; omega }
  have hQ := hW.qs.1
  have hE := hW.ob
  obtain ⟨σ, τ, ps, sv, hd, pd, a9, od, on, lf, hM, hm, hQm, hh9, hsl9, hpd9, hkp, hpQ⟩ := id hV
  refine jk_aload_n (q := 391) h dL_law_390 rfl rfl ?_
  refine jk_aload_n (q := 392) h dL_law_391 rfl rfl ?_
  refine jk_iload_n (q := 393) h dL_law_392 rfl rfl ?_
  refine jk_iconst (q := 394) h dL_law_393 rfl ?_
  refine jk_iadd (q := 395) h dL_law_394 rfl ?_
  refine jk_sld (q := 396) h hs (by omega) (by omega) hL dL_law_395 rfl ?_
  refine jk_callV (q := 399) h hX (c_X9_count hW (jRng_of _)) mv_X9_count (hE.at 0 rfl) dL_law_396 ml_L_49 ⟨rfl, by decide⟩ rfl rfl (by show _ ≤ (600000 : Nat); omega) (by show _ ≤ (7302250 : Nat); omega) rfl rfl (Nat.le_of_ble_eq_true rfl) rfl (fun v9 n9 M9 hp9 => ?_)
  obtain ⟨r, rfl, rfl, rfl, hc1⟩ := hp9
  refine jk_aload_n (q := 400) h dL_law_399 rfl rfl ?_
  refine jk_aload_n (q := 401) h dL_law_400 rfl rfl ?_
  refine jk_iload_n (q := 402) h dL_law_401 rfl rfl ?_
  refine jk_iconst (q := 403) h dL_law_402 rfl ?_
  refine jk_iadd (q := 404) h dL_law_403 rfl ?_
  refine jk_sld (q := 405) h hs (by omega) (by omega) hL dL_law_404 rfl ?_
  refine jk_callV (q := 408) h hX (c_X10_count hM hm hQm (jRng_of _) hkp hpQ.2) mv_X10_count (hM.at 0 rfl) dL_law_405 ml_L_52 ⟨rfl, by decide⟩ rfl rfl (by show _ ≤ (600000 : Nat); omega) (by show _ ≤ (7302250 : Nat); omega) rfl rfl (Nat.le_of_ble_eq_true rfl) rfl (fun v9 n9 M9 hp9 => ?_)
  obtain ⟨r2, rfl, rfl, rfl, hc2⟩ := hp9
  rw [cnQ_u hc1 hc2]
  refine jk_icmp_same (tgt := 813) h dL_law_408 (by decide) ?_
  exact jk_wid (by omega) (by omega) (kk _ _ _ _ _ _ _ _ ⟨hW, hV, hI.up⟩)

set_option maxHeartbeats 4000000 in
set_option maxRecDepth 100000 in
theorem lq_9 {X : jX} {nm : String} {l : Launch} {D : va_G} {b0 b L : Nat} {xs : Nat → Int32} (h : jB X cL_law RL nm ret room_1) (hX : jF X l D b0) (hs : jS X b L xs) (hL : L ≤ 3072) {e n k : Nat} {M : jM} {i : Int} (hi0 : 0 ≤ i) (hi6 : i + 6 ≤ L) (hk : k < 512) {x : TS} {hl : Int} {hk9 : Nat → TS} {sl : Nat → Option TS} {sg : Nat → Int} {len : Int} (hG : lgW M n e x hl hk9 sl sg len k) (kk : lgK X b e i k) : jJ X 413 (lgL b e i) [] n M (50 + 26 * k) (5662 + 479 * k) := by
  obtain ⟨hW, hV, hI⟩ := id hG
  have hcc : x.2.2.1.2 ≤ 9990000 := by { have h2 := hI.1.2; omega }
  have hQ := hW.qs.1
  have hE := hW.ob
  obtain ⟨σ, τ, ps, sv, hd, pd, a9, od, on, lf, hM, hm, hQm, hh9, hsl9, hpd9, hkp, hpQ⟩ := id hV
  refine jk_aload_n (q := 414) h dL_law_413 rfl rfl ?_
  refine jk_aload_n (q := 415) h dL_law_414 rfl rfl ?_
  refine jk_iload_n (q := 416) h dL_law_415 rfl rfl ?_
  refine jk_iconst (q := 417) h dL_law_416 rfl ?_
  refine jk_iadd (q := 418) h dL_law_417 rfl ?_
  refine jk_sld (q := 419) h hs (by omega) (by omega) hL dL_law_418 rfl ?_
  refine jk_aload_n (q := 420) h dL_law_419 rfl rfl ?_
  refine jk_iload_n (q := 421) h dL_law_420 rfl rfl ?_
  refine jk_iconst (q := 422) h dL_law_421 rfl ?_
  refine jk_iadd (q := 423) h dL_law_422 rfl ?_
  refine jk_sld (q := 424) h hs (by omega) (by omega) hL dL_law_423 rfl ?_
  refine jk_aload_n (q := 425) h dL_law_424 rfl rfl ?_
  refine jk_iload_n (q := 426) h dL_law_425 rfl rfl ?_
  refine jk_iconst (q := 427) h dL_law_426 rfl ?_
  refine jk_iadd (q := 428) h dL_law_427 rfl ?_
  refine jk_sld (q := 429) h hs (by omega) (by omega) hL dL_law_428 rfl ?_
  refine jk_aload_n (q := 430) h dL_law_429 rfl rfl ?_
  refine jk_iload_n (q := 431) h dL_law_430 rfl rfl ?_
  refine jk_iconst (q := 432) h dL_law_431 rfl ?_
  refine jk_iadd (q := 433) h dL_law_432 rfl ?_
  refine jk_sld (q := 434) h hs (by omega) (by omega) hL dL_law_433 rfl ?_
  refine jk_callV (q := 437) h hX (c_X9_estimate hW (jRng_of _) (jRng_of _) (jRng_of _) (jRng_of _)) mv_X9_estimate (hE.at 0 rfl) dL_law_434 ml_L_53 ⟨rfl, by decide⟩ rfl rfl (by show _ ≤ (600000 : Nat); omega) (by show _ ≤ (7302250 : Nat); omega) rfl rfl (Nat.le_of_ble_eq_true rfl) rfl (fun v9 n9 M9 hp9 => ?_)
  obtain ⟨rfl, rfl, rfl⟩ := hp9
  refine jk_aload_n (q := 438) h dL_law_437 rfl rfl ?_
  refine jk_aload_n (q := 439) h dL_law_438 rfl rfl ?_
  refine jk_iload_n (q := 440) h dL_law_439 rfl rfl ?_
  refine jk_iconst (q := 441) h dL_law_440 rfl ?_
  refine jk_iadd (q := 442) h dL_law_441 rfl ?_
  refine jk_sld (q := 443) h hs (by omega) (by omega) hL dL_law_442 rfl ?_
  refine jk_aload_n (q := 444) h dL_law_443 rfl rfl ?_
  refine jk_iload_n (q := 445) h dL_law_444 rfl rfl ?_
  refine jk_iconst (q := 446) h dL_law_445 rfl ?_
  refine jk_iadd (q := 447) h dL_law_446 rfl ?_
  refine jk_sld (q := 448) h hs (by omega) (by omega) hL dL_law_447 rfl ?_
  refine jk_aload_n (q := 449) h dL_law_448 rfl rfl ?_
  refine jk_iload_n (q := 450) h dL_law_449 rfl rfl ?_
  refine jk_iconst (q := 451) h dL_law_450 rfl ?_
  refine jk_iadd (q := 452) h dL_law_451 rfl ?_
  refine jk_sld (q := 453) h hs (by omega) (by omega) hL dL_law_452 rfl ?_
  refine jk_aload_n (q := 454) h dL_law_453 rfl rfl ?_
  refine jk_iload_n (q := 455) h dL_law_454 rfl rfl ?_
  refine jk_iconst (q := 456) h dL_law_455 rfl ?_
  refine jk_iadd (q := 457) h dL_law_456 rfl ?_
  refine jk_sld (q := 458) h hs (by omega) (by omega) hL dL_law_457 rfl ?_
  refine jk_callV (q := 461) h hX (c_X10_estimate hM hm hQm (jRng_of _) (jRng_of _) (jRng_of _) (jRng_of _)) mv_X10_estimate (hM.at 0 rfl) dL_law_458 ml_L_57 ⟨rfl, by decide⟩ rfl rfl (by show _ ≤ (600000 : Nat); omega) (by show _ ≤ (7302250 : Nat); omega) rfl rfl (Nat.le_of_ble_eq_true rfl) rfl (fun v9 n9 M9 hp9 => ?_)
  obtain ⟨rfl, rfl, rfl⟩ := hp9
  refine jk_icmp_same (tgt := 813) h dL_law_461 (by decide) ?_
  exact jk_wid (by omega) (by omega) (kk _ _ _ _ _ _ _ _ ⟨hW, hV, hI.up⟩)

set_option maxHeartbeats 4000000 in
set_option maxRecDepth 100000 in
theorem lq_10 {X : jX} {nm : String} {l : Launch} {D : va_G} {b0 b L : Nat} {xs : Nat → Int32} (h : jB X cL_law RL nm ret room_1) (hX : jF X l D b0) (hs : jS X b L xs) (hL : L ≤ 3072) {e n k : Nat} {M : jM} {i : Int} (hi0 : 0 ≤ i) (hi6 : i + 6 ≤ L) (hk : k < 512) {x : TS} {hl : Int} {hk9 : Nat → TS} {sl : Nat → Option TS} {sg : Nat → Int} {len : Int} (hG : lgW M n e x hl hk9 sl sg len k) (kk : lgK X b e i k) : jJ X 466 (lgL b e i) [] n M (50 + 26 * k) (5662 + 479 * k) := by
  obtain ⟨hW, hV, hI⟩ := id hG
  have hcc : x.2.2.1.2 ≤ 9990000 := by { have h2 := hI.1.2; omega }
  have hQ := hW.qs.1
  have hE := hW.ob
  obtain ⟨σ, τ, ps, sv, hd, pd, a9, od, on, lf, hM, hm, hQm, hh9, hsl9, hpd9, hkp, hpQ⟩ := id hV
  refine jk_aload_n (q := 467) h dL_law_466 rfl rfl ?_
  refine jk_aload_n (q := 468) h dL_law_467 rfl rfl ?_
  refine jk_iload_n (q := 469) h dL_law_468 rfl rfl ?_
  refine jk_iconst (q := 470) h dL_law_469 rfl ?_
  refine jk_iadd (q := 471) h dL_law_470 rfl ?_
  refine jk_sld (q := 472) h hs (by omega) (by omega) hL dL_law_471 rfl ?_
  refine jk_aload_n (q := 473) h dL_law_472 rfl rfl ?_
  refine jk_iload_n (q := 474) h dL_law_473 rfl rfl ?_
  refine jk_iconst (q := 475) h dL_law_474 rfl ?_
  refine jk_iadd (q := 476) h dL_law_475 rfl ?_
  refine jk_sld (q := 477) h hs (by omega) (by omega) hL dL_law_476 rfl ?_
  refine jk_aload_n (q := 478) h dL_law_477 rfl rfl ?_
  refine jk_iload_n (q := 479) h dL_law_478 rfl rfl ?_
  refine jk_iconst (q := 480) h dL_law_479 rfl ?_
  refine jk_iadd (q := 481) h dL_law_480 rfl ?_
  refine jk_sld (q := 482) h hs (by omega) (by omega) hL dL_law_481 rfl ?_
  refine jk_aload_n (q := 483) h dL_law_482 rfl rfl ?_
  refine jk_iload_n (q := 484) h dL_law_483 rfl rfl ?_
  refine jk_iconst (q := 485) h dL_law_484 rfl ?_
  refine jk_iadd (q := 486) h dL_law_485 rfl ?_
  refine jk_sld (q := 487) h hs (by omega) (by omega) hL dL_law_486 rfl ?_
  refine jk_aload_n (q := 488) h dL_law_487 rfl rfl ?_
  refine jk_iload_n (q := 489) h dL_law_488 rfl rfl ?_
  refine jk_iconst (q := 490) h dL_law_489 rfl ?_
  refine jk_iadd (q := 491) h dL_law_490 rfl ?_
  refine jk_sld (q := 492) h hs (by omega) (by omega) hL dL_law_491 rfl ?_
  refine jk_callV (q := 495) h hX (c_X9_both hW (jRng_of _) (jRng_of _) (jRng_of _) (jRng_of _) (jRng_of _)) mv_X9_both (hE.at 0 rfl) dL_law_492 ml_L_58 ⟨rfl, by decide⟩ rfl rfl (by show _ ≤ (600000 : Nat); omega) (by show _ ≤ (7302250 : Nat); omega) rfl rfl (Nat.le_of_ble_eq_true rfl) rfl (fun v9 n9 M9 hp9 => ?_)
  obtain ⟨rfl, rfl, rfl⟩ := hp9
  refine jk_aload_n (q := 496) h dL_law_495 rfl rfl ?_
  refine jk_aload_n (q := 497) h dL_law_496 rfl rfl ?_
  refine jk_iload_n (q := 498) h dL_law_497 rfl rfl ?_
  refine jk_iconst (q := 499) h dL_law_498 rfl ?_
  refine jk_iadd (q := 500) h dL_law_499 rfl ?_
  refine jk_sld (q := 501) h hs (by omega) (by omega) hL dL_law_500 rfl ?_
  refine jk_aload_n (q := 502) h dL_law_501 rfl rfl ?_
  refine jk_iload_n (q := 503) h dL_law_502 rfl rfl ?_
  refine jk_iconst (q := 504) h dL_law_503 rfl ?_
  refine jk_iadd (q := 505) h dL_law_504 rfl ?_
  refine jk_sld (q := 506) h hs (by omega) (by omega) hL dL_law_505 rfl ?_
  refine jk_aload_n (q := 507) h dL_law_506 rfl rfl ?_
  refine jk_iload_n (q := 508) h dL_law_507 rfl rfl ?_
  refine jk_iconst (q := 509) h dL_law_508 rfl ?_
  refine jk_iadd (q := 510) h dL_law_509 rfl ?_
  refine jk_sld (q := 511) h hs (by omega) (by omega) hL dL_law_510 rfl ?_
  refine jk_aload_n (q := 512) h dL_law_511 rfl rfl ?_
  refine jk_iload_n (q := 513) h dL_law_512 rfl rfl ?_
  refine jk_iconst (q := 514) h dL_law_513 rfl ?_
  refine jk_iadd (q := 515) h dL_law_514 rfl ?_
  refine jk_sld (q := 516) h hs (by omega) (by omega) hL dL_law_515 rfl ?_
  refine jk_aload_n (q := 517) h dL_law_516 rfl rfl ?_
  refine jk_iload_n (q := 518) h dL_law_517 rfl rfl ?_
  refine jk_iconst (q := 519) h dL_law_518 rfl ?_
  refine jk_iadd (q := 520) h dL_law_519 rfl ?_
  refine jk_sld (q := 521) h hs (by omega) (by omega) hL dL_law_520 rfl ?_
  refine jk_callV (q := 524) h hX (c_X10_both hM hm hQm hI.1.1 (jRng_of _) (jRng_of _) (jRng_of _) (jRng_of _) (jRng_of _)) mv_X10_both (hM.at 0 rfl) dL_law_521 ml_L_62 ⟨rfl, by decide⟩ rfl rfl (by show _ ≤ (600000 : Nat); omega) (by show _ ≤ (7302250 : Nat); omega) rfl rfl (Nat.le_of_ble_eq_true rfl) rfl (fun v9 n9 M9 hp9 => ?_)
  obtain ⟨rfl, rfl, rfl⟩ := hp9
  refine jk_icmp_same (tgt := 813) h dL_law_524 (by decide) ?_
  exact jk_wid (by omega) (by omega) (kk _ _ _ _ _ _ _ _ ⟨hW, hV, hI.up⟩)

set_option maxHeartbeats 4000000 in
set_option maxRecDepth 100000 in
theorem lq_11 {X : jX} {nm : String} {l : Launch} {D : va_G} {b0 b L : Nat} {xs : Nat → Int32} (h : jB X cL_law RL nm ret room_1) (hX : jF X l D b0) (hs : jS X b L xs) (hL : L ≤ 3072) {e n k : Nat} {M : jM} {i : Int} (hi0 : 0 ≤ i) (hi6 : i + 6 ≤ L) (hk : k < 512) {x : TS} {hl : Int} {hk9 : Nat → TS} {sl : Nat → Option TS} {sg : Nat → Int} {len : Int} (hG : lgW M n e x hl hk9 sl sg len k) (kk : lgK X b e i k) : jJ X 529 (lgL b e i) [] n M (50 + 26 * k) (5662 + 479 * k) := by
  obtain ⟨hW, hV, hI⟩ := id hG
  have hcc : x.2.2.1.2 ≤ 9990000 := by { have h2 := hI.1.2; omega }
  have hQ := hW.qs.1
  have hE := hW.ob
  obtain ⟨σ, τ, ps, sv, hd, pd, a9, od, on, lf, hM, hm, hQm, hh9, hsl9, hpd9, hkp, hpQ⟩ := id hV
  refine jk_aload_n (q := 530) h dL_law_529 rfl rfl ?_
  refine jk_aload_n (q := 531) h dL_law_530 rfl rfl ?_
  refine jk_iload_n (q := 532) h dL_law_531 rfl rfl ?_
  refine jk_iconst (q := 533) h dL_law_532 rfl ?_
  refine jk_iadd (q := 534) h dL_law_533 rfl ?_
  refine jk_sld (q := 535) h hs (by omega) (by omega) hL dL_law_534 rfl ?_
  refine jk_aload_n (q := 536) h dL_law_535 rfl rfl ?_
  refine jk_iload_n (q := 537) h dL_law_536 rfl rfl ?_
  refine jk_iconst (q := 538) h dL_law_537 rfl ?_
  refine jk_iadd (q := 539) h dL_law_538 rfl ?_
  refine jk_sld (q := 540) h hs (by omega) (by omega) hL dL_law_539 rfl ?_
  refine jk_aload_n (q := 541) h dL_law_540 rfl rfl ?_
  refine jk_iload_n (q := 542) h dL_law_541 rfl rfl ?_
  refine jk_iconst (q := 543) h dL_law_542 rfl ?_
  refine jk_iadd (q := 544) h dL_law_543 rfl ?_
  refine jk_sld (q := 545) h hs (by omega) (by omega) hL dL_law_544 rfl ?_
  refine jk_callV (q := 548) h hX (c_X9_share hW (jRng_of _) (jRng_of _) (jRng_of _) hI.1.1) mv_X9_share (hE.at 0 rfl) dL_law_545 ml_L_63 ⟨rfl, by decide⟩ rfl rfl (by show _ ≤ (600000 : Nat); omega) (by show _ ≤ (7302250 : Nat); omega) rfl rfl (Nat.le_of_ble_eq_true rfl) rfl (fun v9 n9 M9 hp9 => ?_)
  obtain ⟨rfl, rfl, rfl⟩ := hp9
  refine jk_aload_n (q := 549) h dL_law_548 rfl rfl ?_
  refine jk_aload_n (q := 550) h dL_law_549 rfl rfl ?_
  refine jk_iload_n (q := 551) h dL_law_550 rfl rfl ?_
  refine jk_iconst (q := 552) h dL_law_551 rfl ?_
  refine jk_iadd (q := 553) h dL_law_552 rfl ?_
  refine jk_sld (q := 554) h hs (by omega) (by omega) hL dL_law_553 rfl ?_
  refine jk_aload_n (q := 555) h dL_law_554 rfl rfl ?_
  refine jk_iload_n (q := 556) h dL_law_555 rfl rfl ?_
  refine jk_iconst (q := 557) h dL_law_556 rfl ?_
  refine jk_iadd (q := 558) h dL_law_557 rfl ?_
  refine jk_sld (q := 559) h hs (by omega) (by omega) hL dL_law_558 rfl ?_
  refine jk_aload_n (q := 560) h dL_law_559 rfl rfl ?_
  refine jk_iload_n (q := 561) h dL_law_560 rfl rfl ?_
  refine jk_iconst (q := 562) h dL_law_561 rfl ?_
  refine jk_iadd (q := 563) h dL_law_562 rfl ?_
  refine jk_sld (q := 564) h hs (by omega) (by omega) hL dL_law_563 rfl ?_
  refine jk_callV (q := 567) h hX (c_X10_share hM hm hQm hI.1.1 (jRng_of _) (jRng_of _) (jRng_of _)) mv_X10_share (hM.at 0 rfl) dL_law_564 ml_L_66 ⟨rfl, by decide⟩ rfl rfl (by show _ ≤ (600000 : Nat); omega) (by show _ ≤ (7302250 : Nat); omega) rfl rfl (Nat.le_of_ble_eq_true rfl) rfl (fun v9 n9 M9 hp9 => ?_)
  obtain ⟨rfl, rfl, rfl⟩ := hp9
  refine jk_icmp_same (tgt := 813) h dL_law_567 (by decide) ?_
  exact jk_wid (by omega) (by omega) (kk _ _ _ _ _ _ _ _ ⟨hW, hV, hI.up⟩)

set_option maxHeartbeats 4000000 in
set_option maxRecDepth 100000 in
theorem lq_12 {X : jX} {nm : String} {l : Launch} {D : va_G} {b0 b L : Nat} {xs : Nat → Int32} (h : jB X cL_law RL nm ret room_1) (hX : jF X l D b0) (hs : jS X b L xs) (hL : L ≤ 3072) {e n k : Nat} {M : jM} {i : Int} (hi0 : 0 ≤ i) (hi6 : i + 6 ≤ L) (hk : k < 512) {x : TS} {hl : Int} {hk9 : Nat → TS} {sl : Nat → Option TS} {sg : Nat → Int} {len : Int} (hG : lgW M n e x hl hk9 sl sg len k) (kk : lgK X b e i k) : jJ X 572 (lgL b e i) [] n M (50 + 26 * k) (5662 + 479 * k) := by
  obtain ⟨hW, hV, hI⟩ := id hG
  have hcc : x.2.2.1.2 ≤ 9990000 := by { have h2 := hI.1.2; omega }
  have hQ := hW.qs.1
  have hE := hW.ob
  obtain ⟨σ, τ, ps, sv, hd, pd, a9, od, on, lf, hM, hm, hQm, hh9, hsl9, hpd9, hkp, hpQ⟩ := id hV
  refine jk_aload_n (q := 573) h dL_law_572 rfl rfl ?_
  refine jk_aload_n (q := 574) h dL_law_573 rfl rfl ?_
  refine jk_iload_n (q := 575) h dL_law_574 rfl rfl ?_
  refine jk_iconst (q := 576) h dL_law_575 rfl ?_
  refine jk_iadd (q := 577) h dL_law_576 rfl ?_
  refine jk_sld (q := 578) h hs (by omega) (by omega) hL dL_law_577 rfl ?_
  refine jk_callV (q := 581) h hX (c_X9_height hW (jRng_of _) hI.1.1) mv_X9_height (hE.at 0 rfl) dL_law_578 ml_L_67 ⟨rfl, by decide⟩ rfl rfl (by show _ ≤ (600000 : Nat); omega) (by show _ ≤ (7302250 : Nat); omega) rfl rfl (Nat.le_of_ble_eq_true rfl) rfl (fun v9 n9 M9 hp9 => ?_)
  obtain ⟨rfl, rfl, rfl⟩ := hp9
  refine jk_aload_n (q := 582) h dL_law_581 rfl rfl ?_
  refine jk_aload_n (q := 583) h dL_law_582 rfl rfl ?_
  refine jk_iload_n (q := 584) h dL_law_583 rfl rfl ?_
  refine jk_iconst (q := 585) h dL_law_584 rfl ?_
  refine jk_iadd (q := 586) h dL_law_585 rfl ?_
  refine jk_sld (q := 587) h hs (by omega) (by omega) hL dL_law_586 rfl ?_
  refine jk_callV (q := 590) h hX (c_X10_height hM hm hQm hI.1.1 (jRng_of _)) mv_X10_height (hM.at 0 rfl) dL_law_587 ml_L_71 ⟨rfl, by decide⟩ rfl rfl (by show _ ≤ (600000 : Nat); omega) (by show _ ≤ (7302250 : Nat); omega) rfl rfl (Nat.le_of_ble_eq_true rfl) rfl (fun v9 n9 M9 hp9 => ?_)
  obtain ⟨rfl, rfl, rfl⟩ := hp9
  refine jk_lcmp (q := 591) h dL_law_590 (lg_cmp_s _) rfl ?_
  refine jk_if_eq (tgt := 813) h dL_law_591 (by decide) rfl ⟨by omega, by omega⟩ (fun c9 => ?_) (fun c9 => absurd rfl c9)
  exact jk_wid (by omega) (by omega) (kk _ _ _ _ _ _ _ _ ⟨hW, hV, hI.up⟩)

set_option maxHeartbeats 4000000 in
set_option maxRecDepth 100000 in
theorem lq_13 {X : jX} {nm : String} {l : Launch} {D : va_G} {b0 b L : Nat} {xs : Nat → Int32} (h : jB X cL_law RL nm ret room_1) (hX : jF X l D b0) (hs : jS X b L xs) (hL : L ≤ 3072) {e n k : Nat} {M : jM} {i : Int} (hi0 : 0 ≤ i) (hi6 : i + 6 ≤ L) (hk : k < 512) {x : TS} {hl : Int} {hk9 : Nat → TS} {sl : Nat → Option TS} {sg : Nat → Int} {len : Int} (hG : lgW M n e x hl hk9 sl sg len k) (kk : lgK X b e i k) : jJ X 596 (lgL b e i) [] n M (50 + 26 * k) (5662 + 479 * k) := by
  obtain ⟨hW, hV, hI⟩ := id hG
  have hcc : x.2.2.1.2 ≤ 9990000 := by { have h2 := hI.1.2; omega }
  have hQ := hW.qs.1
  have hE := hW.ob
  obtain ⟨σ, τ, ps, sv, hd, pd, a9, od, on, lf, hM, hm, hQm, hh9, hsl9, hpd9, hkp, hpQ⟩ := id hV
  refine jk_aload_n (q := 597) h dL_law_596 rfl rfl ?_
  refine jk_aload_n (q := 598) h dL_law_597 rfl rfl ?_
  refine jk_iload_n (q := 599) h dL_law_598 rfl rfl ?_
  refine jk_iconst (q := 600) h dL_law_599 rfl ?_
  refine jk_iadd (q := 601) h dL_law_600 rfl ?_
  refine jk_sld (q := 602) h hs (by omega) (by omega) hL dL_law_601 rfl ?_
  refine jk_aload_n (q := 603) h dL_law_602 rfl rfl ?_
  refine jk_iload_n (q := 604) h dL_law_603 rfl rfl ?_
  refine jk_iconst (q := 605) h dL_law_604 rfl ?_
  refine jk_iadd (q := 606) h dL_law_605 rfl ?_
  refine jk_sld (q := 607) h hs (by omega) (by omega) hL dL_law_606 rfl ?_
  refine jk_callV (q := 610) h hX (c_X9_worst hW (jRng_of _) (jRng_of _)) mv_X9_worst (hE.at 0 rfl) dL_law_607 ml_L_72 ⟨rfl, by decide⟩ rfl rfl (by show _ ≤ (600000 : Nat); omega) (by show _ ≤ (7302250 : Nat); omega) rfl rfl (Nat.le_of_ble_eq_true rfl) rfl (fun v9 n9 M9 hp9 => ?_)
  obtain ⟨rfl, rfl, rfl⟩ := hp9
  refine jk_aload_n (q := 611) h dL_law_610 rfl rfl ?_
  refine jk_aload_n (q := 612) h dL_law_611 rfl rfl ?_
  refine jk_iload_n (q := 613) h dL_law_612 rfl rfl ?_
  refine jk_iconst (q := 614) h dL_law_613 rfl ?_
  refine jk_iadd (q := 615) h dL_law_614 rfl ?_
  refine jk_sld (q := 616) h hs (by omega) (by omega) hL dL_law_615 rfl ?_
  refine jk_aload_n (q := 617) h dL_law_616 rfl rfl ?_
  refine jk_iload_n (q := 618) h dL_law_617 rfl rfl ?_
  refine jk_iconst (q := 619) h dL_law_618 rfl ?_
  refine jk_iadd (q := 620) h dL_law_619 rfl ?_
  refine jk_sld (q := 621) h hs (by omega) (by omega) hL dL_law_620 rfl ?_
  refine jk_callV (q := 624) h hX (c_X10_worst hM hm hQm (jRng_of _) (jRng_of _)) mv_X10_worst (hM.at 0 rfl) dL_law_621 ml_L_75 ⟨rfl, by decide⟩ rfl rfl (by show _ ≤ (600000 : Nat); omega) (by show _ ≤ (7302250 : Nat); omega) rfl rfl (Nat.le_of_ble_eq_true rfl) rfl (fun v9 n9 M9 hp9 => ?_)
  obtain ⟨rfl, rfl, rfl⟩ := hp9
  refine jk_icmp_same (tgt := 813) h dL_law_624 (by decide) ?_
  exact jk_wid (by omega) (by omega) (kk _ _ _ _ _ _ _ _ ⟨hW, hV, hI.up⟩)

set_option maxHeartbeats 4000000 in
set_option maxRecDepth 100000 in
theorem lq_14 {X : jX} {nm : String} {l : Launch} {D : va_G} {b0 b L : Nat} {xs : Nat → Int32} (h : jB X cL_law RL nm ret room_1) (hX : jF X l D b0) (hs : jS X b L xs) (hL : L ≤ 3072) {e n k : Nat} {M : jM} {i : Int} (hi0 : 0 ≤ i) (hi6 : i + 6 ≤ L) (hk : k < 512) {x : TS} {hl : Int} {hk9 : Nat → TS} {sl : Nat → Option TS} {sg : Nat → Int} {len : Int} (hG : lgW M n e x hl hk9 sl sg len k) (kk : lgK X b e i k) : jJ X 629 (lgL b e i) [] n M (50 + 26 * k) (5662 + 479 * k) := by
  obtain ⟨hW, hV, hI⟩ := id hG
  have hcc : x.2.2.1.2 ≤ 9990000 := by { have h2 := hI.1.2; omega }
  have hQ := hW.qs.1
  have hE := hW.ob
  refine jk_aload_n (q := 630) h dL_law_629 rfl rfl ?_
  refine jk_aload_n (q := 631) h dL_law_630 rfl rfl ?_
  refine jk_iload_n (q := 632) h dL_law_631 rfl rfl ?_
  refine jk_iconst (q := 633) h dL_law_632 rfl ?_
  refine jk_iadd (q := 634) h dL_law_633 rfl ?_
  refine jk_sld (q := 635) h hs (by omega) (by omega) hL dL_law_634 rfl ?_
  refine jk_aload_n (q := 636) h dL_law_635 rfl rfl ?_
  refine jk_iload_n (q := 637) h dL_law_636 rfl rfl ?_
  refine jk_iconst (q := 638) h dL_law_637 rfl ?_
  refine jk_iadd (q := 639) h dL_law_638 rfl ?_
  refine jk_sld (q := 640) h hs (by omega) (by omega) hL dL_law_639 rfl ?_
  refine jk_callV (q := 643) h hX (c_X9_fewest hW (jRng_of _) (jRng_of _)) mv_X9_fewest (hE.at 0 rfl) dL_law_640 ml_L_76 ⟨rfl, by decide⟩ rfl rfl (by show _ ≤ (600000 : Nat); omega) (by show _ ≤ (7302250 : Nat); omega) rfl rfl (Nat.le_of_ble_eq_true rfl) rfl (fun v9 n9 M_1 hp9 => ?_)
  obtain ⟨r, rfl, rfl, hsp, hW, hj9⟩ := hp9
  have hV := hV.lo hj9 (by omega) (by omega)
  obtain ⟨fs9, hMr⟩ := hV.rcv
  have hM : jPic _ (e + 41) [.inr (9, fs9)] := jPic_c hMr
  refine jk_aload_n (q := 644) h dL_law_643 rfl rfl ?_
  refine jk_aload_n (q := 645) h dL_law_644 rfl rfl ?_
  refine jk_iload_n (q := 646) h dL_law_645 rfl rfl ?_
  refine jk_iconst (q := 647) h dL_law_646 rfl ?_
  refine jk_iadd (q := 648) h dL_law_647 rfl ?_
  refine jk_sld (q := 649) h hs (by omega) (by omega) hL dL_law_648 rfl ?_
  refine jk_aload_n (q := 650) h dL_law_649 rfl rfl ?_
  refine jk_iload_n (q := 651) h dL_law_650 rfl rfl ?_
  refine jk_iconst (q := 652) h dL_law_651 rfl ?_
  refine jk_iadd (q := 653) h dL_law_652 rfl ?_
  refine jk_sld (q := 654) h hs (by omega) (by omega) hL dL_law_653 rfl ?_
  refine jk_callV (q := 657) h hX (c_X10_fewest hV (jRng_of _) (jRng_of _) hsp) mv_X10_fewest (hM.at 0 rfl) dL_law_654 ml_L_79 ⟨rfl, by decide⟩ rfl rfl (by show _ ≤ (600000 : Nat); omega) (by show _ ≤ (7302250 : Nat); omega) rfl rfl (Nat.le_of_ble_eq_true rfl) rfl (fun v9 n9 M_2 hp9 => ?_)
  obtain ⟨rfl, rfl, hV, ho9⟩ := hp9
  have hW := hW.keepm ho9 (by omega) (by omega)
  refine jk_icmp_same (tgt := 813) h dL_law_657 (by decide) ?_
  exact jk_wid (by omega) (by omega) (kk _ _ _ _ _ _ _ _ ⟨hW, hV, hI.up⟩)

set_option maxHeartbeats 4000000 in
set_option maxRecDepth 100000 in
theorem lq_15 {X : jX} {nm : String} {l : Launch} {D : va_G} {b0 b L : Nat} {xs : Nat → Int32} (h : jB X cL_law RL nm ret room_1) (hX : jF X l D b0) (hs : jS X b L xs) (hL : L ≤ 3072) {e n k : Nat} {M : jM} {i : Int} (hi0 : 0 ≤ i) (hi6 : i + 6 ≤ L) (hk : k < 512) {x : TS} {hl : Int} {hk9 : Nat → TS} {sl : Nat → Option TS} {sg : Nat → Int} {len : Int} (hG : lgW M n e x hl hk9 sl sg len k) (kk : lgK X b e i k) : jJ X 662 (lgL b e i) [] n M (50 + 26 * k) (5662 + 479 * k) := by
  obtain ⟨hW, hV, hI⟩ := id hG
  have hcc : x.2.2.1.2 ≤ 9990000 := by { have h2 := hI.1.2; omega }
  have hQ := hW.qs.1
  have hE := hW.ob
  refine jk_aload_n (q := 663) h dL_law_662 rfl rfl ?_
  refine jk_aload_n (q := 664) h dL_law_663 rfl rfl ?_
  refine jk_iload_n (q := 665) h dL_law_664 rfl rfl ?_
  refine jk_iconst (q := 666) h dL_law_665 rfl ?_
  refine jk_iadd (q := 667) h dL_law_666 rfl ?_
  refine jk_sld (q := 668) h hs (by omega) (by omega) hL dL_law_667 rfl ?_
  refine jk_i2l (q := 669) h dL_law_668 rfl ?_
  refine jk_bipush (q := 671) h dL_law_669 (by decide) rfl ?_
  refine jk_lshl (q := 672) h dL_law_671 rfl ?_
  refine jk_aload_n (q := 673) h dL_law_672 rfl rfl ?_
  refine jk_iload_n (q := 674) h dL_law_673 rfl rfl ?_
  refine jk_iconst (q := 675) h dL_law_674 rfl ?_
  refine jk_iadd (q := 676) h dL_law_675 rfl ?_
  refine jk_sld (q := 677) h hs (by omega) (by omega) hL dL_law_676 rfl ?_
  refine jk_i2l (q := 678) h dL_law_677 rfl ?_
  refine jk_ldc2 (q := 681) h dL_law_678 kc_L_80 rfl ?_
  refine jk_land (q := 682) h dL_law_681 rfl ?_
  refine jk_lor (q := 683) h dL_law_682 rfl ?_
  refine jk_callV (q := 686) h hX (c_X9_put hW) mv_X9_put (hE.at 0 rfl) dL_law_683 ml_L_82 ⟨rfl, by decide⟩ rfl rfl (by show _ ≤ (600000 : Nat); omega) (by show _ ≤ (7302250 : Nat); omega) rfl rfl (Nat.le_of_ble_eq_true rfl) rfl (fun v9 n9 M_1 hp9 => ?_)
  obtain ⟨r, sg2, len2, rfl, rfl, hW, hsp, hj9⟩ := hp9
  have hV := hV.lo hj9 (by omega) (by omega)
  obtain ⟨fs9, hMr⟩ := hV.rcv
  have hM : jPic _ (e + 41) [.inr (9, fs9)] := jPic_c hMr
  refine jk_aload_n (q := 687) h dL_law_686 rfl rfl ?_
  refine jk_aload_n (q := 688) h dL_law_687 rfl rfl ?_
  refine jk_iload_n (q := 689) h dL_law_688 rfl rfl ?_
  refine jk_iconst (q := 690) h dL_law_689 rfl ?_
  refine jk_iadd (q := 691) h dL_law_690 rfl ?_
  refine jk_sld (q := 692) h hs (by omega) (by omega) hL dL_law_691 rfl ?_
  refine jk_i2l (q := 693) h dL_law_692 rfl ?_
  refine jk_bipush (q := 695) h dL_law_693 (by decide) rfl ?_
  refine jk_lshl (q := 696) h dL_law_695 rfl ?_
  refine jk_aload_n (q := 697) h dL_law_696 rfl rfl ?_
  refine jk_iload_n (q := 698) h dL_law_697 rfl rfl ?_
  refine jk_iconst (q := 699) h dL_law_698 rfl ?_
  refine jk_iadd (q := 700) h dL_law_699 rfl ?_
  refine jk_sld (q := 701) h hs (by omega) (by omega) hL dL_law_700 rfl ?_
  refine jk_i2l (q := 702) h dL_law_701 rfl ?_
  refine jk_ldc2 (q := 705) h dL_law_702 kc_L_80 rfl ?_
  refine jk_land (q := 706) h dL_law_705 rfl ?_
  refine jk_lor (q := 707) h dL_law_706 rfl ?_
  refine jk_callV (q := 710) h hX (c_X10_put hV hsp hW.qs.2.1) mv_X10_put (hM.at 0 rfl) dL_law_707 ml_L_86 ⟨rfl, by decide⟩ rfl rfl (by show _ ≤ (600000 : Nat); omega) (by show _ ≤ (7302250 : Nat); omega) rfl rfl (Nat.le_of_ble_eq_true rfl) rfl (fun v9 n9 M_2 hp9 => ?_)
  obtain ⟨rfl, rfl, hV, ho9⟩ := hp9
  have hW := hW.keepm ho9 (by omega) (by omega)
  refine jk_icmp_same (tgt := 813) h dL_law_710 (by decide) ?_
  exact jk_wid (by omega) (by omega) (kk _ _ _ _ _ _ _ _ ⟨hW, hV, hI.up⟩)

set_option maxHeartbeats 4000000 in
set_option maxRecDepth 100000 in
theorem lq_16 {X : jX} {nm : String} {l : Launch} {D : va_G} {b0 b L : Nat} {xs : Nat → Int32} (h : jB X cL_law RL nm ret room_1) (hX : jF X l D b0) (hs : jS X b L xs) (hL : L ≤ 3072) {e n k : Nat} {M : jM} {i : Int} (hi0 : 0 ≤ i) (hi6 : i + 6 ≤ L) (hk : k < 512) {x : TS} {hl : Int} {hk9 : Nat → TS} {sl : Nat → Option TS} {sg : Nat → Int} {len : Int} (hG : lgW M n e x hl hk9 sl sg len k) (kk : lgK X b e i k) : jJ X 715 (lgL b e i) [] n M (50 + 26 * k) (5662 + 479 * k) := by
  obtain ⟨hW, hV, hI⟩ := id hG
  have hcc : x.2.2.1.2 ≤ 9990000 := by { have h2 := hI.1.2; omega }
  have hQ := hW.qs.1
  have hE := hW.ob
  refine jk_aload_n (q := 716) h dL_law_715 rfl rfl ?_
  refine jk_callV (q := 719) h hX (c_X9_wipe hW) mv_X9_wipe (hE.at 0 rfl) dL_law_716 ml_L_87 ⟨rfl, by decide⟩ rfl rfl (by show _ ≤ (600000 : Nat); omega) (by show _ ≤ (7302250 : Nat); omega) rfl rfl (Nat.le_of_ble_eq_true rfl) rfl (fun v9 n9 M_1 hp9 => ?_)
  obtain ⟨rfl, rfl, hW, hj9⟩ := hp9
  have hV := hV.lo hj9 (by omega) (by omega)
  obtain ⟨fs9, hMr⟩ := hV.rcv
  have hM : jPic _ (e + 41) [.inr (9, fs9)] := jPic_c hMr
  refine jk_aload_n (q := 720) h dL_law_719 rfl rfl ?_
  refine jk_callV (q := 723) h hX (c_X10_wipe hV) mv_X10_wipe (hM.at 0 rfl) dL_law_720 ml_L_90 ⟨rfl, by decide⟩ rfl rfl (by show _ ≤ (600000 : Nat); omega) (by show _ ≤ (7302250 : Nat); omega) rfl rfl (Nat.le_of_ble_eq_true rfl) rfl (fun v9 n9 M_2 hp9 => ?_)
  obtain ⟨rfl, rfl, hV, ho9⟩ := hp9
  have hW := hW.keepm ho9 (by omega) (by omega)
  refine jk_icmp_same (tgt := 813) h dL_law_723 (by decide) ?_
  exact jk_wid (by omega) (by omega) (kk _ _ _ _ _ _ _ _ ⟨hW, hV, hI.up⟩)

set_option maxHeartbeats 4000000 in
set_option maxRecDepth 100000 in
theorem lq_17 {X : jX} {nm : String} {l : Launch} {D : va_G} {b0 b L : Nat} {xs : Nat → Int32} (h : jB X cL_law RL nm ret room_1) (hX : jF X l D b0) (hs : jS X b L xs) (hL : L ≤ 3072) {e n k : Nat} {M : jM} {i : Int} (hi0 : 0 ≤ i) (hi6 : i + 6 ≤ L) (hk : k < 512) {x : TS} {hl : Int} {hk9 : Nat → TS} {sl : Nat → Option TS} {sg : Nat → Int} {len : Int} (hG : lgW M n e x hl hk9 sl sg len k) (kk : lgK X b e i k) : jJ X 728 (lgL b e i) [] n M (50 + 26 * k) (5662 + 479 * k) := by
  obtain ⟨hW, hV, hI⟩ := id hG
  have hcc : x.2.2.1.2 ≤ 9990000 := by { have h2 := hI.1.2; omega }
  have hQ := hW.qs.1
  have hE := hW.ob
  refine jk_aload_n (q := 729) h dL_law_728 rfl rfl ?_
  refine jk_callV (q := 732) h hX (c_X9_fault hW) mv_X9_fault (hE.at 0 rfl) dL_law_729 ml_L_91 ⟨rfl, by decide⟩ rfl rfl (by show _ ≤ (600000 : Nat); omega) (by show _ ≤ (7302250 : Nat); omega) rfl rfl (Nat.le_of_ble_eq_true rfl) rfl (fun v9 n9 M_1 hp9 => ?_)
  obtain ⟨rfl, rfl, hW, hj9⟩ := hp9
  have hV := hV.lo hj9 (by omega) (by omega)
  obtain ⟨fs9, hMr⟩ := hV.rcv
  have hM : jPic _ (e + 41) [.inr (9, fs9)] := jPic_c hMr
  refine jk_aload_n (q := 733) h dL_law_732 rfl rfl ?_
  refine jk_callV (q := 736) h hX (c_X10_fault hV) mv_X10_fault (hM.at 0 rfl) dL_law_733 ml_L_94 ⟨rfl, by decide⟩ rfl rfl (by show _ ≤ (600000 : Nat); omega) (by show _ ≤ (7302250 : Nat); omega) rfl rfl (Nat.le_of_ble_eq_true rfl) rfl (fun v9 n9 M_2 hp9 => ?_)
  obtain ⟨rfl, rfl, hV, ho9⟩ := hp9
  have hW := hW.keepm ho9 (by omega) (by omega)
  refine jk_icmp_same (tgt := 813) h dL_law_736 (by decide) ?_
  exact jk_wid (by omega) (by omega) (kk _ _ _ _ _ _ _ _ ⟨hW, hV, hI.up⟩)

set_option maxHeartbeats 4000000 in
set_option maxRecDepth 100000 in
theorem lq_18 {X : jX} {nm : String} {l : Launch} {D : va_G} {b0 b L : Nat} {xs : Nat → Int32} (h : jB X cL_law RL nm ret room_1) (hX : jF X l D b0) (hs : jS X b L xs) (hL : L ≤ 3072) {e n k : Nat} {M : jM} {i : Int} (hi0 : 0 ≤ i) (hi6 : i + 6 ≤ L) (hk : k < 512) {x : TS} {hl : Int} {hk9 : Nat → TS} {sl : Nat → Option TS} {sg : Nat → Int} {len : Int} (hG : lgW M n e x hl hk9 sl sg len k) (kk : lgK X b e i k) : jJ X 741 (lgL b e i) [] n M (50 + 26 * k) (5662 + 479 * k) := by
  obtain ⟨hW, hV, hI⟩ := id hG
  have hcc : x.2.2.1.2 ≤ 9990000 := by { have h2 := hI.1.2; omega }
  have hQ := hW.qs.1
  have hE := hW.ob
  refine jk_aload_n (q := 742) h dL_law_741 rfl rfl ?_
  refine jk_callV (q := 745) h hX (c_X9_carryOut hW hcc) mv_X9_carryOut (hE.at 0 rfl) dL_law_742 ml_L_95 ⟨rfl, by decide⟩ rfl rfl (by show _ ≤ (600000 : Nat); omega) (by show _ ≤ (7302250 : Nat); omega) rfl rfl (Nat.le_of_ble_eq_true rfl) rfl (fun v9 n9 M_1 hp9 => ?_)
  obtain ⟨r, x2, rfl, hn1, hn2, hd9, hj9⟩ := hp9
  have hV := hV.lo hj9 (by omega) (by omega)
  obtain ⟨fs9, hMr⟩ := hV.rcv
  have hM : jPic _ (e + 41) [.inr (9, fs9)] := jPic_c hMr
  have hs9 : (ftS sg len 80 0 ≠ -6 ∧ r = -3) ∨ (ftS sg len 80 0 = -6 ∧ 0 ≤ r ∧ coQ sg len 80 0 0 x r x2) := by
    rcases hd9 with ⟨a1, a2, -⟩ | ⟨a1, a2, a3, -⟩
    · exact Or.inl ⟨a1, a2⟩
    · exact Or.inr ⟨a1, a2, a3⟩
  refine jk_aload_n (q := 746) h dL_law_745 rfl rfl ?_
  refine jk_callV (q := 749) h hX (c_X10_carryOut hV hcc hs9) mv_X10_carryOut (hM.at 0 rfl) dL_law_746 ml_L_98 ⟨rfl, by decide⟩ rfl rfl (by show _ ≤ (600000 : Nat); omega) (by show _ ≤ (7302250 : Nat); omega) rfl rfl (Nat.le_of_ble_eq_true rfl) rfl (fun v9 n9 M_2 hp9 => ?_)
  obtain ⟨rfl, rfl, hd8, ho9⟩ := hp9
  obtain ⟨x3, hl3, hk3, sl3, sg3, len3, hG3⟩ : ∃ x3 hl3 hk3 sl3 sg3 len3, lgW _ _ e x3 hl3 hk3 sl3 sg3 len3 (k + 1) := by
    rcases hd9 with ⟨a1, a2, hW⟩ | ⟨a1, a2, a3, hW⟩ <;> rcases hd8 with ⟨b1, hV⟩ | ⟨b1, hV⟩
    · exact ⟨_, _, _, _, _, _, hW.keepm ho9 (by omega) (by omega), hV, hI.up⟩
    · exact absurd b1 a1
    · exact absurd a1 b1
    · exact ⟨_, _, _, _, _, _, hW.keepm ho9 (by omega) (by omega), hV, hI.rc (hI.1.co hQ a3)⟩
  refine jk_icmp_same (tgt := 813) h dL_law_749 (by decide) ?_
  exact jk_wid (by omega) (by omega) (kk _ _ _ _ _ _ _ _ hG3)

set_option maxHeartbeats 4000000 in
set_option maxRecDepth 100000 in
theorem lq_19 {X : jX} {nm : String} {l : Launch} {D : va_G} {b0 b L : Nat} {xs : Nat → Int32} (h : jB X cL_law RL nm ret room_1) (hX : jF X l D b0) (hs : jS X b L xs) (hL : L ≤ 3072) {e n k : Nat} {M : jM} {i : Int} (hi0 : 0 ≤ i) (hi6 : i + 6 ≤ L) (hk : k < 512) {x : TS} {hl : Int} {hk9 : Nat → TS} {sl : Nat → Option TS} {sg : Nat → Int} {len : Int} (hG : lgW M n e x hl hk9 sl sg len k) (kk : lgK X b e i k) : jJ X 754 (lgL b e i) [] n M (50 + 26 * k) (5662 + 479 * k) := by
  obtain ⟨hW, hV, hI⟩ := id hG
  have hcc : x.2.2.1.2 ≤ 9990000 := by { have h2 := hI.1.2; omega }
  have hQ := hW.qs.1
  have hE := hW.ob
  refine jk_aload_n (q := 755) h dL_law_754 rfl rfl ?_
  refine jk_callV (q := 758) h hX (c_X9_undo hW) mv_X9_undo (hE.at 0 rfl) dL_law_755 ml_L_99 ⟨rfl, by decide⟩ rfl rfl (by show _ ≤ (600000 : Nat); omega) (by show _ ≤ (7302250 : Nat); omega) rfl rfl (Nat.le_of_ble_eq_true rfl) rfl (fun v9 n9 M_1 hp9 => ?_)
  obtain ⟨r, rfl, rfl, hd9, hj9⟩ := hp9
  have hV := hV.lo hj9 (by omega) (by omega)
  obtain ⟨fs9, hMr⟩ := hV.rcv
  have hM : jPic _ (e + 41) [.inr (9, fs9)] := jPic_c hMr
  refine jk_aload_n (q := 759) h dL_law_758 rfl rfl ?_
  refine jk_callV (q := 762) h hX (c_X10_undo hV) mv_X10_undo (hM.at 0 rfl) dL_law_759 ml_L_102 ⟨rfl, by decide⟩ rfl rfl (by show _ ≤ (600000 : Nat); omega) (by show _ ≤ (7302250 : Nat); omega) rfl rfl (Nat.le_of_ble_eq_true rfl) rfl (fun v9 n9 M_2 hp9 => ?_)
  obtain ⟨r2, rfl, rfl, hd8, ho9⟩ := hp9
  obtain ⟨x3, hl3, hk3, sl3, sg3, len3, hre, hG3⟩ : ∃ x3 hl3 hk3 sl3 sg3 len3, r2 = r ∧ lgW _ _ e x3 hl3 hk3 sl3 sg3 len3 (k + 1) := by
    rcases hd9 with ⟨a1, a2, hW⟩ | ⟨a1, a2, hW⟩ <;> rcases hd8 with ⟨b1, b2, hV⟩ | ⟨b1, b2, hV⟩
    · exact ⟨_, _, _, _, _, _, by omega, hW.keepm ho9 (by omega) (by omega), hV, hI.up⟩
    · omega
    · omega
    · exact ⟨_, _, _, _, _, _, by omega, hW.keepm ho9 (by omega) (by omega), hV, ⟨(hI.2.1 0 (by omega)).up, fun j hj => (hI.2.1 (j + 1) (by omega)).up, hI.up.2.2⟩⟩
  rw [hre]
  refine jk_icmp_same (tgt := 813) h dL_law_762 (by decide) ?_
  exact jk_wid (by omega) (by omega) (kk _ _ _ _ _ _ _ _ hG3)

set_option maxHeartbeats 4000000 in
set_option maxRecDepth 100000 in
theorem lq_20 {X : jX} {nm : String} {l : Launch} {D : va_G} {b0 b L : Nat} {xs : Nat → Int32} (h : jB X cL_law RL nm ret room_1) (hX : jF X l D b0) (hs : jS X b L xs) (hL : L ≤ 3072) {e n k : Nat} {M : jM} {i : Int} (hi0 : 0 ≤ i) (hi6 : i + 6 ≤ L) (hk : k < 512) {x : TS} {hl : Int} {hk9 : Nat → TS} {sl : Nat → Option TS} {sg : Nat → Int} {len : Int} (hG : lgW M n e x hl hk9 sl sg len k) (kk : lgK X b e i k) : jJ X 767 (lgL b e i) [] n M (50 + 26 * k) (5662 + 479 * k) := by
  obtain ⟨hW, hV, hI⟩ := id hG
  have hcc : x.2.2.1.2 ≤ 9990000 := by { have h2 := hI.1.2; omega }
  have hQ := hW.qs.1
  have hE := hW.ob
  refine jk_aload_n (q := 768) h dL_law_767 rfl rfl ?_
  refine jk_aload_n (q := 769) h dL_law_768 rfl rfl ?_
  refine jk_iload_n (q := 770) h dL_law_769 rfl rfl ?_
  refine jk_iconst (q := 771) h dL_law_770 rfl ?_
  refine jk_iadd (q := 772) h dL_law_771 rfl ?_
  refine jk_sld (q := 773) h hs (by omega) (by omega) hL dL_law_772 rfl ?_
  refine jk_callV (q := 776) h hX (c_X9_save hW (jRng_of _)) mv_X9_save (hE.at 0 rfl) dL_law_773 ml_L_103 ⟨rfl, by decide⟩ rfl rfl (by show _ ≤ (600000 : Nat); omega) (by show _ ≤ (7302250 : Nat); omega) rfl rfl (Nat.le_of_ble_eq_true rfl) rfl (fun v9 n9 M_1 hp9 => ?_)
  obtain ⟨r, rfl, hn1, hn2, hd9, hj9⟩ := hp9
  have hV := hV.lo hj9 (by omega) (by omega)
  obtain ⟨fs9, hMr⟩ := hV.rcv
  have hM : jPic _ (e + 41) [.inr (9, fs9)] := jPic_c hMr
  refine jk_aload_n (q := 777) h dL_law_776 rfl rfl ?_
  refine jk_aload_n (q := 778) h dL_law_777 rfl rfl ?_
  refine jk_iload_n (q := 779) h dL_law_778 rfl rfl ?_
  refine jk_iconst (q := 780) h dL_law_779 rfl ?_
  refine jk_iadd (q := 781) h dL_law_780 rfl ?_
  refine jk_sld (q := 782) h hs (by omega) (by omega) hL dL_law_781 rfl ?_
  refine jk_callV (q := 785) h hX (c_X10_save hV (jRng_of _)) mv_X10_save (hM.at 0 rfl) dL_law_782 ml_L_106 ⟨rfl, by decide⟩ rfl rfl (by show _ ≤ (600000 : Nat); omega) (by show _ ≤ (7302250 : Nat); omega) rfl rfl (Nat.le_of_ble_eq_true rfl) rfl (fun v9 n9 M_2 hp9 => ?_)
  obtain ⟨r2, rfl, rfl, hd8, ho9⟩ := hp9
  obtain ⟨x3, hl3, hk3, sl3, sg3, len3, hre, hG3⟩ : ∃ x3 hl3 hk3 sl3 sg3 len3, r2 = r ∧ lgW _ _ e x3 hl3 hk3 sl3 sg3 len3 (k + 1) := by
    rcases hd9 with ⟨a1, a2, hW⟩ | ⟨a1, a2, hW⟩ <;> rcases hd8 with ⟨b1, b2, hV⟩ | ⟨b1, b2, hV⟩
    · exact ⟨_, _, _, _, _, _, by omega, hW.keepm ho9 (by omega) (by omega), hV, hI.up⟩
    · exact absurd b1 a1
    · exact absurd a1 b1
    · refine ⟨_, _, _, _, _, _, by omega, hW.keepm ho9 (by omega) (by omega), hV, ⟨hI.1.up, hI.up.2.1, fun j y hj hy => ?_⟩⟩
      by_cases g : j = (sc xs (i + 1)).toNat
      · simp only [if_pos g, Option.some.injEq] at hy
        rw [← hy]
        exact hI.1.up
      · simp only [if_neg g] at hy
        exact hI.up.2.2 j y hj hy
  rw [hre]
  refine jk_icmp_same (tgt := 813) h dL_law_785 (by decide) ?_
  exact jk_wid (by omega) (by omega) (kk _ _ _ _ _ _ _ _ hG3)

set_option maxHeartbeats 4000000 in
set_option maxRecDepth 100000 in
theorem lq_21 {X : jX} {nm : String} {l : Launch} {D : va_G} {b0 b L : Nat} {xs : Nat → Int32} (h : jB X cL_law RL nm ret room_1) (hX : jF X l D b0) (hs : jS X b L xs) (hL : L ≤ 3072) {e n k : Nat} {M : jM} {i : Int} (hi0 : 0 ≤ i) (hi6 : i + 6 ≤ L) (hk : k < 512) {x : TS} {hl : Int} {hk9 : Nat → TS} {sl : Nat → Option TS} {sg : Nat → Int} {len : Int} (hG : lgW M n e x hl hk9 sl sg len k) (kk : lgK X b e i k) : jJ X 790 (lgL b e i) [] n M (50 + 26 * k) (5662 + 479 * k) := by
  obtain ⟨hW, hV, hI⟩ := id hG
  have hcc : x.2.2.1.2 ≤ 9990000 := by { have h2 := hI.1.2; omega }
  have hQ := hW.qs.1
  have hE := hW.ob
  refine jk_aload_n (q := 791) h dL_law_790 rfl rfl ?_
  refine jk_aload_n (q := 792) h dL_law_791 rfl rfl ?_
  refine jk_iload_n (q := 793) h dL_law_792 rfl rfl ?_
  refine jk_iconst (q := 794) h dL_law_793 rfl ?_
  refine jk_iadd (q := 795) h dL_law_794 rfl ?_
  refine jk_sld (q := 796) h hs (by omega) (by omega) hL dL_law_795 rfl ?_
  refine jk_callV (q := 799) h hX (c_X9_restore hW (jRng_of _)) mv_X9_restore (hE.at 0 rfl) dL_law_796 ml_L_107 ⟨rfl, by decide⟩ rfl rfl (by show _ ≤ (600000 : Nat); omega) (by show _ ≤ (7302250 : Nat); omega) rfl rfl (Nat.le_of_ble_eq_true rfl) rfl (fun v9 n9 M_1 hp9 => ?_)
  obtain ⟨r, rfl, hn1, hn2, hd9, hj9⟩ := hp9
  have hV := hV.lo hj9 (by omega) (by omega)
  obtain ⟨fs9, hMr⟩ := hV.rcv
  have hM : jPic _ (e + 41) [.inr (9, fs9)] := jPic_c hMr
  refine jk_aload_n (q := 800) h dL_law_799 rfl rfl ?_
  refine jk_aload_n (q := 801) h dL_law_800 rfl rfl ?_
  refine jk_iload_n (q := 802) h dL_law_801 rfl rfl ?_
  refine jk_iconst (q := 803) h dL_law_802 rfl ?_
  refine jk_iadd (q := 804) h dL_law_803 rfl ?_
  refine jk_sld (q := 805) h hs (by omega) (by omega) hL dL_law_804 rfl ?_
  refine jk_callV (q := 808) h hX (c_X10_restore hV (jRng_of _)) mv_X10_restore (hM.at 0 rfl) dL_law_805 ml_L_110 ⟨rfl, by decide⟩ rfl rfl (by show _ ≤ (600000 : Nat); omega) (by show _ ≤ (7302250 : Nat); omega) rfl rfl (Nat.le_of_ble_eq_true rfl) rfl (fun v9 n9 M_2 hp9 => ?_)
  obtain ⟨r2, rfl, rfl, hd8, ho9⟩ := hp9
  obtain ⟨x3, hl3, hk3, sl3, sg3, len3, hre, hG3⟩ : ∃ x3 hl3 hk3 sl3 sg3 len3, r2 = r ∧ lgW _ _ e x3 hl3 hk3 sl3 sg3 len3 (k + 1) := by
    rcases hd9 with ⟨a1, a2, hW⟩ | ⟨a1, a3, a2, hW⟩ | ⟨a1, y, a3, a2, hW⟩ <;> rcases hd8 with ⟨b1, b2, hV⟩ | ⟨b1, b3, b2, hV⟩ | ⟨b1, y2, b3, b2, hV⟩
    · exact ⟨_, _, _, _, _, _, by omega, hW.keepm ho9 (by omega) (by omega), hV, hI.up⟩
    · exact absurd b1 a1
    · exact absurd b1 a1
    · exact absurd a1 b1
    · exact ⟨_, _, _, _, _, _, by omega, hW.keepm ho9 (by omega) (by omega), hV, hI.up⟩
    · rw [a3] at b3; cases b3
    · exact absurd a1 b1
    · rw [a3] at b3; cases b3
    · rw [a3] at b3
      cases b3
      refine ⟨_, _, _, _, _, _, by rw [a2, b2], hW.keepm ho9 (by omega) (by omega), ?_, hI.rc (hI.2.2 ((xs (i + 1).toNat).toInt).toNat y (by omega) a3).up⟩
      rw [a2, ← b2]
      exact hV
  rw [hre]
  refine jk_icmp_same (tgt := 813) h dL_law_808 (by decide) ?_
  exact jk_wid (by omega) (by omega) (kk _ _ _ _ _ _ _ _ hG3)
