/-! The law: a case a method -/
theorem lc_type {V : VT} {K : KT} {nc ns b L t : Nat} {xs : Nat → Int32} {ad : Nat → Nat → Nat} {ad2 : Nat → Nat} {CW MW : va_W} (cx : Cx V K 4 cL_law RL room_1) (hX : CxL K b L xs) (hL : L ≤ 2048) (ht : 4 * t + 4 ≤ L) (hcs : nc ≤ room_1.cells ∧ ns ≤ room_1.slots) (hJ : JX V ad ad2 CW MW) (k : ∀ CW' MW', JX V ad ad2 CW' MW' → G V K 4 nc ns [CW', MW'].flatten 760 [(0, .ref b), (1, .ref (ad 12 6)), (2, .ref (ad2 0)), (3, .int (nI (4 * t)))] []) : G V K 4 nc ns [CW, MW].flatten 152 [(0, .ref b), (1, .ref (ad 12 6)), (2, .ref (ad2 0)), (3, .int (nI (4 * t)))] [] := by
  obtain ⟨r, CW', MW', r1, r2, h1, h2, hc, hm, hJ'⟩ := st_type hJ (xs (4 * t + 1))
  obtain ⟨a1, f0, f1⟩ := JX_ad hJ
  obtain ⟨a2, _, _⟩ := JX_ad hJ'
  refine g_aload_n (v := ad 12 6) cx dL_law_152 rfl ?_
  refine g_aload_n (v := b) cx dL_law_153 rfl ?_
  refine g_iload_n (v := nI (4 * t)) cx dL_law_154 rfl ?_
  refine g_iconst (v := 1) cx dL_law_155 (by decide) ?_
  refine g_iadd cx dL_law_156 ?_
  refine g_sld (j := 4 * t + 1) cx hX (rf_add rfl (nl 1)) (by omega) hL dL_law_157 ?_
  refine lx_x (rest := []) (As := [.int (xs (4 * t + 1))]) cx h1 f0 a1.1 a2.1 hc ml_L_13 rfl dL_law_158 rfl rfl (Nat.le_of_ble_eq_true rfl) (Nat.le_of_ble_eq_true rfl) ⟨Nat.le_of_ble_eq_true rfl, Nat.le_of_ble_eq_true rfl⟩ hcs ?_
  refine g_aload_n (v := ad2 0) cx dL_law_161 rfl ?_
  refine g_aload_n (v := b) cx dL_law_162 rfl ?_
  refine g_iload_n (v := nI (4 * t)) cx dL_law_163 rfl ?_
  refine g_iconst (v := 1) cx dL_law_164 (by decide) ?_
  refine g_iadd cx dL_law_165 ?_
  refine g_sld (j := 4 * t + 1) cx hX (rf_add rfl (nl 1)) (by omega) hL dL_law_166 ?_
  refine lx_m (rest := [.int r]) (As := [.int (xs (4 * t + 1))]) cx h2 f1 a1.2 a2.2 hm ml_L_17 rfl dL_law_167 rfl rfl (Nat.le_of_ble_eq_true rfl) (Nat.le_of_ble_eq_true rfl) ⟨Nat.le_of_ble_eq_true rfl, Nat.le_of_ble_eq_true rfl⟩ hcs ?_
  exact g_icmp_eq cx 760 dL_law_170 (by decide) (fun _ => k _ _ hJ') (fun g => absurd rfl g)
theorem lc_clear {V : VT} {K : KT} {nc ns b L t : Nat} {xs : Nat → Int32} {ad : Nat → Nat → Nat} {ad2 : Nat → Nat} {CW MW : va_W} (cx : Cx V K 4 cL_law RL room_1) (hX : CxL K b L xs) (hL : L ≤ 2048) (ht : 4 * t + 4 ≤ L) (hcs : nc ≤ room_1.cells ∧ ns ≤ room_1.slots) (hJ : JX V ad ad2 CW MW) (k : ∀ CW' MW', JX V ad ad2 CW' MW' → G V K 4 nc ns [CW', MW'].flatten 760 [(0, .ref b), (1, .ref (ad 12 6)), (2, .ref (ad2 0)), (3, .int (nI (4 * t)))] []) : G V K 4 nc ns [CW, MW].flatten 175 [(0, .ref b), (1, .ref (ad 12 6)), (2, .ref (ad2 0)), (3, .int (nI (4 * t)))] [] := by
  obtain ⟨r, CW', MW', r1, r2, h1, h2, hc, hm, hJ'⟩ := st_clear hJ
  obtain ⟨a1, f0, f1⟩ := JX_ad hJ
  obtain ⟨a2, _, _⟩ := JX_ad hJ'
  refine g_aload_n (v := ad 12 6) cx dL_law_175 rfl ?_
  refine lx_x (rest := []) (As := []) cx h1 f0 a1.1 a2.1 hc ml_L_18 rfl dL_law_176 rfl rfl (Nat.le_of_ble_eq_true rfl) (Nat.le_of_ble_eq_true rfl) ⟨Nat.le_of_ble_eq_true rfl, Nat.le_of_ble_eq_true rfl⟩ hcs ?_
  refine g_aload_n (v := ad2 0) cx dL_law_179 rfl ?_
  refine lx_m (rest := [.int r]) (As := []) cx h2 f1 a1.2 a2.2 hm ml_L_22 rfl dL_law_180 rfl rfl (Nat.le_of_ble_eq_true rfl) (Nat.le_of_ble_eq_true rfl) ⟨Nat.le_of_ble_eq_true rfl, Nat.le_of_ble_eq_true rfl⟩ hcs ?_
  exact g_icmp_eq cx 760 dL_law_183 (by decide) (fun _ => k _ _ hJ') (fun g => absurd rfl g)
theorem lc_wires {V : VT} {K : KT} {nc ns b L t : Nat} {xs : Nat → Int32} {ad : Nat → Nat → Nat} {ad2 : Nat → Nat} {CW MW : va_W} (cx : Cx V K 4 cL_law RL room_1) (hX : CxL K b L xs) (hL : L ≤ 2048) (ht : 4 * t + 4 ≤ L) (hcs : nc ≤ room_1.cells ∧ ns ≤ room_1.slots) (hJ : JX V ad ad2 CW MW) (k : ∀ CW' MW', JX V ad ad2 CW' MW' → G V K 4 nc ns [CW', MW'].flatten 760 [(0, .ref b), (1, .ref (ad 12 6)), (2, .ref (ad2 0)), (3, .int (nI (4 * t)))] []) : G V K 4 nc ns [CW, MW].flatten 188 [(0, .ref b), (1, .ref (ad 12 6)), (2, .ref (ad2 0)), (3, .int (nI (4 * t)))] [] := by
  obtain ⟨r, CW', MW', r1, r2, h1, h2, hc, hm, hJ'⟩ := st_wires hJ
  obtain ⟨a1, f0, f1⟩ := JX_ad hJ
  obtain ⟨a2, _, _⟩ := JX_ad hJ'
  refine g_aload_n (v := ad 12 6) cx dL_law_188 rfl ?_
  refine lx_x (rest := []) (As := []) cx h1 f0 a1.1 a2.1 hc ml_L_23 rfl dL_law_189 rfl rfl (Nat.le_of_ble_eq_true rfl) (Nat.le_of_ble_eq_true rfl) ⟨Nat.le_of_ble_eq_true rfl, Nat.le_of_ble_eq_true rfl⟩ hcs ?_
  refine g_aload_n (v := ad2 0) cx dL_law_192 rfl ?_
  refine lx_m (rest := [.int r]) (As := []) cx h2 f1 a1.2 a2.2 hm ml_L_26 rfl dL_law_193 rfl rfl (Nat.le_of_ble_eq_true rfl) (Nat.le_of_ble_eq_true rfl) ⟨Nat.le_of_ble_eq_true rfl, Nat.le_of_ble_eq_true rfl⟩ hcs ?_
  exact g_icmp_eq cx 760 dL_law_196 (by decide) (fun _ => k _ _ hJ') (fun g => absurd rfl g)
theorem lc_frames {V : VT} {K : KT} {nc ns b L t : Nat} {xs : Nat → Int32} {ad : Nat → Nat → Nat} {ad2 : Nat → Nat} {CW MW : va_W} (cx : Cx V K 4 cL_law RL room_1) (hX : CxL K b L xs) (hL : L ≤ 2048) (ht : 4 * t + 4 ≤ L) (hcs : nc ≤ room_1.cells ∧ ns ≤ room_1.slots) (hJ : JX V ad ad2 CW MW) (k : ∀ CW' MW', JX V ad ad2 CW' MW' → G V K 4 nc ns [CW', MW'].flatten 760 [(0, .ref b), (1, .ref (ad 12 6)), (2, .ref (ad2 0)), (3, .int (nI (4 * t)))] []) : G V K 4 nc ns [CW, MW].flatten 201 [(0, .ref b), (1, .ref (ad 12 6)), (2, .ref (ad2 0)), (3, .int (nI (4 * t)))] [] := by
  obtain ⟨r, CW', MW', r1, r2, h1, h2, hc, hm, hJ'⟩ := st_frames hJ
  obtain ⟨a1, f0, f1⟩ := JX_ad hJ
  obtain ⟨a2, _, _⟩ := JX_ad hJ'
  refine g_aload_n (v := ad 12 6) cx dL_law_201 rfl ?_
  refine lx_x (rest := []) (As := []) cx h1 f0 a1.1 a2.1 hc ml_L_27 rfl dL_law_202 rfl rfl (Nat.le_of_ble_eq_true rfl) (Nat.le_of_ble_eq_true rfl) ⟨Nat.le_of_ble_eq_true rfl, Nat.le_of_ble_eq_true rfl⟩ hcs ?_
  refine g_aload_n (v := ad2 0) cx dL_law_205 rfl ?_
  refine lx_m (rest := [.int r]) (As := []) cx h2 f1 a1.2 a2.2 hm ml_L_30 rfl dL_law_206 rfl rfl (Nat.le_of_ble_eq_true rfl) (Nat.le_of_ble_eq_true rfl) ⟨Nat.le_of_ble_eq_true rfl, Nat.le_of_ble_eq_true rfl⟩ hcs ?_
  exact g_icmp_eq cx 760 dL_law_209 (by decide) (fun _ => k _ _ hJ') (fun g => absurd rfl g)
theorem lc_cuts {V : VT} {K : KT} {nc ns b L t : Nat} {xs : Nat → Int32} {ad : Nat → Nat → Nat} {ad2 : Nat → Nat} {CW MW : va_W} (cx : Cx V K 4 cL_law RL room_1) (hX : CxL K b L xs) (hL : L ≤ 2048) (ht : 4 * t + 4 ≤ L) (hcs : nc ≤ room_1.cells ∧ ns ≤ room_1.slots) (hJ : JX V ad ad2 CW MW) (k : ∀ CW' MW', JX V ad ad2 CW' MW' → G V K 4 nc ns [CW', MW'].flatten 760 [(0, .ref b), (1, .ref (ad 12 6)), (2, .ref (ad2 0)), (3, .int (nI (4 * t)))] []) : G V K 4 nc ns [CW, MW].flatten 214 [(0, .ref b), (1, .ref (ad 12 6)), (2, .ref (ad2 0)), (3, .int (nI (4 * t)))] [] := by
  obtain ⟨r, CW', MW', r1, r2, h1, h2, hc, hm, hJ'⟩ := st_cuts hJ (xs (4 * t + 1))
  obtain ⟨a1, f0, f1⟩ := JX_ad hJ
  obtain ⟨a2, _, _⟩ := JX_ad hJ'
  refine g_aload_n (v := ad 12 6) cx dL_law_214 rfl ?_
  refine g_aload_n (v := b) cx dL_law_215 rfl ?_
  refine g_iload_n (v := nI (4 * t)) cx dL_law_216 rfl ?_
  refine g_iconst (v := 1) cx dL_law_217 (by decide) ?_
  refine g_iadd cx dL_law_218 ?_
  refine g_sld (j := 4 * t + 1) cx hX (rf_add rfl (nl 1)) (by omega) hL dL_law_219 ?_
  refine lx_x (rest := []) (As := [.int (xs (4 * t + 1))]) cx h1 f0 a1.1 a2.1 hc ml_L_31 rfl dL_law_220 rfl rfl (Nat.le_of_ble_eq_true rfl) (Nat.le_of_ble_eq_true rfl) ⟨Nat.le_of_ble_eq_true rfl, Nat.le_of_ble_eq_true rfl⟩ hcs ?_
  refine g_aload_n (v := ad2 0) cx dL_law_223 rfl ?_
  refine g_aload_n (v := b) cx dL_law_224 rfl ?_
  refine g_iload_n (v := nI (4 * t)) cx dL_law_225 rfl ?_
  refine g_iconst (v := 1) cx dL_law_226 (by decide) ?_
  refine g_iadd cx dL_law_227 ?_
  refine g_sld (j := 4 * t + 1) cx hX (rf_add rfl (nl 1)) (by omega) hL dL_law_228 ?_
  refine lx_m (rest := [.int r]) (As := [.int (xs (4 * t + 1))]) cx h2 f1 a1.2 a2.2 hm ml_L_34 rfl dL_law_229 rfl rfl (Nat.le_of_ble_eq_true rfl) (Nat.le_of_ble_eq_true rfl) ⟨Nat.le_of_ble_eq_true rfl, Nat.le_of_ble_eq_true rfl⟩ hcs ?_
  exact g_icmp_eq cx 760 dL_law_232 (by decide) (fun _ => k _ _ hJ') (fun g => absurd rfl g)
theorem lc_heals {V : VT} {K : KT} {nc ns b L t : Nat} {xs : Nat → Int32} {ad : Nat → Nat → Nat} {ad2 : Nat → Nat} {CW MW : va_W} (cx : Cx V K 4 cL_law RL room_1) (hX : CxL K b L xs) (hL : L ≤ 2048) (ht : 4 * t + 4 ≤ L) (hcs : nc ≤ room_1.cells ∧ ns ≤ room_1.slots) (hJ : JX V ad ad2 CW MW) (k : ∀ CW' MW', JX V ad ad2 CW' MW' → G V K 4 nc ns [CW', MW'].flatten 760 [(0, .ref b), (1, .ref (ad 12 6)), (2, .ref (ad2 0)), (3, .int (nI (4 * t)))] []) : G V K 4 nc ns [CW, MW].flatten 237 [(0, .ref b), (1, .ref (ad 12 6)), (2, .ref (ad2 0)), (3, .int (nI (4 * t)))] [] := by
  obtain ⟨r, CW', MW', r1, r2, h1, h2, hc, hm, hJ'⟩ := st_heals hJ (xs (4 * t + 1))
  obtain ⟨a1, f0, f1⟩ := JX_ad hJ
  obtain ⟨a2, _, _⟩ := JX_ad hJ'
  refine g_aload_n (v := ad 12 6) cx dL_law_237 rfl ?_
  refine g_aload_n (v := b) cx dL_law_238 rfl ?_
  refine g_iload_n (v := nI (4 * t)) cx dL_law_239 rfl ?_
  refine g_iconst (v := 1) cx dL_law_240 (by decide) ?_
  refine g_iadd cx dL_law_241 ?_
  refine g_sld (j := 4 * t + 1) cx hX (rf_add rfl (nl 1)) (by omega) hL dL_law_242 ?_
  refine lx_x (rest := []) (As := [.int (xs (4 * t + 1))]) cx h1 f0 a1.1 a2.1 hc ml_L_35 rfl dL_law_243 rfl rfl (Nat.le_of_ble_eq_true rfl) (Nat.le_of_ble_eq_true rfl) ⟨Nat.le_of_ble_eq_true rfl, Nat.le_of_ble_eq_true rfl⟩ hcs ?_
  refine g_aload_n (v := ad2 0) cx dL_law_246 rfl ?_
  refine g_aload_n (v := b) cx dL_law_247 rfl ?_
  refine g_iload_n (v := nI (4 * t)) cx dL_law_248 rfl ?_
  refine g_iconst (v := 1) cx dL_law_249 (by decide) ?_
  refine g_iadd cx dL_law_250 ?_
  refine g_sld (j := 4 * t + 1) cx hX (rf_add rfl (nl 1)) (by omega) hL dL_law_251 ?_
  refine lx_m (rest := [.int r]) (As := [.int (xs (4 * t + 1))]) cx h2 f1 a1.2 a2.2 hm ml_L_38 rfl dL_law_252 rfl rfl (Nat.le_of_ble_eq_true rfl) (Nat.le_of_ble_eq_true rfl) ⟨Nat.le_of_ble_eq_true rfl, Nat.le_of_ble_eq_true rfl⟩ hcs ?_
  exact g_icmp_eq cx 760 dL_law_255 (by decide) (fun _ => k _ _ hJ') (fun g => absurd rfl g)
theorem lc_cycles {V : VT} {K : KT} {nc ns b L t : Nat} {xs : Nat → Int32} {ad : Nat → Nat → Nat} {ad2 : Nat → Nat} {CW MW : va_W} (cx : Cx V K 4 cL_law RL room_1) (hX : CxL K b L xs) (hL : L ≤ 2048) (ht : 4 * t + 4 ≤ L) (hcs : nc ≤ room_1.cells ∧ ns ≤ room_1.slots) (hJ : JX V ad ad2 CW MW) (k : ∀ CW' MW', JX V ad ad2 CW' MW' → G V K 4 nc ns [CW', MW'].flatten 760 [(0, .ref b), (1, .ref (ad 12 6)), (2, .ref (ad2 0)), (3, .int (nI (4 * t)))] []) : G V K 4 nc ns [CW, MW].flatten 260 [(0, .ref b), (1, .ref (ad 12 6)), (2, .ref (ad2 0)), (3, .int (nI (4 * t)))] [] := by
  obtain ⟨r, CW', MW', r1, r2, h1, h2, hc, hm, hJ'⟩ := st_cycles hJ (xs (4 * t + 1))
  obtain ⟨a1, f0, f1⟩ := JX_ad hJ
  obtain ⟨a2, _, _⟩ := JX_ad hJ'
  refine g_aload_n (v := ad 12 6) cx dL_law_260 rfl ?_
  refine g_aload_n (v := b) cx dL_law_261 rfl ?_
  refine g_iload_n (v := nI (4 * t)) cx dL_law_262 rfl ?_
  refine g_iconst (v := 1) cx dL_law_263 (by decide) ?_
  refine g_iadd cx dL_law_264 ?_
  refine g_sld (j := 4 * t + 1) cx hX (rf_add rfl (nl 1)) (by omega) hL dL_law_265 ?_
  refine lx_x (rest := []) (As := [.int (xs (4 * t + 1))]) cx h1 f0 a1.1 a2.1 hc ml_L_39 rfl dL_law_266 rfl rfl (Nat.le_of_ble_eq_true rfl) (Nat.le_of_ble_eq_true rfl) ⟨Nat.le_of_ble_eq_true rfl, Nat.le_of_ble_eq_true rfl⟩ hcs ?_
  refine g_aload_n (v := ad2 0) cx dL_law_269 rfl ?_
  refine g_aload_n (v := b) cx dL_law_270 rfl ?_
  refine g_iload_n (v := nI (4 * t)) cx dL_law_271 rfl ?_
  refine g_iconst (v := 1) cx dL_law_272 (by decide) ?_
  refine g_iadd cx dL_law_273 ?_
  refine g_sld (j := 4 * t + 1) cx hX (rf_add rfl (nl 1)) (by omega) hL dL_law_274 ?_
  refine lx_m (rest := [.int r]) (As := [.int (xs (4 * t + 1))]) cx h2 f1 a1.2 a2.2 hm ml_L_42 rfl dL_law_275 rfl rfl (Nat.le_of_ble_eq_true rfl) (Nat.le_of_ble_eq_true rfl) ⟨Nat.le_of_ble_eq_true rfl, Nat.le_of_ble_eq_true rfl⟩ hcs ?_
  exact g_icmp_eq cx 760 dL_law_278 (by decide) (fun _ => k _ _ hJ') (fun g => absurd rfl g)
theorem lc_resets {V : VT} {K : KT} {nc ns b L t : Nat} {xs : Nat → Int32} {ad : Nat → Nat → Nat} {ad2 : Nat → Nat} {CW MW : va_W} (cx : Cx V K 4 cL_law RL room_1) (hX : CxL K b L xs) (hL : L ≤ 2048) (ht : 4 * t + 4 ≤ L) (hcs : nc ≤ room_1.cells ∧ ns ≤ room_1.slots) (hJ : JX V ad ad2 CW MW) (k : ∀ CW' MW', JX V ad ad2 CW' MW' → G V K 4 nc ns [CW', MW'].flatten 760 [(0, .ref b), (1, .ref (ad 12 6)), (2, .ref (ad2 0)), (3, .int (nI (4 * t)))] []) : G V K 4 nc ns [CW, MW].flatten 283 [(0, .ref b), (1, .ref (ad 12 6)), (2, .ref (ad2 0)), (3, .int (nI (4 * t)))] [] := by
  obtain ⟨r, CW', MW', r1, r2, h1, h2, hc, hm, hJ'⟩ := st_resets hJ (xs (4 * t + 1))
  obtain ⟨a1, f0, f1⟩ := JX_ad hJ
  obtain ⟨a2, _, _⟩ := JX_ad hJ'
  refine g_aload_n (v := ad 12 6) cx dL_law_283 rfl ?_
  refine g_aload_n (v := b) cx dL_law_284 rfl ?_
  refine g_iload_n (v := nI (4 * t)) cx dL_law_285 rfl ?_
  refine g_iconst (v := 1) cx dL_law_286 (by decide) ?_
  refine g_iadd cx dL_law_287 ?_
  refine g_sld (j := 4 * t + 1) cx hX (rf_add rfl (nl 1)) (by omega) hL dL_law_288 ?_
  refine lx_x (rest := []) (As := [.int (xs (4 * t + 1))]) cx h1 f0 a1.1 a2.1 hc ml_L_43 rfl dL_law_289 rfl rfl (Nat.le_of_ble_eq_true rfl) (Nat.le_of_ble_eq_true rfl) ⟨Nat.le_of_ble_eq_true rfl, Nat.le_of_ble_eq_true rfl⟩ hcs ?_
  refine g_aload_n (v := ad2 0) cx dL_law_292 rfl ?_
  refine g_aload_n (v := b) cx dL_law_293 rfl ?_
  refine g_iload_n (v := nI (4 * t)) cx dL_law_294 rfl ?_
  refine g_iconst (v := 1) cx dL_law_295 (by decide) ?_
  refine g_iadd cx dL_law_296 ?_
  refine g_sld (j := 4 * t + 1) cx hX (rf_add rfl (nl 1)) (by omega) hL dL_law_297 ?_
  refine lx_m (rest := [.int r]) (As := [.int (xs (4 * t + 1))]) cx h2 f1 a1.2 a2.2 hm ml_L_46 rfl dL_law_298 rfl rfl (Nat.le_of_ble_eq_true rfl) (Nat.le_of_ble_eq_true rfl) ⟨Nat.le_of_ble_eq_true rfl, Nat.le_of_ble_eq_true rfl⟩ hcs ?_
  exact g_icmp_eq cx 760 dL_law_301 (by decide) (fun _ => k _ _ hJ') (fun g => absurd rfl g)
theorem lc_sets {V : VT} {K : KT} {nc ns b L t : Nat} {xs : Nat → Int32} {ad : Nat → Nat → Nat} {ad2 : Nat → Nat} {CW MW : va_W} (cx : Cx V K 4 cL_law RL room_1) (hX : CxL K b L xs) (hL : L ≤ 2048) (ht : 4 * t + 4 ≤ L) (hcs : nc ≤ room_1.cells ∧ ns ≤ room_1.slots) (hJ : JX V ad ad2 CW MW) (k : ∀ CW' MW', JX V ad ad2 CW' MW' → G V K 4 nc ns [CW', MW'].flatten 760 [(0, .ref b), (1, .ref (ad 12 6)), (2, .ref (ad2 0)), (3, .int (nI (4 * t)))] []) : G V K 4 nc ns [CW, MW].flatten 306 [(0, .ref b), (1, .ref (ad 12 6)), (2, .ref (ad2 0)), (3, .int (nI (4 * t)))] [] := by
  obtain ⟨r, CW', MW', r1, r2, h1, h2, hc, hm, hJ'⟩ := st_sets hJ (xs (4 * t + 1)) (xs (4 * t + 2)) (xs (4 * t + 3))
  obtain ⟨a1, f0, f1⟩ := JX_ad hJ
  obtain ⟨a2, _, _⟩ := JX_ad hJ'
  refine g_aload_n (v := ad 12 6) cx dL_law_306 rfl ?_
  refine g_aload_n (v := b) cx dL_law_307 rfl ?_
  refine g_iload_n (v := nI (4 * t)) cx dL_law_308 rfl ?_
  refine g_iconst (v := 1) cx dL_law_309 (by decide) ?_
  refine g_iadd cx dL_law_310 ?_
  refine g_sld (j := 4 * t + 1) cx hX (rf_add rfl (nl 1)) (by omega) hL dL_law_311 ?_
  refine g_aload_n (v := b) cx dL_law_312 rfl ?_
  refine g_iload_n (v := nI (4 * t)) cx dL_law_313 rfl ?_
  refine g_iconst (v := 2) cx dL_law_314 (by decide) ?_
  refine g_iadd cx dL_law_315 ?_
  refine g_sld (j := 4 * t + 2) cx hX (rf_add rfl (nl 2)) (by omega) hL dL_law_316 ?_
  refine g_aload_n (v := b) cx dL_law_317 rfl ?_
  refine g_iload_n (v := nI (4 * t)) cx dL_law_318 rfl ?_
  refine g_iconst (v := 3) cx dL_law_319 (by decide) ?_
  refine g_iadd cx dL_law_320 ?_
  refine g_sld (j := 4 * t + 3) cx hX (rf_add rfl (nl 3)) (by omega) hL dL_law_321 ?_
  refine lx_x (rest := []) (As := [.int (xs (4 * t + 1)), .int (xs (4 * t + 2)), .int (xs (4 * t + 3))]) cx h1 f0 a1.1 a2.1 hc ml_L_47 rfl dL_law_322 rfl rfl (Nat.le_of_ble_eq_true rfl) (Nat.le_of_ble_eq_true rfl) ⟨Nat.le_of_ble_eq_true rfl, Nat.le_of_ble_eq_true rfl⟩ hcs ?_
  refine g_aload_n (v := ad2 0) cx dL_law_325 rfl ?_
  refine g_aload_n (v := b) cx dL_law_326 rfl ?_
  refine g_iload_n (v := nI (4 * t)) cx dL_law_327 rfl ?_
  refine g_iconst (v := 1) cx dL_law_328 (by decide) ?_
  refine g_iadd cx dL_law_329 ?_
  refine g_sld (j := 4 * t + 1) cx hX (rf_add rfl (nl 1)) (by omega) hL dL_law_330 ?_
  refine g_aload_n (v := b) cx dL_law_331 rfl ?_
  refine g_iload_n (v := nI (4 * t)) cx dL_law_332 rfl ?_
  refine g_iconst (v := 2) cx dL_law_333 (by decide) ?_
  refine g_iadd cx dL_law_334 ?_
  refine g_sld (j := 4 * t + 2) cx hX (rf_add rfl (nl 2)) (by omega) hL dL_law_335 ?_
  refine g_aload_n (v := b) cx dL_law_336 rfl ?_
  refine g_iload_n (v := nI (4 * t)) cx dL_law_337 rfl ?_
  refine g_iconst (v := 3) cx dL_law_338 (by decide) ?_
  refine g_iadd cx dL_law_339 ?_
  refine g_sld (j := 4 * t + 3) cx hX (rf_add rfl (nl 3)) (by omega) hL dL_law_340 ?_
  refine lx_m (rest := [.int r]) (As := [.int (xs (4 * t + 1)), .int (xs (4 * t + 2)), .int (xs (4 * t + 3))]) cx h2 f1 a1.2 a2.2 hm ml_L_51 rfl dL_law_341 rfl rfl (Nat.le_of_ble_eq_true rfl) (Nat.le_of_ble_eq_true rfl) ⟨Nat.le_of_ble_eq_true rfl, Nat.le_of_ble_eq_true rfl⟩ hcs ?_
  exact g_icmp_eq cx 760 dL_law_344 (by decide) (fun _ => k _ _ hJ') (fun g => absurd rfl g)
theorem lc_drifts {V : VT} {K : KT} {nc ns b L t : Nat} {xs : Nat → Int32} {ad : Nat → Nat → Nat} {ad2 : Nat → Nat} {CW MW : va_W} (cx : Cx V K 4 cL_law RL room_1) (hX : CxL K b L xs) (hL : L ≤ 2048) (ht : 4 * t + 4 ≤ L) (hcs : nc ≤ room_1.cells ∧ ns ≤ room_1.slots) (hJ : JX V ad ad2 CW MW) (k : ∀ CW' MW', JX V ad ad2 CW' MW' → G V K 4 nc ns [CW', MW'].flatten 760 [(0, .ref b), (1, .ref (ad 12 6)), (2, .ref (ad2 0)), (3, .int (nI (4 * t)))] []) : G V K 4 nc ns [CW, MW].flatten 349 [(0, .ref b), (1, .ref (ad 12 6)), (2, .ref (ad2 0)), (3, .int (nI (4 * t)))] [] := by
  obtain ⟨r, CW', MW', r1, r2, h1, h2, hc, hm, hJ'⟩ := st_drifts hJ (xs (4 * t + 1)) (xs (4 * t + 2))
  obtain ⟨a1, f0, f1⟩ := JX_ad hJ
  obtain ⟨a2, _, _⟩ := JX_ad hJ'
  refine g_aload_n (v := ad 12 6) cx dL_law_349 rfl ?_
  refine g_aload_n (v := b) cx dL_law_350 rfl ?_
  refine g_iload_n (v := nI (4 * t)) cx dL_law_351 rfl ?_
  refine g_iconst (v := 1) cx dL_law_352 (by decide) ?_
  refine g_iadd cx dL_law_353 ?_
  refine g_sld (j := 4 * t + 1) cx hX (rf_add rfl (nl 1)) (by omega) hL dL_law_354 ?_
  refine g_aload_n (v := b) cx dL_law_355 rfl ?_
  refine g_iload_n (v := nI (4 * t)) cx dL_law_356 rfl ?_
  refine g_iconst (v := 2) cx dL_law_357 (by decide) ?_
  refine g_iadd cx dL_law_358 ?_
  refine g_sld (j := 4 * t + 2) cx hX (rf_add rfl (nl 2)) (by omega) hL dL_law_359 ?_
  refine lx_x (rest := []) (As := [.int (xs (4 * t + 1)), .int (xs (4 * t + 2))]) cx h1 f0 a1.1 a2.1 hc ml_L_52 rfl dL_law_360 rfl rfl (Nat.le_of_ble_eq_true rfl) (Nat.le_of_ble_eq_true rfl) ⟨Nat.le_of_ble_eq_true rfl, Nat.le_of_ble_eq_true rfl⟩ hcs ?_
  refine g_aload_n (v := ad2 0) cx dL_law_363 rfl ?_
  refine g_aload_n (v := b) cx dL_law_364 rfl ?_
  refine g_iload_n (v := nI (4 * t)) cx dL_law_365 rfl ?_
  refine g_iconst (v := 1) cx dL_law_366 (by decide) ?_
  refine g_iadd cx dL_law_367 ?_
  refine g_sld (j := 4 * t + 1) cx hX (rf_add rfl (nl 1)) (by omega) hL dL_law_368 ?_
  refine g_aload_n (v := b) cx dL_law_369 rfl ?_
  refine g_iload_n (v := nI (4 * t)) cx dL_law_370 rfl ?_
  refine g_iconst (v := 2) cx dL_law_371 (by decide) ?_
  refine g_iadd cx dL_law_372 ?_
  refine g_sld (j := 4 * t + 2) cx hX (rf_add rfl (nl 2)) (by omega) hL dL_law_373 ?_
  refine lx_m (rest := [.int r]) (As := [.int (xs (4 * t + 1)), .int (xs (4 * t + 2))]) cx h2 f1 a1.2 a2.2 hm ml_L_56 rfl dL_law_374 rfl rfl (Nat.le_of_ble_eq_true rfl) (Nat.le_of_ble_eq_true rfl) ⟨Nat.le_of_ble_eq_true rfl, Nat.le_of_ble_eq_true rfl⟩ hcs ?_
  exact g_icmp_eq cx 760 dL_law_377 (by decide) (fun _ => k _ _ hJ') (fun g => absurd rfl g)
theorem lc_measures {V : VT} {K : KT} {nc ns b L t : Nat} {xs : Nat → Int32} {ad : Nat → Nat → Nat} {ad2 : Nat → Nat} {CW MW : va_W} (cx : Cx V K 4 cL_law RL room_1) (hX : CxL K b L xs) (hL : L ≤ 2048) (ht : 4 * t + 4 ≤ L) (hcs : nc ≤ room_1.cells ∧ ns ≤ room_1.slots) (hJ : JX V ad ad2 CW MW) (k : ∀ CW' MW', JX V ad ad2 CW' MW' → G V K 4 nc ns [CW', MW'].flatten 760 [(0, .ref b), (1, .ref (ad 12 6)), (2, .ref (ad2 0)), (3, .int (nI (4 * t)))] []) : G V K 4 nc ns [CW, MW].flatten 382 [(0, .ref b), (1, .ref (ad 12 6)), (2, .ref (ad2 0)), (3, .int (nI (4 * t)))] [] := by
  obtain ⟨r, CW', MW', r1, r2, h1, h2, hc, hm, hJ'⟩ := st_measures hJ
  obtain ⟨a1, f0, f1⟩ := JX_ad hJ
  obtain ⟨a2, _, _⟩ := JX_ad hJ'
  refine g_aload_n (v := ad 12 6) cx dL_law_382 rfl ?_
  refine lx_x (rest := []) (As := []) cx h1 f0 a1.1 a2.1 hc ml_L_57 rfl dL_law_383 rfl rfl (Nat.le_of_ble_eq_true rfl) (Nat.le_of_ble_eq_true rfl) ⟨Nat.le_of_ble_eq_true rfl, Nat.le_of_ble_eq_true rfl⟩ hcs ?_
  refine g_aload_n (v := ad2 0) cx dL_law_386 rfl ?_
  refine lx_m (rest := [.int r]) (As := []) cx h2 f1 a1.2 a2.2 hm ml_L_60 rfl dL_law_387 rfl rfl (Nat.le_of_ble_eq_true rfl) (Nat.le_of_ble_eq_true rfl) ⟨Nat.le_of_ble_eq_true rfl, Nat.le_of_ble_eq_true rfl⟩ hcs ?_
  exact g_icmp_eq cx 760 dL_law_390 (by decide) (fun _ => k _ _ hJ') (fun g => absurd rfl g)
theorem lc_undo {V : VT} {K : KT} {nc ns b L t : Nat} {xs : Nat → Int32} {ad : Nat → Nat → Nat} {ad2 : Nat → Nat} {CW MW : va_W} (cx : Cx V K 4 cL_law RL room_1) (hX : CxL K b L xs) (hL : L ≤ 2048) (ht : 4 * t + 4 ≤ L) (hcs : nc ≤ room_1.cells ∧ ns ≤ room_1.slots) (hJ : JX V ad ad2 CW MW) (k : ∀ CW' MW', JX V ad ad2 CW' MW' → G V K 4 nc ns [CW', MW'].flatten 760 [(0, .ref b), (1, .ref (ad 12 6)), (2, .ref (ad2 0)), (3, .int (nI (4 * t)))] []) : G V K 4 nc ns [CW, MW].flatten 395 [(0, .ref b), (1, .ref (ad 12 6)), (2, .ref (ad2 0)), (3, .int (nI (4 * t)))] [] := by
  obtain ⟨r, CW', MW', r1, r2, h1, h2, hc, hm, hJ'⟩ := st_undo hJ
  obtain ⟨a1, f0, f1⟩ := JX_ad hJ
  obtain ⟨a2, _, _⟩ := JX_ad hJ'
  refine g_aload_n (v := ad 12 6) cx dL_law_395 rfl ?_
  refine lx_x (rest := []) (As := []) cx h1 f0 a1.1 a2.1 hc ml_L_61 rfl dL_law_396 rfl rfl (Nat.le_of_ble_eq_true rfl) (Nat.le_of_ble_eq_true rfl) ⟨Nat.le_of_ble_eq_true rfl, Nat.le_of_ble_eq_true rfl⟩ hcs ?_
  refine g_aload_n (v := ad2 0) cx dL_law_399 rfl ?_
  refine lx_m (rest := [.int r]) (As := []) cx h2 f1 a1.2 a2.2 hm ml_L_64 rfl dL_law_400 rfl rfl (Nat.le_of_ble_eq_true rfl) (Nat.le_of_ble_eq_true rfl) ⟨Nat.le_of_ble_eq_true rfl, Nat.le_of_ble_eq_true rfl⟩ hcs ?_
  exact g_icmp_eq cx 760 dL_law_403 (by decide) (fun _ => k _ _ hJ') (fun g => absurd rfl g)
theorem lc_drive {V : VT} {K : KT} {nc ns b L t : Nat} {xs : Nat → Int32} {ad : Nat → Nat → Nat} {ad2 : Nat → Nat} {CW MW : va_W} (cx : Cx V K 4 cL_law RL room_1) (hX : CxL K b L xs) (hL : L ≤ 2048) (ht : 4 * t + 4 ≤ L) (hcs : nc ≤ room_1.cells ∧ ns ≤ room_1.slots) (hJ : JX V ad ad2 CW MW) (k : ∀ CW' MW', JX V ad ad2 CW' MW' → G V K 4 nc ns [CW', MW'].flatten 760 [(0, .ref b), (1, .ref (ad 12 6)), (2, .ref (ad2 0)), (3, .int (nI (4 * t)))] []) : G V K 4 nc ns [CW, MW].flatten 408 [(0, .ref b), (1, .ref (ad 12 6)), (2, .ref (ad2 0)), (3, .int (nI (4 * t)))] [] := by
  obtain ⟨r, CW', MW', r1, r2, h1, h2, hc, hm, hJ'⟩ := st_drive hJ (xs (4 * t + 1)) (xs (4 * t + 2))
  obtain ⟨a1, f0, f1⟩ := JX_ad hJ
  obtain ⟨a2, _, _⟩ := JX_ad hJ'
  refine g_aload_n (v := ad 12 6) cx dL_law_408 rfl ?_
  refine g_aload_n (v := b) cx dL_law_409 rfl ?_
  refine g_iload_n (v := nI (4 * t)) cx dL_law_410 rfl ?_
  refine g_iconst (v := 1) cx dL_law_411 (by decide) ?_
  refine g_iadd cx dL_law_412 ?_
  refine g_sld (j := 4 * t + 1) cx hX (rf_add rfl (nl 1)) (by omega) hL dL_law_413 ?_
  refine g_aload_n (v := b) cx dL_law_414 rfl ?_
  refine g_iload_n (v := nI (4 * t)) cx dL_law_415 rfl ?_
  refine g_iconst (v := 2) cx dL_law_416 (by decide) ?_
  refine g_iadd cx dL_law_417 ?_
  refine g_sld (j := 4 * t + 2) cx hX (rf_add rfl (nl 2)) (by omega) hL dL_law_418 ?_
  refine lx_x (rest := []) (As := [.int (xs (4 * t + 1)), .int (xs (4 * t + 2))]) cx h1 f0 a1.1 a2.1 hc ml_L_65 rfl dL_law_419 rfl rfl (Nat.le_of_ble_eq_true rfl) (Nat.le_of_ble_eq_true rfl) ⟨Nat.le_of_ble_eq_true rfl, Nat.le_of_ble_eq_true rfl⟩ hcs ?_
  refine g_aload_n (v := ad2 0) cx dL_law_422 rfl ?_
  refine g_aload_n (v := b) cx dL_law_423 rfl ?_
  refine g_iload_n (v := nI (4 * t)) cx dL_law_424 rfl ?_
  refine g_iconst (v := 1) cx dL_law_425 (by decide) ?_
  refine g_iadd cx dL_law_426 ?_
  refine g_sld (j := 4 * t + 1) cx hX (rf_add rfl (nl 1)) (by omega) hL dL_law_427 ?_
  refine g_aload_n (v := b) cx dL_law_428 rfl ?_
  refine g_iload_n (v := nI (4 * t)) cx dL_law_429 rfl ?_
  refine g_iconst (v := 2) cx dL_law_430 (by decide) ?_
  refine g_iadd cx dL_law_431 ?_
  refine g_sld (j := 4 * t + 2) cx hX (rf_add rfl (nl 2)) (by omega) hL dL_law_432 ?_
  refine lx_m (rest := [.int r]) (As := [.int (xs (4 * t + 1)), .int (xs (4 * t + 2))]) cx h2 f1 a1.2 a2.2 hm ml_L_68 rfl dL_law_433 rfl rfl (Nat.le_of_ble_eq_true rfl) (Nat.le_of_ble_eq_true rfl) ⟨Nat.le_of_ble_eq_true rfl, Nat.le_of_ble_eq_true rfl⟩ hcs ?_
  exact g_icmp_eq cx 760 dL_law_436 (by decide) (fun _ => k _ _ hJ') (fun g => absurd rfl g)
theorem lc_link {V : VT} {K : KT} {nc ns b L t : Nat} {xs : Nat → Int32} {ad : Nat → Nat → Nat} {ad2 : Nat → Nat} {CW MW : va_W} (cx : Cx V K 4 cL_law RL room_1) (hX : CxL K b L xs) (hL : L ≤ 2048) (ht : 4 * t + 4 ≤ L) (hcs : nc ≤ room_1.cells ∧ ns ≤ room_1.slots) (hJ : JX V ad ad2 CW MW) (k : ∀ CW' MW', JX V ad ad2 CW' MW' → G V K 4 nc ns [CW', MW'].flatten 760 [(0, .ref b), (1, .ref (ad 12 6)), (2, .ref (ad2 0)), (3, .int (nI (4 * t)))] []) : G V K 4 nc ns [CW, MW].flatten 441 [(0, .ref b), (1, .ref (ad 12 6)), (2, .ref (ad2 0)), (3, .int (nI (4 * t)))] [] := by
  obtain ⟨r, CW', MW', r1, r2, h1, h2, hc, hm, hJ'⟩ := st_link hJ (xs (4 * t + 1)) (xs (4 * t + 2))
  obtain ⟨a1, f0, f1⟩ := JX_ad hJ
  obtain ⟨a2, _, _⟩ := JX_ad hJ'
  refine g_aload_n (v := ad 12 6) cx dL_law_441 rfl ?_
  refine g_aload_n (v := b) cx dL_law_442 rfl ?_
  refine g_iload_n (v := nI (4 * t)) cx dL_law_443 rfl ?_
  refine g_iconst (v := 1) cx dL_law_444 (by decide) ?_
  refine g_iadd cx dL_law_445 ?_
  refine g_sld (j := 4 * t + 1) cx hX (rf_add rfl (nl 1)) (by omega) hL dL_law_446 ?_
  refine g_aload_n (v := b) cx dL_law_447 rfl ?_
  refine g_iload_n (v := nI (4 * t)) cx dL_law_448 rfl ?_
  refine g_iconst (v := 2) cx dL_law_449 (by decide) ?_
  refine g_iadd cx dL_law_450 ?_
  refine g_sld (j := 4 * t + 2) cx hX (rf_add rfl (nl 2)) (by omega) hL dL_law_451 ?_
  refine lx_x (rest := []) (As := [.int (xs (4 * t + 1)), .int (xs (4 * t + 2))]) cx h1 f0 a1.1 a2.1 hc ml_L_69 rfl dL_law_452 rfl rfl (Nat.le_of_ble_eq_true rfl) (Nat.le_of_ble_eq_true rfl) ⟨Nat.le_of_ble_eq_true rfl, Nat.le_of_ble_eq_true rfl⟩ hcs ?_
  refine g_aload_n (v := ad2 0) cx dL_law_455 rfl ?_
  refine g_aload_n (v := b) cx dL_law_456 rfl ?_
  refine g_iload_n (v := nI (4 * t)) cx dL_law_457 rfl ?_
  refine g_iconst (v := 1) cx dL_law_458 (by decide) ?_
  refine g_iadd cx dL_law_459 ?_
  refine g_sld (j := 4 * t + 1) cx hX (rf_add rfl (nl 1)) (by omega) hL dL_law_460 ?_
  refine g_aload_n (v := b) cx dL_law_461 rfl ?_
  refine g_iload_n (v := nI (4 * t)) cx dL_law_462 rfl ?_
  refine g_iconst (v := 2) cx dL_law_463 (by decide) ?_
  refine g_iadd cx dL_law_464 ?_
  refine g_sld (j := 4 * t + 2) cx hX (rf_add rfl (nl 2)) (by omega) hL dL_law_465 ?_
  refine lx_m (rest := [.int r]) (As := [.int (xs (4 * t + 1)), .int (xs (4 * t + 2))]) cx h2 f1 a1.2 a2.2 hm ml_L_72 rfl dL_law_466 rfl rfl (Nat.le_of_ble_eq_true rfl) (Nat.le_of_ble_eq_true rfl) ⟨Nat.le_of_ble_eq_true rfl, Nat.le_of_ble_eq_true rfl⟩ hcs ?_
  exact g_icmp_eq cx 760 dL_law_469 (by decide) (fun _ => k _ _ hJ') (fun g => absurd rfl g)
theorem lc_order {V : VT} {K : KT} {nc ns b L t : Nat} {xs : Nat → Int32} {ad : Nat → Nat → Nat} {ad2 : Nat → Nat} {CW MW : va_W} (cx : Cx V K 4 cL_law RL room_1) (hX : CxL K b L xs) (hL : L ≤ 2048) (ht : 4 * t + 4 ≤ L) (hcs : nc ≤ room_1.cells ∧ ns ≤ room_1.slots) (hJ : JX V ad ad2 CW MW) (k : ∀ CW' MW', JX V ad ad2 CW' MW' → G V K 4 nc ns [CW', MW'].flatten 760 [(0, .ref b), (1, .ref (ad 12 6)), (2, .ref (ad2 0)), (3, .int (nI (4 * t)))] []) : G V K 4 nc ns [CW, MW].flatten 474 [(0, .ref b), (1, .ref (ad 12 6)), (2, .ref (ad2 0)), (3, .int (nI (4 * t)))] [] := by
  obtain ⟨r, CW', MW', r1, r2, h1, h2, hc, hm, hJ'⟩ := st_order hJ (xs (4 * t + 1)) (xs (4 * t + 2))
  obtain ⟨a1, f0, f1⟩ := JX_ad hJ
  obtain ⟨a2, _, _⟩ := JX_ad hJ'
  refine g_aload_n (v := ad 12 6) cx dL_law_474 rfl ?_
  refine g_aload_n (v := b) cx dL_law_475 rfl ?_
  refine g_iload_n (v := nI (4 * t)) cx dL_law_476 rfl ?_
  refine g_iconst (v := 1) cx dL_law_477 (by decide) ?_
  refine g_iadd cx dL_law_478 ?_
  refine g_sld (j := 4 * t + 1) cx hX (rf_add rfl (nl 1)) (by omega) hL dL_law_479 ?_
  refine g_aload_n (v := b) cx dL_law_480 rfl ?_
  refine g_iload_n (v := nI (4 * t)) cx dL_law_481 rfl ?_
  refine g_iconst (v := 2) cx dL_law_482 (by decide) ?_
  refine g_iadd cx dL_law_483 ?_
  refine g_sld (j := 4 * t + 2) cx hX (rf_add rfl (nl 2)) (by omega) hL dL_law_484 ?_
  refine lx_x (rest := []) (As := [.int (xs (4 * t + 1)), .int (xs (4 * t + 2))]) cx h1 f0 a1.1 a2.1 hc ml_L_73 rfl dL_law_485 rfl rfl (Nat.le_of_ble_eq_true rfl) (Nat.le_of_ble_eq_true rfl) ⟨Nat.le_of_ble_eq_true rfl, Nat.le_of_ble_eq_true rfl⟩ hcs ?_
  refine g_aload_n (v := ad2 0) cx dL_law_488 rfl ?_
  refine g_aload_n (v := b) cx dL_law_489 rfl ?_
  refine g_iload_n (v := nI (4 * t)) cx dL_law_490 rfl ?_
  refine g_iconst (v := 1) cx dL_law_491 (by decide) ?_
  refine g_iadd cx dL_law_492 ?_
  refine g_sld (j := 4 * t + 1) cx hX (rf_add rfl (nl 1)) (by omega) hL dL_law_493 ?_
  refine g_aload_n (v := b) cx dL_law_494 rfl ?_
  refine g_iload_n (v := nI (4 * t)) cx dL_law_495 rfl ?_
  refine g_iconst (v := 2) cx dL_law_496 (by decide) ?_
  refine g_iadd cx dL_law_497 ?_
  refine g_sld (j := 4 * t + 2) cx hX (rf_add rfl (nl 2)) (by omega) hL dL_law_498 ?_
  refine lx_m (rest := [.int r]) (As := [.int (xs (4 * t + 1)), .int (xs (4 * t + 2))]) cx h2 f1 a1.2 a2.2 hm ml_L_76 rfl dL_law_499 rfl rfl (Nat.le_of_ble_eq_true rfl) (Nat.le_of_ble_eq_true rfl) ⟨Nat.le_of_ble_eq_true rfl, Nat.le_of_ble_eq_true rfl⟩ hcs ?_
  exact g_icmp_eq cx 760 dL_law_502 (by decide) (fun _ => k _ _ hJ') (fun g => absurd rfl g)
theorem lc_result {V : VT} {K : KT} {nc ns b L t : Nat} {xs : Nat → Int32} {ad : Nat → Nat → Nat} {ad2 : Nat → Nat} {CW MW : va_W} (cx : Cx V K 4 cL_law RL room_1) (hX : CxL K b L xs) (hL : L ≤ 2048) (ht : 4 * t + 4 ≤ L) (hcs : nc ≤ room_1.cells ∧ ns ≤ room_1.slots) (hJ : JX V ad ad2 CW MW) (k : ∀ CW' MW', JX V ad ad2 CW' MW' → G V K 4 nc ns [CW', MW'].flatten 760 [(0, .ref b), (1, .ref (ad 12 6)), (2, .ref (ad2 0)), (3, .int (nI (4 * t)))] []) : G V K 4 nc ns [CW, MW].flatten 507 [(0, .ref b), (1, .ref (ad 12 6)), (2, .ref (ad2 0)), (3, .int (nI (4 * t)))] [] := by
  obtain ⟨r, CW', MW', r1, r2, h1, h2, hc, hm, hJ'⟩ := st_result hJ (xs (4 * t + 1)) (xs (4 * t + 2))
  obtain ⟨a1, f0, f1⟩ := JX_ad hJ
  obtain ⟨a2, _, _⟩ := JX_ad hJ'
  refine g_aload_n (v := ad 12 6) cx dL_law_507 rfl ?_
  refine g_aload_n (v := b) cx dL_law_508 rfl ?_
  refine g_iload_n (v := nI (4 * t)) cx dL_law_509 rfl ?_
  refine g_iconst (v := 1) cx dL_law_510 (by decide) ?_
  refine g_iadd cx dL_law_511 ?_
  refine g_sld (j := 4 * t + 1) cx hX (rf_add rfl (nl 1)) (by omega) hL dL_law_512 ?_
  refine g_aload_n (v := b) cx dL_law_513 rfl ?_
  refine g_iload_n (v := nI (4 * t)) cx dL_law_514 rfl ?_
  refine g_iconst (v := 2) cx dL_law_515 (by decide) ?_
  refine g_iadd cx dL_law_516 ?_
  refine g_sld (j := 4 * t + 2) cx hX (rf_add rfl (nl 2)) (by omega) hL dL_law_517 ?_
  refine lx_x (rest := []) (As := [.int (xs (4 * t + 1)), .int (xs (4 * t + 2))]) cx h1 f0 a1.1 a2.1 hc ml_L_77 rfl dL_law_518 rfl rfl (Nat.le_of_ble_eq_true rfl) (Nat.le_of_ble_eq_true rfl) ⟨Nat.le_of_ble_eq_true rfl, Nat.le_of_ble_eq_true rfl⟩ hcs ?_
  refine g_aload_n (v := ad2 0) cx dL_law_521 rfl ?_
  refine g_aload_n (v := b) cx dL_law_522 rfl ?_
  refine g_iload_n (v := nI (4 * t)) cx dL_law_523 rfl ?_
  refine g_iconst (v := 1) cx dL_law_524 (by decide) ?_
  refine g_iadd cx dL_law_525 ?_
  refine g_sld (j := 4 * t + 1) cx hX (rf_add rfl (nl 1)) (by omega) hL dL_law_526 ?_
  refine g_aload_n (v := b) cx dL_law_527 rfl ?_
  refine g_iload_n (v := nI (4 * t)) cx dL_law_528 rfl ?_
  refine g_iconst (v := 2) cx dL_law_529 (by decide) ?_
  refine g_iadd cx dL_law_530 ?_
  refine g_sld (j := 4 * t + 2) cx hX (rf_add rfl (nl 2)) (by omega) hL dL_law_531 ?_
  refine lx_m (rest := [.int r]) (As := [.int (xs (4 * t + 1)), .int (xs (4 * t + 2))]) cx h2 f1 a1.2 a2.2 hm ml_L_80 rfl dL_law_532 rfl rfl (Nat.le_of_ble_eq_true rfl) (Nat.le_of_ble_eq_true rfl) ⟨Nat.le_of_ble_eq_true rfl, Nat.le_of_ble_eq_true rfl⟩ hcs ?_
  exact g_icmp_eq cx 760 dL_law_535 (by decide) (fun _ => k _ _ hJ') (fun g => absurd rfl g)
theorem lc_time {V : VT} {K : KT} {nc ns b L t : Nat} {xs : Nat → Int32} {ad : Nat → Nat → Nat} {ad2 : Nat → Nat} {CW MW : va_W} (cx : Cx V K 4 cL_law RL room_1) (hX : CxL K b L xs) (hL : L ≤ 2048) (ht : 4 * t + 4 ≤ L) (hcs : nc ≤ room_1.cells ∧ ns ≤ room_1.slots) (hJ : JX V ad ad2 CW MW) (k : ∀ CW' MW', JX V ad ad2 CW' MW' → G V K 4 nc ns [CW', MW'].flatten 760 [(0, .ref b), (1, .ref (ad 12 6)), (2, .ref (ad2 0)), (3, .int (nI (4 * t)))] []) : G V K 4 nc ns [CW, MW].flatten 540 [(0, .ref b), (1, .ref (ad 12 6)), (2, .ref (ad2 0)), (3, .int (nI (4 * t)))] [] := by
  obtain ⟨r, CW', MW', r1, r2, h1, h2, hc, hm, hJ'⟩ := st_time hJ (xs (4 * t + 1))
  obtain ⟨a1, f0, f1⟩ := JX_ad hJ
  obtain ⟨a2, _, _⟩ := JX_ad hJ'
  refine g_aload_n (v := ad 12 6) cx dL_law_540 rfl ?_
  refine g_aload_n (v := b) cx dL_law_541 rfl ?_
  refine g_iload_n (v := nI (4 * t)) cx dL_law_542 rfl ?_
  refine g_iconst (v := 1) cx dL_law_543 (by decide) ?_
  refine g_iadd cx dL_law_544 ?_
  refine g_sld (j := 4 * t + 1) cx hX (rf_add rfl (nl 1)) (by omega) hL dL_law_545 ?_
  refine lx_x (rest := []) (As := [.int (xs (4 * t + 1))]) cx h1 f0 a1.1 a2.1 hc ml_L_81 rfl dL_law_546 rfl rfl (Nat.le_of_ble_eq_true rfl) (Nat.le_of_ble_eq_true rfl) ⟨Nat.le_of_ble_eq_true rfl, Nat.le_of_ble_eq_true rfl⟩ hcs ?_
  refine g_aload_n (v := ad2 0) cx dL_law_549 rfl ?_
  refine g_aload_n (v := b) cx dL_law_550 rfl ?_
  refine g_iload_n (v := nI (4 * t)) cx dL_law_551 rfl ?_
  refine g_iconst (v := 1) cx dL_law_552 (by decide) ?_
  refine g_iadd cx dL_law_553 ?_
  refine g_sld (j := 4 * t + 1) cx hX (rf_add rfl (nl 1)) (by omega) hL dL_law_554 ?_
  refine lx_m (rest := [.int r]) (As := [.int (xs (4 * t + 1))]) cx h2 f1 a1.2 a2.2 hm ml_L_84 rfl dL_law_555 rfl rfl (Nat.le_of_ble_eq_true rfl) (Nat.le_of_ble_eq_true rfl) ⟨Nat.le_of_ble_eq_true rfl, Nat.le_of_ble_eq_true rfl⟩ hcs ?_
  exact g_icmp_eq cx 760 dL_law_558 (by decide) (fun _ => k _ _ hJ') (fun g => absurd rfl g)
theorem lc_reached {V : VT} {K : KT} {nc ns b L t : Nat} {xs : Nat → Int32} {ad : Nat → Nat → Nat} {ad2 : Nat → Nat} {CW MW : va_W} (cx : Cx V K 4 cL_law RL room_1) (hX : CxL K b L xs) (hL : L ≤ 2048) (ht : 4 * t + 4 ≤ L) (hcs : nc ≤ room_1.cells ∧ ns ≤ room_1.slots) (hJ : JX V ad ad2 CW MW) (k : ∀ CW' MW', JX V ad ad2 CW' MW' → G V K 4 nc ns [CW', MW'].flatten 760 [(0, .ref b), (1, .ref (ad 12 6)), (2, .ref (ad2 0)), (3, .int (nI (4 * t)))] []) : G V K 4 nc ns [CW, MW].flatten 563 [(0, .ref b), (1, .ref (ad 12 6)), (2, .ref (ad2 0)), (3, .int (nI (4 * t)))] [] := by
  obtain ⟨r, CW', MW', r1, r2, h1, h2, hc, hm, hJ'⟩ := st_reached hJ (xs (4 * t + 1))
  obtain ⟨a1, f0, f1⟩ := JX_ad hJ
  obtain ⟨a2, _, _⟩ := JX_ad hJ'
  refine g_aload_n (v := ad 12 6) cx dL_law_563 rfl ?_
  refine g_aload_n (v := b) cx dL_law_564 rfl ?_
  refine g_iload_n (v := nI (4 * t)) cx dL_law_565 rfl ?_
  refine g_iconst (v := 1) cx dL_law_566 (by decide) ?_
  refine g_iadd cx dL_law_567 ?_
  refine g_sld (j := 4 * t + 1) cx hX (rf_add rfl (nl 1)) (by omega) hL dL_law_568 ?_
  refine lx_x (rest := []) (As := [.int (xs (4 * t + 1))]) cx h1 f0 a1.1 a2.1 hc ml_L_85 rfl dL_law_569 rfl rfl (Nat.le_of_ble_eq_true rfl) (Nat.le_of_ble_eq_true rfl) ⟨Nat.le_of_ble_eq_true rfl, Nat.le_of_ble_eq_true rfl⟩ hcs ?_
  refine g_aload_n (v := ad2 0) cx dL_law_572 rfl ?_
  refine g_aload_n (v := b) cx dL_law_573 rfl ?_
  refine g_iload_n (v := nI (4 * t)) cx dL_law_574 rfl ?_
  refine g_iconst (v := 1) cx dL_law_575 (by decide) ?_
  refine g_iadd cx dL_law_576 ?_
  refine g_sld (j := 4 * t + 1) cx hX (rf_add rfl (nl 1)) (by omega) hL dL_law_577 ?_
  refine lx_m (rest := [.int r]) (As := [.int (xs (4 * t + 1))]) cx h2 f1 a1.2 a2.2 hm ml_L_88 rfl dL_law_578 rfl rfl (Nat.le_of_ble_eq_true rfl) (Nat.le_of_ble_eq_true rfl) ⟨Nat.le_of_ble_eq_true rfl, Nat.le_of_ble_eq_true rfl⟩ hcs ?_
  exact g_icmp_eq cx 760 dL_law_581 (by decide) (fun _ => k _ _ hJ') (fun g => absurd rfl g)
theorem lc_would {V : VT} {K : KT} {nc ns b L t : Nat} {xs : Nat → Int32} {ad : Nat → Nat → Nat} {ad2 : Nat → Nat} {CW MW : va_W} (cx : Cx V K 4 cL_law RL room_1) (hX : CxL K b L xs) (hL : L ≤ 2048) (ht : 4 * t + 4 ≤ L) (hcs : nc ≤ room_1.cells ∧ ns ≤ room_1.slots) (hJ : JX V ad ad2 CW MW) (k : ∀ CW' MW', JX V ad ad2 CW' MW' → G V K 4 nc ns [CW', MW'].flatten 760 [(0, .ref b), (1, .ref (ad 12 6)), (2, .ref (ad2 0)), (3, .int (nI (4 * t)))] []) : G V K 4 nc ns [CW, MW].flatten 586 [(0, .ref b), (1, .ref (ad 12 6)), (2, .ref (ad2 0)), (3, .int (nI (4 * t)))] [] := by
  obtain ⟨r, CW', MW', r1, r2, h1, h2, hc, hm, hJ'⟩ := st_would hJ (xs (4 * t + 1))
  obtain ⟨a1, f0, f1⟩ := JX_ad hJ
  obtain ⟨a2, _, _⟩ := JX_ad hJ'
  refine g_aload_n (v := ad 12 6) cx dL_law_586 rfl ?_
  refine g_aload_n (v := b) cx dL_law_587 rfl ?_
  refine g_iload_n (v := nI (4 * t)) cx dL_law_588 rfl ?_
  refine g_iconst (v := 1) cx dL_law_589 (by decide) ?_
  refine g_iadd cx dL_law_590 ?_
  refine g_sld (j := 4 * t + 1) cx hX (rf_add rfl (nl 1)) (by omega) hL dL_law_591 ?_
  refine lx_x (rest := []) (As := [.int (xs (4 * t + 1))]) cx h1 f0 a1.1 a2.1 hc ml_L_89 rfl dL_law_592 rfl rfl (Nat.le_of_ble_eq_true rfl) (Nat.le_of_ble_eq_true rfl) ⟨Nat.le_of_ble_eq_true rfl, Nat.le_of_ble_eq_true rfl⟩ hcs ?_
  refine g_aload_n (v := ad2 0) cx dL_law_595 rfl ?_
  refine g_aload_n (v := b) cx dL_law_596 rfl ?_
  refine g_iload_n (v := nI (4 * t)) cx dL_law_597 rfl ?_
  refine g_iconst (v := 1) cx dL_law_598 (by decide) ?_
  refine g_iadd cx dL_law_599 ?_
  refine g_sld (j := 4 * t + 1) cx hX (rf_add rfl (nl 1)) (by omega) hL dL_law_600 ?_
  refine lx_m (rest := [.int r]) (As := [.int (xs (4 * t + 1))]) cx h2 f1 a1.2 a2.2 hm ml_L_92 rfl dL_law_601 rfl rfl (Nat.le_of_ble_eq_true rfl) (Nat.le_of_ble_eq_true rfl) ⟨Nat.le_of_ble_eq_true rfl, Nat.le_of_ble_eq_true rfl⟩ hcs ?_
  exact g_icmp_eq cx 760 dL_law_604 (by decide) (fun _ => k _ _ hJ') (fun g => absurd rfl g)
theorem lc_sees {V : VT} {K : KT} {nc ns b L t : Nat} {xs : Nat → Int32} {ad : Nat → Nat → Nat} {ad2 : Nat → Nat} {CW MW : va_W} (cx : Cx V K 4 cL_law RL room_1) (hX : CxL K b L xs) (hL : L ≤ 2048) (ht : 4 * t + 4 ≤ L) (hcs : nc ≤ room_1.cells ∧ ns ≤ room_1.slots) (hJ : JX V ad ad2 CW MW) (k : ∀ CW' MW', JX V ad ad2 CW' MW' → G V K 4 nc ns [CW', MW'].flatten 760 [(0, .ref b), (1, .ref (ad 12 6)), (2, .ref (ad2 0)), (3, .int (nI (4 * t)))] []) : G V K 4 nc ns [CW, MW].flatten 609 [(0, .ref b), (1, .ref (ad 12 6)), (2, .ref (ad2 0)), (3, .int (nI (4 * t)))] [] := by
  obtain ⟨r, CW', MW', r1, r2, h1, h2, hc, hm, hJ'⟩ := st_sees hJ (xs (4 * t + 1)) (xs (4 * t + 2))
  obtain ⟨a1, f0, f1⟩ := JX_ad hJ
  obtain ⟨a2, _, _⟩ := JX_ad hJ'
  refine g_aload_n (v := ad 12 6) cx dL_law_609 rfl ?_
  refine g_aload_n (v := b) cx dL_law_610 rfl ?_
  refine g_iload_n (v := nI (4 * t)) cx dL_law_611 rfl ?_
  refine g_iconst (v := 1) cx dL_law_612 (by decide) ?_
  refine g_iadd cx dL_law_613 ?_
  refine g_sld (j := 4 * t + 1) cx hX (rf_add rfl (nl 1)) (by omega) hL dL_law_614 ?_
  refine g_aload_n (v := b) cx dL_law_615 rfl ?_
  refine g_iload_n (v := nI (4 * t)) cx dL_law_616 rfl ?_
  refine g_iconst (v := 2) cx dL_law_617 (by decide) ?_
  refine g_iadd cx dL_law_618 ?_
  refine g_sld (j := 4 * t + 2) cx hX (rf_add rfl (nl 2)) (by omega) hL dL_law_619 ?_
  refine lx_x (rest := []) (As := [.int (xs (4 * t + 1)), .int (xs (4 * t + 2))]) cx h1 f0 a1.1 a2.1 hc ml_L_93 rfl dL_law_620 rfl rfl (Nat.le_of_ble_eq_true rfl) (Nat.le_of_ble_eq_true rfl) ⟨Nat.le_of_ble_eq_true rfl, Nat.le_of_ble_eq_true rfl⟩ hcs ?_
  refine g_aload_n (v := ad2 0) cx dL_law_623 rfl ?_
  refine g_aload_n (v := b) cx dL_law_624 rfl ?_
  refine g_iload_n (v := nI (4 * t)) cx dL_law_625 rfl ?_
  refine g_iconst (v := 1) cx dL_law_626 (by decide) ?_
  refine g_iadd cx dL_law_627 ?_
  refine g_sld (j := 4 * t + 1) cx hX (rf_add rfl (nl 1)) (by omega) hL dL_law_628 ?_
  refine g_aload_n (v := b) cx dL_law_629 rfl ?_
  refine g_iload_n (v := nI (4 * t)) cx dL_law_630 rfl ?_
  refine g_iconst (v := 2) cx dL_law_631 (by decide) ?_
  refine g_iadd cx dL_law_632 ?_
  refine g_sld (j := 4 * t + 2) cx hX (rf_add rfl (nl 2)) (by omega) hL dL_law_633 ?_
  refine lx_m (rest := [.int r]) (As := [.int (xs (4 * t + 1)), .int (xs (4 * t + 2))]) cx h2 f1 a1.2 a2.2 hm ml_L_96 rfl dL_law_634 rfl rfl (Nat.le_of_ble_eq_true rfl) (Nat.le_of_ble_eq_true rfl) ⟨Nat.le_of_ble_eq_true rfl, Nat.le_of_ble_eq_true rfl⟩ hcs ?_
  exact g_icmp_eq cx 760 dL_law_637 (by decide) (fun _ => k _ _ hJ') (fun g => absurd rfl g)
theorem lc_forget {V : VT} {K : KT} {nc ns b L t : Nat} {xs : Nat → Int32} {ad : Nat → Nat → Nat} {ad2 : Nat → Nat} {CW MW : va_W} (cx : Cx V K 4 cL_law RL room_1) (hX : CxL K b L xs) (hL : L ≤ 2048) (ht : 4 * t + 4 ≤ L) (hcs : nc ≤ room_1.cells ∧ ns ≤ room_1.slots) (hJ : JX V ad ad2 CW MW) (k : ∀ CW' MW', JX V ad ad2 CW' MW' → G V K 4 nc ns [CW', MW'].flatten 760 [(0, .ref b), (1, .ref (ad 12 6)), (2, .ref (ad2 0)), (3, .int (nI (4 * t)))] []) : G V K 4 nc ns [CW, MW].flatten 642 [(0, .ref b), (1, .ref (ad 12 6)), (2, .ref (ad2 0)), (3, .int (nI (4 * t)))] [] := by
  obtain ⟨r, CW', MW', r1, r2, h1, h2, hc, hm, hJ'⟩ := st_forget hJ
  obtain ⟨a1, f0, f1⟩ := JX_ad hJ
  obtain ⟨a2, _, _⟩ := JX_ad hJ'
  refine g_aload_n (v := ad 12 6) cx dL_law_642 rfl ?_
  refine lx_x (rest := []) (As := []) cx h1 f0 a1.1 a2.1 hc ml_L_97 rfl dL_law_643 rfl rfl (Nat.le_of_ble_eq_true rfl) (Nat.le_of_ble_eq_true rfl) ⟨Nat.le_of_ble_eq_true rfl, Nat.le_of_ble_eq_true rfl⟩ hcs ?_
  refine g_aload_n (v := ad2 0) cx dL_law_646 rfl ?_
  refine lx_m (rest := [.int r]) (As := []) cx h2 f1 a1.2 a2.2 hm ml_L_100 rfl dL_law_647 rfl rfl (Nat.le_of_ble_eq_true rfl) (Nat.le_of_ble_eq_true rfl) ⟨Nat.le_of_ble_eq_true rfl, Nat.le_of_ble_eq_true rfl⟩ hcs ?_
  exact g_icmp_eq cx 760 dL_law_650 (by decide) (fun _ => k _ _ hJ') (fun g => absurd rfl g)
theorem lc_which {V : VT} {K : KT} {nc ns b L t : Nat} {xs : Nat → Int32} {ad : Nat → Nat → Nat} {ad2 : Nat → Nat} {CW MW : va_W} (cx : Cx V K 4 cL_law RL room_1) (hX : CxL K b L xs) (hL : L ≤ 2048) (ht : 4 * t + 4 ≤ L) (hcs : nc ≤ room_1.cells ∧ ns ≤ room_1.slots) (hJ : JX V ad ad2 CW MW) (k : ∀ CW' MW', JX V ad ad2 CW' MW' → G V K 4 nc ns [CW', MW'].flatten 760 [(0, .ref b), (1, .ref (ad 12 6)), (2, .ref (ad2 0)), (3, .int (nI (4 * t)))] []) : G V K 4 nc ns [CW, MW].flatten 655 [(0, .ref b), (1, .ref (ad 12 6)), (2, .ref (ad2 0)), (3, .int (nI (4 * t)))] [] := by
  obtain ⟨r, CW', MW', r1, r2, h1, h2, hc, hm, hJ'⟩ := st_which hJ (xs (4 * t + 1))
  obtain ⟨a1, f0, f1⟩ := JX_ad hJ
  obtain ⟨a2, _, _⟩ := JX_ad hJ'
  refine g_aload_n (v := ad 12 6) cx dL_law_655 rfl ?_
  refine g_aload_n (v := b) cx dL_law_656 rfl ?_
  refine g_iload_n (v := nI (4 * t)) cx dL_law_657 rfl ?_
  refine g_iconst (v := 1) cx dL_law_658 (by decide) ?_
  refine g_iadd cx dL_law_659 ?_
  refine g_sld (j := 4 * t + 1) cx hX (rf_add rfl (nl 1)) (by omega) hL dL_law_660 ?_
  refine lx_x (rest := []) (As := [.int (xs (4 * t + 1))]) cx h1 f0 a1.1 a2.1 hc ml_L_101 rfl dL_law_661 rfl rfl (Nat.le_of_ble_eq_true rfl) (Nat.le_of_ble_eq_true rfl) ⟨Nat.le_of_ble_eq_true rfl, Nat.le_of_ble_eq_true rfl⟩ hcs ?_
  refine g_aload_n (v := ad2 0) cx dL_law_664 rfl ?_
  refine g_aload_n (v := b) cx dL_law_665 rfl ?_
  refine g_iload_n (v := nI (4 * t)) cx dL_law_666 rfl ?_
  refine g_iconst (v := 1) cx dL_law_667 (by decide) ?_
  refine g_iadd cx dL_law_668 ?_
  refine g_sld (j := 4 * t + 1) cx hX (rf_add rfl (nl 1)) (by omega) hL dL_law_669 ?_
  refine lx_m (rest := [.int r]) (As := [.int (xs (4 * t + 1))]) cx h2 f1 a1.2 a2.2 hm ml_L_104 rfl dL_law_670 rfl rfl (Nat.le_of_ble_eq_true rfl) (Nat.le_of_ble_eq_true rfl) ⟨Nat.le_of_ble_eq_true rfl, Nat.le_of_ble_eq_true rfl⟩ hcs ?_
  exact g_icmp_eq cx 760 dL_law_673 (by decide) (fun _ => k _ _ hJ') (fun g => absurd rfl g)
theorem lc_ask {V : VT} {K : KT} {nc ns b L t : Nat} {xs : Nat → Int32} {ad : Nat → Nat → Nat} {ad2 : Nat → Nat} {CW MW : va_W} (cx : Cx V K 4 cL_law RL room_1) (hX : CxL K b L xs) (hL : L ≤ 2048) (ht : 4 * t + 4 ≤ L) (hcs : nc ≤ room_1.cells ∧ ns ≤ room_1.slots) (hJ : JX V ad ad2 CW MW) (k : ∀ CW' MW', JX V ad ad2 CW' MW' → G V K 4 nc ns [CW', MW'].flatten 760 [(0, .ref b), (1, .ref (ad 12 6)), (2, .ref (ad2 0)), (3, .int (nI (4 * t)))] []) : G V K 4 nc ns [CW, MW].flatten 678 [(0, .ref b), (1, .ref (ad 12 6)), (2, .ref (ad2 0)), (3, .int (nI (4 * t)))] [] := by
  obtain ⟨r, CW', MW', r1, r2, h1, h2, hc, hm, hJ'⟩ := st_ask hJ
  obtain ⟨a1, f0, f1⟩ := JX_ad hJ
  obtain ⟨a2, _, _⟩ := JX_ad hJ'
  refine g_aload_n (v := ad 12 6) cx dL_law_678 rfl ?_
  refine lx_x (rest := []) (As := []) cx h1 f0 a1.1 a2.1 hc ml_L_105 rfl dL_law_679 rfl rfl (Nat.le_of_ble_eq_true rfl) (Nat.le_of_ble_eq_true rfl) ⟨Nat.le_of_ble_eq_true rfl, Nat.le_of_ble_eq_true rfl⟩ hcs ?_
  refine g_aload_n (v := ad2 0) cx dL_law_682 rfl ?_
  refine lx_m (rest := [.int r]) (As := []) cx h2 f1 a1.2 a2.2 hm ml_L_108 rfl dL_law_683 rfl rfl (Nat.le_of_ble_eq_true rfl) (Nat.le_of_ble_eq_true rfl) ⟨Nat.le_of_ble_eq_true rfl, Nat.le_of_ble_eq_true rfl⟩ hcs ?_
  exact g_icmp_eq cx 760 dL_law_686 (by decide) (fun _ => k _ _ hJ') (fun g => absurd rfl g)
theorem lc_keep {V : VT} {K : KT} {nc ns b L t : Nat} {xs : Nat → Int32} {ad : Nat → Nat → Nat} {ad2 : Nat → Nat} {CW MW : va_W} (cx : Cx V K 4 cL_law RL room_1) (hX : CxL K b L xs) (hL : L ≤ 2048) (ht : 4 * t + 4 ≤ L) (hcs : nc ≤ room_1.cells ∧ ns ≤ room_1.slots) (hJ : JX V ad ad2 CW MW) (k : ∀ CW' MW', JX V ad ad2 CW' MW' → G V K 4 nc ns [CW', MW'].flatten 760 [(0, .ref b), (1, .ref (ad 12 6)), (2, .ref (ad2 0)), (3, .int (nI (4 * t)))] []) : G V K 4 nc ns [CW, MW].flatten 691 [(0, .ref b), (1, .ref (ad 12 6)), (2, .ref (ad2 0)), (3, .int (nI (4 * t)))] [] := by
  obtain ⟨r, CW', MW', r1, r2, h1, h2, hc, hm, hJ'⟩ := st_keep hJ (xs (4 * t + 1))
  obtain ⟨a1, f0, f1⟩ := JX_ad hJ
  obtain ⟨a2, _, _⟩ := JX_ad hJ'
  refine g_aload_n (v := ad 12 6) cx dL_law_691 rfl ?_
  refine g_aload_n (v := b) cx dL_law_692 rfl ?_
  refine g_iload_n (v := nI (4 * t)) cx dL_law_693 rfl ?_
  refine g_iconst (v := 1) cx dL_law_694 (by decide) ?_
  refine g_iadd cx dL_law_695 ?_
  refine g_sld (j := 4 * t + 1) cx hX (rf_add rfl (nl 1)) (by omega) hL dL_law_696 ?_
  refine lx_x (rest := []) (As := [.int (xs (4 * t + 1))]) cx h1 f0 a1.1 a2.1 hc ml_L_109 rfl dL_law_697 rfl rfl (Nat.le_of_ble_eq_true rfl) (Nat.le_of_ble_eq_true rfl) ⟨Nat.le_of_ble_eq_true rfl, Nat.le_of_ble_eq_true rfl⟩ hcs ?_
  refine g_aload_n (v := ad2 0) cx dL_law_700 rfl ?_
  refine g_aload_n (v := b) cx dL_law_701 rfl ?_
  refine g_iload_n (v := nI (4 * t)) cx dL_law_702 rfl ?_
  refine g_iconst (v := 1) cx dL_law_703 (by decide) ?_
  refine g_iadd cx dL_law_704 ?_
  refine g_sld (j := 4 * t + 1) cx hX (rf_add rfl (nl 1)) (by omega) hL dL_law_705 ?_
  refine lx_m (rest := [.int r]) (As := [.int (xs (4 * t + 1))]) cx h2 f1 a1.2 a2.2 hm ml_L_112 rfl dL_law_706 rfl rfl (Nat.le_of_ble_eq_true rfl) (Nat.le_of_ble_eq_true rfl) ⟨Nat.le_of_ble_eq_true rfl, Nat.le_of_ble_eq_true rfl⟩ hcs ?_
  exact g_icmp_eq cx 760 dL_law_709 (by decide) (fun _ => k _ _ hJ') (fun g => absurd rfl g)
theorem lc_back {V : VT} {K : KT} {nc ns b L t : Nat} {xs : Nat → Int32} {ad : Nat → Nat → Nat} {ad2 : Nat → Nat} {CW MW : va_W} (cx : Cx V K 4 cL_law RL room_1) (hX : CxL K b L xs) (hL : L ≤ 2048) (ht : 4 * t + 4 ≤ L) (hcs : nc ≤ room_1.cells ∧ ns ≤ room_1.slots) (hJ : JX V ad ad2 CW MW) (k : ∀ CW' MW', JX V ad ad2 CW' MW' → G V K 4 nc ns [CW', MW'].flatten 760 [(0, .ref b), (1, .ref (ad 12 6)), (2, .ref (ad2 0)), (3, .int (nI (4 * t)))] []) : G V K 4 nc ns [CW, MW].flatten 714 [(0, .ref b), (1, .ref (ad 12 6)), (2, .ref (ad2 0)), (3, .int (nI (4 * t)))] [] := by
  obtain ⟨r, CW', MW', r1, r2, h1, h2, hc, hm, hJ'⟩ := st_back hJ (xs (4 * t + 1))
  obtain ⟨a1, f0, f1⟩ := JX_ad hJ
  obtain ⟨a2, _, _⟩ := JX_ad hJ'
  refine g_aload_n (v := ad 12 6) cx dL_law_714 rfl ?_
  refine g_aload_n (v := b) cx dL_law_715 rfl ?_
  refine g_iload_n (v := nI (4 * t)) cx dL_law_716 rfl ?_
  refine g_iconst (v := 1) cx dL_law_717 (by decide) ?_
  refine g_iadd cx dL_law_718 ?_
  refine g_sld (j := 4 * t + 1) cx hX (rf_add rfl (nl 1)) (by omega) hL dL_law_719 ?_
  refine lx_x (rest := []) (As := [.int (xs (4 * t + 1))]) cx h1 f0 a1.1 a2.1 hc ml_L_113 rfl dL_law_720 rfl rfl (Nat.le_of_ble_eq_true rfl) (Nat.le_of_ble_eq_true rfl) ⟨Nat.le_of_ble_eq_true rfl, Nat.le_of_ble_eq_true rfl⟩ hcs ?_
  refine g_aload_n (v := ad2 0) cx dL_law_723 rfl ?_
  refine g_aload_n (v := b) cx dL_law_724 rfl ?_
  refine g_iload_n (v := nI (4 * t)) cx dL_law_725 rfl ?_
  refine g_iconst (v := 1) cx dL_law_726 (by decide) ?_
  refine g_iadd cx dL_law_727 ?_
  refine g_sld (j := 4 * t + 1) cx hX (rf_add rfl (nl 1)) (by omega) hL dL_law_728 ?_
  refine lx_m (rest := [.int r]) (As := [.int (xs (4 * t + 1))]) cx h2 f1 a1.2 a2.2 hm ml_L_116 rfl dL_law_729 rfl rfl (Nat.le_of_ble_eq_true rfl) (Nat.le_of_ble_eq_true rfl) ⟨Nat.le_of_ble_eq_true rfl, Nat.le_of_ble_eq_true rfl⟩ hcs ?_
  exact g_icmp_eq cx 760 dL_law_732 (by decide) (fun _ => k _ _ hJ') (fun g => absurd rfl g)
theorem lc_count {V : VT} {K : KT} {nc ns b L t : Nat} {xs : Nat → Int32} {ad : Nat → Nat → Nat} {ad2 : Nat → Nat} {CW MW : va_W} (cx : Cx V K 4 cL_law RL room_1) (hX : CxL K b L xs) (hL : L ≤ 2048) (ht : 4 * t + 4 ≤ L) (hcs : nc ≤ room_1.cells ∧ ns ≤ room_1.slots) (hJ : JX V ad ad2 CW MW) (k : ∀ CW' MW', JX V ad ad2 CW' MW' → G V K 4 nc ns [CW', MW'].flatten 760 [(0, .ref b), (1, .ref (ad 12 6)), (2, .ref (ad2 0)), (3, .int (nI (4 * t)))] []) : G V K 4 nc ns [CW, MW].flatten 737 [(0, .ref b), (1, .ref (ad 12 6)), (2, .ref (ad2 0)), (3, .int (nI (4 * t)))] [] := by
  obtain ⟨r, CW', MW', r1, r2, h1, h2, hc, hm, hJ'⟩ := st_count hJ (xs (4 * t + 1))
  obtain ⟨a1, f0, f1⟩ := JX_ad hJ
  obtain ⟨a2, _, _⟩ := JX_ad hJ'
  refine g_aload_n (v := ad 12 6) cx dL_law_737 rfl ?_
  refine g_aload_n (v := b) cx dL_law_738 rfl ?_
  refine g_iload_n (v := nI (4 * t)) cx dL_law_739 rfl ?_
  refine g_iconst (v := 1) cx dL_law_740 (by decide) ?_
  refine g_iadd cx dL_law_741 ?_
  refine g_sld (j := 4 * t + 1) cx hX (rf_add rfl (nl 1)) (by omega) hL dL_law_742 ?_
  refine lx_x (rest := []) (As := [.int (xs (4 * t + 1))]) cx h1 f0 a1.1 a2.1 hc ml_L_117 rfl dL_law_743 rfl rfl (Nat.le_of_ble_eq_true rfl) (Nat.le_of_ble_eq_true rfl) ⟨Nat.le_of_ble_eq_true rfl, Nat.le_of_ble_eq_true rfl⟩ hcs ?_
  refine g_aload_n (v := ad2 0) cx dL_law_746 rfl ?_
  refine g_aload_n (v := b) cx dL_law_747 rfl ?_
  refine g_iload_n (v := nI (4 * t)) cx dL_law_748 rfl ?_
  refine g_iconst (v := 1) cx dL_law_749 (by decide) ?_
  refine g_iadd cx dL_law_750 ?_
  refine g_sld (j := 4 * t + 1) cx hX (rf_add rfl (nl 1)) (by omega) hL dL_law_751 ?_
  refine lx_m (rest := [.int r]) (As := [.int (xs (4 * t + 1))]) cx h2 f1 a1.2 a2.2 hm ml_L_120 rfl dL_law_752 rfl rfl (Nat.le_of_ble_eq_true rfl) (Nat.le_of_ble_eq_true rfl) ⟨Nat.le_of_ble_eq_true rfl, Nat.le_of_ble_eq_true rfl⟩ hcs ?_
  exact g_icmp_eq cx 760 dL_law_755 (by decide) (fun _ => k _ _ hJ') (fun g => absurd rfl g)
