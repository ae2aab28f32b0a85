/-! the law: its 28 cases and its loop -/
section LAWC
variable {p : Program} {l : Launch} {e : Env} {s : State} {m : MethodId} {args : Array Value} {below : List Frame} {meth : Method} {c : Code} {D : va_G} {cs : Nat → ClassId} {ad : Nat → Nat} {A : Nat → Prop} {Q : State → Prop} {nn kk : Nat} {z : xMem}
set_option maxHeartbeats 4000000 in
theorem law_c0 (C : xC p room_1 s m args meth c RL code 4 D cs ad shJ A) {L : Nat} {xs : Nat → Int32} (hX : va_X (ad 5000) L xs s s.heap) (hbl : ad 5000 < s.heap.size) (hbA : ¬ A (ad 5000)) {i : Nat} (hro : nn ≤ 600000 ∧ kk ≤ 7302250) (hL : L ≤ 3072) (hi : i + 6 ≤ L) (hJ : JN (xPull esX z) (xPull esM z)) (kn : ∀ z' : xMem, JN (xPull esX z') (xPull esM z') → wl p l e s m args below meth c D cs ad A Q nn kk z' 1056 [(3, .int (nI i)), (2, .ref 56), (1, .ref 0), (0, .ref 5000)] []) : wl p l e s m args below meth c D cs ad A Q nn kk z 160 [(3, .int (nI i)), (2, .ref 56), (1, .ref 0), (0, .ref 5000)] [] := by
  refine wl_aload C (k := 2) dL_law_160 rfl rfl ?_
  refine wl_arg C hX hbl hbA (kq := 3) (k := 1) dL_law_161 dL_law_162 dL_law_163 dL_law_164 dL_law_165 (by decide) rfl rfl (by omega) hL ?_
  refine wl_arg C hX hbl hbA (kq := 3) (k := 2) dL_law_166 dL_law_167 dL_law_168 dL_law_169 dL_law_170 (by decide) rfl rfl (by omega) hL ?_
  refine wl_arg C hX hbl hbA (kq := 3) (k := 3) dL_law_171 dL_law_172 dL_law_173 dL_law_174 dL_law_175 (by decide) rfl rfl (by omega) hL ?_
  obtain ⟨PX, hx9, hj9⟩ := jc_set l (xs (i + 1)) (xs (i + 2)) (xs (i + 3)) hJ
  refine wl_call C (es := esX) (as := [.int (xs (i + 1)), .int (xs (i + 2)), .int (xs (i + 3))]) (rest := []) hx9 (by decide) (by decide) xyX5_set xiX5_set (lw_gt_of (List.mem_of_getElem? (i := 323) (by decide +kernel)) rfl) shJ_X (by decide) rawJ (q0 := 0) rfl rfl rfl rfl rfl (Nat.le_of_ble_eq_true rfl) hro dL_law_176 (fun r9 z9 h9 => ?_)
  obtain ⟨v9, rfl, p9⟩ := h9
  refine wl_aload C (k := 1) dL_law_179 rfl rfl ?_
  refine wl_arg C hX hbl hbA (kq := 3) (k := 1) dL_law_180 dL_law_181 dL_law_182 dL_law_183 dL_law_184 (by decide) rfl rfl (by omega) hL ?_
  refine wl_arg C hX hbl hbA (kq := 3) (k := 2) dL_law_185 dL_law_186 dL_law_187 dL_law_188 dL_law_189 (by decide) rfl rfl (by omega) hL ?_
  refine wl_arg C hX hbl hbA (kq := 3) (k := 3) dL_law_190 dL_law_191 dL_law_192 dL_law_193 dL_law_194 (by decide) rfl rfl (by omega) hL ?_
  obtain ⟨PM, hm9, hq9⟩ := hj9 v9 z9 p9 (xPull esM (xBack esX (xHasRaw shX) z z9)) jX_M
  refine wl_call C (es := esM) (as := [.int (xs (i + 1)), .int (xs (i + 2)), .int (xs (i + 3))]) (rest := [.int v9]) hm9 (by decide) (by decide) xyX6_set xiX6_set (lw_gt_of (List.mem_of_getElem? (i := 957) (by decide +kernel)) rfl) shJ_M (by decide) (fun q => absurd q (by decide)) (q0 := 56) rfl rfl rfl rfl rfl (Nat.le_of_ble_eq_true rfl) hro dL_law_195 (fun r8 z8 h8 => ?_)
  obtain ⟨v8, rfl, p8⟩ := h8
  obtain ⟨rfl, hJ8⟩ := hq9 v8 z8 p8
  exact wl_iceq C 1056 dL_law_198 rfl (kn _ (jN_back hJ8))
set_option maxHeartbeats 4000000 in
theorem law_c1 (C : xC p room_1 s m args meth c RL code 4 D cs ad shJ A) {L : Nat} {xs : Nat → Int32} (hX : va_X (ad 5000) L xs s s.heap) (hbl : ad 5000 < s.heap.size) (hbA : ¬ A (ad 5000)) {i : Nat} (hro : nn ≤ 600000 ∧ kk ≤ 7302250) (hL : L ≤ 3072) (hi : i + 6 ≤ L) (hJ : JN (xPull esX z) (xPull esM z)) (kn : ∀ z' : xMem, JN (xPull esX z') (xPull esM z') → wl p l e s m args below meth c D cs ad A Q nn kk z' 1056 [(3, .int (nI i)), (2, .ref 56), (1, .ref 0), (0, .ref 5000)] []) : wl p l e s m args below meth c D cs ad A Q nn kk z 203 [(3, .int (nI i)), (2, .ref 56), (1, .ref 0), (0, .ref 5000)] [] := by
  refine wl_aload C (k := 2) dL_law_203 rfl rfl ?_
  refine wl_arg C hX hbl hbA (kq := 3) (k := 1) dL_law_204 dL_law_205 dL_law_206 dL_law_207 dL_law_208 (by decide) rfl rfl (by omega) hL ?_
  refine wl_arg C hX hbl hbA (kq := 3) (k := 2) dL_law_209 dL_law_210 dL_law_211 dL_law_212 dL_law_213 (by decide) rfl rfl (by omega) hL ?_
  obtain ⟨PX, hx9, hj9⟩ := jc_person l (xs (i + 1)) (xs (i + 2)) hJ
  refine wl_call C (es := esX) (as := [.int (xs (i + 1)), .int (xs (i + 2))]) (rest := []) hx9 (by decide) (by decide) xyX5_person xiX5_person (lw_gt_of (List.mem_of_getElem? (i := 404) (by decide +kernel)) rfl) shJ_X (by decide) rawJ (q0 := 0) rfl rfl rfl rfl rfl (Nat.le_of_ble_eq_true rfl) hro dL_law_214 (fun r9 z9 h9 => ?_)
  obtain ⟨v9, rfl, p9⟩ := h9
  refine wl_aload C (k := 1) dL_law_217 rfl rfl ?_
  refine wl_arg C hX hbl hbA (kq := 3) (k := 1) dL_law_218 dL_law_219 dL_law_220 dL_law_221 dL_law_222 (by decide) rfl rfl (by omega) hL ?_
  refine wl_arg C hX hbl hbA (kq := 3) (k := 2) dL_law_223 dL_law_224 dL_law_225 dL_law_226 dL_law_227 (by decide) rfl rfl (by omega) hL ?_
  obtain ⟨PM, hm9, hq9⟩ := hj9 v9 z9 p9 (xPull esM (xBack esX (xHasRaw shX) z z9)) jX_M
  refine wl_call C (es := esM) (as := [.int (xs (i + 1)), .int (xs (i + 2))]) (rest := [.int v9]) hm9 (by decide) (by decide) xyX6_person xiX6_person (lw_gt_of (List.mem_of_getElem? (i := 1093) (by decide +kernel)) rfl) shJ_M (by decide) (fun q => absurd q (by decide)) (q0 := 56) rfl rfl rfl rfl rfl (Nat.le_of_ble_eq_true rfl) hro dL_law_228 (fun r8 z8 h8 => ?_)
  obtain ⟨v8, rfl, p8⟩ := h8
  obtain ⟨rfl, hJ8⟩ := hq9 v8 z8 p8
  exact wl_iceq C 1056 dL_law_231 rfl (kn _ (jN_back hJ8))
set_option maxHeartbeats 4000000 in
theorem law_c2 (C : xC p room_1 s m args meth c RL code 4 D cs ad shJ A) {L : Nat} {xs : Nat → Int32} (hX : va_X (ad 5000) L xs s s.heap) (hbl : ad 5000 < s.heap.size) (hbA : ¬ A (ad 5000)) {i : Nat} (hro : nn ≤ 600000 ∧ kk ≤ 7302250) (hL : L ≤ 3072) (hi : i + 6 ≤ L) (hJ : JN (xPull esX z) (xPull esM z)) (kn : ∀ z' : xMem, JN (xPull esX z') (xPull esM z') → wl p l e s m args below meth c D cs ad A Q nn kk z' 1056 [(3, .int (nI i)), (2, .ref 56), (1, .ref 0), (0, .ref 5000)] []) : wl p l e s m args below meth c D cs ad A Q nn kk z 236 [(3, .int (nI i)), (2, .ref 56), (1, .ref 0), (0, .ref 5000)] [] := by
  refine wl_aload C (k := 2) dL_law_236 rfl rfl ?_
  refine wl_arg C hX hbl hbA (kq := 3) (k := 1) dL_law_237 dL_law_238 dL_law_239 dL_law_240 dL_law_241 (by decide) rfl rfl (by omega) hL ?_
  refine wl_arg C hX hbl hbA (kq := 3) (k := 2) dL_law_242 dL_law_243 dL_law_244 dL_law_245 dL_law_246 (by decide) rfl rfl (by omega) hL ?_
  obtain ⟨PX, hx9, hj9⟩ := jc_told l (xs (i + 1)) (xs (i + 2)) hJ
  refine wl_call C (es := esX) (as := [.int (xs (i + 1)), .int (xs (i + 2))]) (rest := []) hx9 (by decide) (by decide) xyX5_told xiX5_told (lw_gt_of (List.mem_of_getElem? (i := 412) (by decide +kernel)) rfl) shJ_X (by decide) rawJ (q0 := 0) rfl rfl rfl rfl rfl (Nat.le_of_ble_eq_true rfl) hro dL_law_247 (fun r9 z9 h9 => ?_)
  obtain ⟨v9, rfl, p9⟩ := h9
  refine wl_aload C (k := 1) dL_law_250 rfl rfl ?_
  refine wl_arg C hX hbl hbA (kq := 3) (k := 1) dL_law_251 dL_law_252 dL_law_253 dL_law_254 dL_law_255 (by decide) rfl rfl (by omega) hL ?_
  refine wl_arg C hX hbl hbA (kq := 3) (k := 2) dL_law_256 dL_law_257 dL_law_258 dL_law_259 dL_law_260 (by decide) rfl rfl (by omega) hL ?_
  obtain ⟨PM, hm9, hq9⟩ := hj9 v9 z9 p9 (xPull esM (xBack esX (xHasRaw shX) z z9)) jX_M
  refine wl_call C (es := esM) (as := [.int (xs (i + 1)), .int (xs (i + 2))]) (rest := [.int v9]) hm9 (by decide) (by decide) xyX6_told xiX6_told (lw_gt_of (List.mem_of_getElem? (i := 1098) (by decide +kernel)) rfl) shJ_M (by decide) (fun q => absurd q (by decide)) (q0 := 56) rfl rfl rfl rfl rfl (Nat.le_of_ble_eq_true rfl) hro dL_law_261 (fun r8 z8 h8 => ?_)
  obtain ⟨v8, rfl, p8⟩ := h8
  obtain ⟨rfl, hJ8⟩ := hq9 v8 z8 p8
  exact wl_iceq C 1056 dL_law_264 rfl (kn _ (jN_back hJ8))
set_option maxHeartbeats 4000000 in
theorem law_c3 (C : xC p room_1 s m args meth c RL code 4 D cs ad shJ A) {L : Nat} {xs : Nat → Int32} (hX : va_X (ad 5000) L xs s s.heap) (hbl : ad 5000 < s.heap.size) (hbA : ¬ A (ad 5000)) {i : Nat} (hro : nn ≤ 600000 ∧ kk ≤ 7302250) (hL : L ≤ 3072) (hi : i + 6 ≤ L) (hJ : JN (xPull esX z) (xPull esM z)) (kn : ∀ z' : xMem, JN (xPull esX z') (xPull esM z') → wl p l e s m args below meth c D cs ad A Q nn kk z' 1056 [(3, .int (nI i)), (2, .ref 56), (1, .ref 0), (0, .ref 5000)] []) : wl p l e s m args below meth c D cs ad A Q nn kk z 269 [(3, .int (nI i)), (2, .ref 56), (1, .ref 0), (0, .ref 5000)] [] := by
  refine wl_aload C (k := 2) dL_law_269 rfl rfl ?_
  refine wl_arg C hX hbl hbA (kq := 3) (k := 1) dL_law_270 dL_law_271 dL_law_272 dL_law_273 dL_law_274 (by decide) rfl rfl (by omega) hL ?_
  refine wl_arg C hX hbl hbA (kq := 3) (k := 2) dL_law_275 dL_law_276 dL_law_277 dL_law_278 dL_law_279 (by decide) rfl rfl (by omega) hL ?_
  refine wl_arg C hX hbl hbA (kq := 3) (k := 3) dL_law_280 dL_law_281 dL_law_282 dL_law_283 dL_law_284 (by decide) rfl rfl (by omega) hL ?_
  obtain ⟨PX, hx9, hj9⟩ := jc_asks l (xs (i + 1)) (xs (i + 2)) (xs (i + 3)) hJ
  refine wl_call C (es := esX) (as := [.int (xs (i + 1)), .int (xs (i + 2)), .int (xs (i + 3))]) (rest := []) hx9 (by decide) (by decide) xyX5_asks xiX5_asks (lw_gt_of (List.mem_of_getElem? (i := 416) (by decide +kernel)) rfl) shJ_X (by decide) rawJ (q0 := 0) rfl rfl rfl rfl rfl (Nat.le_of_ble_eq_true rfl) hro dL_law_285 (fun r9 z9 h9 => ?_)
  obtain ⟨v9, rfl, p9⟩ := h9
  refine wl_aload C (k := 1) dL_law_288 rfl rfl ?_
  refine wl_arg C hX hbl hbA (kq := 3) (k := 1) dL_law_289 dL_law_290 dL_law_291 dL_law_292 dL_law_293 (by decide) rfl rfl (by omega) hL ?_
  refine wl_arg C hX hbl hbA (kq := 3) (k := 2) dL_law_294 dL_law_295 dL_law_296 dL_law_297 dL_law_298 (by decide) rfl rfl (by omega) hL ?_
  refine wl_arg C hX hbl hbA (kq := 3) (k := 3) dL_law_299 dL_law_300 dL_law_301 dL_law_302 dL_law_303 (by decide) rfl rfl (by omega) hL ?_
  obtain ⟨PM, hm9, hq9⟩ := hj9 v9 z9 p9 (xPull esM (xBack esX (xHasRaw shX) z z9)) jX_M
  refine wl_call C (es := esM) (as := [.int (xs (i + 1)), .int (xs (i + 2)), .int (xs (i + 3))]) (rest := [.int v9]) hm9 (by decide) (by decide) xyX6_asks xiX6_asks (lw_gt_of (List.mem_of_getElem? (i := 1112) (by decide +kernel)) rfl) shJ_M (by decide) (fun q => absurd q (by decide)) (q0 := 56) rfl rfl rfl rfl rfl (Nat.le_of_ble_eq_true rfl) hro dL_law_304 (fun r8 z8 h8 => ?_)
  obtain ⟨v8, rfl, p8⟩ := h8
  obtain ⟨rfl, hJ8⟩ := hq9 v8 z8 p8
  exact wl_iceq C 1056 dL_law_307 rfl (kn _ (jN_back hJ8))
set_option maxHeartbeats 4000000 in
theorem law_c4 (C : xC p room_1 s m args meth c RL code 4 D cs ad shJ A) {L : Nat} {xs : Nat → Int32} (hX : va_X (ad 5000) L xs s s.heap) (hbl : ad 5000 < s.heap.size) (hbA : ¬ A (ad 5000)) {i : Nat} (hro : nn ≤ 600000 ∧ kk ≤ 7302250) (hL : L ≤ 3072) (hi : i + 6 ≤ L) (hJ : JN (xPull esX z) (xPull esM z)) (kn : ∀ z' : xMem, JN (xPull esX z') (xPull esM z') → wl p l e s m args below meth c D cs ad A Q nn kk z' 1056 [(3, .int (nI i)), (2, .ref 56), (1, .ref 0), (0, .ref 5000)] []) : wl p l e s m args below meth c D cs ad A Q nn kk z 312 [(3, .int (nI i)), (2, .ref 56), (1, .ref 0), (0, .ref 5000)] [] := by
  refine wl_aload C (k := 2) dL_law_312 rfl rfl ?_
  refine wl_arg C hX hbl hbA (kq := 3) (k := 1) dL_law_313 dL_law_314 dL_law_315 dL_law_316 dL_law_317 (by decide) rfl rfl (by omega) hL ?_
  obtain ⟨PX, hx9, hj9⟩ := jc_feed l (xs (i + 1)) hJ
  refine wl_call C (es := esX) (as := [.int (xs (i + 1))]) (rest := []) hx9 (by decide) (by decide) xyX5_feed xiX5_feed (lw_gt_of (List.mem_of_getElem? (i := 432) (by decide +kernel)) rfl) shJ_X (by decide) rawJ (q0 := 0) rfl rfl rfl rfl rfl (Nat.le_of_ble_eq_true rfl) hro dL_law_318 (fun r9 z9 h9 => ?_)
  obtain ⟨v9, rfl, p9⟩ := h9
  refine wl_aload C (k := 1) dL_law_321 rfl rfl ?_
  refine wl_arg C hX hbl hbA (kq := 3) (k := 1) dL_law_322 dL_law_323 dL_law_324 dL_law_325 dL_law_326 (by decide) rfl rfl (by omega) hL ?_
  obtain ⟨PM, hm9, hq9⟩ := hj9 v9 z9 p9 (xPull esM (xBack esX (xHasRaw shX) z z9)) jX_M
  refine wl_call C (es := esM) (as := [.int (xs (i + 1))]) (rest := [.int v9]) hm9 (by decide) (by decide) xyX6_feed xiX6_feed (lw_gt_of (List.mem_of_getElem? (i := 1099) (by decide +kernel)) rfl) shJ_M (by decide) (fun q => absurd q (by decide)) (q0 := 56) rfl rfl rfl rfl rfl (Nat.le_of_ble_eq_true rfl) hro dL_law_327 (fun r8 z8 h8 => ?_)
  obtain ⟨v8, rfl, p8⟩ := h8
  obtain ⟨rfl, hJ8⟩ := hq9 v8 z8 p8
  exact wl_iceq C 1056 dL_law_330 rfl (kn _ (jN_back hJ8))
set_option maxHeartbeats 4000000 in
theorem law_c5 (C : xC p room_1 s m args meth c RL code 4 D cs ad shJ A) {L : Nat} {xs : Nat → Int32} (hX : va_X (ad 5000) L xs s s.heap) (hbl : ad 5000 < s.heap.size) (hbA : ¬ A (ad 5000)) {i : Nat} (hro : nn ≤ 600000 ∧ kk ≤ 7302250) (hL : L ≤ 3072) (hi : i + 6 ≤ L) (hJ : JN (xPull esX z) (xPull esM z)) (kn : ∀ z' : xMem, JN (xPull esX z') (xPull esM z') → wl p l e s m args below meth c D cs ad A Q nn kk z' 1056 [(3, .int (nI i)), (2, .ref 56), (1, .ref 0), (0, .ref 5000)] []) : wl p l e s m args below meth c D cs ad A Q nn kk z 335 [(3, .int (nI i)), (2, .ref 56), (1, .ref 0), (0, .ref 5000)] [] := by
  refine wl_aload C (k := 2) dL_law_335 rfl rfl ?_
  obtain ⟨PX, hx9, hj9⟩ := jc_text l  hJ
  refine wl_call C (es := esX) (as := []) (rest := []) hx9 (by decide) (by decide) xyX5_text xiX5_text (lw_gt_of (List.mem_of_getElem? (i := 440) (by decide +kernel)) rfl) shJ_X (by decide) rawJ (q0 := 0) rfl rfl rfl rfl rfl (Nat.le_of_ble_eq_true rfl) hro dL_law_336 (fun r9 z9 h9 => ?_)
  obtain ⟨v9, rfl, p9⟩ := h9
  refine wl_aload C (k := 1) dL_law_339 rfl rfl ?_
  obtain ⟨PM, hm9, hq9⟩ := hj9 v9 z9 p9 (xPull esM (xBack esX (xHasRaw shX) z z9)) jX_M
  refine wl_call C (es := esM) (as := []) (rest := [.int v9]) hm9 (by decide) (by decide) xyX6_text xiX6_text (lw_gt_of (List.mem_of_getElem? (i := 1104) (by decide +kernel)) rfl) shJ_M (by decide) (fun q => absurd q (by decide)) (q0 := 56) rfl rfl rfl rfl rfl (Nat.le_of_ble_eq_true rfl) hro dL_law_340 (fun r8 z8 h8 => ?_)
  obtain ⟨v8, rfl, p8⟩ := h8
  obtain ⟨rfl, hJ8⟩ := hq9 v8 z8 p8
  exact wl_iceq C 1056 dL_law_343 rfl (kn _ (jN_back hJ8))
set_option maxHeartbeats 4000000 in
theorem law_c6 (C : xC p room_1 s m args meth c RL code 4 D cs ad shJ A) {L : Nat} {xs : Nat → Int32} (hX : va_X (ad 5000) L xs s s.heap) (hbl : ad 5000 < s.heap.size) (hbA : ¬ A (ad 5000)) {i : Nat} (hro : nn ≤ 600000 ∧ kk ≤ 7302250) (hL : L ≤ 3072) (hi : i + 6 ≤ L) (hJ : JN (xPull esX z) (xPull esM z)) (kn : ∀ z' : xMem, JN (xPull esX z') (xPull esM z') → wl p l e s m args below meth c D cs ad A Q nn kk z' 1056 [(3, .int (nI i)), (2, .ref 56), (1, .ref 0), (0, .ref 5000)] []) : wl p l e s m args below meth c D cs ad A Q nn kk z 348 [(3, .int (nI i)), (2, .ref 56), (1, .ref 0), (0, .ref 5000)] [] := by
  refine wl_aload C (k := 2) dL_law_348 rfl rfl ?_
  refine wl_arg C hX hbl hbA (kq := 3) (k := 1) dL_law_349 dL_law_350 dL_law_351 dL_law_352 dL_law_353 (by decide) rfl rfl (by omega) hL ?_
  obtain ⟨PX, hx9, hj9⟩ := jc_force l (xs (i + 1)) hJ
  refine wl_call C (es := esX) (as := [.int (xs (i + 1))]) (rest := []) hx9 (by decide) (by decide) xyX5_force xiX5_force (lw_gt_of (List.mem_of_getElem? (i := 571) (by decide +kernel)) rfl) shJ_X (by decide) rawJ (q0 := 0) rfl rfl rfl rfl rfl (Nat.le_of_ble_eq_true rfl) hro dL_law_354 (fun r9 z9 h9 => ?_)
  obtain ⟨v9, rfl, p9⟩ := h9
  refine wl_aload C (k := 1) dL_law_357 rfl rfl ?_
  refine wl_arg C hX hbl hbA (kq := 3) (k := 1) dL_law_358 dL_law_359 dL_law_360 dL_law_361 dL_law_362 (by decide) rfl rfl (by omega) hL ?_
  obtain ⟨PM, hm9, hq9⟩ := hj9 v9 z9 p9 (xPull esM (xBack esX (xHasRaw shX) z z9)) jX_M
  refine wl_call C (es := esM) (as := [.int (xs (i + 1))]) (rest := [.int v9]) hm9 (by decide) (by decide) xyX6_force xiX6_force (lw_gt_of (List.mem_of_getElem? (i := 1108) (by decide +kernel)) rfl) shJ_M (by decide) (fun q => absurd q (by decide)) (q0 := 56) rfl rfl rfl rfl rfl (Nat.le_of_ble_eq_true rfl) hro dL_law_363 (fun r8 z8 h8 => ?_)
  obtain ⟨v8, rfl, p8⟩ := h8
  obtain ⟨rfl, hJ8⟩ := hq9 v8 z8 p8
  exact wl_iceq C 1056 dL_law_366 rfl (kn _ (jN_back hJ8))
set_option maxHeartbeats 4000000 in
theorem law_c7 (C : xC p room_1 s m args meth c RL code 4 D cs ad shJ A) {L : Nat} {xs : Nat → Int32} (hX : va_X (ad 5000) L xs s s.heap) (hbl : ad 5000 < s.heap.size) (hbA : ¬ A (ad 5000)) {i : Nat} (hro : nn ≤ 600000 ∧ kk ≤ 7302250) (hL : L ≤ 3072) (hi : i + 6 ≤ L) (hJ : JN (xPull esX z) (xPull esM z)) (kn : ∀ z' : xMem, JN (xPull esX z') (xPull esM z') → wl p l e s m args below meth c D cs ad A Q nn kk z' 1056 [(3, .int (nI i)), (2, .ref 56), (1, .ref 0), (0, .ref 5000)] []) : wl p l e s m args below meth c D cs ad A Q nn kk z 371 [(3, .int (nI i)), (2, .ref 56), (1, .ref 0), (0, .ref 5000)] [] := by
  refine wl_aload C (k := 2) dL_law_371 rfl rfl ?_
  refine wl_arg C hX hbl hbA (kq := 3) (k := 1) dL_law_372 dL_law_373 dL_law_374 dL_law_375 dL_law_376 (by decide) rfl rfl (by omega) hL ?_
  refine wl_arg C hX hbl hbA (kq := 3) (k := 2) dL_law_377 dL_law_378 dL_law_379 dL_law_380 dL_law_381 (by decide) rfl rfl (by omega) hL ?_
  obtain ⟨PX, hx9, hj9⟩ := jc_does l (xs (i + 1)) (xs (i + 2)) hJ
  refine wl_call C (es := esX) (as := [.int (xs (i + 1)), .int (xs (i + 2))]) (rest := []) hx9 (by decide) (by decide) xyX5_does xiX5_does (lw_gt_of (List.mem_of_getElem? (i := 575) (by decide +kernel)) rfl) shJ_X (by decide) rawJ (q0 := 0) rfl rfl rfl rfl rfl (Nat.le_of_ble_eq_true rfl) hro dL_law_382 (fun r9 z9 h9 => ?_)
  obtain ⟨v9, rfl, p9⟩ := h9
  refine wl_aload C (k := 1) dL_law_385 rfl rfl ?_
  refine wl_arg C hX hbl hbA (kq := 3) (k := 1) dL_law_386 dL_law_387 dL_law_388 dL_law_389 dL_law_390 (by decide) rfl rfl (by omega) hL ?_
  refine wl_arg C hX hbl hbA (kq := 3) (k := 2) dL_law_391 dL_law_392 dL_law_393 dL_law_394 dL_law_395 (by decide) rfl rfl (by omega) hL ?_
  obtain ⟨PM, hm9, hq9⟩ := hj9 v9 z9 p9 (xPull esM (xBack esX (xHasRaw shX) z z9)) jX_M
  refine wl_call C (es := esM) (as := [.int (xs (i + 1)), .int (xs (i + 2))]) (rest := [.int v9]) hm9 (by decide) (by decide) xyX6_does xiX6_does (lw_gt_of (List.mem_of_getElem? (i := 1125) (by decide +kernel)) rfl) shJ_M (by decide) (fun q => absurd q (by decide)) (q0 := 56) rfl rfl rfl rfl rfl (Nat.le_of_ble_eq_true rfl) hro dL_law_396 (fun r8 z8 h8 => ?_)
  obtain ⟨v8, rfl, p8⟩ := h8
  obtain ⟨rfl, hJ8⟩ := hq9 v8 z8 p8
  exact wl_iceq C 1056 dL_law_399 rfl (kn _ (jN_back hJ8))
set_option maxHeartbeats 4000000 in
theorem law_c8 (C : xC p room_1 s m args meth c RL code 4 D cs ad shJ A) {L : Nat} {xs : Nat → Int32} (hX : va_X (ad 5000) L xs s s.heap) (hbl : ad 5000 < s.heap.size) (hbA : ¬ A (ad 5000)) {i : Nat} (hro : nn ≤ 600000 ∧ kk ≤ 7302250) (hL : L ≤ 3072) (hi : i + 6 ≤ L) (hJ : JN (xPull esX z) (xPull esM z)) (kn : ∀ z' : xMem, JN (xPull esX z') (xPull esM z') → wl p l e s m args below meth c D cs ad A Q nn kk z' 1056 [(3, .int (nI i)), (2, .ref 56), (1, .ref 0), (0, .ref 5000)] []) : wl p l e s m args below meth c D cs ad A Q nn kk z 404 [(3, .int (nI i)), (2, .ref 56), (1, .ref 0), (0, .ref 5000)] [] := by
  refine wl_aload C (k := 2) dL_law_404 rfl rfl ?_
  obtain ⟨PX, hx9, hj9⟩ := jc_year l  hJ
  refine wl_call C (es := esX) (as := []) (rest := []) hx9 (by decide) (by decide) xyX5_year xiX5_year (lw_gt_of (List.mem_of_getElem? (i := 591) (by decide +kernel)) rfl) shJ_X (by decide) rawJ (q0 := 0) rfl rfl rfl rfl rfl (Nat.le_of_ble_eq_true rfl) hro dL_law_405 (fun r9 z9 h9 => ?_)
  obtain ⟨v9, rfl, p9⟩ := h9
  refine wl_aload C (k := 1) dL_law_408 rfl rfl ?_
  obtain ⟨PM, hm9, hq9⟩ := hj9 v9 z9 p9 (xPull esM (xBack esX (xHasRaw shX) z z9)) jX_M
  refine wl_call C (es := esM) (as := []) (rest := [.int v9]) hm9 (by decide) (by decide) xyX6_year xiX6_year (lw_gt_of (List.mem_of_getElem? (i := 1134) (by decide +kernel)) rfl) shJ_M (by decide) (fun q => absurd q (by decide)) (q0 := 56) rfl rfl rfl rfl rfl (Nat.le_of_ble_eq_true rfl) hro dL_law_409 (fun r8 z8 h8 => ?_)
  obtain ⟨v8, rfl, p8⟩ := h8
  obtain ⟨rfl, hJ8⟩ := hq9 v8 z8 p8
  exact wl_iceq C 1056 dL_law_412 rfl (kn _ (jN_back hJ8))
set_option maxHeartbeats 4000000 in
theorem law_c9 (C : xC p room_1 s m args meth c RL code 4 D cs ad shJ A) {L : Nat} {xs : Nat → Int32} (hX : va_X (ad 5000) L xs s s.heap) (hbl : ad 5000 < s.heap.size) (hbA : ¬ A (ad 5000)) {i : Nat} (hro : nn ≤ 600000 ∧ kk ≤ 7302250) (hL : L ≤ 3072) (hi : i + 6 ≤ L) (hJ : JN (xPull esX z) (xPull esM z)) (kn : ∀ z' : xMem, JN (xPull esX z') (xPull esM z') → wl p l e s m args below meth c D cs ad A Q nn kk z' 1056 [(3, .int (nI i)), (2, .ref 56), (1, .ref 0), (0, .ref 5000)] []) : wl p l e s m args below meth c D cs ad A Q nn kk z 417 [(3, .int (nI i)), (2, .ref 56), (1, .ref 0), (0, .ref 5000)] [] := by
  refine wl_aload C (k := 2) dL_law_417 rfl rfl ?_
  refine wl_arg C hX hbl hbA (kq := 3) (k := 1) dL_law_418 dL_law_419 dL_law_420 dL_law_421 dL_law_422 (by decide) rfl rfl (by omega) hL ?_
  refine wl_arg C hX hbl hbA (kq := 3) (k := 2) dL_law_423 dL_law_424 dL_law_425 dL_law_426 dL_law_427 (by decide) rfl rfl (by omega) hL ?_
  obtain ⟨PX, hx9, hj9⟩ := jc_run l (xs (i + 1)) (xs (i + 2)) hJ
  refine wl_call C (es := esX) (as := [.int (xs (i + 1)), .int (xs (i + 2))]) (rest := []) hx9 (by decide) (by decide) xyX5_run xiX5_run (lw_gt_of (List.mem_of_getElem? (i := 599) (by decide +kernel)) rfl) shJ_X (by decide) rawJ (q0 := 0) rfl rfl rfl rfl rfl (Nat.le_of_ble_eq_true rfl) hro dL_law_428 (fun r9 z9 h9 => ?_)
  obtain ⟨v9, rfl, p9⟩ := h9
  refine wl_aload C (k := 1) dL_law_431 rfl rfl ?_
  refine wl_arg C hX hbl hbA (kq := 3) (k := 1) dL_law_432 dL_law_433 dL_law_434 dL_law_435 dL_law_436 (by decide) rfl rfl (by omega) hL ?_
  refine wl_arg C hX hbl hbA (kq := 3) (k := 2) dL_law_437 dL_law_438 dL_law_439 dL_law_440 dL_law_441 (by decide) rfl rfl (by omega) hL ?_
  obtain ⟨PM, hm9, hq9⟩ := hj9 v9 z9 p9 (xPull esM (xBack esX (xHasRaw shX) z z9)) jX_M
  refine wl_call C (es := esM) (as := [.int (xs (i + 1)), .int (xs (i + 2))]) (rest := [.int v9]) hm9 (by decide) (by decide) xyX6_run xiX6_run (lw_gt_of (List.mem_of_getElem? (i := 1142) (by decide +kernel)) rfl) shJ_M (by decide) (fun q => absurd q (by decide)) (q0 := 56) rfl rfl rfl rfl rfl (Nat.le_of_ble_eq_true rfl) hro dL_law_442 (fun r8 z8 h8 => ?_)
  obtain ⟨v8, rfl, p8⟩ := h8
  obtain ⟨rfl, hJ8⟩ := hq9 v8 z8 p8
  exact wl_iceq C 1056 dL_law_445 rfl (kn _ (jN_back hJ8))
set_option maxHeartbeats 4000000 in
theorem law_c10 (C : xC p room_1 s m args meth c RL code 4 D cs ad shJ A) {L : Nat} {xs : Nat → Int32} (hX : va_X (ad 5000) L xs s s.heap) (hbl : ad 5000 < s.heap.size) (hbA : ¬ A (ad 5000)) {i : Nat} (hro : nn ≤ 600000 ∧ kk ≤ 7302250) (hL : L ≤ 3072) (hi : i + 6 ≤ L) (hJ : JN (xPull esX z) (xPull esM z)) (kn : ∀ z' : xMem, JN (xPull esX z') (xPull esM z') → wl p l e s m args below meth c D cs ad A Q nn kk z' 1056 [(3, .int (nI i)), (2, .ref 56), (1, .ref 0), (0, .ref 5000)] []) : wl p l e s m args below meth c D cs ad A Q nn kk z 450 [(3, .int (nI i)), (2, .ref 56), (1, .ref 0), (0, .ref 5000)] [] := by
  refine wl_aload C (k := 2) dL_law_450 rfl rfl ?_
  refine wl_arg C hX hbl hbA (kq := 3) (k := 1) dL_law_451 dL_law_452 dL_law_453 dL_law_454 dL_law_455 (by decide) rfl rfl (by omega) hL ?_
  obtain ⟨PX, hx9, hj9⟩ := jc_lasts l (xs (i + 1)) hJ
  refine wl_call C (es := esX) (as := [.int (xs (i + 1))]) (rest := []) hx9 (by decide) (by decide) xyX5_lasts xiX5_lasts (lw_gt_of (List.mem_of_getElem? (i := 620) (by decide +kernel)) rfl) shJ_X (by decide) rawJ (q0 := 0) rfl rfl rfl rfl rfl (Nat.le_of_ble_eq_true rfl) hro dL_law_456 (fun r9 z9 h9 => ?_)
  obtain ⟨v9, rfl, p9⟩ := h9
  refine wl_aload C (k := 1) dL_law_459 rfl rfl ?_
  refine wl_arg C hX hbl hbA (kq := 3) (k := 1) dL_law_460 dL_law_461 dL_law_462 dL_law_463 dL_law_464 (by decide) rfl rfl (by omega) hL ?_
  obtain ⟨PM, hm9, hq9⟩ := hj9 v9 z9 p9 (xPull esM (xBack esX (xHasRaw shX) z z9)) jX_M
  refine wl_call C (es := esM) (as := [.int (xs (i + 1))]) (rest := [.int v9]) hm9 (by decide) (by decide) xyX6_lasts xiX6_lasts (lw_gt_of (List.mem_of_getElem? (i := 1163) (by decide +kernel)) rfl) shJ_M (by decide) (fun q => absurd q (by decide)) (q0 := 56) rfl rfl rfl rfl rfl (Nat.le_of_ble_eq_true rfl) hro dL_law_465 (fun r8 z8 h8 => ?_)
  obtain ⟨v8, rfl, p8⟩ := h8
  obtain ⟨rfl, hJ8⟩ := hq9 v8 z8 p8
  exact wl_iceq C 1056 dL_law_468 rfl (kn _ (jN_back hJ8))
set_option maxHeartbeats 4000000 in
theorem law_c11 (C : xC p room_1 s m args meth c RL code 4 D cs ad shJ A) {L : Nat} {xs : Nat → Int32} (hX : va_X (ad 5000) L xs s s.heap) (hbl : ad 5000 < s.heap.size) (hbA : ¬ A (ad 5000)) {i : Nat} (hro : nn ≤ 600000 ∧ kk ≤ 7302250) (hL : L ≤ 3072) (hi : i + 6 ≤ L) (hJ : JN (xPull esX z) (xPull esM z)) (kn : ∀ z' : xMem, JN (xPull esX z') (xPull esM z') → wl p l e s m args below meth c D cs ad A Q nn kk z' 1056 [(3, .int (nI i)), (2, .ref 56), (1, .ref 0), (0, .ref 5000)] []) : wl p l e s m args below meth c D cs ad A Q nn kk z 473 [(3, .int (nI i)), (2, .ref 56), (1, .ref 0), (0, .ref 5000)] [] := by
  refine wl_aload C (k := 2) dL_law_473 rfl rfl ?_
  refine wl_arg C hX hbl hbA (kq := 3) (k := 1) dL_law_474 dL_law_475 dL_law_476 dL_law_477 dL_law_478 (by decide) rfl rfl (by omega) hL ?_
  refine wl_arg C hX hbl hbA (kq := 3) (k := 2) dL_law_479 dL_law_480 dL_law_481 dL_law_482 dL_law_483 (by decide) rfl rfl (by omega) hL ?_
  obtain ⟨PX, hx9, hj9⟩ := jc_cover l (xs (i + 1)) (xs (i + 2)) hJ
  refine wl_call C (es := esX) (as := [.int (xs (i + 1)), .int (xs (i + 2))]) (rest := []) hx9 (by decide) (by decide) xyX5_cover xiX5_cover (lw_gt_of (List.mem_of_getElem? (i := 624) (by decide +kernel)) rfl) shJ_X (by decide) rawJ (q0 := 0) rfl rfl rfl rfl rfl (Nat.le_of_ble_eq_true rfl) hro dL_law_484 (fun r9 z9 h9 => ?_)
  obtain ⟨v9, rfl, p9⟩ := h9
  refine wl_aload C (k := 1) dL_law_487 rfl rfl ?_
  refine wl_arg C hX hbl hbA (kq := 3) (k := 1) dL_law_488 dL_law_489 dL_law_490 dL_law_491 dL_law_492 (by decide) rfl rfl (by omega) hL ?_
  refine wl_arg C hX hbl hbA (kq := 3) (k := 2) dL_law_493 dL_law_494 dL_law_495 dL_law_496 dL_law_497 (by decide) rfl rfl (by omega) hL ?_
  obtain ⟨PM, hm9, hq9⟩ := hj9 v9 z9 p9 (xPull esM (xBack esX (xHasRaw shX) z z9)) jX_M
  refine wl_call C (es := esM) (as := [.int (xs (i + 1)), .int (xs (i + 2))]) (rest := [.int v9]) hm9 (by decide) (by decide) xyX6_cover xiX6_cover (lw_gt_of (List.mem_of_getElem? (i := 1167) (by decide +kernel)) rfl) shJ_M (by decide) (fun q => absurd q (by decide)) (q0 := 56) rfl rfl rfl rfl rfl (Nat.le_of_ble_eq_true rfl) hro dL_law_498 (fun r8 z8 h8 => ?_)
  obtain ⟨v8, rfl, p8⟩ := h8
  obtain ⟨rfl, hJ8⟩ := hq9 v8 z8 p8
  exact wl_iceq C 1056 dL_law_501 rfl (kn _ (jN_back hJ8))
set_option maxHeartbeats 4000000 in
theorem law_c12 (C : xC p room_1 s m args meth c RL code 4 D cs ad shJ A) {L : Nat} {xs : Nat → Int32} (hX : va_X (ad 5000) L xs s s.heap) (hbl : ad 5000 < s.heap.size) (hbA : ¬ A (ad 5000)) {i : Nat} (hro : nn ≤ 600000 ∧ kk ≤ 7302250) (hL : L ≤ 3072) (hi : i + 6 ≤ L) (hJ : JN (xPull esX z) (xPull esM z)) (kn : ∀ z' : xMem, JN (xPull esX z') (xPull esM z') → wl p l e s m args below meth c D cs ad A Q nn kk z' 1056 [(3, .int (nI i)), (2, .ref 56), (1, .ref 0), (0, .ref 5000)] []) : wl p l e s m args below meth c D cs ad A Q nn kk z 506 [(3, .int (nI i)), (2, .ref 56), (1, .ref 0), (0, .ref 5000)] [] := by
  refine wl_aload C (k := 2) dL_law_506 rfl rfl ?_
  refine wl_arg C hX hbl hbA (kq := 3) (k := 1) dL_law_507 dL_law_508 dL_law_509 dL_law_510 dL_law_511 (by decide) rfl rfl (by omega) hL ?_
  obtain ⟨PX, hx9, hj9⟩ := jc_rota l (xs (i + 1)) hJ
  refine wl_call C (es := esX) (as := [.int (xs (i + 1))]) (rest := []) hx9 (by decide) (by decide) xyX5_rota xiX5_rota (lw_gt_of (List.mem_of_getElem? (i := 642) (by decide +kernel)) rfl) shJ_X (by decide) rawJ (q0 := 0) rfl rfl rfl rfl rfl (Nat.le_of_ble_eq_true rfl) hro dL_law_512 (fun r9 z9 h9 => ?_)
  obtain ⟨v9, rfl, p9⟩ := h9
  refine wl_aload C (k := 1) dL_law_515 rfl rfl ?_
  refine wl_arg C hX hbl hbA (kq := 3) (k := 1) dL_law_516 dL_law_517 dL_law_518 dL_law_519 dL_law_520 (by decide) rfl rfl (by omega) hL ?_
  obtain ⟨PM, hm9, hq9⟩ := hj9 v9 z9 p9 (xPull esM (xBack esX (xHasRaw shX) z z9)) jX_M
  refine wl_call C (es := esM) (as := [.int (xs (i + 1))]) (rest := [.int v9]) hm9 (by decide) (by decide) xyX6_rota xiX6_rota (lw_gt_of (List.mem_of_getElem? (i := 1180) (by decide +kernel)) rfl) shJ_M (by decide) (fun q => absurd q (by decide)) (q0 := 56) rfl rfl rfl rfl rfl (Nat.le_of_ble_eq_true rfl) hro dL_law_521 (fun r8 z8 h8 => ?_)
  obtain ⟨v8, rfl, p8⟩ := h8
  obtain ⟨rfl, hJ8⟩ := hq9 v8 z8 p8
  exact wl_iceq C 1056 dL_law_524 rfl (kn _ (jN_back hJ8))
set_option maxHeartbeats 4000000 in
theorem law_c13 (C : xC p room_1 s m args meth c RL code 4 D cs ad shJ A) {L : Nat} {xs : Nat → Int32} (hX : va_X (ad 5000) L xs s s.heap) (hbl : ad 5000 < s.heap.size) (hbA : ¬ A (ad 5000)) {i : Nat} (hro : nn ≤ 600000 ∧ kk ≤ 7302250) (hL : L ≤ 3072) (hi : i + 6 ≤ L) (hJ : JN (xPull esX z) (xPull esM z)) (kn : ∀ z' : xMem, JN (xPull esX z') (xPull esM z') → wl p l e s m args below meth c D cs ad A Q nn kk z' 1056 [(3, .int (nI i)), (2, .ref 56), (1, .ref 0), (0, .ref 5000)] []) : wl p l e s m args below meth c D cs ad A Q nn kk z 529 [(3, .int (nI i)), (2, .ref 56), (1, .ref 0), (0, .ref 5000)] [] := by
  refine wl_aload C (k := 2) dL_law_529 rfl rfl ?_
  refine wl_arg C hX hbl hbA (kq := 3) (k := 1) dL_law_530 dL_law_531 dL_law_532 dL_law_533 dL_law_534 (by decide) rfl rfl (by omega) hL ?_
  refine wl_arg C hX hbl hbA (kq := 3) (k := 2) dL_law_535 dL_law_536 dL_law_537 dL_law_538 dL_law_539 (by decide) rfl rfl (by omega) hL ?_
  obtain ⟨PX, hx9, hj9⟩ := jc_saves l (xs (i + 1)) (xs (i + 2)) hJ
  refine wl_call C (es := esX) (as := [.int (xs (i + 1)), .int (xs (i + 2))]) (rest := []) hx9 (by decide) (by decide) xyX5_saves xiX5_saves (lw_gt_of (List.mem_of_getElem? (i := 660) (by decide +kernel)) rfl) shJ_X (by decide) rawJ (q0 := 0) rfl rfl rfl rfl rfl (Nat.le_of_ble_eq_true rfl) hro dL_law_540 (fun r9 z9 h9 => ?_)
  obtain ⟨v9, rfl, p9⟩ := h9
  refine wl_aload C (k := 1) dL_law_543 rfl rfl ?_
  refine wl_arg C hX hbl hbA (kq := 3) (k := 1) dL_law_544 dL_law_545 dL_law_546 dL_law_547 dL_law_548 (by decide) rfl rfl (by omega) hL ?_
  refine wl_arg C hX hbl hbA (kq := 3) (k := 2) dL_law_549 dL_law_550 dL_law_551 dL_law_552 dL_law_553 (by decide) rfl rfl (by omega) hL ?_
  obtain ⟨PM, hm9, hq9⟩ := hj9 v9 z9 p9 (xPull esM (xBack esX (xHasRaw shX) z z9)) jX_M
  refine wl_call C (es := esM) (as := [.int (xs (i + 1)), .int (xs (i + 2))]) (rest := [.int v9]) hm9 (by decide) (by decide) xyX6_saves xiX6_saves (lw_gt_of (List.mem_of_getElem? (i := 1188) (by decide +kernel)) rfl) shJ_M (by decide) (fun q => absurd q (by decide)) (q0 := 56) rfl rfl rfl rfl rfl (Nat.le_of_ble_eq_true rfl) hro dL_law_554 (fun r8 z8 h8 => ?_)
  obtain ⟨v8, rfl, p8⟩ := h8
  obtain ⟨rfl, hJ8⟩ := hq9 v8 z8 p8
  exact wl_iceq C 1056 dL_law_557 rfl (kn _ (jN_back hJ8))
set_option maxHeartbeats 4000000 in
theorem law_c14 (C : xC p room_1 s m args meth c RL code 4 D cs ad shJ A) {L : Nat} {xs : Nat → Int32} (hX : va_X (ad 5000) L xs s s.heap) (hbl : ad 5000 < s.heap.size) (hbA : ¬ A (ad 5000)) {i : Nat} (hro : nn ≤ 600000 ∧ kk ≤ 7302250) (hL : L ≤ 3072) (hi : i + 6 ≤ L) (hJ : JN (xPull esX z) (xPull esM z)) (kn : ∀ z' : xMem, JN (xPull esX z') (xPull esM z') → wl p l e s m args below meth c D cs ad A Q nn kk z' 1056 [(3, .int (nI i)), (2, .ref 56), (1, .ref 0), (0, .ref 5000)] []) : wl p l e s m args below meth c D cs ad A Q nn kk z 562 [(3, .int (nI i)), (2, .ref 56), (1, .ref 0), (0, .ref 5000)] [] := by
  refine wl_aload C (k := 2) dL_law_562 rfl rfl ?_
  refine wl_arg C hX hbl hbA (kq := 3) (k := 1) dL_law_563 dL_law_564 dL_law_565 dL_law_566 dL_law_567 (by decide) rfl rfl (by omega) hL ?_
  obtain ⟨PX, hx9, hj9⟩ := jc_letGo l (xs (i + 1)) hJ
  refine wl_call C (es := esX) (as := [.int (xs (i + 1))]) (rest := []) hx9 (by decide) (by decide) xyX5_letGo xiX5_letGo (lw_gt_of (List.mem_of_getElem? (i := 669) (by decide +kernel)) rfl) shJ_X (by decide) rawJ (q0 := 0) rfl rfl rfl rfl rfl (Nat.le_of_ble_eq_true rfl) hro dL_law_568 (fun r9 z9 h9 => ?_)
  obtain ⟨v9, rfl, p9⟩ := h9
  refine wl_aload C (k := 1) dL_law_571 rfl rfl ?_
  refine wl_arg C hX hbl hbA (kq := 3) (k := 1) dL_law_572 dL_law_573 dL_law_574 dL_law_575 dL_law_576 (by decide) rfl rfl (by omega) hL ?_
  obtain ⟨PM, hm9, hq9⟩ := hj9 v9 z9 p9 (xPull esM (xBack esX (xHasRaw shX) z z9)) jX_M
  refine wl_call C (es := esM) (as := [.int (xs (i + 1))]) (rest := [.int v9]) hm9 (by decide) (by decide) xyX6_letGo xiX6_letGo (lw_gt_of (List.mem_of_getElem? (i := 1196) (by decide +kernel)) rfl) shJ_M (by decide) (fun q => absurd q (by decide)) (q0 := 56) rfl rfl rfl rfl rfl (Nat.le_of_ble_eq_true rfl) hro dL_law_577 (fun r8 z8 h8 => ?_)
  obtain ⟨v8, rfl, p8⟩ := h8
  obtain ⟨rfl, hJ8⟩ := hq9 v8 z8 p8
  exact wl_iceq C 1056 dL_law_580 rfl (kn _ (jN_back hJ8))
set_option maxHeartbeats 4000000 in
theorem law_c15 (C : xC p room_1 s m args meth c RL code 4 D cs ad shJ A) {L : Nat} {xs : Nat → Int32} (hX : va_X (ad 5000) L xs s s.heap) (hbl : ad 5000 < s.heap.size) (hbA : ¬ A (ad 5000)) {i : Nat} (hro : nn ≤ 600000 ∧ kk ≤ 7302250) (hL : L ≤ 3072) (hi : i + 6 ≤ L) (hJ : JN (xPull esX z) (xPull esM z)) (kn : ∀ z' : xMem, JN (xPull esX z') (xPull esM z') → wl p l e s m args below meth c D cs ad A Q nn kk z' 1056 [(3, .int (nI i)), (2, .ref 56), (1, .ref 0), (0, .ref 5000)] []) : wl p l e s m args below meth c D cs ad A Q nn kk z 585 [(3, .int (nI i)), (2, .ref 56), (1, .ref 0), (0, .ref 5000)] [] := by
  refine wl_aload C (k := 2) dL_law_585 rfl rfl ?_
  refine wl_arg C hX hbl hbA (kq := 3) (k := 1) dL_law_586 dL_law_587 dL_law_588 dL_law_589 dL_law_590 (by decide) rfl rfl (by omega) hL ?_
  obtain ⟨PX, hx9, hj9⟩ := jc_share l (xs (i + 1)) hJ
  refine wl_call C (es := esX) (as := [.int (xs (i + 1))]) (rest := []) hx9 (by decide) (by decide) xyX5_share xiX5_share (lw_gt_of (List.mem_of_getElem? (i := 677) (by decide +kernel)) rfl) shJ_X (by decide) rawJ (q0 := 0) rfl rfl rfl rfl rfl (Nat.le_of_ble_eq_true rfl) hro dL_law_591 (fun r9 z9 h9 => ?_)
  obtain ⟨v9, rfl, p9⟩ := h9
  refine wl_aload C (k := 1) dL_law_594 rfl rfl ?_
  refine wl_arg C hX hbl hbA (kq := 3) (k := 1) dL_law_595 dL_law_596 dL_law_597 dL_law_598 dL_law_599 (by decide) rfl rfl (by omega) hL ?_
  obtain ⟨PM, hm9, hq9⟩ := hj9 v9 z9 p9 (xPull esM (xBack esX (xHasRaw shX) z z9)) jX_M
  refine wl_call C (es := esM) (as := [.int (xs (i + 1))]) (rest := [.long v9]) hm9 (by decide) (by decide) xyX6_share xiX6_share (lw_gt_of (List.mem_of_getElem? (i := 1200) (by decide +kernel)) rfl) shJ_M (by decide) (fun q => absurd q (by decide)) (q0 := 56) rfl rfl rfl rfl rfl (Nat.le_of_ble_eq_true rfl) hro dL_law_600 (fun r8 z8 h8 => ?_)
  obtain ⟨v8, rfl, p8⟩ := h8
  obtain ⟨rfl, hJ8⟩ := hq9 v8 z8 p8
  exact wl_lceq C 1056 dL_law_603 dL_law_604 rfl (kn _ (jN_back hJ8))
set_option maxHeartbeats 4000000 in
theorem law_c16 (C : xC p room_1 s m args meth c RL code 4 D cs ad shJ A) {L : Nat} {xs : Nat → Int32} (hX : va_X (ad 5000) L xs s s.heap) (hbl : ad 5000 < s.heap.size) (hbA : ¬ A (ad 5000)) {i : Nat} (hro : nn ≤ 600000 ∧ kk ≤ 7302250) (hL : L ≤ 3072) (hi : i + 6 ≤ L) (hJ : JN (xPull esX z) (xPull esM z)) (kn : ∀ z' : xMem, JN (xPull esX z') (xPull esM z') → wl p l e s m args below meth c D cs ad A Q nn kk z' 1056 [(3, .int (nI i)), (2, .ref 56), (1, .ref 0), (0, .ref 5000)] []) : wl p l e s m args below meth c D cs ad A Q nn kk z 609 [(3, .int (nI i)), (2, .ref 56), (1, .ref 0), (0, .ref 5000)] [] := by
  refine wl_aload C (k := 2) dL_law_609 rfl rfl ?_
  refine wl_arg C hX hbl hbA (kq := 3) (k := 1) dL_law_610 dL_law_611 dL_law_612 dL_law_613 dL_law_614 (by decide) rfl rfl (by omega) hL ?_
  refine wl_arg C hX hbl hbA (kq := 3) (k := 2) dL_law_615 dL_law_616 dL_law_617 dL_law_618 dL_law_619 (by decide) rfl rfl (by omega) hL ?_
  refine wl_arg C hX hbl hbA (kq := 3) (k := 3) dL_law_620 dL_law_621 dL_law_622 dL_law_623 dL_law_624 (by decide) rfl rfl (by omega) hL ?_
  obtain ⟨PX, hx9, hj9⟩ := jc_tells l (xs (i + 1)) (xs (i + 2)) (xs (i + 3)) hJ
  refine wl_call C (es := esX) (as := [.int (xs (i + 1)), .int (xs (i + 2)), .int (xs (i + 3))]) (rest := []) hx9 (by decide) (by decide) xyX5_tells xiX5_tells (lw_gt_of (List.mem_of_getElem? (i := 688) (by decide +kernel)) rfl) shJ_X (by decide) rawJ (q0 := 0) rfl rfl rfl rfl rfl (Nat.le_of_ble_eq_true rfl) hro dL_law_625 (fun r9 z9 h9 => ?_)
  obtain ⟨v9, rfl, p9⟩ := h9
  refine wl_aload C (k := 1) dL_law_628 rfl rfl ?_
  refine wl_arg C hX hbl hbA (kq := 3) (k := 1) dL_law_629 dL_law_630 dL_law_631 dL_law_632 dL_law_633 (by decide) rfl rfl (by omega) hL ?_
  refine wl_arg C hX hbl hbA (kq := 3) (k := 2) dL_law_634 dL_law_635 dL_law_636 dL_law_637 dL_law_638 (by decide) rfl rfl (by omega) hL ?_
  refine wl_arg C hX hbl hbA (kq := 3) (k := 3) dL_law_639 dL_law_640 dL_law_641 dL_law_642 dL_law_643 (by decide) rfl rfl (by omega) hL ?_
  obtain ⟨PM, hm9, hq9⟩ := hj9 v9 z9 p9 (xPull esM (xBack esX (xHasRaw shX) z z9)) jX_M
  refine wl_call C (es := esM) (as := [.int (xs (i + 1)), .int (xs (i + 2)), .int (xs (i + 3))]) (rest := [.int v9]) hm9 (by decide) (by decide) xyX6_tells xiX6_tells (lw_gt_of (List.mem_of_getElem? (i := 1208) (by decide +kernel)) rfl) shJ_M (by decide) (fun q => absurd q (by decide)) (q0 := 56) rfl rfl rfl rfl rfl (Nat.le_of_ble_eq_true rfl) hro dL_law_644 (fun r8 z8 h8 => ?_)
  obtain ⟨v8, rfl, p8⟩ := h8
  obtain ⟨rfl, hJ8⟩ := hq9 v8 z8 p8
  exact wl_iceq C 1056 dL_law_647 rfl (kn _ (jN_back hJ8))
set_option maxHeartbeats 4000000 in
theorem law_c17 (C : xC p room_1 s m args meth c RL code 4 D cs ad shJ A) {L : Nat} {xs : Nat → Int32} (hX : va_X (ad 5000) L xs s s.heap) (hbl : ad 5000 < s.heap.size) (hbA : ¬ A (ad 5000)) {i : Nat} (hro : nn ≤ 600000 ∧ kk ≤ 7302250) (hL : L ≤ 3072) (hi : i + 6 ≤ L) (hJ : JN (xPull esX z) (xPull esM z)) (kn : ∀ z' : xMem, JN (xPull esX z') (xPull esM z') → wl p l e s m args below meth c D cs ad A Q nn kk z' 1056 [(3, .int (nI i)), (2, .ref 56), (1, .ref 0), (0, .ref 5000)] []) : wl p l e s m args below meth c D cs ad A Q nn kk z 652 [(3, .int (nI i)), (2, .ref 56), (1, .ref 0), (0, .ref 5000)] [] := by
  refine wl_aload C (k := 2) dL_law_652 rfl rfl ?_
  refine wl_arg C hX hbl hbA (kq := 3) (k := 1) dL_law_653 dL_law_654 dL_law_655 dL_law_656 dL_law_657 (by decide) rfl rfl (by omega) hL ?_
  refine wl_arg C hX hbl hbA (kq := 3) (k := 2) dL_law_658 dL_law_659 dL_law_660 dL_law_661 dL_law_662 (by decide) rfl rfl (by omega) hL ?_
  obtain ⟨PX, hx9, hj9⟩ := jc_film l (xs (i + 1)) (xs (i + 2)) hJ
  refine wl_call C (es := esX) (as := [.int (xs (i + 1)), .int (xs (i + 2))]) (rest := []) hx9 (by decide) (by decide) xyX5_film xiX5_film (lw_gt_of (List.mem_of_getElem? (i := 720) (by decide +kernel)) rfl) shJ_X (by decide) rawJ (q0 := 0) rfl rfl rfl rfl rfl (Nat.le_of_ble_eq_true rfl) hro dL_law_663 (fun r9 z9 h9 => ?_)
  obtain ⟨v9, rfl, p9⟩ := h9
  refine wl_aload C (k := 1) dL_law_666 rfl rfl ?_
  refine wl_arg C hX hbl hbA (kq := 3) (k := 1) dL_law_667 dL_law_668 dL_law_669 dL_law_670 dL_law_671 (by decide) rfl rfl (by omega) hL ?_
  refine wl_arg C hX hbl hbA (kq := 3) (k := 2) dL_law_672 dL_law_673 dL_law_674 dL_law_675 dL_law_676 (by decide) rfl rfl (by omega) hL ?_
  obtain ⟨PM, hm9, hq9⟩ := hj9 v9 z9 p9 (xPull esM (xBack esX (xHasRaw shX) z z9)) jX_M
  refine wl_call C (es := esM) (as := [.int (xs (i + 1)), .int (xs (i + 2))]) (rest := [.int v9]) hm9 (by decide) (by decide) xyX6_film xiX6_film (lw_gt_of (List.mem_of_getElem? (i := 1224) (by decide +kernel)) rfl) shJ_M (by decide) (fun q => absurd q (by decide)) (q0 := 56) rfl rfl rfl rfl rfl (Nat.le_of_ble_eq_true rfl) hro dL_law_677 (fun r8 z8 h8 => ?_)
  obtain ⟨v8, rfl, p8⟩ := h8
  obtain ⟨rfl, hJ8⟩ := hq9 v8 z8 p8
  exact wl_iceq C 1056 dL_law_680 rfl (kn _ (jN_back hJ8))
set_option maxHeartbeats 4000000 in
theorem law_c18 (C : xC p room_1 s m args meth c RL code 4 D cs ad shJ A) {L : Nat} {xs : Nat → Int32} (hX : va_X (ad 5000) L xs s s.heap) (hbl : ad 5000 < s.heap.size) (hbA : ¬ A (ad 5000)) {i : Nat} (hro : nn ≤ 600000 ∧ kk ≤ 7302250) (hL : L ≤ 3072) (hi : i + 6 ≤ L) (hJ : JN (xPull esX z) (xPull esM z)) (kn : ∀ z' : xMem, JN (xPull esX z') (xPull esM z') → wl p l e s m args below meth c D cs ad A Q nn kk z' 1056 [(3, .int (nI i)), (2, .ref 56), (1, .ref 0), (0, .ref 5000)] []) : wl p l e s m args below meth c D cs ad A Q nn kk z 685 [(3, .int (nI i)), (2, .ref 56), (1, .ref 0), (0, .ref 5000)] [] := by
  refine wl_aload C (k := 2) dL_law_685 rfl rfl ?_
  refine wl_arg C hX hbl hbA (kq := 3) (k := 1) dL_law_686 dL_law_687 dL_law_688 dL_law_689 dL_law_690 (by decide) rfl rfl (by omega) hL ?_
  refine wl_arg C hX hbl hbA (kq := 3) (k := 2) dL_law_691 dL_law_692 dL_law_693 dL_law_694 dL_law_695 (by decide) rfl rfl (by omega) hL ?_
  obtain ⟨PX, hx9, hj9⟩ := jc_drawn l (xs (i + 1)) (xs (i + 2)) hJ
  refine wl_call C (es := esX) (as := [.int (xs (i + 1)), .int (xs (i + 2))]) (rest := []) hx9 (by decide) (by decide) xyX5_drawn xiX5_drawn (lw_gt_of (List.mem_of_getElem? (i := 739) (by decide +kernel)) rfl) shJ_X (by decide) rawJ (q0 := 0) rfl rfl rfl rfl rfl (Nat.le_of_ble_eq_true rfl) hro dL_law_696 (fun r9 z9 h9 => ?_)
  obtain ⟨v9, rfl, p9⟩ := h9
  refine wl_aload C (k := 1) dL_law_699 rfl rfl ?_
  refine wl_arg C hX hbl hbA (kq := 3) (k := 1) dL_law_700 dL_law_701 dL_law_702 dL_law_703 dL_law_704 (by decide) rfl rfl (by omega) hL ?_
  refine wl_arg C hX hbl hbA (kq := 3) (k := 2) dL_law_705 dL_law_706 dL_law_707 dL_law_708 dL_law_709 (by decide) rfl rfl (by omega) hL ?_
  obtain ⟨PM, hm9, hq9⟩ := hj9 v9 z9 p9 (xPull esM (xBack esX (xHasRaw shX) z z9)) jX_M
  refine wl_call C (es := esM) (as := [.int (xs (i + 1)), .int (xs (i + 2))]) (rest := [.int v9]) hm9 (by decide) (by decide) xyX6_drawn xiX6_drawn (lw_gt_of (List.mem_of_getElem? (i := 1233) (by decide +kernel)) rfl) shJ_M (by decide) (fun q => absurd q (by decide)) (q0 := 56) rfl rfl rfl rfl rfl (Nat.le_of_ble_eq_true rfl) hro dL_law_710 (fun r8 z8 h8 => ?_)
  obtain ⟨v8, rfl, p8⟩ := h8
  obtain ⟨rfl, hJ8⟩ := hq9 v8 z8 p8
  exact wl_iceq C 1056 dL_law_713 rfl (kn _ (jN_back hJ8))
set_option maxHeartbeats 4000000 in
theorem law_c19 (C : xC p room_1 s m args meth c RL code 4 D cs ad shJ A) {L : Nat} {xs : Nat → Int32} (hX : va_X (ad 5000) L xs s s.heap) (hbl : ad 5000 < s.heap.size) (hbA : ¬ A (ad 5000)) {i : Nat} (hro : nn ≤ 600000 ∧ kk ≤ 7302250) (hL : L ≤ 3072) (hi : i + 6 ≤ L) (hJ : JN (xPull esX z) (xPull esM z)) (kn : ∀ z' : xMem, JN (xPull esX z') (xPull esM z') → wl p l e s m args below meth c D cs ad A Q nn kk z' 1056 [(3, .int (nI i)), (2, .ref 56), (1, .ref 0), (0, .ref 5000)] []) : wl p l e s m args below meth c D cs ad A Q nn kk z 718 [(3, .int (nI i)), (2, .ref 56), (1, .ref 0), (0, .ref 5000)] [] := by
  refine wl_aload C (k := 2) dL_law_718 rfl rfl ?_
  refine wl_arg C hX hbl hbA (kq := 3) (k := 1) dL_law_719 dL_law_720 dL_law_721 dL_law_722 dL_law_723 (by decide) rfl rfl (by omega) hL ?_
  refine wl_arg C hX hbl hbA (kq := 3) (k := 2) dL_law_724 dL_law_725 dL_law_726 dL_law_727 dL_law_728 (by decide) rfl rfl (by omega) hL ?_
  refine wl_arg C hX hbl hbA (kq := 3) (k := 3) dL_law_729 dL_law_730 dL_law_731 dL_law_732 dL_law_733 (by decide) rfl rfl (by omega) hL ?_
  refine wl_arg C hX hbl hbA (kq := 3) (k := 4) dL_law_734 dL_law_735 dL_law_736 dL_law_737 dL_law_738 (by decide) rfl rfl (by omega) hL ?_
  obtain ⟨PX, hx9, hj9⟩ := jc_chance l (xs (i + 1)) (xs (i + 2)) (xs (i + 3)) (xs (i + 4)) hJ
  refine wl_call C (es := esX) (as := [.int (xs (i + 1)), .int (xs (i + 2)), .int (xs (i + 3)), .int (xs (i + 4))]) (rest := []) hx9 (by decide) (by decide) xyX5_chance xiX5_chance (lw_gt_of (List.mem_of_getElem? (i := 755) (by decide +kernel)) rfl) shJ_X (by decide) rawJ (q0 := 0) rfl rfl rfl rfl rfl (Nat.le_of_ble_eq_true rfl) hro dL_law_739 (fun r9 z9 h9 => ?_)
  obtain ⟨v9, rfl, p9⟩ := h9
  refine wl_aload C (k := 1) dL_law_742 rfl rfl ?_
  refine wl_arg C hX hbl hbA (kq := 3) (k := 1) dL_law_743 dL_law_744 dL_law_745 dL_law_746 dL_law_747 (by decide) rfl rfl (by omega) hL ?_
  refine wl_arg C hX hbl hbA (kq := 3) (k := 2) dL_law_748 dL_law_749 dL_law_750 dL_law_751 dL_law_752 (by decide) rfl rfl (by omega) hL ?_
  refine wl_arg C hX hbl hbA (kq := 3) (k := 3) dL_law_753 dL_law_754 dL_law_755 dL_law_756 dL_law_757 (by decide) rfl rfl (by omega) hL ?_
  refine wl_arg C hX hbl hbA (kq := 3) (k := 4) dL_law_758 dL_law_759 dL_law_760 dL_law_761 dL_law_762 (by decide) rfl rfl (by omega) hL ?_
  obtain ⟨PM, hm9, hq9⟩ := hj9 v9 z9 p9 (xPull esM (xBack esX (xHasRaw shX) z z9)) jX_M
  refine wl_call C (es := esM) (as := [.int (xs (i + 1)), .int (xs (i + 2)), .int (xs (i + 3)), .int (xs (i + 4))]) (rest := [.long v9]) hm9 (by decide) (by decide) xyX6_chance xiX6_chance (lw_gt_of (List.mem_of_getElem? (i := 1242) (by decide +kernel)) rfl) shJ_M (by decide) (fun q => absurd q (by decide)) (q0 := 56) rfl rfl rfl rfl rfl (Nat.le_of_ble_eq_true rfl) hro dL_law_763 (fun r8 z8 h8 => ?_)
  obtain ⟨v8, rfl, p8⟩ := h8
  obtain ⟨rfl, hJ8⟩ := hq9 v8 z8 p8
  exact wl_lceq C 1056 dL_law_766 dL_law_767 rfl (kn _ (jN_back hJ8))
set_option maxHeartbeats 4000000 in
theorem law_c20 (C : xC p room_1 s m args meth c RL code 4 D cs ad shJ A) {L : Nat} {xs : Nat → Int32} (hX : va_X (ad 5000) L xs s s.heap) (hbl : ad 5000 < s.heap.size) (hbA : ¬ A (ad 5000)) {i : Nat} (hro : nn ≤ 600000 ∧ kk ≤ 7302250) (hL : L ≤ 3072) (hi : i + 6 ≤ L) (hJ : JN (xPull esX z) (xPull esM z)) (kn : ∀ z' : xMem, JN (xPull esX z') (xPull esM z') → wl p l e s m args below meth c D cs ad A Q nn kk z' 1056 [(3, .int (nI i)), (2, .ref 56), (1, .ref 0), (0, .ref 5000)] []) : wl p l e s m args below meth c D cs ad A Q nn kk z 772 [(3, .int (nI i)), (2, .ref 56), (1, .ref 0), (0, .ref 5000)] [] := by
  refine wl_aload C (k := 2) dL_law_772 rfl rfl ?_
  obtain ⟨PX, hx9, hj9⟩ := jc_image l  hJ
  refine wl_call C (es := esX) (as := []) (rest := []) hx9 (by decide) (by decide) xyX5_image xiX5_image (lw_gt_of (List.mem_of_getElem? (i := 759) (by decide +kernel)) rfl) shJ_X (by decide) rawJ (q0 := 0) rfl rfl rfl rfl rfl (Nat.le_of_ble_eq_true rfl) hro dL_law_773 (fun r9 z9 h9 => ?_)
  obtain ⟨v9, rfl, p9⟩ := h9
  refine wl_aload C (k := 1) dL_law_776 rfl rfl ?_
  obtain ⟨PM, hm9, hq9⟩ := hj9 v9 z9 p9 (xPull esM (xBack esX (xHasRaw shX) z z9)) jX_M
  refine wl_call C (es := esM) (as := []) (rest := [.int v9]) hm9 (by decide) (by decide) xyX6_image xiX6_image (lw_gt_of (List.mem_of_getElem? (i := 1246) (by decide +kernel)) rfl) shJ_M (by decide) (fun q => absurd q (by decide)) (q0 := 56) rfl rfl rfl rfl rfl (Nat.le_of_ble_eq_true rfl) hro dL_law_777 (fun r8 z8 h8 => ?_)
  obtain ⟨v8, rfl, p8⟩ := h8
  obtain ⟨rfl, hJ8⟩ := hq9 v8 z8 p8
  exact wl_iceq C 1056 dL_law_780 rfl (kn _ (jN_back hJ8))
set_option maxHeartbeats 4000000 in
theorem law_c21 (C : xC p room_1 s m args meth c RL code 4 D cs ad shJ A) {L : Nat} {xs : Nat → Int32} (hX : va_X (ad 5000) L xs s s.heap) (hbl : ad 5000 < s.heap.size) (hbA : ¬ A (ad 5000)) {i : Nat} (hro : nn ≤ 600000 ∧ kk ≤ 7302250) (hL : L ≤ 3072) (hi : i + 6 ≤ L) (hJ : JN (xPull esX z) (xPull esM z)) (kn : ∀ z' : xMem, JN (xPull esX z') (xPull esM z') → wl p l e s m args below meth c D cs ad A Q nn kk z' 1056 [(3, .int (nI i)), (2, .ref 56), (1, .ref 0), (0, .ref 5000)] []) : wl p l e s m args below meth c D cs ad A Q nn kk z 785 [(3, .int (nI i)), (2, .ref 56), (1, .ref 0), (0, .ref 5000)] [] := by
  refine wl_aload C (k := 2) dL_law_785 rfl rfl ?_
  obtain ⟨PX, hx9, hj9⟩ := jc_back l  hJ
  refine wl_call C (es := esX) (as := []) (rest := []) hx9 (by decide) (by decide) xyX5_back xiX5_back (lw_gt_of (List.mem_of_getElem? (i := 763) (by decide +kernel)) rfl) shJ_X (by decide) rawJ (q0 := 0) rfl rfl rfl rfl rfl (Nat.le_of_ble_eq_true rfl) hro dL_law_786 (fun r9 z9 h9 => ?_)
  obtain ⟨v9, rfl, p9⟩ := h9
  refine wl_aload C (k := 1) dL_law_789 rfl rfl ?_
  obtain ⟨PM, hm9, hq9⟩ := hj9 v9 z9 p9 (xPull esM (xBack esX (xHasRaw shX) z z9)) jX_M
  refine wl_call C (es := esM) (as := []) (rest := [.int v9]) hm9 (by decide) (by decide) xyX6_back xiX6_back (lw_gt_of (List.mem_of_getElem? (i := 1250) (by decide +kernel)) rfl) shJ_M (by decide) (fun q => absurd q (by decide)) (q0 := 56) rfl rfl rfl rfl rfl (Nat.le_of_ble_eq_true rfl) hro dL_law_790 (fun r8 z8 h8 => ?_)
  obtain ⟨v8, rfl, p8⟩ := h8
  obtain ⟨rfl, hJ8⟩ := hq9 v8 z8 p8
  exact wl_iceq C 1056 dL_law_793 rfl (kn _ (jN_back hJ8))
set_option maxHeartbeats 4000000 in
theorem law_c22 (C : xC p room_1 s m args meth c RL code 4 D cs ad shJ A) {L : Nat} {xs : Nat → Int32} (hX : va_X (ad 5000) L xs s s.heap) (hbl : ad 5000 < s.heap.size) (hbA : ¬ A (ad 5000)) {i : Nat} (hro : nn ≤ 600000 ∧ kk ≤ 7302250) (hL : L ≤ 3072) (hi : i + 6 ≤ L) (hJ : JN (xPull esX z) (xPull esM z)) (kn : ∀ z' : xMem, JN (xPull esX z') (xPull esM z') → wl p l e s m args below meth c D cs ad A Q nn kk z' 1056 [(3, .int (nI i)), (2, .ref 56), (1, .ref 0), (0, .ref 5000)] []) : wl p l e s m args below meth c D cs ad A Q nn kk z 798 [(3, .int (nI i)), (2, .ref 56), (1, .ref 0), (0, .ref 5000)] [] := by
  refine wl_aload C (k := 2) dL_law_798 rfl rfl ?_
  refine wl_arg C hX hbl hbA (kq := 3) (k := 1) dL_law_799 dL_law_800 dL_law_801 dL_law_802 dL_law_803 (by decide) rfl rfl (by omega) hL ?_
  obtain ⟨PX, hx9, hj9⟩ := jc_count l (xs (i + 1)) hJ
  refine wl_call C (es := esX) (as := [.int (xs (i + 1))]) (rest := []) hx9 (by decide) (by decide) xyX5_count xiX5_count (lw_gt_of (List.mem_of_getElem? (i := 767) (by decide +kernel)) rfl) shJ_X (by decide) rawJ (q0 := 0) rfl rfl rfl rfl rfl (Nat.le_of_ble_eq_true rfl) hro dL_law_804 (fun r9 z9 h9 => ?_)
  obtain ⟨v9, rfl, p9⟩ := h9
  refine wl_aload C (k := 1) dL_law_807 rfl rfl ?_
  refine wl_arg C hX hbl hbA (kq := 3) (k := 1) dL_law_808 dL_law_809 dL_law_810 dL_law_811 dL_law_812 (by decide) rfl rfl (by omega) hL ?_
  obtain ⟨PM, hm9, hq9⟩ := hj9 v9 z9 p9 (xPull esM (xBack esX (xHasRaw shX) z z9)) jX_M
  refine wl_call C (es := esM) (as := [.int (xs (i + 1))]) (rest := [.int v9]) hm9 (by decide) (by decide) xyX6_count xiX6_count (lw_gt_of (List.mem_of_getElem? (i := 1254) (by decide +kernel)) rfl) shJ_M (by decide) (fun q => absurd q (by decide)) (q0 := 56) rfl rfl rfl rfl rfl (Nat.le_of_ble_eq_true rfl) hro dL_law_813 (fun r8 z8 h8 => ?_)
  obtain ⟨v8, rfl, p8⟩ := h8
  obtain ⟨rfl, hJ8⟩ := hq9 v8 z8 p8
  exact wl_iceq C 1056 dL_law_816 rfl (kn _ (jN_back hJ8))
set_option maxHeartbeats 4000000 in
theorem law_c23 (C : xC p room_1 s m args meth c RL code 4 D cs ad shJ A) {L : Nat} {xs : Nat → Int32} (hX : va_X (ad 5000) L xs s s.heap) (hbl : ad 5000 < s.heap.size) (hbA : ¬ A (ad 5000)) {i : Nat} (hro : nn ≤ 600000 ∧ kk ≤ 7302250) (hL : L ≤ 3072) (hi : i + 6 ≤ L) (hJ : JN (xPull esX z) (xPull esM z)) (kn : ∀ z' : xMem, JN (xPull esX z') (xPull esM z') → wl p l e s m args below meth c D cs ad A Q nn kk z' 1056 [(3, .int (nI i)), (2, .ref 56), (1, .ref 0), (0, .ref 5000)] []) : wl p l e s m args below meth c D cs ad A Q nn kk z 821 [(3, .int (nI i)), (2, .ref 56), (1, .ref 0), (0, .ref 5000)] [] := by
  refine wl_aload C (k := 2) dL_law_821 rfl rfl ?_
  refine wl_arg C hX hbl hbA (kq := 3) (k := 1) dL_law_822 dL_law_823 dL_law_824 dL_law_825 dL_law_826 (by decide) rfl rfl (by omega) hL ?_
  refine wl_arg C hX hbl hbA (kq := 3) (k := 2) dL_law_827 dL_law_828 dL_law_829 dL_law_830 dL_law_831 (by decide) rfl rfl (by omega) hL ?_
  refine wl_arg C hX hbl hbA (kq := 3) (k := 3) dL_law_832 dL_law_833 dL_law_834 dL_law_835 dL_law_836 (by decide) rfl rfl (by omega) hL ?_
  obtain ⟨PX, hx9, hj9⟩ := jc_sheet l (xs (i + 1)) (xs (i + 2)) (xs (i + 3)) hJ
  refine wl_call C (es := esX) (as := [.int (xs (i + 1)), .int (xs (i + 2)), .int (xs (i + 3))]) (rest := []) hx9 (by decide) (by decide) xyX5_sheet xiX5_sheet (lw_gt_of (List.mem_of_getElem? (i := 771) (by decide +kernel)) rfl) shJ_X (by decide) rawJ (q0 := 0) rfl rfl rfl rfl rfl (Nat.le_of_ble_eq_true rfl) hro dL_law_837 (fun r9 z9 h9 => ?_)
  obtain ⟨v9, rfl, p9⟩ := h9
  refine wl_aload C (k := 1) dL_law_840 rfl rfl ?_
  refine wl_arg C hX hbl hbA (kq := 3) (k := 1) dL_law_841 dL_law_842 dL_law_843 dL_law_844 dL_law_845 (by decide) rfl rfl (by omega) hL ?_
  refine wl_arg C hX hbl hbA (kq := 3) (k := 2) dL_law_846 dL_law_847 dL_law_848 dL_law_849 dL_law_850 (by decide) rfl rfl (by omega) hL ?_
  refine wl_arg C hX hbl hbA (kq := 3) (k := 3) dL_law_851 dL_law_852 dL_law_853 dL_law_854 dL_law_855 (by decide) rfl rfl (by omega) hL ?_
  obtain ⟨PM, hm9, hq9⟩ := hj9 v9 z9 p9 (xPull esM (xBack esX (xHasRaw shX) z z9)) jX_M
  refine wl_call C (es := esM) (as := [.int (xs (i + 1)), .int (xs (i + 2)), .int (xs (i + 3))]) (rest := [.int v9]) hm9 (by decide) (by decide) xyX6_sheet xiX6_sheet (lw_gt_of (List.mem_of_getElem? (i := 1258) (by decide +kernel)) rfl) shJ_M (by decide) (fun q => absurd q (by decide)) (q0 := 56) rfl rfl rfl rfl rfl (Nat.le_of_ble_eq_true rfl) hro dL_law_856 (fun r8 z8 h8 => ?_)
  obtain ⟨v8, rfl, p8⟩ := h8
  obtain ⟨rfl, hJ8⟩ := hq9 v8 z8 p8
  exact wl_iceq C 1056 dL_law_859 rfl (kn _ (jN_back hJ8))
set_option maxHeartbeats 4000000 in
theorem law_c24 (C : xC p room_1 s m args meth c RL code 4 D cs ad shJ A) {L : Nat} {xs : Nat → Int32} (hX : va_X (ad 5000) L xs s s.heap) (hbl : ad 5000 < s.heap.size) (hbA : ¬ A (ad 5000)) {i : Nat} (hro : nn ≤ 600000 ∧ kk ≤ 7302250) (hL : L ≤ 3072) (hi : i + 6 ≤ L) (hJ : JN (xPull esX z) (xPull esM z)) (kn : ∀ z' : xMem, JN (xPull esX z') (xPull esM z') → wl p l e s m args below meth c D cs ad A Q nn kk z' 1056 [(3, .int (nI i)), (2, .ref 56), (1, .ref 0), (0, .ref 5000)] []) : wl p l e s m args below meth c D cs ad A Q nn kk z 864 [(3, .int (nI i)), (2, .ref 56), (1, .ref 0), (0, .ref 5000)] [] := by
  refine wl_aload C (k := 2) dL_law_864 rfl rfl ?_
  refine wl_arg C hX hbl hbA (kq := 3) (k := 1) dL_law_865 dL_law_866 dL_law_867 dL_law_868 dL_law_869 (by decide) rfl rfl (by omega) hL ?_
  refine wl_arg C hX hbl hbA (kq := 3) (k := 2) dL_law_870 dL_law_871 dL_law_872 dL_law_873 dL_law_874 (by decide) rfl rfl (by omega) hL ?_
  refine wl_arg C hX hbl hbA (kq := 3) (k := 3) dL_law_875 dL_law_876 dL_law_877 dL_law_878 dL_law_879 (by decide) rfl rfl (by omega) hL ?_
  obtain ⟨PX, hx9, hj9⟩ := jc_cell l (xs (i + 1)) (xs (i + 2)) (xs (i + 3)) hJ
  refine wl_call C (es := esX) (as := [.int (xs (i + 1)), .int (xs (i + 2)), .int (xs (i + 3))]) (rest := []) hx9 (by decide) (by decide) xyX5_cell xiX5_cell (lw_gt_of (List.mem_of_getElem? (i := 775) (by decide +kernel)) rfl) shJ_X (by decide) rawJ (q0 := 0) rfl rfl rfl rfl rfl (Nat.le_of_ble_eq_true rfl) hro dL_law_880 (fun r9 z9 h9 => ?_)
  obtain ⟨v9, rfl, p9⟩ := h9
  refine wl_aload C (k := 1) dL_law_883 rfl rfl ?_
  refine wl_arg C hX hbl hbA (kq := 3) (k := 1) dL_law_884 dL_law_885 dL_law_886 dL_law_887 dL_law_888 (by decide) rfl rfl (by omega) hL ?_
  refine wl_arg C hX hbl hbA (kq := 3) (k := 2) dL_law_889 dL_law_890 dL_law_891 dL_law_892 dL_law_893 (by decide) rfl rfl (by omega) hL ?_
  refine wl_arg C hX hbl hbA (kq := 3) (k := 3) dL_law_894 dL_law_895 dL_law_896 dL_law_897 dL_law_898 (by decide) rfl rfl (by omega) hL ?_
  obtain ⟨PM, hm9, hq9⟩ := hj9 v9 z9 p9 (xPull esM (xBack esX (xHasRaw shX) z z9)) jX_M
  refine wl_call C (es := esM) (as := [.int (xs (i + 1)), .int (xs (i + 2)), .int (xs (i + 3))]) (rest := [.int v9]) hm9 (by decide) (by decide) xyX6_cell xiX6_cell (lw_gt_of (List.mem_of_getElem? (i := 1259) (by decide +kernel)) rfl) shJ_M (by decide) (fun q => absurd q (by decide)) (q0 := 56) rfl rfl rfl rfl rfl (Nat.le_of_ble_eq_true rfl) hro dL_law_899 (fun r8 z8 h8 => ?_)
  obtain ⟨v8, rfl, p8⟩ := h8
  obtain ⟨rfl, hJ8⟩ := hq9 v8 z8 p8
  exact wl_iceq C 1056 dL_law_902 rfl (kn _ (jN_back hJ8))
set_option maxHeartbeats 4000000 in
theorem law_c25 (C : xC p room_1 s m args meth c RL code 4 D cs ad shJ A) {L : Nat} {xs : Nat → Int32} (hX : va_X (ad 5000) L xs s s.heap) (hbl : ad 5000 < s.heap.size) (hbA : ¬ A (ad 5000)) {i : Nat} (hro : nn ≤ 600000 ∧ kk ≤ 7302250) (hL : L ≤ 3072) (hi : i + 6 ≤ L) (hJ : JN (xPull esX z) (xPull esM z)) (kn : ∀ z' : xMem, JN (xPull esX z') (xPull esM z') → wl p l e s m args below meth c D cs ad A Q nn kk z' 1056 [(3, .int (nI i)), (2, .ref 56), (1, .ref 0), (0, .ref 5000)] []) : wl p l e s m args below meth c D cs ad A Q nn kk z 907 [(3, .int (nI i)), (2, .ref 56), (1, .ref 0), (0, .ref 5000)] [] := by
  refine wl_aload C (k := 2) dL_law_907 rfl rfl ?_
  refine wl_arg C hX hbl hbA (kq := 3) (k := 1) dL_law_908 dL_law_909 dL_law_910 dL_law_911 dL_law_912 (by decide) rfl rfl (by omega) hL ?_
  refine wl_arg C hX hbl hbA (kq := 3) (k := 2) dL_law_913 dL_law_914 dL_law_915 dL_law_916 dL_law_917 (by decide) rfl rfl (by omega) hL ?_
  refine wl_arg C hX hbl hbA (kq := 3) (k := 3) dL_law_918 dL_law_919 dL_law_920 dL_law_921 dL_law_922 (by decide) rfl rfl (by omega) hL ?_
  refine wl_arg C hX hbl hbA (kq := 3) (k := 4) dL_law_923 dL_law_924 dL_law_925 dL_law_926 dL_law_927 (by decide) rfl rfl (by omega) hL ?_
  refine wl_arg C hX hbl hbA (kq := 3) (k := 5) dL_law_928 dL_law_929 dL_law_930 dL_law_931 dL_law_932 (by decide) rfl rfl (by omega) hL ?_
  obtain ⟨PX, hx9, hj9⟩ := jc_copy l (xs (i + 1)) (xs (i + 2)) (xs (i + 3)) (xs (i + 4)) (xs (i + 5)) hJ
  refine wl_call C (es := esX) (as := [.int (xs (i + 1)), .int (xs (i + 2)), .int (xs (i + 3)), .int (xs (i + 4)), .int (xs (i + 5))]) (rest := []) hx9 (by decide) (by decide) xyX5_copy xiX5_copy (lw_gt_of (List.mem_of_getElem? (i := 780) (by decide +kernel)) rfl) shJ_X (by decide) rawJ (q0 := 0) rfl rfl rfl rfl rfl (Nat.le_of_ble_eq_true rfl) hro dL_law_933 (fun r9 z9 h9 => ?_)
  obtain ⟨v9, rfl, p9⟩ := h9
  refine wl_aload C (k := 1) dL_law_936 rfl rfl ?_
  refine wl_arg C hX hbl hbA (kq := 3) (k := 1) dL_law_937 dL_law_938 dL_law_939 dL_law_940 dL_law_941 (by decide) rfl rfl (by omega) hL ?_
  refine wl_arg C hX hbl hbA (kq := 3) (k := 2) dL_law_942 dL_law_943 dL_law_944 dL_law_945 dL_law_946 (by decide) rfl rfl (by omega) hL ?_
  refine wl_arg C hX hbl hbA (kq := 3) (k := 3) dL_law_947 dL_law_948 dL_law_949 dL_law_950 dL_law_951 (by decide) rfl rfl (by omega) hL ?_
  refine wl_arg C hX hbl hbA (kq := 3) (k := 4) dL_law_952 dL_law_953 dL_law_954 dL_law_955 dL_law_956 (by decide) rfl rfl (by omega) hL ?_
  refine wl_arg C hX hbl hbA (kq := 3) (k := 5) dL_law_957 dL_law_958 dL_law_959 dL_law_960 dL_law_961 (by decide) rfl rfl (by omega) hL ?_
  obtain ⟨PM, hm9, hq9⟩ := hj9 v9 z9 p9 (xPull esM (xBack esX (xHasRaw shX) z z9)) jX_M
  refine wl_call C (es := esM) (as := [.int (xs (i + 1)), .int (xs (i + 2)), .int (xs (i + 3)), .int (xs (i + 4)), .int (xs (i + 5))]) (rest := [.int v9]) hm9 (by decide) (by decide) xyX6_copy xiX6_copy (lw_gt_of (List.mem_of_getElem? (i := 1263) (by decide +kernel)) rfl) shJ_M (by decide) (fun q => absurd q (by decide)) (q0 := 56) rfl rfl rfl rfl rfl (Nat.le_of_ble_eq_true rfl) hro dL_law_962 (fun r8 z8 h8 => ?_)
  obtain ⟨v8, rfl, p8⟩ := h8
  obtain ⟨rfl, hJ8⟩ := hq9 v8 z8 p8
  exact wl_iceq C 1056 dL_law_965 rfl (kn _ (jN_back hJ8))
set_option maxHeartbeats 4000000 in
theorem law_c26 (C : xC p room_1 s m args meth c RL code 4 D cs ad shJ A) {L : Nat} {xs : Nat → Int32} (hX : va_X (ad 5000) L xs s s.heap) (hbl : ad 5000 < s.heap.size) (hbA : ¬ A (ad 5000)) {i : Nat} (hro : nn ≤ 600000 ∧ kk ≤ 7302250) (hL : L ≤ 3072) (hi : i + 6 ≤ L) (hJ : JN (xPull esX z) (xPull esM z)) (kn : ∀ z' : xMem, JN (xPull esX z') (xPull esM z') → wl p l e s m args below meth c D cs ad A Q nn kk z' 1056 [(3, .int (nI i)), (2, .ref 56), (1, .ref 0), (0, .ref 5000)] []) : wl p l e s m args below meth c D cs ad A Q nn kk z 970 [(3, .int (nI i)), (2, .ref 56), (1, .ref 0), (0, .ref 5000)] [] := by
  refine wl_aload C (k := 2) dL_law_970 rfl rfl ?_
  refine wl_arg C hX hbl hbA (kq := 3) (k := 1) dL_law_971 dL_law_972 dL_law_973 dL_law_974 dL_law_975 (by decide) rfl rfl (by omega) hL ?_
  refine wl_arg C hX hbl hbA (kq := 3) (k := 2) dL_law_976 dL_law_977 dL_law_978 dL_law_979 dL_law_980 (by decide) rfl rfl (by omega) hL ?_
  refine wl_arg C hX hbl hbA (kq := 3) (k := 3) dL_law_981 dL_law_982 dL_law_983 dL_law_984 dL_law_985 (by decide) rfl rfl (by omega) hL ?_
  refine wl_arg C hX hbl hbA (kq := 3) (k := 4) dL_law_986 dL_law_987 dL_law_988 dL_law_989 dL_law_990 (by decide) rfl rfl (by omega) hL ?_
  obtain ⟨PX, hx9, hj9⟩ := jc_republic l (xs (i + 1)) (xs (i + 2)) (xs (i + 3)) (xs (i + 4)) hJ
  refine wl_call C (es := esX) (as := [.int (xs (i + 1)), .int (xs (i + 2)), .int (xs (i + 3)), .int (xs (i + 4))]) (rest := []) hx9 (by decide) (by decide) xyX5_republic xiX5_republic (lw_gt_of (List.mem_of_getElem? (i := 785) (by decide +kernel)) rfl) shJ_X (by decide) rawJ (q0 := 0) rfl rfl rfl rfl rfl (Nat.le_of_ble_eq_true rfl) hro dL_law_991 (fun r9 z9 h9 => ?_)
  obtain ⟨v9, rfl, p9⟩ := h9
  refine wl_aload C (k := 1) dL_law_994 rfl rfl ?_
  refine wl_arg C hX hbl hbA (kq := 3) (k := 1) dL_law_995 dL_law_996 dL_law_997 dL_law_998 dL_law_999 (by decide) rfl rfl (by omega) hL ?_
  refine wl_arg C hX hbl hbA (kq := 3) (k := 2) dL_law_1000 dL_law_1001 dL_law_1002 dL_law_1003 dL_law_1004 (by decide) rfl rfl (by omega) hL ?_
  refine wl_arg C hX hbl hbA (kq := 3) (k := 3) dL_law_1005 dL_law_1006 dL_law_1007 dL_law_1008 dL_law_1009 (by decide) rfl rfl (by omega) hL ?_
  refine wl_arg C hX hbl hbA (kq := 3) (k := 4) dL_law_1010 dL_law_1011 dL_law_1012 dL_law_1013 dL_law_1014 (by decide) rfl rfl (by omega) hL ?_
  obtain ⟨PM, hm9, hq9⟩ := hj9 v9 z9 p9 (xPull esM (xBack esX (xHasRaw shX) z z9)) jX_M
  refine wl_call C (es := esM) (as := [.int (xs (i + 1)), .int (xs (i + 2)), .int (xs (i + 3)), .int (xs (i + 4))]) (rest := [.int v9]) hm9 (by decide) (by decide) xyX6_republic xiX6_republic (lw_gt_of (List.mem_of_getElem? (i := 1267) (by decide +kernel)) rfl) shJ_M (by decide) (fun q => absurd q (by decide)) (q0 := 56) rfl rfl rfl rfl rfl (Nat.le_of_ble_eq_true rfl) hro dL_law_1015 (fun r8 z8 h8 => ?_)
  obtain ⟨v8, rfl, p8⟩ := h8
  obtain ⟨rfl, hJ8⟩ := hq9 v8 z8 p8
  exact wl_iceq C 1056 dL_law_1018 rfl (kn _ (jN_back hJ8))
set_option maxHeartbeats 4000000 in
theorem law_c27 (C : xC p room_1 s m args meth c RL code 4 D cs ad shJ A) {L : Nat} {xs : Nat → Int32} (hX : va_X (ad 5000) L xs s s.heap) (hbl : ad 5000 < s.heap.size) (hbA : ¬ A (ad 5000)) {i : Nat} (hro : nn ≤ 600000 ∧ kk ≤ 7302250) (hL : L ≤ 3072) (hi : i + 6 ≤ L) (hJ : JN (xPull esX z) (xPull esM z)) (kn : ∀ z' : xMem, JN (xPull esX z') (xPull esM z') → wl p l e s m args below meth c D cs ad A Q nn kk z' 1056 [(3, .int (nI i)), (2, .ref 56), (1, .ref 0), (0, .ref 5000)] []) : wl p l e s m args below meth c D cs ad A Q nn kk z 1023 [(3, .int (nI i)), (2, .ref 56), (1, .ref 0), (0, .ref 5000)] [] := by
  refine wl_aload C (k := 2) dL_law_1023 rfl rfl ?_
  refine wl_arg C hX hbl hbA (kq := 3) (k := 1) dL_law_1024 dL_law_1025 dL_law_1026 dL_law_1027 dL_law_1028 (by decide) rfl rfl (by omega) hL ?_
  refine wl_arg C hX hbl hbA (kq := 3) (k := 2) dL_law_1029 dL_law_1030 dL_law_1031 dL_law_1032 dL_law_1033 (by decide) rfl rfl (by omega) hL ?_
  obtain ⟨PX, hx9, hj9⟩ := jc_taken l (xs (i + 1)) (xs (i + 2)) hJ
  refine wl_call C (es := esX) (as := [.int (xs (i + 1)), .int (xs (i + 2))]) (rest := []) hx9 (by decide) (by decide) xyX5_taken xiX5_taken (lw_gt_of (List.mem_of_getElem? (i := 790) (by decide +kernel)) rfl) shJ_X (by decide) rawJ (q0 := 0) rfl rfl rfl rfl rfl (Nat.le_of_ble_eq_true rfl) hro dL_law_1034 (fun r9 z9 h9 => ?_)
  obtain ⟨v9, rfl, p9⟩ := h9
  refine wl_aload C (k := 1) dL_law_1037 rfl rfl ?_
  refine wl_arg C hX hbl hbA (kq := 3) (k := 1) dL_law_1038 dL_law_1039 dL_law_1040 dL_law_1041 dL_law_1042 (by decide) rfl rfl (by omega) hL ?_
  refine wl_arg C hX hbl hbA (kq := 3) (k := 2) dL_law_1043 dL_law_1044 dL_law_1045 dL_law_1046 dL_law_1047 (by decide) rfl rfl (by omega) hL ?_
  obtain ⟨PM, hm9, hq9⟩ := hj9 v9 z9 p9 (xPull esM (xBack esX (xHasRaw shX) z z9)) jX_M
  refine wl_call C (es := esM) (as := [.int (xs (i + 1)), .int (xs (i + 2))]) (rest := [.int v9]) hm9 (by decide) (by decide) xyX6_taken xiX6_taken (lw_gt_of (List.mem_of_getElem? (i := 1273) (by decide +kernel)) rfl) shJ_M (by decide) (fun q => absurd q (by decide)) (q0 := 56) rfl rfl rfl rfl rfl (Nat.le_of_ble_eq_true rfl) hro dL_law_1048 (fun r8 z8 h8 => ?_)
  obtain ⟨v8, rfl, p8⟩ := h8
  obtain ⟨rfl, hJ8⟩ := hq9 v8 z8 p8
  exact wl_iceq C 1056 dL_law_1051 rfl (kn _ (jN_back hJ8))
/-- the switch -/
theorem wl_sw (C : xC p room_1 s m args meth c RL code 4 D cs ad shJ A) {x : Int32} {j t i9 : Nat} {off : Int} (hj : x = nI j) (hj2 : j < 28) (ho : #[127, 170, 203, 236, 279, 302, 315, 338, 371, 384, 417, 440, 473, 496, 529, 552, 576, 619, 652, 685, 739, 752, 765, 788, 831, 874, 937, 990][j]? = some off) (ht : (33 : Int) + off = (t : Int)) (kn : wl p l e s m args below meth c D cs ad A Q nn kk z t [(3, .int (nI i9)), (2, .ref 56), (1, .ref 0), (0, .ref 5000)] []) : wl p l e s m args below meth c D cs ad A Q nn kk z 33 [(3, .int (nI i9)), (2, .ref 56), (1, .ref 0), (0, .ref 5000)] [.int x] := by
  obtain ⟨hx, hb, hml, hown, hts, hlk, hK, hi1, hi2, hA, hE, hR⟩ := C
  subst hj
  intro H locs ls hP hS hl
  have e1 : (nI j).toInt = (j : Int) := sTI (by omega)
  exact lv_tableIn (lo := 0) (hi := 27) (off := off) hx hb dL_law_33 (by omega) (by omega) (by rw [e1, Int.sub_zero]; exact ho) ht (kn H locs ls hP hS hl)
theorem wl_swd (C : xC p room_1 s m args meth c RL code 4 D cs ad shJ A) {x : Int32} {j i9 : Nat} (hj : x = nI j) (hj2 : j < 32) (hj3 : 28 ≤ j) (kn : wl p l e s m args below meth c D cs ad A Q nn kk z 1056 [(3, .int (nI i9)), (2, .ref 56), (1, .ref 0), (0, .ref 5000)] []) : wl p l e s m args below meth c D cs ad A Q nn kk z 33 [(3, .int (nI i9)), (2, .ref 56), (1, .ref 0), (0, .ref 5000)] [.int x] := by
  obtain ⟨hx, hb, hml, hown, hts, hlk, hK, hi1, hi2, hA, hE, hR⟩ := C
  subst hj
  intro H locs ls hP hS hl
  have e1 : (nI j).toInt = (j : Int) := sTI (by omega)
  exact lv_tableOut (lo := 0) (hi := 27) hx hb dL_law_33 (Or.inr (by omega)) rfl (kn H locs ls hP hS hl)
set_option maxHeartbeats 8000000 in
/-- the law's loop: whatever the script, it comes to its end -/
theorem law_loop (C : xC p room_1 s m args meth c RL code 4 D cs ad shJ A) {L : Nat} {xs : Nat → Int32} (hX : va_X (ad 5000) L xs s s.heap) (hbl : ad 5000 < s.heap.size) (hbA : ¬ A (ad 5000)) (hro : nn ≤ 600000 ∧ kk ≤ 7302250) (hL : L ≤ 3072) (kE : ∀ (z' : xMem) (i' : Nat), wl p l e s m args below meth c D cs ad A Q nn kk z' 1062 [(3, .int (nI i')), (2, .ref 56), (1, .ref 0), (0, .ref 5000)] []) : ∀ (n i : Nat) (z : xMem), L - i < n → JN (xPull esX z) (xPull esM z) → i ≤ 4000 → wl p l e s m args below meth c D cs ad A Q nn kk z 18 [(3, .int (nI i)), (2, .ref 56), (1, .ref 0), (0, .ref 5000)] [] := by
  intro n
  induction n with
  | zero => intro i z h; exact absurd h (Nat.not_lt_zero _)
  | succ n ih =>
    intro i z hm hJ hi4
    refine wl_iload C (k := 0) dL_law_18 rfl rfl (wl_aload C (k := 3) dL_law_19 rfl rfl (wl_len C hX hbl hbA dL_law_20 (wl_bipush C dL_law_21 (v := 6) (by decide) (wl_isub C dL_law_23 (wl_icgt C 1062 dL_law_24 rfl (fun q => ?_) (fun q => ?_))))))
    · exact kE z i
    · have h6 : i + 6 ≤ L := by
        rw [Int32.lt_iff_toInt_lt, show (6 : Int32) = nI 6 from rfl, pk_sub_toInt (by omega) (by omega), sTI (k := i) (by omega)] at q
        omega
      refine wl_head C hX hbl hbA (kq := 3) dL_law_27 dL_law_28 dL_law_29 rfl rfl (by omega) hL (wl_bipush C dL_law_30 (v := 31) (by decide) (wl_iand C dL_law_32 ?_))
      obtain ⟨j, hj, e2⟩ := pk_andE (xs i) (m := 31) 5 (by decide)
      have kn : ∀ z' : xMem, JN (xPull esX z') (xPull esM z') → wl p l e s m args below meth c D cs ad A Q nn kk z' 1056 [(3, .int (nI i)), (2, .ref 56), (1, .ref 0), (0, .ref 5000)] [] := fun z' hJ' =>
        wl_inc C dL_law_1056 rfl rfl (wl_goto C 18 dL_law_1059 rfl (ih (i + 6) z' (by omega) hJ' (by omega)))
      rcases (show j = 0 ∨ j = 1 ∨ j = 2 ∨ j = 3 ∨ j = 4 ∨ j = 5 ∨ j = 6 ∨ j = 7 ∨ j = 8 ∨ j = 9 ∨ j = 10 ∨ j = 11 ∨ j = 12 ∨ j = 13 ∨ j = 14 ∨ j = 15 ∨ j = 16 ∨ j = 17 ∨ j = 18 ∨ j = 19 ∨ j = 20 ∨ j = 21 ∨ j = 22 ∨ j = 23 ∨ j = 24 ∨ j = 25 ∨ j = 26 ∨ j = 27 ∨ 28 ≤ j by omega) with rfl | rfl | rfl | rfl | rfl | rfl | rfl | rfl | rfl | rfl | rfl | rfl | rfl | rfl | rfl | rfl | rfl | rfl | rfl | rfl | rfl | rfl | rfl | rfl | rfl | rfl | rfl | rfl | hj9
      · exact wl_sw C (j := 0) e2 (by decide) (off := 127) rfl (t := 160) rfl (law_c0 C hX hbl hbA hro hL h6 hJ kn)
      · exact wl_sw C (j := 1) e2 (by decide) (off := 170) rfl (t := 203) rfl (law_c1 C hX hbl hbA hro hL h6 hJ kn)
      · exact wl_sw C (j := 2) e2 (by decide) (off := 203) rfl (t := 236) rfl (law_c2 C hX hbl hbA hro hL h6 hJ kn)
      · exact wl_sw C (j := 3) e2 (by decide) (off := 236) rfl (t := 269) rfl (law_c3 C hX hbl hbA hro hL h6 hJ kn)
      · exact wl_sw C (j := 4) e2 (by decide) (off := 279) rfl (t := 312) rfl (law_c4 C hX hbl hbA hro hL h6 hJ kn)
      · exact wl_sw C (j := 5) e2 (by decide) (off := 302) rfl (t := 335) rfl (law_c5 C hX hbl hbA hro hL h6 hJ kn)
      · exact wl_sw C (j := 6) e2 (by decide) (off := 315) rfl (t := 348) rfl (law_c6 C hX hbl hbA hro hL h6 hJ kn)
      · exact wl_sw C (j := 7) e2 (by decide) (off := 338) rfl (t := 371) rfl (law_c7 C hX hbl hbA hro hL h6 hJ kn)
      · exact wl_sw C (j := 8) e2 (by decide) (off := 371) rfl (t := 404) rfl (law_c8 C hX hbl hbA hro hL h6 hJ kn)
      · exact wl_sw C (j := 9) e2 (by decide) (off := 384) rfl (t := 417) rfl (law_c9 C hX hbl hbA hro hL h6 hJ kn)
      · exact wl_sw C (j := 10) e2 (by decide) (off := 417) rfl (t := 450) rfl (law_c10 C hX hbl hbA hro hL h6 hJ kn)
      · exact wl_sw C (j := 11) e2 (by decide) (off := 440) rfl (t := 473) rfl (law_c11 C hX hbl hbA hro hL h6 hJ kn)
      · exact wl_sw C (j := 12) e2 (by decide) (off := 473) rfl (t := 506) rfl (law_c12 C hX hbl hbA hro hL h6 hJ kn)
      · exact wl_sw C (j := 13) e2 (by decide) (off := 496) rfl (t := 529) rfl (law_c13 C hX hbl hbA hro hL h6 hJ kn)
      · exact wl_sw C (j := 14) e2 (by decide) (off := 529) rfl (t := 562) rfl (law_c14 C hX hbl hbA hro hL h6 hJ kn)
      · exact wl_sw C (j := 15) e2 (by decide) (off := 552) rfl (t := 585) rfl (law_c15 C hX hbl hbA hro hL h6 hJ kn)
      · exact wl_sw C (j := 16) e2 (by decide) (off := 576) rfl (t := 609) rfl (law_c16 C hX hbl hbA hro hL h6 hJ kn)
      · exact wl_sw C (j := 17) e2 (by decide) (off := 619) rfl (t := 652) rfl (law_c17 C hX hbl hbA hro hL h6 hJ kn)
      · exact wl_sw C (j := 18) e2 (by decide) (off := 652) rfl (t := 685) rfl (law_c18 C hX hbl hbA hro hL h6 hJ kn)
      · exact wl_sw C (j := 19) e2 (by decide) (off := 685) rfl (t := 718) rfl (law_c19 C hX hbl hbA hro hL h6 hJ kn)
      · exact wl_sw C (j := 20) e2 (by decide) (off := 739) rfl (t := 772) rfl (law_c20 C hX hbl hbA hro hL h6 hJ kn)
      · exact wl_sw C (j := 21) e2 (by decide) (off := 752) rfl (t := 785) rfl (law_c21 C hX hbl hbA hro hL h6 hJ kn)
      · exact wl_sw C (j := 22) e2 (by decide) (off := 765) rfl (t := 798) rfl (law_c22 C hX hbl hbA hro hL h6 hJ kn)
      · exact wl_sw C (j := 23) e2 (by decide) (off := 788) rfl (t := 821) rfl (law_c23 C hX hbl hbA hro hL h6 hJ kn)
      · exact wl_sw C (j := 24) e2 (by decide) (off := 831) rfl (t := 864) rfl (law_c24 C hX hbl hbA hro hL h6 hJ kn)
      · exact wl_sw C (j := 25) e2 (by decide) (off := 874) rfl (t := 907) rfl (law_c25 C hX hbl hbA hro hL h6 hJ kn)
      · exact wl_sw C (j := 26) e2 (by decide) (off := 937) rfl (t := 970) rfl (law_c26 C hX hbl hbA hro hL h6 hJ kn)
      · exact wl_sw C (j := 27) e2 (by decide) (off := 990) rfl (t := 1023) rfl (law_c27 C hX hbl hbA hro hL h6 hJ kn)
      · exact wl_swd C e2 (by omega) hj9 (kn z hJ)
end LAWC
