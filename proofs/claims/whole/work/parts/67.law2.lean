/-! the law: its cases -/
set_option maxRecDepth 100000 in
theorem lawc_0 {l : Launch} {X : CX} {b L k n i : Nat} {xs : Nat → Int32} {σ : ST} (hk : k ≤ 600000) (hn : n ≤ 7302250) (hL : L ≤ 3072) (hi : i + 6 ≤ L) (hI : LI σ) (hY : ∀ τ, LI τ → RJ (GL l X b L xs k n) X cL_law 4 (some .boolean) RL 1571 [some (.ref b), some (.ref (ad X 0)), some (.ref (ad X 112)), some (.int (nI i))] [] τ) :  RJ (GL l X b L xs k n) X cL_law 4 (some .boolean) RL 232 [some (.ref b), some (.ref (ad X 0)), some (.ref (ad X 112)), some (.int (nI i))] [] σ := by
  obtain ⟨fb, A, hC, hM, hw⟩ := hI
  have hit : (nI i).toInt = i := nI_t (by omega)
  have q1 : (1 : Int32).toInt = 1 := by decide
  have q2 : (2 : Int32).toInt = 2 := by decide
  have q3 : (3 : Int32).toInt = 3 := by decide
  have q4 : (4 : Int32).toInt = 4 := by decide
  have q5 : (5 : Int32).toInt = 5 := by decide
  have e1 : (nI i + 1).toInt = i + 1 := by rw [i_add (by omega) (by omega), hit, q1]
  have e2 : (nI i + 2).toInt = i + 2 := by rw [i_add (by omega) (by omega), hit, q2]
  have e3 : (nI i + 3).toInt = i + 3 := by rw [i_add (by omega) (by omega), hit, q3]
  have e4 : (nI i + 4).toInt = i + 4 := by rw [i_add (by omega) (by omega), hit, q4]
  have e5 : (nI i + 5).toInt = i + 5 := by rw [i_add (by omega) (by omega), hit, q5]
  refine rj_ald1 dL_law_232 rfl ?_
  refine rj_ald0 dL_law_233 rfl ?_
  refine rj_ild3 dL_law_234 rfl ?_
  refine rj_ic1 dL_law_235 ?_
  refine rj_iadd dL_law_236 ?_
  refine rj_sld (vp_in_iff.mpr ⟨by omega, by omega⟩) dL_law_237 ?_
  refine rj_V1 (ci := 11) cL_13 rfl (by decide) (by first | assumption | rfl) dL_law_238 (c_X11_ropes hC hw) (fitL hk hn (by decide) (by decide)) (Nat.le_of_ble_eq_true rfl) ?_
  rintro v τ ⟨rfl, ⟨fb1, hC1⟩, ho1⟩
  simp only [Option.toList, List.cons_append, List.nil_append]
  have hM1 := mr_sys hM ho1
  refine rj_ald2 dL_law_241 rfl ?_
  refine rj_ald0 dL_law_242 rfl ?_
  refine rj_ild3 dL_law_243 rfl ?_
  refine rj_ic1 dL_law_244 ?_
  refine rj_iadd dL_law_245 ?_
  refine rj_sld (vp_in_iff.mpr ⟨by omega, by omega⟩) dL_law_246 ?_
  refine rj_V1 (ci := 12) cL_17 rfl (by decide) (by first | assumption | rfl) dL_law_247 (c_X12_ropes hM1 hw) (fitL hk hn (by decide) (by decide)) (Nat.le_of_ble_eq_true rfl) ?_
  rintro v υ ⟨rfl, hM2, ho2⟩
  simp only [Option.toList, List.cons_append, List.nil_append]
  have hC2 := cr_md hC1 ho2
  refine rj_ic_eq (tgt := 1571) dL_law_250 (by decide) (fun h_250 => ?_) (fun h_250 => ?_)
  · exact hY υ ⟨fb1, _, hC2, hM2, k_ropes hw⟩
  · exact absurd rfl h_250

set_option maxRecDepth 100000 in
theorem lawc_1 {l : Launch} {X : CX} {b L k n i : Nat} {xs : Nat → Int32} {σ : ST} (hk : k ≤ 600000) (hn : n ≤ 7302250) (hL : L ≤ 3072) (hi : i + 6 ≤ L) (hI : LI σ) (hY : ∀ τ, LI τ → RJ (GL l X b L xs k n) X cL_law 4 (some .boolean) RL 1571 [some (.ref b), some (.ref (ad X 0)), some (.ref (ad X 112)), some (.int (nI i))] [] τ) :  RJ (GL l X b L xs k n) X cL_law 4 (some .boolean) RL 255 [some (.ref b), some (.ref (ad X 0)), some (.ref (ad X 112)), some (.int (nI i))] [] σ := by
  obtain ⟨fb, A, hC, hM, hw⟩ := hI
  have hit : (nI i).toInt = i := nI_t (by omega)
  have q1 : (1 : Int32).toInt = 1 := by decide
  have q2 : (2 : Int32).toInt = 2 := by decide
  have q3 : (3 : Int32).toInt = 3 := by decide
  have q4 : (4 : Int32).toInt = 4 := by decide
  have q5 : (5 : Int32).toInt = 5 := by decide
  have e1 : (nI i + 1).toInt = i + 1 := by rw [i_add (by omega) (by omega), hit, q1]
  have e2 : (nI i + 2).toInt = i + 2 := by rw [i_add (by omega) (by omega), hit, q2]
  have e3 : (nI i + 3).toInt = i + 3 := by rw [i_add (by omega) (by omega), hit, q3]
  have e4 : (nI i + 4).toInt = i + 4 := by rw [i_add (by omega) (by omega), hit, q4]
  have e5 : (nI i + 5).toInt = i + 5 := by rw [i_add (by omega) (by omega), hit, q5]
  refine rj_ald1 dL_law_255 rfl ?_
  refine rj_ald0 dL_law_256 rfl ?_
  refine rj_ild3 dL_law_257 rfl ?_
  refine rj_ic1 dL_law_258 ?_
  refine rj_iadd dL_law_259 ?_
  refine rj_sld (vp_in_iff.mpr ⟨by omega, by omega⟩) dL_law_260 ?_
  refine rj_V1 (ci := 11) cL_18 rfl (by decide) (by first | assumption | rfl) dL_law_261 (c_X11_tie hC hw) (fitL hk hn (by decide) (by decide)) (Nat.le_of_ble_eq_true rfl) ?_
  rintro v τ ⟨rfl, ⟨fb1, hC1⟩, ho1⟩
  simp only [Option.toList, List.cons_append, List.nil_append]
  have hM1 := mr_sys hM ho1
  refine rj_ald2 dL_law_264 rfl ?_
  refine rj_ald0 dL_law_265 rfl ?_
  refine rj_ild3 dL_law_266 rfl ?_
  refine rj_ic1 dL_law_267 ?_
  refine rj_iadd dL_law_268 ?_
  refine rj_sld (vp_in_iff.mpr ⟨by omega, by omega⟩) dL_law_269 ?_
  refine rj_V1 (ci := 12) cL_21 rfl (by decide) (by first | assumption | rfl) dL_law_270 (c_X12_tie hM1 hw) (fitL hk hn (by decide) (by decide)) (Nat.le_of_ble_eq_true rfl) ?_
  rintro v υ ⟨rfl, hM2, ho2⟩
  simp only [Option.toList, List.cons_append, List.nil_append]
  have hC2 := cr_md hC1 ho2
  refine rj_ic_eq (tgt := 1571) dL_law_273 (by decide) (fun h_273 => ?_) (fun h_273 => ?_)
  · exact hY υ ⟨fb1, _, hC2, hM2, k_tie hw⟩
  · exact absurd rfl h_273

set_option maxRecDepth 100000 in
theorem lawc_2 {l : Launch} {X : CX} {b L k n i : Nat} {xs : Nat → Int32} {σ : ST} (hk : k ≤ 600000) (hn : n ≤ 7302250) (hL : L ≤ 3072) (hi : i + 6 ≤ L) (hI : LI σ) (hY : ∀ τ, LI τ → RJ (GL l X b L xs k n) X cL_law 4 (some .boolean) RL 1571 [some (.ref b), some (.ref (ad X 0)), some (.ref (ad X 112)), some (.int (nI i))] [] τ) :  RJ (GL l X b L xs k n) X cL_law 4 (some .boolean) RL 278 [some (.ref b), some (.ref (ad X 0)), some (.ref (ad X 112)), some (.int (nI i))] [] σ := by
  obtain ⟨fb, A, hC, hM, hw⟩ := hI
  have hit : (nI i).toInt = i := nI_t (by omega)
  have q1 : (1 : Int32).toInt = 1 := by decide
  have q2 : (2 : Int32).toInt = 2 := by decide
  have q3 : (3 : Int32).toInt = 3 := by decide
  have q4 : (4 : Int32).toInt = 4 := by decide
  have q5 : (5 : Int32).toInt = 5 := by decide
  have e1 : (nI i + 1).toInt = i + 1 := by rw [i_add (by omega) (by omega), hit, q1]
  have e2 : (nI i + 2).toInt = i + 2 := by rw [i_add (by omega) (by omega), hit, q2]
  have e3 : (nI i + 3).toInt = i + 3 := by rw [i_add (by omega) (by omega), hit, q3]
  have e4 : (nI i + 4).toInt = i + 4 := by rw [i_add (by omega) (by omega), hit, q4]
  have e5 : (nI i + 5).toInt = i + 5 := by rw [i_add (by omega) (by omega), hit, q5]
  refine rj_ald1 dL_law_278 rfl ?_
  refine rj_ald0 dL_law_279 rfl ?_
  refine rj_ild3 dL_law_280 rfl ?_
  refine rj_ic1 dL_law_281 ?_
  refine rj_iadd dL_law_282 ?_
  refine rj_sld (vp_in_iff.mpr ⟨by omega, by omega⟩) dL_law_283 ?_
  refine rj_ald0 dL_law_284 rfl ?_
  refine rj_ild3 dL_law_285 rfl ?_
  refine rj_ic2 dL_law_286 ?_
  refine rj_iadd dL_law_287 ?_
  refine rj_sld (vp_in_iff.mpr ⟨by omega, by omega⟩) dL_law_288 ?_
  refine rj_V2 (ci := 11) cL_22 rfl (by decide) (by first | assumption | rfl) dL_law_289 (c_X11_add hC hw) (fitL hk hn (by decide) (by decide)) (Nat.le_of_ble_eq_true rfl) ?_
  rintro v τ ⟨rfl, ⟨fb1, hC1⟩, ho1⟩
  simp only [Option.toList, List.cons_append, List.nil_append]
  have hM1 := mr_sys hM ho1
  refine rj_ald2 dL_law_292 rfl ?_
  refine rj_ald0 dL_law_293 rfl ?_
  refine rj_ild3 dL_law_294 rfl ?_
  refine rj_ic1 dL_law_295 ?_
  refine rj_iadd dL_law_296 ?_
  refine rj_sld (vp_in_iff.mpr ⟨by omega, by omega⟩) dL_law_297 ?_
  refine rj_ald0 dL_law_298 rfl ?_
  refine rj_ild3 dL_law_299 rfl ?_
  refine rj_ic2 dL_law_300 ?_
  refine rj_iadd dL_law_301 ?_
  refine rj_sld (vp_in_iff.mpr ⟨by omega, by omega⟩) dL_law_302 ?_
  refine rj_V2 (ci := 12) cL_26 rfl (by decide) (by first | assumption | rfl) dL_law_303 (c_X12_add hM1 hw) (fitL hk hn (by decide) (by decide)) (Nat.le_of_ble_eq_true rfl) ?_
  rintro v υ ⟨rfl, hM2, ho2⟩
  simp only [Option.toList, List.cons_append, List.nil_append]
  have hC2 := cr_md hC1 ho2
  refine rj_ic_eq (tgt := 1571) dL_law_306 (by decide) (fun h_306 => ?_) (fun h_306 => ?_)
  · exact hY υ ⟨fb1, _, hC2, hM2, k_add hw⟩
  · exact absurd rfl h_306

set_option maxRecDepth 100000 in
theorem lawc_3 {l : Launch} {X : CX} {b L k n i : Nat} {xs : Nat → Int32} {σ : ST} (hk : k ≤ 600000) (hn : n ≤ 7302250) (hL : L ≤ 3072) (hi : i + 6 ≤ L) (hI : LI σ) (hY : ∀ τ, LI τ → RJ (GL l X b L xs k n) X cL_law 4 (some .boolean) RL 1571 [some (.ref b), some (.ref (ad X 0)), some (.ref (ad X 112)), some (.int (nI i))] [] τ) :  RJ (GL l X b L xs k n) X cL_law 4 (some .boolean) RL 311 [some (.ref b), some (.ref (ad X 0)), some (.ref (ad X 112)), some (.int (nI i))] [] σ := by
  obtain ⟨fb, A, hC, hM, hw⟩ := hI
  have hit : (nI i).toInt = i := nI_t (by omega)
  have q1 : (1 : Int32).toInt = 1 := by decide
  have q2 : (2 : Int32).toInt = 2 := by decide
  have q3 : (3 : Int32).toInt = 3 := by decide
  have q4 : (4 : Int32).toInt = 4 := by decide
  have q5 : (5 : Int32).toInt = 5 := by decide
  have e1 : (nI i + 1).toInt = i + 1 := by rw [i_add (by omega) (by omega), hit, q1]
  have e2 : (nI i + 2).toInt = i + 2 := by rw [i_add (by omega) (by omega), hit, q2]
  have e3 : (nI i + 3).toInt = i + 3 := by rw [i_add (by omega) (by omega), hit, q3]
  have e4 : (nI i + 4).toInt = i + 4 := by rw [i_add (by omega) (by omega), hit, q4]
  have e5 : (nI i + 5).toInt = i + 5 := by rw [i_add (by omega) (by omega), hit, q5]
  refine rj_ald1 dL_law_311 rfl ?_
  refine rj_ald0 dL_law_312 rfl ?_
  refine rj_ild3 dL_law_313 rfl ?_
  refine rj_ic1 dL_law_314 ?_
  refine rj_iadd dL_law_315 ?_
  refine rj_sld (vp_in_iff.mpr ⟨by omega, by omega⟩) dL_law_316 ?_
  refine rj_V1 (ci := 11) cL_27 rfl (by decide) (by first | assumption | rfl) dL_law_317 (c_X11_drop hC hw) (fitL hk hn (by decide) (by decide)) (Nat.le_of_ble_eq_true rfl) ?_
  rintro v τ ⟨rfl, ⟨fb1, hC1⟩, ho1⟩
  simp only [Option.toList, List.cons_append, List.nil_append]
  have hM1 := mr_sys hM ho1
  refine rj_ald2 dL_law_320 rfl ?_
  refine rj_ald0 dL_law_321 rfl ?_
  refine rj_ild3 dL_law_322 rfl ?_
  refine rj_ic1 dL_law_323 ?_
  refine rj_iadd dL_law_324 ?_
  refine rj_sld (vp_in_iff.mpr ⟨by omega, by omega⟩) dL_law_325 ?_
  refine rj_V1 (ci := 12) cL_30 rfl (by decide) (by first | assumption | rfl) dL_law_326 (c_X12_drop hM1 hw) (fitL hk hn (by decide) (by decide)) (Nat.le_of_ble_eq_true rfl) ?_
  rintro v υ ⟨rfl, hM2, ho2⟩
  simp only [Option.toList, List.cons_append, List.nil_append]
  have hC2 := cr_md hC1 ho2
  refine rj_ic_eq (tgt := 1571) dL_law_329 (by decide) (fun h_329 => ?_) (fun h_329 => ?_)
  · exact hY υ ⟨fb1, _, hC2, hM2, k_drop hw⟩
  · exact absurd rfl h_329

set_option maxRecDepth 100000 in
theorem lawc_4 {l : Launch} {X : CX} {b L k n i : Nat} {xs : Nat → Int32} {σ : ST} (hk : k ≤ 600000) (hn : n ≤ 7302250) (hL : L ≤ 3072) (hi : i + 6 ≤ L) (hI : LI σ) (hY : ∀ τ, LI τ → RJ (GL l X b L xs k n) X cL_law 4 (some .boolean) RL 1571 [some (.ref b), some (.ref (ad X 0)), some (.ref (ad X 112)), some (.int (nI i))] [] τ) :  RJ (GL l X b L xs k n) X cL_law 4 (some .boolean) RL 334 [some (.ref b), some (.ref (ad X 0)), some (.ref (ad X 112)), some (.int (nI i))] [] σ := by
  obtain ⟨fb, A, hC, hM, hw⟩ := hI
  have hit : (nI i).toInt = i := nI_t (by omega)
  have q1 : (1 : Int32).toInt = 1 := by decide
  have q2 : (2 : Int32).toInt = 2 := by decide
  have q3 : (3 : Int32).toInt = 3 := by decide
  have q4 : (4 : Int32).toInt = 4 := by decide
  have q5 : (5 : Int32).toInt = 5 := by decide
  have e1 : (nI i + 1).toInt = i + 1 := by rw [i_add (by omega) (by omega), hit, q1]
  have e2 : (nI i + 2).toInt = i + 2 := by rw [i_add (by omega) (by omega), hit, q2]
  have e3 : (nI i + 3).toInt = i + 3 := by rw [i_add (by omega) (by omega), hit, q3]
  have e4 : (nI i + 4).toInt = i + 4 := by rw [i_add (by omega) (by omega), hit, q4]
  have e5 : (nI i + 5).toInt = i + 5 := by rw [i_add (by omega) (by omega), hit, q5]
  refine rj_ald1 dL_law_334 rfl ?_
  refine rj_ald0 dL_law_335 rfl ?_
  refine rj_ild3 dL_law_336 rfl ?_
  refine rj_ic1 dL_law_337 ?_
  refine rj_iadd dL_law_338 ?_
  refine rj_sld (vp_in_iff.mpr ⟨by omega, by omega⟩) dL_law_339 ?_
  refine rj_ald0 dL_law_340 rfl ?_
  refine rj_ild3 dL_law_341 rfl ?_
  refine rj_ic2 dL_law_342 ?_
  refine rj_iadd dL_law_343 ?_
  refine rj_sld (vp_in_iff.mpr ⟨by omega, by omega⟩) dL_law_344 ?_
  refine rj_V2 (ci := 11) cL_31 rfl (by decide) (by first | assumption | rfl) dL_law_345 (c_X11_flip hC hw) (fitL hk hn (by decide) (by decide)) (Nat.le_of_ble_eq_true rfl) ?_
  rintro v τ ⟨rfl, ⟨fb1, hC1⟩, ho1⟩
  simp only [Option.toList, List.cons_append, List.nil_append]
  have hM1 := mr_sys hM ho1
  refine rj_ald2 dL_law_348 rfl ?_
  refine rj_ald0 dL_law_349 rfl ?_
  refine rj_ild3 dL_law_350 rfl ?_
  refine rj_ic1 dL_law_351 ?_
  refine rj_iadd dL_law_352 ?_
  refine rj_sld (vp_in_iff.mpr ⟨by omega, by omega⟩) dL_law_353 ?_
  refine rj_ald0 dL_law_354 rfl ?_
  refine rj_ild3 dL_law_355 rfl ?_
  refine rj_ic2 dL_law_356 ?_
  refine rj_iadd dL_law_357 ?_
  refine rj_sld (vp_in_iff.mpr ⟨by omega, by omega⟩) dL_law_358 ?_
  refine rj_V2 (ci := 12) cL_34 rfl (by decide) (by first | assumption | rfl) dL_law_359 (c_X12_flip hM1 hw) (fitL hk hn (by decide) (by decide)) (Nat.le_of_ble_eq_true rfl) ?_
  rintro v υ ⟨rfl, hM2, ho2⟩
  simp only [Option.toList, List.cons_append, List.nil_append]
  have hC2 := cr_md hC1 ho2
  refine rj_ic_eq (tgt := 1571) dL_law_362 (by decide) (fun h_362 => ?_) (fun h_362 => ?_)
  · exact hY υ ⟨fb1, _, hC2, hM2, k_flip hw⟩
  · exact absurd rfl h_362

set_option maxRecDepth 100000 in
theorem lawc_5 {l : Launch} {X : CX} {b L k n i : Nat} {xs : Nat → Int32} {σ : ST} (hk : k ≤ 600000) (hn : n ≤ 7302250) (hL : L ≤ 3072) (hi : i + 6 ≤ L) (hI : LI σ) (hY : ∀ τ, LI τ → RJ (GL l X b L xs k n) X cL_law 4 (some .boolean) RL 1571 [some (.ref b), some (.ref (ad X 0)), some (.ref (ad X 112)), some (.int (nI i))] [] τ) :  RJ (GL l X b L xs k n) X cL_law 4 (some .boolean) RL 367 [some (.ref b), some (.ref (ad X 0)), some (.ref (ad X 112)), some (.int (nI i))] [] σ := by
  obtain ⟨fb, A, hC, hM, hw⟩ := hI
  have hit : (nI i).toInt = i := nI_t (by omega)
  have q1 : (1 : Int32).toInt = 1 := by decide
  have q2 : (2 : Int32).toInt = 2 := by decide
  have q3 : (3 : Int32).toInt = 3 := by decide
  have q4 : (4 : Int32).toInt = 4 := by decide
  have q5 : (5 : Int32).toInt = 5 := by decide
  have e1 : (nI i + 1).toInt = i + 1 := by rw [i_add (by omega) (by omega), hit, q1]
  have e2 : (nI i + 2).toInt = i + 2 := by rw [i_add (by omega) (by omega), hit, q2]
  have e3 : (nI i + 3).toInt = i + 3 := by rw [i_add (by omega) (by omega), hit, q3]
  have e4 : (nI i + 4).toInt = i + 4 := by rw [i_add (by omega) (by omega), hit, q4]
  have e5 : (nI i + 5).toInt = i + 5 := by rw [i_add (by omega) (by omega), hit, q5]
  refine rj_ald1 dL_law_367 rfl ?_
  refine rj_ald0 dL_law_368 rfl ?_
  refine rj_ild3 dL_law_369 rfl ?_
  refine rj_ic1 dL_law_370 ?_
  refine rj_iadd dL_law_371 ?_
  refine rj_sld (vp_in_iff.mpr ⟨by omega, by omega⟩) dL_law_372 ?_
  refine rj_ald0 dL_law_373 rfl ?_
  refine rj_ild3 dL_law_374 rfl ?_
  refine rj_ic2 dL_law_375 ?_
  refine rj_iadd dL_law_376 ?_
  refine rj_sld (vp_in_iff.mpr ⟨by omega, by omega⟩) dL_law_377 ?_
  refine rj_V2 (ci := 11) cL_35 rfl (by decide) (by first | assumption | rfl) dL_law_378 (c_X11_of hC hw) (fitL hk hn (by decide) (by decide)) (Nat.le_of_ble_eq_true rfl) ?_
  rintro v τ ⟨rfl, ⟨fb1, hC1⟩, ho1⟩
  simp only [Option.toList, List.cons_append, List.nil_append]
  have hM1 := mr_sys hM ho1
  refine rj_ald2 dL_law_381 rfl ?_
  refine rj_ald0 dL_law_382 rfl ?_
  refine rj_ild3 dL_law_383 rfl ?_
  refine rj_ic1 dL_law_384 ?_
  refine rj_iadd dL_law_385 ?_
  refine rj_sld (vp_in_iff.mpr ⟨by omega, by omega⟩) dL_law_386 ?_
  refine rj_ald0 dL_law_387 rfl ?_
  refine rj_ild3 dL_law_388 rfl ?_
  refine rj_ic2 dL_law_389 ?_
  refine rj_iadd dL_law_390 ?_
  refine rj_sld (vp_in_iff.mpr ⟨by omega, by omega⟩) dL_law_391 ?_
  refine rj_V2 (ci := 12) cL_38 rfl (by decide) (by first | assumption | rfl) dL_law_392 (c_X12_of hM1 hw) (fitL hk hn (by decide) (by decide)) (Nat.le_of_ble_eq_true rfl) ?_
  rintro v υ ⟨rfl, hM2, ho2⟩
  simp only [Option.toList, List.cons_append, List.nil_append]
  have hC2 := cr_md hC1 ho2
  refine rj_ic_eq (tgt := 1571) dL_law_395 (by decide) (fun h_395 => ?_) (fun h_395 => ?_)
  · exact hY υ ⟨fb1, _, hC2, hM2, k_of hw⟩
  · exact absurd rfl h_395

set_option maxRecDepth 100000 in
theorem lawc_6 {l : Launch} {X : CX} {b L k n i : Nat} {xs : Nat → Int32} {σ : ST} (hk : k ≤ 600000) (hn : n ≤ 7302250) (hL : L ≤ 3072) (hi : i + 6 ≤ L) (hI : LI σ) (hY : ∀ τ, LI τ → RJ (GL l X b L xs k n) X cL_law 4 (some .boolean) RL 1571 [some (.ref b), some (.ref (ad X 0)), some (.ref (ad X 112)), some (.int (nI i))] [] τ) :  RJ (GL l X b L xs k n) X cL_law 4 (some .boolean) RL 400 [some (.ref b), some (.ref (ad X 0)), some (.ref (ad X 112)), some (.int (nI i))] [] σ := by
  obtain ⟨fb, A, hC, hM, hw⟩ := hI
  have hit : (nI i).toInt = i := nI_t (by omega)
  have q1 : (1 : Int32).toInt = 1 := by decide
  have q2 : (2 : Int32).toInt = 2 := by decide
  have q3 : (3 : Int32).toInt = 3 := by decide
  have q4 : (4 : Int32).toInt = 4 := by decide
  have q5 : (5 : Int32).toInt = 5 := by decide
  have e1 : (nI i + 1).toInt = i + 1 := by rw [i_add (by omega) (by omega), hit, q1]
  have e2 : (nI i + 2).toInt = i + 2 := by rw [i_add (by omega) (by omega), hit, q2]
  have e3 : (nI i + 3).toInt = i + 3 := by rw [i_add (by omega) (by omega), hit, q3]
  have e4 : (nI i + 4).toInt = i + 4 := by rw [i_add (by omega) (by omega), hit, q4]
  have e5 : (nI i + 5).toInt = i + 5 := by rw [i_add (by omega) (by omega), hit, q5]
  refine rj_ald1 dL_law_400 rfl ?_
  refine rj_ald0 dL_law_401 rfl ?_
  refine rj_ild3 dL_law_402 rfl ?_
  refine rj_ic1 dL_law_403 ?_
  refine rj_iadd dL_law_404 ?_
  refine rj_sld (vp_in_iff.mpr ⟨by omega, by omega⟩) dL_law_405 ?_
  refine rj_ald0 dL_law_406 rfl ?_
  refine rj_ild3 dL_law_407 rfl ?_
  refine rj_ic2 dL_law_408 ?_
  refine rj_iadd dL_law_409 ?_
  refine rj_sld (vp_in_iff.mpr ⟨by omega, by omega⟩) dL_law_410 ?_
  refine rj_V2 (ci := 11) cL_39 rfl (by decide) (by first | assumption | rfl) dL_law_411 (c_X11_turn hC hw) (fitL hk hn (by decide) (by decide)) (Nat.le_of_ble_eq_true rfl) ?_
  rintro v τ ⟨rfl, ⟨fb1, hC1⟩, ho1⟩
  simp only [Option.toList, List.cons_append, List.nil_append]
  have hM1 := mr_sys hM ho1
  refine rj_ald2 dL_law_414 rfl ?_
  refine rj_ald0 dL_law_415 rfl ?_
  refine rj_ild3 dL_law_416 rfl ?_
  refine rj_ic1 dL_law_417 ?_
  refine rj_iadd dL_law_418 ?_
  refine rj_sld (vp_in_iff.mpr ⟨by omega, by omega⟩) dL_law_419 ?_
  refine rj_ald0 dL_law_420 rfl ?_
  refine rj_ild3 dL_law_421 rfl ?_
  refine rj_ic2 dL_law_422 ?_
  refine rj_iadd dL_law_423 ?_
  refine rj_sld (vp_in_iff.mpr ⟨by omega, by omega⟩) dL_law_424 ?_
  refine rj_V2 (ci := 12) cL_42 rfl (by decide) (by first | assumption | rfl) dL_law_425 (c_X12_turn hM1 hw) (fitL hk hn (by decide) (by decide)) (Nat.le_of_ble_eq_true rfl) ?_
  rintro v υ ⟨rfl, hM2, ho2⟩
  simp only [Option.toList, List.cons_append, List.nil_append]
  have hC2 := cr_md hC1 ho2
  refine rj_ic_eq (tgt := 1571) dL_law_428 (by decide) (fun h_428 => ?_) (fun h_428 => ?_)
  · exact hY υ ⟨fb1, _, hC2, hM2, k_turn hw⟩
  · exact absurd rfl h_428

set_option maxRecDepth 100000 in
theorem lawc_7 {l : Launch} {X : CX} {b L k n i : Nat} {xs : Nat → Int32} {σ : ST} (hk : k ≤ 600000) (hn : n ≤ 7302250) (hL : L ≤ 3072) (hi : i + 6 ≤ L) (hI : LI σ) (hY : ∀ τ, LI τ → RJ (GL l X b L xs k n) X cL_law 4 (some .boolean) RL 1571 [some (.ref b), some (.ref (ad X 0)), some (.ref (ad X 112)), some (.int (nI i))] [] τ) :  RJ (GL l X b L xs k n) X cL_law 4 (some .boolean) RL 433 [some (.ref b), some (.ref (ad X 0)), some (.ref (ad X 112)), some (.int (nI i))] [] σ := by
  obtain ⟨fb, A, hC, hM, hw⟩ := hI
  have hit : (nI i).toInt = i := nI_t (by omega)
  have q1 : (1 : Int32).toInt = 1 := by decide
  have q2 : (2 : Int32).toInt = 2 := by decide
  have q3 : (3 : Int32).toInt = 3 := by decide
  have q4 : (4 : Int32).toInt = 4 := by decide
  have q5 : (5 : Int32).toInt = 5 := by decide
  have e1 : (nI i + 1).toInt = i + 1 := by rw [i_add (by omega) (by omega), hit, q1]
  have e2 : (nI i + 2).toInt = i + 2 := by rw [i_add (by omega) (by omega), hit, q2]
  have e3 : (nI i + 3).toInt = i + 3 := by rw [i_add (by omega) (by omega), hit, q3]
  have e4 : (nI i + 4).toInt = i + 4 := by rw [i_add (by omega) (by omega), hit, q4]
  have e5 : (nI i + 5).toInt = i + 5 := by rw [i_add (by omega) (by omega), hit, q5]
  refine rj_ald1 dL_law_433 rfl ?_
  refine rj_ald0 dL_law_434 rfl ?_
  refine rj_ild3 dL_law_435 rfl ?_
  refine rj_ic1 dL_law_436 ?_
  refine rj_iadd dL_law_437 ?_
  refine rj_sld (vp_in_iff.mpr ⟨by omega, by omega⟩) dL_law_438 ?_
  refine rj_ald0 dL_law_439 rfl ?_
  refine rj_ild3 dL_law_440 rfl ?_
  refine rj_ic2 dL_law_441 ?_
  refine rj_iadd dL_law_442 ?_
  refine rj_sld (vp_in_iff.mpr ⟨by omega, by omega⟩) dL_law_443 ?_
  refine rj_V2 (ci := 11) cL_43 rfl (by decide) (by first | assumption | rfl) dL_law_444 (c_X11_as hC hw) (fitL hk hn (by decide) (by decide)) (Nat.le_of_ble_eq_true rfl) ?_
  rintro v τ ⟨rfl, ⟨fb1, hC1⟩, ho1⟩
  simp only [Option.toList, List.cons_append, List.nil_append]
  have hM1 := mr_sys hM ho1
  refine rj_ald2 dL_law_447 rfl ?_
  refine rj_ald0 dL_law_448 rfl ?_
  refine rj_ild3 dL_law_449 rfl ?_
  refine rj_ic1 dL_law_450 ?_
  refine rj_iadd dL_law_451 ?_
  refine rj_sld (vp_in_iff.mpr ⟨by omega, by omega⟩) dL_law_452 ?_
  refine rj_ald0 dL_law_453 rfl ?_
  refine rj_ild3 dL_law_454 rfl ?_
  refine rj_ic2 dL_law_455 ?_
  refine rj_iadd dL_law_456 ?_
  refine rj_sld (vp_in_iff.mpr ⟨by omega, by omega⟩) dL_law_457 ?_
  refine rj_V2 (ci := 12) cL_46 rfl (by decide) (by first | assumption | rfl) dL_law_458 (c_X12_as hM1 hw) (fitL hk hn (by decide) (by decide)) (Nat.le_of_ble_eq_true rfl) ?_
  rintro v υ ⟨rfl, hM2, ho2⟩
  simp only [Option.toList, List.cons_append, List.nil_append]
  have hC2 := cr_md hC1 ho2
  refine rj_ic_eq (tgt := 1571) dL_law_461 (by decide) (fun h_461 => ?_) (fun h_461 => ?_)
  · exact hY υ ⟨fb1, _, hC2, hM2, k_as hw⟩
  · exact absurd rfl h_461

set_option maxRecDepth 100000 in
theorem lawc_8 {l : Launch} {X : CX} {b L k n i : Nat} {xs : Nat → Int32} {σ : ST} (hk : k ≤ 600000) (hn : n ≤ 7302250) (hL : L ≤ 3072) (hi : i + 6 ≤ L) (hI : LI σ) (hY : ∀ τ, LI τ → RJ (GL l X b L xs k n) X cL_law 4 (some .boolean) RL 1571 [some (.ref b), some (.ref (ad X 0)), some (.ref (ad X 112)), some (.int (nI i))] [] τ) :  RJ (GL l X b L xs k n) X cL_law 4 (some .boolean) RL 466 [some (.ref b), some (.ref (ad X 0)), some (.ref (ad X 112)), some (.int (nI i))] [] σ := by
  obtain ⟨fb, A, hC, hM, hw⟩ := hI
  have hit : (nI i).toInt = i := nI_t (by omega)
  have q1 : (1 : Int32).toInt = 1 := by decide
  have q2 : (2 : Int32).toInt = 2 := by decide
  have q3 : (3 : Int32).toInt = 3 := by decide
  have q4 : (4 : Int32).toInt = 4 := by decide
  have q5 : (5 : Int32).toInt = 5 := by decide
  have e1 : (nI i + 1).toInt = i + 1 := by rw [i_add (by omega) (by omega), hit, q1]
  have e2 : (nI i + 2).toInt = i + 2 := by rw [i_add (by omega) (by omega), hit, q2]
  have e3 : (nI i + 3).toInt = i + 3 := by rw [i_add (by omega) (by omega), hit, q3]
  have e4 : (nI i + 4).toInt = i + 4 := by rw [i_add (by omega) (by omega), hit, q4]
  have e5 : (nI i + 5).toInt = i + 5 := by rw [i_add (by omega) (by omega), hit, q5]
  refine rj_ald1 dL_law_466 rfl ?_
  refine rj_ald0 dL_law_467 rfl ?_
  refine rj_ild3 dL_law_468 rfl ?_
  refine rj_ic1 dL_law_469 ?_
  refine rj_iadd dL_law_470 ?_
  refine rj_sld (vp_in_iff.mpr ⟨by omega, by omega⟩) dL_law_471 ?_
  refine rj_ald0 dL_law_472 rfl ?_
  refine rj_ild3 dL_law_473 rfl ?_
  refine rj_ic2 dL_law_474 ?_
  refine rj_iadd dL_law_475 ?_
  refine rj_sld (vp_in_iff.mpr ⟨by omega, by omega⟩) dL_law_476 ?_
  refine rj_V2 (ci := 11) cL_47 rfl (by decide) (by first | assumption | rfl) dL_law_477 (c_X11_lays hC hw) (fitL hk hn (by decide) (by decide)) (Nat.le_of_ble_eq_true rfl) ?_
  rintro v τ ⟨rfl, ⟨fb1, hC1⟩, ho1⟩
  simp only [Option.toList, List.cons_append, List.nil_append]
  have hM1 := mr_sys hM ho1
  refine rj_ald2 dL_law_480 rfl ?_
  refine rj_ald0 dL_law_481 rfl ?_
  refine rj_ild3 dL_law_482 rfl ?_
  refine rj_ic1 dL_law_483 ?_
  refine rj_iadd dL_law_484 ?_
  refine rj_sld (vp_in_iff.mpr ⟨by omega, by omega⟩) dL_law_485 ?_
  refine rj_ald0 dL_law_486 rfl ?_
  refine rj_ild3 dL_law_487 rfl ?_
  refine rj_ic2 dL_law_488 ?_
  refine rj_iadd dL_law_489 ?_
  refine rj_sld (vp_in_iff.mpr ⟨by omega, by omega⟩) dL_law_490 ?_
  refine rj_V2 (ci := 12) cL_50 rfl (by decide) (by first | assumption | rfl) dL_law_491 (c_X12_lays hM1 hw) (fitL hk hn (by decide) (by decide)) (Nat.le_of_ble_eq_true rfl) ?_
  rintro v υ ⟨rfl, hM2, ho2⟩
  simp only [Option.toList, List.cons_append, List.nil_append]
  have hC2 := cr_md hC1 ho2
  refine rj_ic_eq (tgt := 1571) dL_law_494 (by decide) (fun h_494 => ?_) (fun h_494 => ?_)
  · exact hY υ ⟨fb1, _, hC2, hM2, k_lays hw⟩
  · exact absurd rfl h_494

set_option maxRecDepth 100000 in
theorem lawc_9 {l : Launch} {X : CX} {b L k n i : Nat} {xs : Nat → Int32} {σ : ST} (hk : k ≤ 600000) (hn : n ≤ 7302250) (hL : L ≤ 3072) (hi : i + 6 ≤ L) (hI : LI σ) (hY : ∀ τ, LI τ → RJ (GL l X b L xs k n) X cL_law 4 (some .boolean) RL 1571 [some (.ref b), some (.ref (ad X 0)), some (.ref (ad X 112)), some (.int (nI i))] [] τ) :  RJ (GL l X b L xs k n) X cL_law 4 (some .boolean) RL 499 [some (.ref b), some (.ref (ad X 0)), some (.ref (ad X 112)), some (.int (nI i))] [] σ := by
  obtain ⟨fb, A, hC, hM, hw⟩ := hI
  have hit : (nI i).toInt = i := nI_t (by omega)
  have q1 : (1 : Int32).toInt = 1 := by decide
  have q2 : (2 : Int32).toInt = 2 := by decide
  have q3 : (3 : Int32).toInt = 3 := by decide
  have q4 : (4 : Int32).toInt = 4 := by decide
  have q5 : (5 : Int32).toInt = 5 := by decide
  have e1 : (nI i + 1).toInt = i + 1 := by rw [i_add (by omega) (by omega), hit, q1]
  have e2 : (nI i + 2).toInt = i + 2 := by rw [i_add (by omega) (by omega), hit, q2]
  have e3 : (nI i + 3).toInt = i + 3 := by rw [i_add (by omega) (by omega), hit, q3]
  have e4 : (nI i + 4).toInt = i + 4 := by rw [i_add (by omega) (by omega), hit, q4]
  have e5 : (nI i + 5).toInt = i + 5 := by rw [i_add (by omega) (by omega), hit, q5]
  refine rj_ald1 dL_law_499 rfl ?_
  refine rj_ald0 dL_law_500 rfl ?_
  refine rj_ild3 dL_law_501 rfl ?_
  refine rj_ic1 dL_law_502 ?_
  refine rj_iadd dL_law_503 ?_
  refine rj_sld (vp_in_iff.mpr ⟨by omega, by omega⟩) dL_law_504 ?_
  refine rj_ald0 dL_law_505 rfl ?_
  refine rj_ild3 dL_law_506 rfl ?_
  refine rj_ic2 dL_law_507 ?_
  refine rj_iadd dL_law_508 ?_
  refine rj_sld (vp_in_iff.mpr ⟨by omega, by omega⟩) dL_law_509 ?_
  refine rj_V2 (ci := 11) cL_51 rfl (by decide) (by first | assumption | rfl) dL_law_510 (c_X11_like hC hw) (fitL hk hn (by decide) (by decide)) (Nat.le_of_ble_eq_true rfl) ?_
  rintro v τ ⟨rfl, ⟨fb1, hC1⟩, ho1⟩
  simp only [Option.toList, List.cons_append, List.nil_append]
  have hM1 := mr_sys hM ho1
  refine rj_ald2 dL_law_513 rfl ?_
  refine rj_ald0 dL_law_514 rfl ?_
  refine rj_ild3 dL_law_515 rfl ?_
  refine rj_ic1 dL_law_516 ?_
  refine rj_iadd dL_law_517 ?_
  refine rj_sld (vp_in_iff.mpr ⟨by omega, by omega⟩) dL_law_518 ?_
  refine rj_ald0 dL_law_519 rfl ?_
  refine rj_ild3 dL_law_520 rfl ?_
  refine rj_ic2 dL_law_521 ?_
  refine rj_iadd dL_law_522 ?_
  refine rj_sld (vp_in_iff.mpr ⟨by omega, by omega⟩) dL_law_523 ?_
  refine rj_V2 (ci := 12) cL_54 rfl (by decide) (by first | assumption | rfl) dL_law_524 (c_X12_like hM1 hw) (fitL hk hn (by decide) (by decide)) (Nat.le_of_ble_eq_true rfl) ?_
  rintro v υ ⟨rfl, hM2, ho2⟩
  simp only [Option.toList, List.cons_append, List.nil_append]
  have hC2 := cr_md hC1 ho2
  refine rj_ic_eq (tgt := 1571) dL_law_527 (by decide) (fun h_527 => ?_) (fun h_527 => ?_)
  · exact hY υ ⟨fb1, _, hC2, hM2, k_like hw⟩
  · exact absurd rfl h_527

set_option maxRecDepth 100000 in
theorem lawc_10 {l : Launch} {X : CX} {b L k n i : Nat} {xs : Nat → Int32} {σ : ST} (hk : k ≤ 600000) (hn : n ≤ 7302250) (hL : L ≤ 3072) (hi : i + 6 ≤ L) (hI : LI σ) (hY : ∀ τ, LI τ → RJ (GL l X b L xs k n) X cL_law 4 (some .boolean) RL 1571 [some (.ref b), some (.ref (ad X 0)), some (.ref (ad X 112)), some (.int (nI i))] [] τ) :  RJ (GL l X b L xs k n) X cL_law 4 (some .boolean) RL 532 [some (.ref b), some (.ref (ad X 0)), some (.ref (ad X 112)), some (.int (nI i))] [] σ := by
  obtain ⟨fb, A, hC, hM, hw⟩ := hI
  have hit : (nI i).toInt = i := nI_t (by omega)
  have q1 : (1 : Int32).toInt = 1 := by decide
  have q2 : (2 : Int32).toInt = 2 := by decide
  have q3 : (3 : Int32).toInt = 3 := by decide
  have q4 : (4 : Int32).toInt = 4 := by decide
  have q5 : (5 : Int32).toInt = 5 := by decide
  have e1 : (nI i + 1).toInt = i + 1 := by rw [i_add (by omega) (by omega), hit, q1]
  have e2 : (nI i + 2).toInt = i + 2 := by rw [i_add (by omega) (by omega), hit, q2]
  have e3 : (nI i + 3).toInt = i + 3 := by rw [i_add (by omega) (by omega), hit, q3]
  have e4 : (nI i + 4).toInt = i + 4 := by rw [i_add (by omega) (by omega), hit, q4]
  have e5 : (nI i + 5).toInt = i + 5 := by rw [i_add (by omega) (by omega), hit, q5]
  refine rj_ald1 dL_law_532 rfl ?_
  refine rj_ald0 dL_law_533 rfl ?_
  refine rj_ild3 dL_law_534 rfl ?_
  refine rj_ic1 dL_law_535 ?_
  refine rj_iadd dL_law_536 ?_
  refine rj_sld (vp_in_iff.mpr ⟨by omega, by omega⟩) dL_law_537 ?_
  refine rj_V1 (ci := 11) cL_55 rfl (by decide) (by first | assumption | rfl) dL_law_538 (c_X11_pull hC hw) (fitL hk hn (by decide) (by decide)) (Nat.le_of_ble_eq_true rfl) ?_
  rintro v τ ⟨rfl, ⟨fb1, hC1⟩, ho1⟩
  simp only [Option.toList, List.cons_append, List.nil_append]
  have hM1 := mr_sys hM ho1
  refine rj_ald2 dL_law_541 rfl ?_
  refine rj_ald0 dL_law_542 rfl ?_
  refine rj_ild3 dL_law_543 rfl ?_
  refine rj_ic1 dL_law_544 ?_
  refine rj_iadd dL_law_545 ?_
  refine rj_sld (vp_in_iff.mpr ⟨by omega, by omega⟩) dL_law_546 ?_
  refine rj_V1 (ci := 12) cL_58 rfl (by decide) (by first | assumption | rfl) dL_law_547 (c_X12_pull hM1 hw) (fitL hk hn (by decide) (by decide)) (Nat.le_of_ble_eq_true rfl) ?_
  rintro v υ ⟨rfl, hM2, ho2⟩
  simp only [Option.toList, List.cons_append, List.nil_append]
  have hC2 := cr_md hC1 ho2
  refine rj_ic_eq (tgt := 1571) dL_law_550 (by decide) (fun h_550 => ?_) (fun h_550 => ?_)
  · exact hY υ ⟨fb1, _, hC2, hM2, k_pull hw⟩
  · exact absurd rfl h_550

set_option maxRecDepth 100000 in
theorem lawc_11 {l : Launch} {X : CX} {b L k n i : Nat} {xs : Nat → Int32} {σ : ST} (hk : k ≤ 600000) (hn : n ≤ 7302250) (hL : L ≤ 3072) (hi : i + 6 ≤ L) (hI : LI σ) (hY : ∀ τ, LI τ → RJ (GL l X b L xs k n) X cL_law 4 (some .boolean) RL 1571 [some (.ref b), some (.ref (ad X 0)), some (.ref (ad X 112)), some (.int (nI i))] [] τ) :  RJ (GL l X b L xs k n) X cL_law 4 (some .boolean) RL 555 [some (.ref b), some (.ref (ad X 0)), some (.ref (ad X 112)), some (.int (nI i))] [] σ := by
  obtain ⟨fb, A, hC, hM, hw⟩ := hI
  have hit : (nI i).toInt = i := nI_t (by omega)
  have q1 : (1 : Int32).toInt = 1 := by decide
  have q2 : (2 : Int32).toInt = 2 := by decide
  have q3 : (3 : Int32).toInt = 3 := by decide
  have q4 : (4 : Int32).toInt = 4 := by decide
  have q5 : (5 : Int32).toInt = 5 := by decide
  have e1 : (nI i + 1).toInt = i + 1 := by rw [i_add (by omega) (by omega), hit, q1]
  have e2 : (nI i + 2).toInt = i + 2 := by rw [i_add (by omega) (by omega), hit, q2]
  have e3 : (nI i + 3).toInt = i + 3 := by rw [i_add (by omega) (by omega), hit, q3]
  have e4 : (nI i + 4).toInt = i + 4 := by rw [i_add (by omega) (by omega), hit, q4]
  have e5 : (nI i + 5).toInt = i + 5 := by rw [i_add (by omega) (by omega), hit, q5]
  refine rj_ald1 dL_law_555 rfl ?_
  refine rj_ald0 dL_law_556 rfl ?_
  refine rj_ild3 dL_law_557 rfl ?_
  refine rj_ic1 dL_law_558 ?_
  refine rj_iadd dL_law_559 ?_
  refine rj_sld (vp_in_iff.mpr ⟨by omega, by omega⟩) dL_law_560 ?_
  refine rj_V1 (ci := 11) cL_59 rfl (by decide) (by first | assumption | rfl) dL_law_561 (c_X11_left hC hw) (fitL hk hn (by decide) (by decide)) (Nat.le_of_ble_eq_true rfl) ?_
  rintro v τ ⟨rfl, ⟨fb1, hC1⟩, ho1⟩
  simp only [Option.toList, List.cons_append, List.nil_append]
  have hM1 := mr_sys hM ho1
  refine rj_ald2 dL_law_564 rfl ?_
  refine rj_ald0 dL_law_565 rfl ?_
  refine rj_ild3 dL_law_566 rfl ?_
  refine rj_ic1 dL_law_567 ?_
  refine rj_iadd dL_law_568 ?_
  refine rj_sld (vp_in_iff.mpr ⟨by omega, by omega⟩) dL_law_569 ?_
  refine rj_V1 (ci := 12) cL_62 rfl (by decide) (by first | assumption | rfl) dL_law_570 (c_X12_left hM1 hw) (fitL hk hn (by decide) (by decide)) (Nat.le_of_ble_eq_true rfl) ?_
  rintro v υ ⟨rfl, hM2, ho2⟩
  simp only [Option.toList, List.cons_append, List.nil_append]
  have hC2 := cr_md hC1 ho2
  refine rj_ic_eq (tgt := 1571) dL_law_573 (by decide) (fun h_573 => ?_) (fun h_573 => ?_)
  · exact hY υ ⟨fb1, _, hC2, hM2, k_left hw⟩
  · exact absurd rfl h_573

set_option maxRecDepth 100000 in
theorem lawc_12 {l : Launch} {X : CX} {b L k n i : Nat} {xs : Nat → Int32} {σ : ST} (hk : k ≤ 600000) (hn : n ≤ 7302250) (hL : L ≤ 3072) (hi : i + 6 ≤ L) (hI : LI σ) (hY : ∀ τ, LI τ → RJ (GL l X b L xs k n) X cL_law 4 (some .boolean) RL 1571 [some (.ref b), some (.ref (ad X 0)), some (.ref (ad X 112)), some (.int (nI i))] [] τ) :  RJ (GL l X b L xs k n) X cL_law 4 (some .boolean) RL 578 [some (.ref b), some (.ref (ad X 0)), some (.ref (ad X 112)), some (.int (nI i))] [] σ := by
  obtain ⟨fb, A, hC, hM, hw⟩ := hI
  have hit : (nI i).toInt = i := nI_t (by omega)
  have q1 : (1 : Int32).toInt = 1 := by decide
  have q2 : (2 : Int32).toInt = 2 := by decide
  have q3 : (3 : Int32).toInt = 3 := by decide
  have q4 : (4 : Int32).toInt = 4 := by decide
  have q5 : (5 : Int32).toInt = 5 := by decide
  have e1 : (nI i + 1).toInt = i + 1 := by rw [i_add (by omega) (by omega), hit, q1]
  have e2 : (nI i + 2).toInt = i + 2 := by rw [i_add (by omega) (by omega), hit, q2]
  have e3 : (nI i + 3).toInt = i + 3 := by rw [i_add (by omega) (by omega), hit, q3]
  have e4 : (nI i + 4).toInt = i + 4 := by rw [i_add (by omega) (by omega), hit, q4]
  have e5 : (nI i + 5).toInt = i + 5 := by rw [i_add (by omega) (by omega), hit, q5]
  refine rj_ald1 dL_law_578 rfl ?_
  refine rj_ald0 dL_law_579 rfl ?_
  refine rj_ild3 dL_law_580 rfl ?_
  refine rj_ic1 dL_law_581 ?_
  refine rj_iadd dL_law_582 ?_
  refine rj_sld (vp_in_iff.mpr ⟨by omega, by omega⟩) dL_law_583 ?_
  refine rj_ald0 dL_law_584 rfl ?_
  refine rj_ild3 dL_law_585 rfl ?_
  refine rj_ic2 dL_law_586 ?_
  refine rj_iadd dL_law_587 ?_
  refine rj_sld (vp_in_iff.mpr ⟨by omega, by omega⟩) dL_law_588 ?_
  refine rj_V2 (ci := 11) cL_63 rfl (by decide) (by first | assumption | rfl) dL_law_589 (c_X11_rest hC hw) (fitL hk hn (by decide) (by decide)) (Nat.le_of_ble_eq_true rfl) ?_
  rintro v τ ⟨rfl, ⟨fb1, hC1⟩, ho1⟩
  simp only [Option.toList, List.cons_append, List.nil_append]
  have hM1 := mr_sys hM ho1
  refine rj_ald2 dL_law_592 rfl ?_
  refine rj_ald0 dL_law_593 rfl ?_
  refine rj_ild3 dL_law_594 rfl ?_
  refine rj_ic1 dL_law_595 ?_
  refine rj_iadd dL_law_596 ?_
  refine rj_sld (vp_in_iff.mpr ⟨by omega, by omega⟩) dL_law_597 ?_
  refine rj_ald0 dL_law_598 rfl ?_
  refine rj_ild3 dL_law_599 rfl ?_
  refine rj_ic2 dL_law_600 ?_
  refine rj_iadd dL_law_601 ?_
  refine rj_sld (vp_in_iff.mpr ⟨by omega, by omega⟩) dL_law_602 ?_
  refine rj_V2 (ci := 12) cL_66 rfl (by decide) (by first | assumption | rfl) dL_law_603 (c_X12_rest hM1 hw) (fitL hk hn (by decide) (by decide)) (Nat.le_of_ble_eq_true rfl) ?_
  rintro v υ ⟨rfl, hM2, ho2⟩
  simp only [Option.toList, List.cons_append, List.nil_append]
  have hC2 := cr_md hC1 ho2
  refine rj_ic_eq (tgt := 1571) dL_law_606 (by decide) (fun h_606 => ?_) (fun h_606 => ?_)
  · exact hY υ ⟨fb1, _, hC2, hM2, k_rest hw⟩
  · exact absurd rfl h_606

set_option maxRecDepth 100000 in
theorem lawc_13 {l : Launch} {X : CX} {b L k n i : Nat} {xs : Nat → Int32} {σ : ST} (hk : k ≤ 600000) (hn : n ≤ 7302250) (hL : L ≤ 3072) (hi : i + 6 ≤ L) (hI : LI σ) (hY : ∀ τ, LI τ → RJ (GL l X b L xs k n) X cL_law 4 (some .boolean) RL 1571 [some (.ref b), some (.ref (ad X 0)), some (.ref (ad X 112)), some (.int (nI i))] [] τ) :  RJ (GL l X b L xs k n) X cL_law 4 (some .boolean) RL 611 [some (.ref b), some (.ref (ad X 0)), some (.ref (ad X 112)), some (.int (nI i))] [] σ := by
  obtain ⟨fb, A, hC, hM, hw⟩ := hI
  have hit : (nI i).toInt = i := nI_t (by omega)
  have q1 : (1 : Int32).toInt = 1 := by decide
  have q2 : (2 : Int32).toInt = 2 := by decide
  have q3 : (3 : Int32).toInt = 3 := by decide
  have q4 : (4 : Int32).toInt = 4 := by decide
  have q5 : (5 : Int32).toInt = 5 := by decide
  have e1 : (nI i + 1).toInt = i + 1 := by rw [i_add (by omega) (by omega), hit, q1]
  have e2 : (nI i + 2).toInt = i + 2 := by rw [i_add (by omega) (by omega), hit, q2]
  have e3 : (nI i + 3).toInt = i + 3 := by rw [i_add (by omega) (by omega), hit, q3]
  have e4 : (nI i + 4).toInt = i + 4 := by rw [i_add (by omega) (by omega), hit, q4]
  have e5 : (nI i + 5).toInt = i + 5 := by rw [i_add (by omega) (by omega), hit, q5]
  refine rj_ald1 dL_law_611 rfl ?_
  refine rj_ald0 dL_law_612 rfl ?_
  refine rj_ild3 dL_law_613 rfl ?_
  refine rj_ic1 dL_law_614 ?_
  refine rj_iadd dL_law_615 ?_
  refine rj_sld (vp_in_iff.mpr ⟨by omega, by omega⟩) dL_law_616 ?_
  refine rj_ald0 dL_law_617 rfl ?_
  refine rj_ild3 dL_law_618 rfl ?_
  refine rj_ic2 dL_law_619 ?_
  refine rj_iadd dL_law_620 ?_
  refine rj_sld (vp_in_iff.mpr ⟨by omega, by omega⟩) dL_law_621 ?_
  refine rj_V2 (ci := 11) cL_67 rfl (by decide) (by first | assumption | rfl) dL_law_622 (c_X11_slide hC hw) (fitL hk hn (by decide) (by decide)) (Nat.le_of_ble_eq_true rfl) ?_
  rintro v τ ⟨rfl, ⟨fb1, hC1⟩, ho1⟩
  simp only [Option.toList, List.cons_append, List.nil_append]
  have hM1 := mr_sys hM ho1
  refine rj_ald2 dL_law_625 rfl ?_
  refine rj_ald0 dL_law_626 rfl ?_
  refine rj_ild3 dL_law_627 rfl ?_
  refine rj_ic1 dL_law_628 ?_
  refine rj_iadd dL_law_629 ?_
  refine rj_sld (vp_in_iff.mpr ⟨by omega, by omega⟩) dL_law_630 ?_
  refine rj_ald0 dL_law_631 rfl ?_
  refine rj_ild3 dL_law_632 rfl ?_
  refine rj_ic2 dL_law_633 ?_
  refine rj_iadd dL_law_634 ?_
  refine rj_sld (vp_in_iff.mpr ⟨by omega, by omega⟩) dL_law_635 ?_
  refine rj_V2 (ci := 12) cL_70 rfl (by decide) (by first | assumption | rfl) dL_law_636 (c_X12_slide hM1 hw) (fitL hk hn (by decide) (by decide)) (Nat.le_of_ble_eq_true rfl) ?_
  rintro v υ ⟨rfl, hM2, ho2⟩
  simp only [Option.toList, List.cons_append, List.nil_append]
  have hC2 := cr_md hC1 ho2
  refine rj_ic_eq (tgt := 1571) dL_law_639 (by decide) (fun h_639 => ?_) (fun h_639 => ?_)
  · exact hY υ ⟨fb1, _, hC2, hM2, k_slide hw⟩
  · exact absurd rfl h_639

set_option maxRecDepth 100000 in
theorem lawc_14 {l : Launch} {X : CX} {b L k n i : Nat} {xs : Nat → Int32} {σ : ST} (hk : k ≤ 600000) (hn : n ≤ 7302250) (hL : L ≤ 3072) (hi : i + 6 ≤ L) (hI : LI σ) (hY : ∀ τ, LI τ → RJ (GL l X b L xs k n) X cL_law 4 (some .boolean) RL 1571 [some (.ref b), some (.ref (ad X 0)), some (.ref (ad X 112)), some (.int (nI i))] [] τ) :  RJ (GL l X b L xs k n) X cL_law 4 (some .boolean) RL 644 [some (.ref b), some (.ref (ad X 0)), some (.ref (ad X 112)), some (.int (nI i))] [] σ := by
  obtain ⟨fb, A, hC, hM, hw⟩ := hI
  have hit : (nI i).toInt = i := nI_t (by omega)
  have q1 : (1 : Int32).toInt = 1 := by decide
  have q2 : (2 : Int32).toInt = 2 := by decide
  have q3 : (3 : Int32).toInt = 3 := by decide
  have q4 : (4 : Int32).toInt = 4 := by decide
  have q5 : (5 : Int32).toInt = 5 := by decide
  have e1 : (nI i + 1).toInt = i + 1 := by rw [i_add (by omega) (by omega), hit, q1]
  have e2 : (nI i + 2).toInt = i + 2 := by rw [i_add (by omega) (by omega), hit, q2]
  have e3 : (nI i + 3).toInt = i + 3 := by rw [i_add (by omega) (by omega), hit, q3]
  have e4 : (nI i + 4).toInt = i + 4 := by rw [i_add (by omega) (by omega), hit, q4]
  have e5 : (nI i + 5).toInt = i + 5 := by rw [i_add (by omega) (by omega), hit, q5]
  refine rj_ald1 dL_law_644 rfl ?_
  refine rj_ald0 dL_law_645 rfl ?_
  refine rj_ild3 dL_law_646 rfl ?_
  refine rj_ic1 dL_law_647 ?_
  refine rj_iadd dL_law_648 ?_
  refine rj_sld (vp_in_iff.mpr ⟨by omega, by omega⟩) dL_law_649 ?_
  refine rj_ald0 dL_law_650 rfl ?_
  refine rj_ild3 dL_law_651 rfl ?_
  refine rj_ic2 dL_law_652 ?_
  refine rj_iadd dL_law_653 ?_
  refine rj_sld (vp_in_iff.mpr ⟨by omega, by omega⟩) dL_law_654 ?_
  refine rj_V2 (ci := 11) cL_71 rfl (by decide) (by first | assumption | rfl) dL_law_655 (c_X11_third hC hw) (fitL hk hn (by decide) (by decide)) (Nat.le_of_ble_eq_true rfl) ?_
  rintro v τ ⟨rfl, ⟨fb1, hC1⟩, ho1⟩
  simp only [Option.toList, List.cons_append, List.nil_append]
  have hM1 := mr_sys hM ho1
  refine rj_ald2 dL_law_658 rfl ?_
  refine rj_ald0 dL_law_659 rfl ?_
  refine rj_ild3 dL_law_660 rfl ?_
  refine rj_ic1 dL_law_661 ?_
  refine rj_iadd dL_law_662 ?_
  refine rj_sld (vp_in_iff.mpr ⟨by omega, by omega⟩) dL_law_663 ?_
  refine rj_ald0 dL_law_664 rfl ?_
  refine rj_ild3 dL_law_665 rfl ?_
  refine rj_ic2 dL_law_666 ?_
  refine rj_iadd dL_law_667 ?_
  refine rj_sld (vp_in_iff.mpr ⟨by omega, by omega⟩) dL_law_668 ?_
  refine rj_V2 (ci := 12) cL_74 rfl (by decide) (by first | assumption | rfl) dL_law_669 (c_X12_third hM1 hw) (fitL hk hn (by decide) (by decide)) (Nat.le_of_ble_eq_true rfl) ?_
  rintro v υ ⟨rfl, hM2, ho2⟩
  simp only [Option.toList, List.cons_append, List.nil_append]
  have hC2 := cr_md hC1 ho2
  refine rj_ic_eq (tgt := 1571) dL_law_672 (by decide) (fun h_672 => ?_) (fun h_672 => ?_)
  · exact hY υ ⟨fb1, _, hC2, hM2, k_third hw⟩
  · exact absurd rfl h_672

set_option maxRecDepth 100000 in
theorem lawc_15 {l : Launch} {X : CX} {b L k n i : Nat} {xs : Nat → Int32} {σ : ST} (hk : k ≤ 600000) (hn : n ≤ 7302250) (hL : L ≤ 3072) (hi : i + 6 ≤ L) (hI : LI σ) (hY : ∀ τ, LI τ → RJ (GL l X b L xs k n) X cL_law 4 (some .boolean) RL 1571 [some (.ref b), some (.ref (ad X 0)), some (.ref (ad X 112)), some (.int (nI i))] [] τ) :  RJ (GL l X b L xs k n) X cL_law 4 (some .boolean) RL 677 [some (.ref b), some (.ref (ad X 0)), some (.ref (ad X 112)), some (.int (nI i))] [] σ := by
  obtain ⟨fb, A, hC, hM, hw⟩ := hI
  have hit : (nI i).toInt = i := nI_t (by omega)
  have q1 : (1 : Int32).toInt = 1 := by decide
  have q2 : (2 : Int32).toInt = 2 := by decide
  have q3 : (3 : Int32).toInt = 3 := by decide
  have q4 : (4 : Int32).toInt = 4 := by decide
  have q5 : (5 : Int32).toInt = 5 := by decide
  have e1 : (nI i + 1).toInt = i + 1 := by rw [i_add (by omega) (by omega), hit, q1]
  have e2 : (nI i + 2).toInt = i + 2 := by rw [i_add (by omega) (by omega), hit, q2]
  have e3 : (nI i + 3).toInt = i + 3 := by rw [i_add (by omega) (by omega), hit, q3]
  have e4 : (nI i + 4).toInt = i + 4 := by rw [i_add (by omega) (by omega), hit, q4]
  have e5 : (nI i + 5).toInt = i + 5 := by rw [i_add (by omega) (by omega), hit, q5]
  refine rj_ald1 dL_law_677 rfl ?_
  refine rj_ald0 dL_law_678 rfl ?_
  refine rj_ild3 dL_law_679 rfl ?_
  refine rj_ic1 dL_law_680 ?_
  refine rj_iadd dL_law_681 ?_
  refine rj_sld (vp_in_iff.mpr ⟨by omega, by omega⟩) dL_law_682 ?_
  refine rj_ald0 dL_law_683 rfl ?_
  refine rj_ild3 dL_law_684 rfl ?_
  refine rj_ic2 dL_law_685 ?_
  refine rj_iadd dL_law_686 ?_
  refine rj_sld (vp_in_iff.mpr ⟨by omega, by omega⟩) dL_law_687 ?_
  refine rj_V2 (ci := 11) cL_75 rfl (by decide) (by first | assumption | rfl) dL_law_688 (c_X11_moves hC hw) (fitL hk hn (by decide) (by decide)) (Nat.le_of_ble_eq_true rfl) ?_
  rintro v τ ⟨rfl, ⟨fb1, hC1⟩, ho1⟩
  simp only [Option.toList, List.cons_append, List.nil_append]
  have hM1 := mr_sys hM ho1
  refine rj_ald2 dL_law_691 rfl ?_
  refine rj_ald0 dL_law_692 rfl ?_
  refine rj_ild3 dL_law_693 rfl ?_
  refine rj_ic1 dL_law_694 ?_
  refine rj_iadd dL_law_695 ?_
  refine rj_sld (vp_in_iff.mpr ⟨by omega, by omega⟩) dL_law_696 ?_
  refine rj_ald0 dL_law_697 rfl ?_
  refine rj_ild3 dL_law_698 rfl ?_
  refine rj_ic2 dL_law_699 ?_
  refine rj_iadd dL_law_700 ?_
  refine rj_sld (vp_in_iff.mpr ⟨by omega, by omega⟩) dL_law_701 ?_
  refine rj_V2 (ci := 12) cL_78 rfl (by decide) (by first | assumption | rfl) dL_law_702 (c_X12_moves hM1 hw) (fitL hk hn (by decide) (by decide)) (Nat.le_of_ble_eq_true rfl) ?_
  rintro v υ ⟨rfl, hM2, ho2⟩
  simp only [Option.toList, List.cons_append, List.nil_append]
  have hC2 := cr_md hC1 ho2
  refine rj_ic_eq (tgt := 1571) dL_law_705 (by decide) (fun h_705 => ?_) (fun h_705 => ?_)
  · exact hY υ ⟨fb1, _, hC2, hM2, k_moves hw⟩
  · exact absurd rfl h_705

set_option maxRecDepth 100000 in
theorem lawc_16 {l : Launch} {X : CX} {b L k n i : Nat} {xs : Nat → Int32} {σ : ST} (hk : k ≤ 600000) (hn : n ≤ 7302250) (hL : L ≤ 3072) (hi : i + 6 ≤ L) (hI : LI σ) (hY : ∀ τ, LI τ → RJ (GL l X b L xs k n) X cL_law 4 (some .boolean) RL 1571 [some (.ref b), some (.ref (ad X 0)), some (.ref (ad X 112)), some (.int (nI i))] [] τ) :  RJ (GL l X b L xs k n) X cL_law 4 (some .boolean) RL 710 [some (.ref b), some (.ref (ad X 0)), some (.ref (ad X 112)), some (.int (nI i))] [] σ := by
  obtain ⟨fb, A, hC, hM, hw⟩ := hI
  have hit : (nI i).toInt = i := nI_t (by omega)
  have q1 : (1 : Int32).toInt = 1 := by decide
  have q2 : (2 : Int32).toInt = 2 := by decide
  have q3 : (3 : Int32).toInt = 3 := by decide
  have q4 : (4 : Int32).toInt = 4 := by decide
  have q5 : (5 : Int32).toInt = 5 := by decide
  have e1 : (nI i + 1).toInt = i + 1 := by rw [i_add (by omega) (by omega), hit, q1]
  have e2 : (nI i + 2).toInt = i + 2 := by rw [i_add (by omega) (by omega), hit, q2]
  have e3 : (nI i + 3).toInt = i + 3 := by rw [i_add (by omega) (by omega), hit, q3]
  have e4 : (nI i + 4).toInt = i + 4 := by rw [i_add (by omega) (by omega), hit, q4]
  have e5 : (nI i + 5).toInt = i + 5 := by rw [i_add (by omega) (by omega), hit, q5]
  refine rj_ald1 dL_law_710 rfl ?_
  refine rj_ald0 dL_law_711 rfl ?_
  refine rj_ild3 dL_law_712 rfl ?_
  refine rj_ic1 dL_law_713 ?_
  refine rj_iadd dL_law_714 ?_
  refine rj_sld (vp_in_iff.mpr ⟨by omega, by omega⟩) dL_law_715 ?_
  refine rj_V1 (ci := 11) cL_79 rfl (by decide) (by first | assumption | rfl) dL_law_716 (c_X11_steps hC hw) (fitL hk hn (by decide) (by decide)) (Nat.le_of_ble_eq_true rfl) ?_
  rintro v τ ⟨rfl, ⟨fb1, hC1⟩, ho1⟩
  simp only [Option.toList, List.cons_append, List.nil_append]
  have hM1 := mr_sys hM ho1
  refine rj_ald2 dL_law_719 rfl ?_
  refine rj_ald0 dL_law_720 rfl ?_
  refine rj_ild3 dL_law_721 rfl ?_
  refine rj_ic1 dL_law_722 ?_
  refine rj_iadd dL_law_723 ?_
  refine rj_sld (vp_in_iff.mpr ⟨by omega, by omega⟩) dL_law_724 ?_
  refine rj_V1 (ci := 12) cL_82 rfl (by decide) (by first | assumption | rfl) dL_law_725 (c_X12_steps hM1 hw) (fitL hk hn (by decide) (by decide)) (Nat.le_of_ble_eq_true rfl) ?_
  rintro v υ ⟨rfl, hM2, ho2⟩
  simp only [Option.toList, List.cons_append, List.nil_append]
  have hC2 := cr_md hC1 ho2
  refine rj_ic_eq (tgt := 1571) dL_law_728 (by decide) (fun h_728 => ?_) (fun h_728 => ?_)
  · exact hY υ ⟨fb1, _, hC2, hM2, k_steps hw⟩
  · exact absurd rfl h_728

set_option maxRecDepth 100000 in
theorem lawc_17 {l : Launch} {X : CX} {b L k n i : Nat} {xs : Nat → Int32} {σ : ST} (hk : k ≤ 600000) (hn : n ≤ 7302250) (hL : L ≤ 3072) (hi : i + 6 ≤ L) (hI : LI σ) (hY : ∀ τ, LI τ → RJ (GL l X b L xs k n) X cL_law 4 (some .boolean) RL 1571 [some (.ref b), some (.ref (ad X 0)), some (.ref (ad X 112)), some (.int (nI i))] [] τ) :  RJ (GL l X b L xs k n) X cL_law 4 (some .boolean) RL 733 [some (.ref b), some (.ref (ad X 0)), some (.ref (ad X 112)), some (.int (nI i))] [] σ := by
  obtain ⟨fb, A, hC, hM, hw⟩ := hI
  have hit : (nI i).toInt = i := nI_t (by omega)
  have q1 : (1 : Int32).toInt = 1 := by decide
  have q2 : (2 : Int32).toInt = 2 := by decide
  have q3 : (3 : Int32).toInt = 3 := by decide
  have q4 : (4 : Int32).toInt = 4 := by decide
  have q5 : (5 : Int32).toInt = 5 := by decide
  have e1 : (nI i + 1).toInt = i + 1 := by rw [i_add (by omega) (by omega), hit, q1]
  have e2 : (nI i + 2).toInt = i + 2 := by rw [i_add (by omega) (by omega), hit, q2]
  have e3 : (nI i + 3).toInt = i + 3 := by rw [i_add (by omega) (by omega), hit, q3]
  have e4 : (nI i + 4).toInt = i + 4 := by rw [i_add (by omega) (by omega), hit, q4]
  have e5 : (nI i + 5).toInt = i + 5 := by rw [i_add (by omega) (by omega), hit, q5]
  refine rj_ald1 dL_law_733 rfl ?_
  refine rj_ald0 dL_law_734 rfl ?_
  refine rj_ild3 dL_law_735 rfl ?_
  refine rj_ic1 dL_law_736 ?_
  refine rj_iadd dL_law_737 ?_
  refine rj_sld (vp_in_iff.mpr ⟨by omega, by omega⟩) dL_law_738 ?_
  refine rj_ald0 dL_law_739 rfl ?_
  refine rj_ild3 dL_law_740 rfl ?_
  refine rj_ic2 dL_law_741 ?_
  refine rj_iadd dL_law_742 ?_
  refine rj_sld (vp_in_iff.mpr ⟨by omega, by omega⟩) dL_law_743 ?_
  refine rj_V2 (ci := 11) cL_83 rfl (by decide) (by first | assumption | rfl) dL_law_744 (c_X11_ends hC hw) (fitL hk hn (by decide) (by decide)) (Nat.le_of_ble_eq_true rfl) ?_
  rintro v τ ⟨rfl, ⟨fb1, hC1⟩, ho1⟩
  simp only [Option.toList, List.cons_append, List.nil_append]
  have hM1 := mr_sys hM ho1
  refine rj_ald2 dL_law_747 rfl ?_
  refine rj_ald0 dL_law_748 rfl ?_
  refine rj_ild3 dL_law_749 rfl ?_
  refine rj_ic1 dL_law_750 ?_
  refine rj_iadd dL_law_751 ?_
  refine rj_sld (vp_in_iff.mpr ⟨by omega, by omega⟩) dL_law_752 ?_
  refine rj_ald0 dL_law_753 rfl ?_
  refine rj_ild3 dL_law_754 rfl ?_
  refine rj_ic2 dL_law_755 ?_
  refine rj_iadd dL_law_756 ?_
  refine rj_sld (vp_in_iff.mpr ⟨by omega, by omega⟩) dL_law_757 ?_
  refine rj_V2 (ci := 12) cL_86 rfl (by decide) (by first | assumption | rfl) dL_law_758 (c_X12_ends hM1 hw) (fitL hk hn (by decide) (by decide)) (Nat.le_of_ble_eq_true rfl) ?_
  rintro v υ ⟨rfl, hM2, ho2⟩
  simp only [Option.toList, List.cons_append, List.nil_append]
  have hC2 := cr_md hC1 ho2
  refine rj_ic_eq (tgt := 1571) dL_law_761 (by decide) (fun h_761 => ?_) (fun h_761 => ?_)
  · exact hY υ ⟨fb1, _, hC2, hM2, k_ends hw⟩
  · exact absurd rfl h_761

set_option maxRecDepth 100000 in
theorem lawc_18 {l : Launch} {X : CX} {b L k n i : Nat} {xs : Nat → Int32} {σ : ST} (hk : k ≤ 600000) (hn : n ≤ 7302250) (hL : L ≤ 3072) (hi : i + 6 ≤ L) (hI : LI σ) (hY : ∀ τ, LI τ → RJ (GL l X b L xs k n) X cL_law 4 (some .boolean) RL 1571 [some (.ref b), some (.ref (ad X 0)), some (.ref (ad X 112)), some (.int (nI i))] [] τ) :  RJ (GL l X b L xs k n) X cL_law 4 (some .boolean) RL 766 [some (.ref b), some (.ref (ad X 0)), some (.ref (ad X 112)), some (.int (nI i))] [] σ := by
  obtain ⟨fb, A, hC, hM, hw⟩ := hI
  have hit : (nI i).toInt = i := nI_t (by omega)
  have q1 : (1 : Int32).toInt = 1 := by decide
  have q2 : (2 : Int32).toInt = 2 := by decide
  have q3 : (3 : Int32).toInt = 3 := by decide
  have q4 : (4 : Int32).toInt = 4 := by decide
  have q5 : (5 : Int32).toInt = 5 := by decide
  have e1 : (nI i + 1).toInt = i + 1 := by rw [i_add (by omega) (by omega), hit, q1]
  have e2 : (nI i + 2).toInt = i + 2 := by rw [i_add (by omega) (by omega), hit, q2]
  have e3 : (nI i + 3).toInt = i + 3 := by rw [i_add (by omega) (by omega), hit, q3]
  have e4 : (nI i + 4).toInt = i + 4 := by rw [i_add (by omega) (by omega), hit, q4]
  have e5 : (nI i + 5).toInt = i + 5 := by rw [i_add (by omega) (by omega), hit, q5]
  refine rj_ald1 dL_law_766 rfl ?_
  refine rj_ald0 dL_law_767 rfl ?_
  refine rj_ild3 dL_law_768 rfl ?_
  refine rj_ic1 dL_law_769 ?_
  refine rj_iadd dL_law_770 ?_
  refine rj_sld (vp_in_iff.mpr ⟨by omega, by omega⟩) dL_law_771 ?_
  refine rj_V1 (ci := 11) cL_87 rfl (by decide) (by first | assumption | rfl) dL_law_772 (c_X11_sum hC hw) (fitL hk hn (by decide) (by decide)) (Nat.le_of_ble_eq_true rfl) ?_
  rintro v τ ⟨rfl, ⟨fb1, hC1⟩, ho1⟩
  simp only [Option.toList, List.cons_append, List.nil_append]
  have hM1 := mr_sys hM ho1
  refine rj_ald2 dL_law_775 rfl ?_
  refine rj_ald0 dL_law_776 rfl ?_
  refine rj_ild3 dL_law_777 rfl ?_
  refine rj_ic1 dL_law_778 ?_
  refine rj_iadd dL_law_779 ?_
  refine rj_sld (vp_in_iff.mpr ⟨by omega, by omega⟩) dL_law_780 ?_
  refine rj_V1 (ci := 12) cL_90 rfl (by decide) (by first | assumption | rfl) dL_law_781 (c_X12_sum hM1 hw) (fitL hk hn (by decide) (by decide)) (Nat.le_of_ble_eq_true rfl) ?_
  rintro v υ ⟨rfl, hM2, ho2⟩
  simp only [Option.toList, List.cons_append, List.nil_append]
  have hC2 := cr_md hC1 ho2
  refine rj_ic_eq (tgt := 1571) dL_law_784 (by decide) (fun h_784 => ?_) (fun h_784 => ?_)
  · exact hY υ ⟨fb1, _, hC2, hM2, k_sum hw⟩
  · exact absurd rfl h_784

set_option maxRecDepth 100000 in
theorem lawc_19 {l : Launch} {X : CX} {b L k n i : Nat} {xs : Nat → Int32} {σ : ST} (hk : k ≤ 600000) (hn : n ≤ 7302250) (hL : L ≤ 3072) (hi : i + 6 ≤ L) (hI : LI σ) (hY : ∀ τ, LI τ → RJ (GL l X b L xs k n) X cL_law 4 (some .boolean) RL 1571 [some (.ref b), some (.ref (ad X 0)), some (.ref (ad X 112)), some (.int (nI i))] [] τ) :  RJ (GL l X b L xs k n) X cL_law 4 (some .boolean) RL 789 [some (.ref b), some (.ref (ad X 0)), some (.ref (ad X 112)), some (.int (nI i))] [] σ := by
  obtain ⟨fb, A, hC, hM, hw⟩ := hI
  have hit : (nI i).toInt = i := nI_t (by omega)
  have q1 : (1 : Int32).toInt = 1 := by decide
  have q2 : (2 : Int32).toInt = 2 := by decide
  have q3 : (3 : Int32).toInt = 3 := by decide
  have q4 : (4 : Int32).toInt = 4 := by decide
  have q5 : (5 : Int32).toInt = 5 := by decide
  have e1 : (nI i + 1).toInt = i + 1 := by rw [i_add (by omega) (by omega), hit, q1]
  have e2 : (nI i + 2).toInt = i + 2 := by rw [i_add (by omega) (by omega), hit, q2]
  have e3 : (nI i + 3).toInt = i + 3 := by rw [i_add (by omega) (by omega), hit, q3]
  have e4 : (nI i + 4).toInt = i + 4 := by rw [i_add (by omega) (by omega), hit, q4]
  have e5 : (nI i + 5).toInt = i + 5 := by rw [i_add (by omega) (by omega), hit, q5]
  refine rj_ald1 dL_law_789 rfl ?_
  refine rj_ald0 dL_law_790 rfl ?_
  refine rj_ild3 dL_law_791 rfl ?_
  refine rj_ic1 dL_law_792 ?_
  refine rj_iadd dL_law_793 ?_
  refine rj_sld (vp_in_iff.mpr ⟨by omega, by omega⟩) dL_law_794 ?_
  refine rj_ald0 dL_law_795 rfl ?_
  refine rj_ild3 dL_law_796 rfl ?_
  refine rj_ic2 dL_law_797 ?_
  refine rj_iadd dL_law_798 ?_
  refine rj_sld (vp_in_iff.mpr ⟨by omega, by omega⟩) dL_law_799 ?_
  refine rj_ald0 dL_law_800 rfl ?_
  refine rj_ild3 dL_law_801 rfl ?_
  refine rj_ic3 dL_law_802 ?_
  refine rj_iadd dL_law_803 ?_
  refine rj_sld (vp_in_iff.mpr ⟨by omega, by omega⟩) dL_law_804 ?_
  refine rj_V3 (ci := 11) cL_91 rfl (by decide) (by first | assumption | rfl) dL_law_805 (c_X11_links hC hw) (fitL hk hn (by decide) (by decide)) (Nat.le_of_ble_eq_true rfl) ?_
  rintro v τ ⟨rfl, ⟨fb1, hC1⟩, ho1⟩
  simp only [Option.toList, List.cons_append, List.nil_append]
  have hM1 := mr_sys hM ho1
  refine rj_ald2 dL_law_808 rfl ?_
  refine rj_ald0 dL_law_809 rfl ?_
  refine rj_ild3 dL_law_810 rfl ?_
  refine rj_ic1 dL_law_811 ?_
  refine rj_iadd dL_law_812 ?_
  refine rj_sld (vp_in_iff.mpr ⟨by omega, by omega⟩) dL_law_813 ?_
  refine rj_ald0 dL_law_814 rfl ?_
  refine rj_ild3 dL_law_815 rfl ?_
  refine rj_ic2 dL_law_816 ?_
  refine rj_iadd dL_law_817 ?_
  refine rj_sld (vp_in_iff.mpr ⟨by omega, by omega⟩) dL_law_818 ?_
  refine rj_ald0 dL_law_819 rfl ?_
  refine rj_ild3 dL_law_820 rfl ?_
  refine rj_ic3 dL_law_821 ?_
  refine rj_iadd dL_law_822 ?_
  refine rj_sld (vp_in_iff.mpr ⟨by omega, by omega⟩) dL_law_823 ?_
  refine rj_V3 (ci := 12) cL_95 rfl (by decide) (by first | assumption | rfl) dL_law_824 (c_X12_links hM1 hw) (fitL hk hn (by decide) (by decide)) (Nat.le_of_ble_eq_true rfl) ?_
  rintro v υ ⟨rfl, hM2, ho2⟩
  simp only [Option.toList, List.cons_append, List.nil_append]
  have hC2 := cr_md hC1 ho2
  refine rj_ic_eq (tgt := 1571) dL_law_827 (by decide) (fun h_827 => ?_) (fun h_827 => ?_)
  · exact hY υ ⟨fb1, _, hC2, hM2, k_links hw⟩
  · exact absurd rfl h_827

set_option maxRecDepth 100000 in
theorem lawc_20 {l : Launch} {X : CX} {b L k n i : Nat} {xs : Nat → Int32} {σ : ST} (hk : k ≤ 600000) (hn : n ≤ 7302250) (hL : L ≤ 3072) (hi : i + 6 ≤ L) (hI : LI σ) (hY : ∀ τ, LI τ → RJ (GL l X b L xs k n) X cL_law 4 (some .boolean) RL 1571 [some (.ref b), some (.ref (ad X 0)), some (.ref (ad X 112)), some (.int (nI i))] [] τ) :  RJ (GL l X b L xs k n) X cL_law 4 (some .boolean) RL 832 [some (.ref b), some (.ref (ad X 0)), some (.ref (ad X 112)), some (.int (nI i))] [] σ := by
  obtain ⟨fb, A, hC, hM, hw⟩ := hI
  have hit : (nI i).toInt = i := nI_t (by omega)
  have q1 : (1 : Int32).toInt = 1 := by decide
  have q2 : (2 : Int32).toInt = 2 := by decide
  have q3 : (3 : Int32).toInt = 3 := by decide
  have q4 : (4 : Int32).toInt = 4 := by decide
  have q5 : (5 : Int32).toInt = 5 := by decide
  have e1 : (nI i + 1).toInt = i + 1 := by rw [i_add (by omega) (by omega), hit, q1]
  have e2 : (nI i + 2).toInt = i + 2 := by rw [i_add (by omega) (by omega), hit, q2]
  have e3 : (nI i + 3).toInt = i + 3 := by rw [i_add (by omega) (by omega), hit, q3]
  have e4 : (nI i + 4).toInt = i + 4 := by rw [i_add (by omega) (by omega), hit, q4]
  have e5 : (nI i + 5).toInt = i + 5 := by rw [i_add (by omega) (by omega), hit, q5]
  refine rj_ald1 dL_law_832 rfl ?_
  refine rj_ald0 dL_law_833 rfl ?_
  refine rj_ild3 dL_law_834 rfl ?_
  refine rj_ic1 dL_law_835 ?_
  refine rj_iadd dL_law_836 ?_
  refine rj_sld (vp_in_iff.mpr ⟨by omega, by omega⟩) dL_law_837 ?_
  refine rj_V1 (ci := 11) cL_96 rfl (by decide) (by first | assumption | rfl) dL_law_838 (c_X11_rings hC hw) (fitL hk hn (by decide) (by decide)) (Nat.le_of_ble_eq_true rfl) ?_
  rintro v τ ⟨rfl, ⟨fb1, hC1⟩, ho1⟩
  simp only [Option.toList, List.cons_append, List.nil_append]
  have hM1 := mr_sys hM ho1
  refine rj_ald2 dL_law_841 rfl ?_
  refine rj_ald0 dL_law_842 rfl ?_
  refine rj_ild3 dL_law_843 rfl ?_
  refine rj_ic1 dL_law_844 ?_
  refine rj_iadd dL_law_845 ?_
  refine rj_sld (vp_in_iff.mpr ⟨by omega, by omega⟩) dL_law_846 ?_
  refine rj_V1 (ci := 12) cL_99 rfl (by decide) (by first | assumption | rfl) dL_law_847 (c_X12_rings hM1 hw) (fitL hk hn (by decide) (by decide)) (Nat.le_of_ble_eq_true rfl) ?_
  rintro v υ ⟨rfl, hM2, ho2⟩
  simp only [Option.toList, List.cons_append, List.nil_append]
  have hC2 := cr_md hC1 ho2
  refine rj_ic_eq (tgt := 1571) dL_law_850 (by decide) (fun h_850 => ?_) (fun h_850 => ?_)
  · exact hY υ ⟨fb1, _, hC2, hM2, k_rings hw⟩
  · exact absurd rfl h_850

set_option maxRecDepth 100000 in
theorem lawc_21 {l : Launch} {X : CX} {b L k n i : Nat} {xs : Nat → Int32} {σ : ST} (hk : k ≤ 600000) (hn : n ≤ 7302250) (hL : L ≤ 3072) (hi : i + 6 ≤ L) (hI : LI σ) (hY : ∀ τ, LI τ → RJ (GL l X b L xs k n) X cL_law 4 (some .boolean) RL 1571 [some (.ref b), some (.ref (ad X 0)), some (.ref (ad X 112)), some (.int (nI i))] [] τ) :  RJ (GL l X b L xs k n) X cL_law 4 (some .boolean) RL 855 [some (.ref b), some (.ref (ad X 0)), some (.ref (ad X 112)), some (.int (nI i))] [] σ := by
  obtain ⟨fb, A, hC, hM, hw⟩ := hI
  have hit : (nI i).toInt = i := nI_t (by omega)
  have q1 : (1 : Int32).toInt = 1 := by decide
  have q2 : (2 : Int32).toInt = 2 := by decide
  have q3 : (3 : Int32).toInt = 3 := by decide
  have q4 : (4 : Int32).toInt = 4 := by decide
  have q5 : (5 : Int32).toInt = 5 := by decide
  have e1 : (nI i + 1).toInt = i + 1 := by rw [i_add (by omega) (by omega), hit, q1]
  have e2 : (nI i + 2).toInt = i + 2 := by rw [i_add (by omega) (by omega), hit, q2]
  have e3 : (nI i + 3).toInt = i + 3 := by rw [i_add (by omega) (by omega), hit, q3]
  have e4 : (nI i + 4).toInt = i + 4 := by rw [i_add (by omega) (by omega), hit, q4]
  have e5 : (nI i + 5).toInt = i + 5 := by rw [i_add (by omega) (by omega), hit, q5]
  refine rj_ald1 dL_law_855 rfl ?_
  refine rj_ald0 dL_law_856 rfl ?_
  refine rj_ild3 dL_law_857 rfl ?_
  refine rj_ic1 dL_law_858 ?_
  refine rj_iadd dL_law_859 ?_
  refine rj_sld (vp_in_iff.mpr ⟨by omega, by omega⟩) dL_law_860 ?_
  refine rj_ald0 dL_law_861 rfl ?_
  refine rj_ild3 dL_law_862 rfl ?_
  refine rj_ic2 dL_law_863 ?_
  refine rj_iadd dL_law_864 ?_
  refine rj_sld (vp_in_iff.mpr ⟨by omega, by omega⟩) dL_law_865 ?_
  refine rj_V2 (ci := 11) cL_100 rfl (by decide) (by first | assumption | rfl) dL_law_866 (c_X11_colours hC hw) (fitL hk hn (by decide) (by decide)) (Nat.le_of_ble_eq_true rfl) ?_
  rintro v τ ⟨rfl, ⟨fb1, hC1⟩, ho1⟩
  simp only [Option.toList, List.cons_append, List.nil_append]
  have hM1 := mr_sys hM ho1
  refine rj_ald2 dL_law_869 rfl ?_
  refine rj_ald0 dL_law_870 rfl ?_
  refine rj_ild3 dL_law_871 rfl ?_
  refine rj_ic1 dL_law_872 ?_
  refine rj_iadd dL_law_873 ?_
  refine rj_sld (vp_in_iff.mpr ⟨by omega, by omega⟩) dL_law_874 ?_
  refine rj_ald0 dL_law_875 rfl ?_
  refine rj_ild3 dL_law_876 rfl ?_
  refine rj_ic2 dL_law_877 ?_
  refine rj_iadd dL_law_878 ?_
  refine rj_sld (vp_in_iff.mpr ⟨by omega, by omega⟩) dL_law_879 ?_
  refine rj_V2 (ci := 12) cL_103 rfl (by decide) (by first | assumption | rfl) dL_law_880 (c_X12_colours hM1 hw) (fitL hk hn (by decide) (by decide)) (Nat.le_of_ble_eq_true rfl) ?_
  rintro v υ ⟨rfl, hM2, ho2⟩
  simp only [Option.toList, List.cons_append, List.nil_append]
  have hC2 := cr_md hC1 ho2
  refine rj_ic_eq (tgt := 1571) dL_law_883 (by decide) (fun h_883 => ?_) (fun h_883 => ?_)
  · exact hY υ ⟨fb1, _, hC2, hM2, k_colours hw⟩
  · exact absurd rfl h_883

set_option maxRecDepth 100000 in
theorem lawc_22 {l : Launch} {X : CX} {b L k n i : Nat} {xs : Nat → Int32} {σ : ST} (hk : k ≤ 600000) (hn : n ≤ 7302250) (hL : L ≤ 3072) (hi : i + 6 ≤ L) (hI : LI σ) (hY : ∀ τ, LI τ → RJ (GL l X b L xs k n) X cL_law 4 (some .boolean) RL 1571 [some (.ref b), some (.ref (ad X 0)), some (.ref (ad X 112)), some (.int (nI i))] [] τ) :  RJ (GL l X b L xs k n) X cL_law 4 (some .boolean) RL 888 [some (.ref b), some (.ref (ad X 0)), some (.ref (ad X 112)), some (.int (nI i))] [] σ := by
  obtain ⟨fb, A, hC, hM, hw⟩ := hI
  have hit : (nI i).toInt = i := nI_t (by omega)
  have q1 : (1 : Int32).toInt = 1 := by decide
  have q2 : (2 : Int32).toInt = 2 := by decide
  have q3 : (3 : Int32).toInt = 3 := by decide
  have q4 : (4 : Int32).toInt = 4 := by decide
  have q5 : (5 : Int32).toInt = 5 := by decide
  have e1 : (nI i + 1).toInt = i + 1 := by rw [i_add (by omega) (by omega), hit, q1]
  have e2 : (nI i + 2).toInt = i + 2 := by rw [i_add (by omega) (by omega), hit, q2]
  have e3 : (nI i + 3).toInt = i + 3 := by rw [i_add (by omega) (by omega), hit, q3]
  have e4 : (nI i + 4).toInt = i + 4 := by rw [i_add (by omega) (by omega), hit, q4]
  have e5 : (nI i + 5).toInt = i + 5 := by rw [i_add (by omega) (by omega), hit, q5]
  refine rj_ald1 dL_law_888 rfl ?_
  refine rj_ald0 dL_law_889 rfl ?_
  refine rj_ild3 dL_law_890 rfl ?_
  refine rj_ic1 dL_law_891 ?_
  refine rj_iadd dL_law_892 ?_
  refine rj_sld (vp_in_iff.mpr ⟨by omega, by omega⟩) dL_law_893 ?_
  refine rj_V1 (ci := 11) cL_104 rfl (by decide) (by first | assumption | rfl) dL_law_894 (c_X11_shows hC hw) (fitL hk hn (by decide) (by decide)) (Nat.le_of_ble_eq_true rfl) ?_
  rintro v τ ⟨rfl, ⟨fb1, hC1⟩, ho1⟩
  simp only [Option.toList, List.cons_append, List.nil_append]
  have hM1 := mr_sys hM ho1
  refine rj_ald2 dL_law_897 rfl ?_
  refine rj_ald0 dL_law_898 rfl ?_
  refine rj_ild3 dL_law_899 rfl ?_
  refine rj_ic1 dL_law_900 ?_
  refine rj_iadd dL_law_901 ?_
  refine rj_sld (vp_in_iff.mpr ⟨by omega, by omega⟩) dL_law_902 ?_
  refine rj_V1 (ci := 12) cL_107 rfl (by decide) (by first | assumption | rfl) dL_law_903 (c_X12_shows hM1 hw) (fitL hk hn (by decide) (by decide)) (Nat.le_of_ble_eq_true rfl) ?_
  rintro v υ ⟨rfl, hM2, ho2⟩
  simp only [Option.toList, List.cons_append, List.nil_append]
  have hC2 := cr_md hC1 ho2
  refine rj_ic_eq (tgt := 1571) dL_law_906 (by decide) (fun h_906 => ?_) (fun h_906 => ?_)
  · exact hY υ ⟨fb1, _, hC2, hM2, k_shows hw⟩
  · exact absurd rfl h_906

set_option maxRecDepth 100000 in
theorem lawc_23 {l : Launch} {X : CX} {b L k n i : Nat} {xs : Nat → Int32} {σ : ST} (hk : k ≤ 600000) (hn : n ≤ 7302250) (hL : L ≤ 3072) (hi : i + 6 ≤ L) (hI : LI σ) (hY : ∀ τ, LI τ → RJ (GL l X b L xs k n) X cL_law 4 (some .boolean) RL 1571 [some (.ref b), some (.ref (ad X 0)), some (.ref (ad X 112)), some (.int (nI i))] [] τ) :  RJ (GL l X b L xs k n) X cL_law 4 (some .boolean) RL 911 [some (.ref b), some (.ref (ad X 0)), some (.ref (ad X 112)), some (.int (nI i))] [] σ := by
  obtain ⟨fb, A, hC, hM, hw⟩ := hI
  have hit : (nI i).toInt = i := nI_t (by omega)
  have q1 : (1 : Int32).toInt = 1 := by decide
  have q2 : (2 : Int32).toInt = 2 := by decide
  have q3 : (3 : Int32).toInt = 3 := by decide
  have q4 : (4 : Int32).toInt = 4 := by decide
  have q5 : (5 : Int32).toInt = 5 := by decide
  have e1 : (nI i + 1).toInt = i + 1 := by rw [i_add (by omega) (by omega), hit, q1]
  have e2 : (nI i + 2).toInt = i + 2 := by rw [i_add (by omega) (by omega), hit, q2]
  have e3 : (nI i + 3).toInt = i + 3 := by rw [i_add (by omega) (by omega), hit, q3]
  have e4 : (nI i + 4).toInt = i + 4 := by rw [i_add (by omega) (by omega), hit, q4]
  have e5 : (nI i + 5).toInt = i + 5 := by rw [i_add (by omega) (by omega), hit, q5]
  refine rj_ald1 dL_law_911 rfl ?_
  refine rj_ald0 dL_law_912 rfl ?_
  refine rj_ild3 dL_law_913 rfl ?_
  refine rj_ic1 dL_law_914 ?_
  refine rj_iadd dL_law_915 ?_
  refine rj_sld (vp_in_iff.mpr ⟨by omega, by omega⟩) dL_law_916 ?_
  refine rj_ald0 dL_law_917 rfl ?_
  refine rj_ild3 dL_law_918 rfl ?_
  refine rj_ic2 dL_law_919 ?_
  refine rj_iadd dL_law_920 ?_
  refine rj_sld (vp_in_iff.mpr ⟨by omega, by omega⟩) dL_law_921 ?_
  refine rj_V2 (ci := 11) cL_108 rfl (by decide) (by first | assumption | rfl) dL_law_922 (c_X11_apart hC hw) (fitL hk hn (by decide) (by decide)) (Nat.le_of_ble_eq_true rfl) ?_
  rintro v τ ⟨rfl, ⟨fb1, hC1⟩, ho1⟩
  simp only [Option.toList, List.cons_append, List.nil_append]
  have hM1 := mr_sys hM ho1
  refine rj_ald2 dL_law_925 rfl ?_
  refine rj_ald0 dL_law_926 rfl ?_
  refine rj_ild3 dL_law_927 rfl ?_
  refine rj_ic1 dL_law_928 ?_
  refine rj_iadd dL_law_929 ?_
  refine rj_sld (vp_in_iff.mpr ⟨by omega, by omega⟩) dL_law_930 ?_
  refine rj_ald0 dL_law_931 rfl ?_
  refine rj_ild3 dL_law_932 rfl ?_
  refine rj_ic2 dL_law_933 ?_
  refine rj_iadd dL_law_934 ?_
  refine rj_sld (vp_in_iff.mpr ⟨by omega, by omega⟩) dL_law_935 ?_
  refine rj_V2 (ci := 12) cL_111 rfl (by decide) (by first | assumption | rfl) dL_law_936 (c_X12_apart hM1 hw) (fitL hk hn (by decide) (by decide)) (Nat.le_of_ble_eq_true rfl) ?_
  rintro v υ ⟨rfl, hM2, ho2⟩
  simp only [Option.toList, List.cons_append, List.nil_append]
  have hC2 := cr_md hC1 ho2
  refine rj_ic_eq (tgt := 1571) dL_law_939 (by decide) (fun h_939 => ?_) (fun h_939 => ?_)
  · exact hY υ ⟨fb1, _, hC2, hM2, k_apart hw⟩
  · exact absurd rfl h_939

set_option maxRecDepth 100000 in
theorem lawc_24 {l : Launch} {X : CX} {b L k n i : Nat} {xs : Nat → Int32} {σ : ST} (hk : k ≤ 600000) (hn : n ≤ 7302250) (hL : L ≤ 3072) (hi : i + 6 ≤ L) (hI : LI σ) (hY : ∀ τ, LI τ → RJ (GL l X b L xs k n) X cL_law 4 (some .boolean) RL 1571 [some (.ref b), some (.ref (ad X 0)), some (.ref (ad X 112)), some (.int (nI i))] [] τ) :  RJ (GL l X b L xs k n) X cL_law 4 (some .boolean) RL 944 [some (.ref b), some (.ref (ad X 0)), some (.ref (ad X 112)), some (.int (nI i))] [] σ := by
  obtain ⟨fb, A, hC, hM, hw⟩ := hI
  have hit : (nI i).toInt = i := nI_t (by omega)
  have q1 : (1 : Int32).toInt = 1 := by decide
  have q2 : (2 : Int32).toInt = 2 := by decide
  have q3 : (3 : Int32).toInt = 3 := by decide
  have q4 : (4 : Int32).toInt = 4 := by decide
  have q5 : (5 : Int32).toInt = 5 := by decide
  have e1 : (nI i + 1).toInt = i + 1 := by rw [i_add (by omega) (by omega), hit, q1]
  have e2 : (nI i + 2).toInt = i + 2 := by rw [i_add (by omega) (by omega), hit, q2]
  have e3 : (nI i + 3).toInt = i + 3 := by rw [i_add (by omega) (by omega), hit, q3]
  have e4 : (nI i + 4).toInt = i + 4 := by rw [i_add (by omega) (by omega), hit, q4]
  have e5 : (nI i + 5).toInt = i + 5 := by rw [i_add (by omega) (by omega), hit, q5]
  refine rj_ald1 dL_law_944 rfl ?_
  refine rj_ald0 dL_law_945 rfl ?_
  refine rj_ild3 dL_law_946 rfl ?_
  refine rj_ic1 dL_law_947 ?_
  refine rj_iadd dL_law_948 ?_
  refine rj_sld (vp_in_iff.mpr ⟨by omega, by omega⟩) dL_law_949 ?_
  refine rj_ald0 dL_law_950 rfl ?_
  refine rj_ild3 dL_law_951 rfl ?_
  refine rj_ic2 dL_law_952 ?_
  refine rj_iadd dL_law_953 ?_
  refine rj_sld (vp_in_iff.mpr ⟨by omega, by omega⟩) dL_law_954 ?_
  refine rj_V2 (ci := 11) cL_112 rfl (by decide) (by first | assumption | rfl) dL_law_955 (c_X11_same hC hw) (fitL hk hn (by decide) (by decide)) (Nat.le_of_ble_eq_true rfl) ?_
  rintro v τ ⟨rfl, ⟨fb1, hC1⟩, ho1⟩
  simp only [Option.toList, List.cons_append, List.nil_append]
  have hM1 := mr_sys hM ho1
  refine rj_ald2 dL_law_958 rfl ?_
  refine rj_ald0 dL_law_959 rfl ?_
  refine rj_ild3 dL_law_960 rfl ?_
  refine rj_ic1 dL_law_961 ?_
  refine rj_iadd dL_law_962 ?_
  refine rj_sld (vp_in_iff.mpr ⟨by omega, by omega⟩) dL_law_963 ?_
  refine rj_ald0 dL_law_964 rfl ?_
  refine rj_ild3 dL_law_965 rfl ?_
  refine rj_ic2 dL_law_966 ?_
  refine rj_iadd dL_law_967 ?_
  refine rj_sld (vp_in_iff.mpr ⟨by omega, by omega⟩) dL_law_968 ?_
  refine rj_V2 (ci := 12) cL_115 rfl (by decide) (by first | assumption | rfl) dL_law_969 (c_X12_same hM1 hw) (fitL hk hn (by decide) (by decide)) (Nat.le_of_ble_eq_true rfl) ?_
  rintro v υ ⟨rfl, hM2, ho2⟩
  simp only [Option.toList, List.cons_append, List.nil_append]
  have hC2 := cr_md hC1 ho2
  refine rj_ic_eq (tgt := 1571) dL_law_972 (by decide) (fun h_972 => ?_) (fun h_972 => ?_)
  · exact hY υ ⟨fb1, _, hC2, hM2, k_same hw⟩
  · exact absurd rfl h_972

set_option maxRecDepth 100000 in
theorem lawc_25 {l : Launch} {X : CX} {b L k n i : Nat} {xs : Nat → Int32} {σ : ST} (hk : k ≤ 600000) (hn : n ≤ 7302250) (hL : L ≤ 3072) (hi : i + 6 ≤ L) (hI : LI σ) (hY : ∀ τ, LI τ → RJ (GL l X b L xs k n) X cL_law 4 (some .boolean) RL 1571 [some (.ref b), some (.ref (ad X 0)), some (.ref (ad X 112)), some (.int (nI i))] [] τ) :  RJ (GL l X b L xs k n) X cL_law 4 (some .boolean) RL 977 [some (.ref b), some (.ref (ad X 0)), some (.ref (ad X 112)), some (.int (nI i))] [] σ := by
  obtain ⟨fb, A, hC, hM, hw⟩ := hI
  have hit : (nI i).toInt = i := nI_t (by omega)
  have q1 : (1 : Int32).toInt = 1 := by decide
  have q2 : (2 : Int32).toInt = 2 := by decide
  have q3 : (3 : Int32).toInt = 3 := by decide
  have q4 : (4 : Int32).toInt = 4 := by decide
  have q5 : (5 : Int32).toInt = 5 := by decide
  have e1 : (nI i + 1).toInt = i + 1 := by rw [i_add (by omega) (by omega), hit, q1]
  have e2 : (nI i + 2).toInt = i + 2 := by rw [i_add (by omega) (by omega), hit, q2]
  have e3 : (nI i + 3).toInt = i + 3 := by rw [i_add (by omega) (by omega), hit, q3]
  have e4 : (nI i + 4).toInt = i + 4 := by rw [i_add (by omega) (by omega), hit, q4]
  have e5 : (nI i + 5).toInt = i + 5 := by rw [i_add (by omega) (by omega), hit, q5]
  refine rj_ald1 dL_law_977 rfl ?_
  refine rj_ald0 dL_law_978 rfl ?_
  refine rj_ild3 dL_law_979 rfl ?_
  refine rj_ic1 dL_law_980 ?_
  refine rj_iadd dL_law_981 ?_
  refine rj_sld (vp_in_iff.mpr ⟨by omega, by omega⟩) dL_law_982 ?_
  refine rj_V1 (ci := 11) cL_116 rfl (by decide) (by first | assumption | rfl) dL_law_983 (c_X11_which hC hw) (fitL hk hn (by decide) (by decide)) (Nat.le_of_ble_eq_true rfl) ?_
  rintro v τ ⟨rfl, ⟨fb1, hC1⟩, ho1⟩
  simp only [Option.toList, List.cons_append, List.nil_append]
  have hM1 := mr_sys hM ho1
  refine rj_ald2 dL_law_986 rfl ?_
  refine rj_ald0 dL_law_987 rfl ?_
  refine rj_ild3 dL_law_988 rfl ?_
  refine rj_ic1 dL_law_989 ?_
  refine rj_iadd dL_law_990 ?_
  refine rj_sld (vp_in_iff.mpr ⟨by omega, by omega⟩) dL_law_991 ?_
  refine rj_V1 (ci := 12) cL_119 rfl (by decide) (by first | assumption | rfl) dL_law_992 (c_X12_which hM1 hw) (fitL hk hn (by decide) (by decide)) (Nat.le_of_ble_eq_true rfl) ?_
  rintro v υ ⟨rfl, hM2, ho2⟩
  simp only [Option.toList, List.cons_append, List.nil_append]
  have hC2 := cr_md hC1 ho2
  refine rj_ic_eq (tgt := 1571) dL_law_995 (by decide) (fun h_995 => ?_) (fun h_995 => ?_)
  · exact hY υ ⟨fb1, _, hC2, hM2, k_which hw⟩
  · exact absurd rfl h_995

set_option maxRecDepth 100000 in
theorem lawc_26 {l : Launch} {X : CX} {b L k n i : Nat} {xs : Nat → Int32} {σ : ST} (hk : k ≤ 600000) (hn : n ≤ 7302250) (hL : L ≤ 3072) (hi : i + 6 ≤ L) (hI : LI σ) (hY : ∀ τ, LI τ → RJ (GL l X b L xs k n) X cL_law 4 (some .boolean) RL 1571 [some (.ref b), some (.ref (ad X 0)), some (.ref (ad X 112)), some (.int (nI i))] [] τ) :  RJ (GL l X b L xs k n) X cL_law 4 (some .boolean) RL 1000 [some (.ref b), some (.ref (ad X 0)), some (.ref (ad X 112)), some (.int (nI i))] [] σ := by
  obtain ⟨fb, A, hC, hM, hw⟩ := hI
  have hit : (nI i).toInt = i := nI_t (by omega)
  have q1 : (1 : Int32).toInt = 1 := by decide
  have q2 : (2 : Int32).toInt = 2 := by decide
  have q3 : (3 : Int32).toInt = 3 := by decide
  have q4 : (4 : Int32).toInt = 4 := by decide
  have q5 : (5 : Int32).toInt = 5 := by decide
  have e1 : (nI i + 1).toInt = i + 1 := by rw [i_add (by omega) (by omega), hit, q1]
  have e2 : (nI i + 2).toInt = i + 2 := by rw [i_add (by omega) (by omega), hit, q2]
  have e3 : (nI i + 3).toInt = i + 3 := by rw [i_add (by omega) (by omega), hit, q3]
  have e4 : (nI i + 4).toInt = i + 4 := by rw [i_add (by omega) (by omega), hit, q4]
  have e5 : (nI i + 5).toInt = i + 5 := by rw [i_add (by omega) (by omega), hit, q5]
  refine rj_ald1 dL_law_1000 rfl ?_
  refine rj_ald0 dL_law_1001 rfl ?_
  refine rj_ild3 dL_law_1002 rfl ?_
  refine rj_ic1 dL_law_1003 ?_
  refine rj_iadd dL_law_1004 ?_
  refine rj_sld (vp_in_iff.mpr ⟨by omega, by omega⟩) dL_law_1005 ?_
  refine rj_V1 (ci := 11) cL_120 rfl (by decide) (by first | assumption | rfl) dL_law_1006 (c_X11_fewest hC hw) (fitL hk hn (by decide) (by decide)) (Nat.le_of_ble_eq_true rfl) ?_
  rintro v τ ⟨rfl, ⟨fb1, hC1⟩, ho1⟩
  simp only [Option.toList, List.cons_append, List.nil_append]
  have hM1 := mr_sys hM ho1
  refine rj_ald2 dL_law_1009 rfl ?_
  refine rj_ald0 dL_law_1010 rfl ?_
  refine rj_ild3 dL_law_1011 rfl ?_
  refine rj_ic1 dL_law_1012 ?_
  refine rj_iadd dL_law_1013 ?_
  refine rj_sld (vp_in_iff.mpr ⟨by omega, by omega⟩) dL_law_1014 ?_
  refine rj_V1 (ci := 12) cL_123 rfl (by decide) (by first | assumption | rfl) dL_law_1015 (c_X12_fewest hM1 hw) (fitL hk hn (by decide) (by decide)) (Nat.le_of_ble_eq_true rfl) ?_
  rintro v υ ⟨rfl, hM2, ho2⟩
  simp only [Option.toList, List.cons_append, List.nil_append]
  have hC2 := cr_md hC1 ho2
  refine rj_ic_eq (tgt := 1571) dL_law_1018 (by decide) (fun h_1018 => ?_) (fun h_1018 => ?_)
  · exact hY υ ⟨fb1, _, hC2, hM2, k_fewest hw⟩
  · exact absurd rfl h_1018

set_option maxRecDepth 100000 in
theorem lawc_27 {l : Launch} {X : CX} {b L k n i : Nat} {xs : Nat → Int32} {σ : ST} (hk : k ≤ 600000) (hn : n ≤ 7302250) (hL : L ≤ 3072) (hi : i + 6 ≤ L) (hI : LI σ) (hY : ∀ τ, LI τ → RJ (GL l X b L xs k n) X cL_law 4 (some .boolean) RL 1571 [some (.ref b), some (.ref (ad X 0)), some (.ref (ad X 112)), some (.int (nI i))] [] τ) :  RJ (GL l X b L xs k n) X cL_law 4 (some .boolean) RL 1023 [some (.ref b), some (.ref (ad X 0)), some (.ref (ad X 112)), some (.int (nI i))] [] σ := by
  obtain ⟨fb, A, hC, hM, hw⟩ := hI
  have hit : (nI i).toInt = i := nI_t (by omega)
  have q1 : (1 : Int32).toInt = 1 := by decide
  have q2 : (2 : Int32).toInt = 2 := by decide
  have q3 : (3 : Int32).toInt = 3 := by decide
  have q4 : (4 : Int32).toInt = 4 := by decide
  have q5 : (5 : Int32).toInt = 5 := by decide
  have e1 : (nI i + 1).toInt = i + 1 := by rw [i_add (by omega) (by omega), hit, q1]
  have e2 : (nI i + 2).toInt = i + 2 := by rw [i_add (by omega) (by omega), hit, q2]
  have e3 : (nI i + 3).toInt = i + 3 := by rw [i_add (by omega) (by omega), hit, q3]
  have e4 : (nI i + 4).toInt = i + 4 := by rw [i_add (by omega) (by omega), hit, q4]
  have e5 : (nI i + 5).toInt = i + 5 := by rw [i_add (by omega) (by omega), hit, q5]
  refine rj_ald1 dL_law_1023 rfl ?_
  refine rj_ald0 dL_law_1024 rfl ?_
  refine rj_ild3 dL_law_1025 rfl ?_
  refine rj_ic1 dL_law_1026 ?_
  refine rj_iadd dL_law_1027 ?_
  refine rj_sld (vp_in_iff.mpr ⟨by omega, by omega⟩) dL_law_1028 ?_
  refine rj_V1 (ci := 11) cL_124 rfl (by decide) (by first | assumption | rfl) dL_law_1029 (c_X11_turned hC hw) (fitL hk hn (by decide) (by decide)) (Nat.le_of_ble_eq_true rfl) ?_
  rintro v τ ⟨rfl, ⟨fb1, hC1⟩, ho1⟩
  simp only [Option.toList, List.cons_append, List.nil_append]
  have hM1 := mr_sys hM ho1
  refine rj_ald2 dL_law_1032 rfl ?_
  refine rj_ald0 dL_law_1033 rfl ?_
  refine rj_ild3 dL_law_1034 rfl ?_
  refine rj_ic1 dL_law_1035 ?_
  refine rj_iadd dL_law_1036 ?_
  refine rj_sld (vp_in_iff.mpr ⟨by omega, by omega⟩) dL_law_1037 ?_
  refine rj_V1 (ci := 12) cL_127 rfl (by decide) (by first | assumption | rfl) dL_law_1038 (c_X12_turned hM1 hw) (fitL hk hn (by decide) (by decide)) (Nat.le_of_ble_eq_true rfl) ?_
  rintro v υ ⟨rfl, hM2, ho2⟩
  simp only [Option.toList, List.cons_append, List.nil_append]
  have hC2 := cr_md hC1 ho2
  refine rj_ic_eq (tgt := 1571) dL_law_1041 (by decide) (fun h_1041 => ?_) (fun h_1041 => ?_)
  · exact hY υ ⟨fb1, _, hC2, hM2, k_turned hw⟩
  · exact absurd rfl h_1041

set_option maxRecDepth 100000 in
theorem lawc_28 {l : Launch} {X : CX} {b L k n i : Nat} {xs : Nat → Int32} {σ : ST} (hk : k ≤ 600000) (hn : n ≤ 7302250) (hL : L ≤ 3072) (hi : i + 6 ≤ L) (hI : LI σ) (hY : ∀ τ, LI τ → RJ (GL l X b L xs k n) X cL_law 4 (some .boolean) RL 1571 [some (.ref b), some (.ref (ad X 0)), some (.ref (ad X 112)), some (.int (nI i))] [] τ) :  RJ (GL l X b L xs k n) X cL_law 4 (some .boolean) RL 1046 [some (.ref b), some (.ref (ad X 0)), some (.ref (ad X 112)), some (.int (nI i))] [] σ := by
  obtain ⟨fb, A, hC, hM, hw⟩ := hI
  have hit : (nI i).toInt = i := nI_t (by omega)
  have q1 : (1 : Int32).toInt = 1 := by decide
  have q2 : (2 : Int32).toInt = 2 := by decide
  have q3 : (3 : Int32).toInt = 3 := by decide
  have q4 : (4 : Int32).toInt = 4 := by decide
  have q5 : (5 : Int32).toInt = 5 := by decide
  have e1 : (nI i + 1).toInt = i + 1 := by rw [i_add (by omega) (by omega), hit, q1]
  have e2 : (nI i + 2).toInt = i + 2 := by rw [i_add (by omega) (by omega), hit, q2]
  have e3 : (nI i + 3).toInt = i + 3 := by rw [i_add (by omega) (by omega), hit, q3]
  have e4 : (nI i + 4).toInt = i + 4 := by rw [i_add (by omega) (by omega), hit, q4]
  have e5 : (nI i + 5).toInt = i + 5 := by rw [i_add (by omega) (by omega), hit, q5]
  refine rj_ald1 dL_law_1046 rfl ?_
  refine rj_ald0 dL_law_1047 rfl ?_
  refine rj_ild3 dL_law_1048 rfl ?_
  refine rj_ic1 dL_law_1049 ?_
  refine rj_iadd dL_law_1050 ?_
  refine rj_sld (vp_in_iff.mpr ⟨by omega, by omega⟩) dL_law_1051 ?_
  refine rj_V1 (ci := 11) cL_128 rfl (by decide) (by first | assumption | rfl) dL_law_1052 (c_X11_best hC hw) (fitL hk hn (by decide) (by decide)) (Nat.le_of_ble_eq_true rfl) ?_
  rintro v τ ⟨rfl, ⟨fb1, hC1⟩, ho1⟩
  simp only [Option.toList, List.cons_append, List.nil_append]
  have hM1 := mr_sys hM ho1
  refine rj_ald2 dL_law_1055 rfl ?_
  refine rj_ald0 dL_law_1056 rfl ?_
  refine rj_ild3 dL_law_1057 rfl ?_
  refine rj_ic1 dL_law_1058 ?_
  refine rj_iadd dL_law_1059 ?_
  refine rj_sld (vp_in_iff.mpr ⟨by omega, by omega⟩) dL_law_1060 ?_
  refine rj_V1 (ci := 12) cL_131 rfl (by decide) (by first | assumption | rfl) dL_law_1061 (c_X12_best hM1 hw) (fitL hk hn (by decide) (by decide)) (Nat.le_of_ble_eq_true rfl) ?_
  rintro v υ ⟨rfl, hM2, ho2⟩
  simp only [Option.toList, List.cons_append, List.nil_append]
  have hC2 := cr_md hC1 ho2
  refine rj_ic_eq (tgt := 1571) dL_law_1064 (by decide) (fun h_1064 => ?_) (fun h_1064 => ?_)
  · exact hY υ ⟨fb1, _, hC2, hM2, k_best hw⟩
  · exact absurd rfl h_1064

set_option maxRecDepth 100000 in
theorem lawc_29 {l : Launch} {X : CX} {b L k n i : Nat} {xs : Nat → Int32} {σ : ST} (hk : k ≤ 600000) (hn : n ≤ 7302250) (hL : L ≤ 3072) (hi : i + 6 ≤ L) (hI : LI σ) (hY : ∀ τ, LI τ → RJ (GL l X b L xs k n) X cL_law 4 (some .boolean) RL 1571 [some (.ref b), some (.ref (ad X 0)), some (.ref (ad X 112)), some (.int (nI i))] [] τ) :  RJ (GL l X b L xs k n) X cL_law 4 (some .boolean) RL 1069 [some (.ref b), some (.ref (ad X 0)), some (.ref (ad X 112)), some (.int (nI i))] [] σ := by
  obtain ⟨fb, A, hC, hM, hw⟩ := hI
  have hit : (nI i).toInt = i := nI_t (by omega)
  have q1 : (1 : Int32).toInt = 1 := by decide
  have q2 : (2 : Int32).toInt = 2 := by decide
  have q3 : (3 : Int32).toInt = 3 := by decide
  have q4 : (4 : Int32).toInt = 4 := by decide
  have q5 : (5 : Int32).toInt = 5 := by decide
  have e1 : (nI i + 1).toInt = i + 1 := by rw [i_add (by omega) (by omega), hit, q1]
  have e2 : (nI i + 2).toInt = i + 2 := by rw [i_add (by omega) (by omega), hit, q2]
  have e3 : (nI i + 3).toInt = i + 3 := by rw [i_add (by omega) (by omega), hit, q3]
  have e4 : (nI i + 4).toInt = i + 4 := by rw [i_add (by omega) (by omega), hit, q4]
  have e5 : (nI i + 5).toInt = i + 5 := by rw [i_add (by omega) (by omega), hit, q5]
  refine rj_ald1 dL_law_1069 rfl ?_
  refine rj_ald0 dL_law_1070 rfl ?_
  refine rj_ild3 dL_law_1071 rfl ?_
  refine rj_ic1 dL_law_1072 ?_
  refine rj_iadd dL_law_1073 ?_
  refine rj_sld (vp_in_iff.mpr ⟨by omega, by omega⟩) dL_law_1074 ?_
  refine rj_ald0 dL_law_1075 rfl ?_
  refine rj_ild3 dL_law_1076 rfl ?_
  refine rj_ic2 dL_law_1077 ?_
  refine rj_iadd dL_law_1078 ?_
  refine rj_sld (vp_in_iff.mpr ⟨by omega, by omega⟩) dL_law_1079 ?_
  refine rj_V2 (ci := 11) cL_132 rfl (by decide) (by first | assumption | rfl) dL_law_1080 (c_X11_ways hC hw) (fitL hk hn (by decide) (by decide)) (Nat.le_of_ble_eq_true rfl) ?_
  rintro v τ ⟨rfl, ⟨fb1, hC1⟩, ho1⟩
  simp only [Option.toList, List.cons_append, List.nil_append]
  have hM1 := mr_sys hM ho1
  refine rj_ald2 dL_law_1083 rfl ?_
  refine rj_ald0 dL_law_1084 rfl ?_
  refine rj_ild3 dL_law_1085 rfl ?_
  refine rj_ic1 dL_law_1086 ?_
  refine rj_iadd dL_law_1087 ?_
  refine rj_sld (vp_in_iff.mpr ⟨by omega, by omega⟩) dL_law_1088 ?_
  refine rj_ald0 dL_law_1089 rfl ?_
  refine rj_ild3 dL_law_1090 rfl ?_
  refine rj_ic2 dL_law_1091 ?_
  refine rj_iadd dL_law_1092 ?_
  refine rj_sld (vp_in_iff.mpr ⟨by omega, by omega⟩) dL_law_1093 ?_
  refine rj_V2 (ci := 12) cL_135 rfl (by decide) (by first | assumption | rfl) dL_law_1094 (c_X12_ways hM1 hw) (fitL hk hn (by decide) (by decide)) (Nat.le_of_ble_eq_true rfl) ?_
  rintro v υ ⟨rfl, hM2, ho2⟩
  simp only [Option.toList, List.cons_append, List.nil_append]
  have hC2 := cr_md hC1 ho2
  refine rj_ic_eq (tgt := 1571) dL_law_1097 (by decide) (fun h_1097 => ?_) (fun h_1097 => ?_)
  · exact hY υ ⟨fb1, _, hC2, hM2, k_ways hw⟩
  · exact absurd rfl h_1097

set_option maxRecDepth 100000 in
theorem lawc_30 {l : Launch} {X : CX} {b L k n i : Nat} {xs : Nat → Int32} {σ : ST} (hk : k ≤ 600000) (hn : n ≤ 7302250) (hL : L ≤ 3072) (hi : i + 6 ≤ L) (hI : LI σ) (hY : ∀ τ, LI τ → RJ (GL l X b L xs k n) X cL_law 4 (some .boolean) RL 1571 [some (.ref b), some (.ref (ad X 0)), some (.ref (ad X 112)), some (.int (nI i))] [] τ) :  RJ (GL l X b L xs k n) X cL_law 4 (some .boolean) RL 1102 [some (.ref b), some (.ref (ad X 0)), some (.ref (ad X 112)), some (.int (nI i))] [] σ := by
  obtain ⟨fb, A, hC, hM, hw⟩ := hI
  have hit : (nI i).toInt = i := nI_t (by omega)
  have q1 : (1 : Int32).toInt = 1 := by decide
  have q2 : (2 : Int32).toInt = 2 := by decide
  have q3 : (3 : Int32).toInt = 3 := by decide
  have q4 : (4 : Int32).toInt = 4 := by decide
  have q5 : (5 : Int32).toInt = 5 := by decide
  have e1 : (nI i + 1).toInt = i + 1 := by rw [i_add (by omega) (by omega), hit, q1]
  have e2 : (nI i + 2).toInt = i + 2 := by rw [i_add (by omega) (by omega), hit, q2]
  have e3 : (nI i + 3).toInt = i + 3 := by rw [i_add (by omega) (by omega), hit, q3]
  have e4 : (nI i + 4).toInt = i + 4 := by rw [i_add (by omega) (by omega), hit, q4]
  have e5 : (nI i + 5).toInt = i + 5 := by rw [i_add (by omega) (by omega), hit, q5]
  refine rj_ald1 dL_law_1102 rfl ?_
  refine rj_ald0 dL_law_1103 rfl ?_
  refine rj_ild3 dL_law_1104 rfl ?_
  refine rj_ic1 dL_law_1105 ?_
  refine rj_iadd dL_law_1106 ?_
  refine rj_sld (vp_in_iff.mpr ⟨by omega, by omega⟩) dL_law_1107 ?_
  refine rj_ald0 dL_law_1108 rfl ?_
  refine rj_ild3 dL_law_1109 rfl ?_
  refine rj_ic2 dL_law_1110 ?_
  refine rj_iadd dL_law_1111 ?_
  refine rj_sld (vp_in_iff.mpr ⟨by omega, by omega⟩) dL_law_1112 ?_
  refine rj_V2 (ci := 11) cL_136 rfl (by decide) (by first | assumption | rfl) dL_law_1113 (c_X11_lay hC hw) (fitL hk hn (by decide) (by decide)) (Nat.le_of_ble_eq_true rfl) ?_
  rintro v τ ⟨rfl, ⟨fb1, hC1⟩, ho1⟩
  simp only [Option.toList, List.cons_append, List.nil_append]
  have hM1 := mr_sys hM ho1
  refine rj_ald2 dL_law_1116 rfl ?_
  refine rj_ald0 dL_law_1117 rfl ?_
  refine rj_ild3 dL_law_1118 rfl ?_
  refine rj_ic1 dL_law_1119 ?_
  refine rj_iadd dL_law_1120 ?_
  refine rj_sld (vp_in_iff.mpr ⟨by omega, by omega⟩) dL_law_1121 ?_
  refine rj_ald0 dL_law_1122 rfl ?_
  refine rj_ild3 dL_law_1123 rfl ?_
  refine rj_ic2 dL_law_1124 ?_
  refine rj_iadd dL_law_1125 ?_
  refine rj_sld (vp_in_iff.mpr ⟨by omega, by omega⟩) dL_law_1126 ?_
  refine rj_V2 (ci := 12) cL_139 rfl (by decide) (by first | assumption | rfl) dL_law_1127 (c_X12_lay hM1 hw) (fitL hk hn (by decide) (by decide)) (Nat.le_of_ble_eq_true rfl) ?_
  rintro v υ ⟨rfl, hM2, ho2⟩
  simp only [Option.toList, List.cons_append, List.nil_append]
  have hC2 := cr_md hC1 ho2
  refine rj_ic_eq (tgt := 1571) dL_law_1130 (by decide) (fun h_1130 => ?_) (fun h_1130 => ?_)
  · exact hY υ ⟨fb1, _, hC2, hM2, k_lay hw⟩
  · exact absurd rfl h_1130

set_option maxRecDepth 100000 in
theorem lawc_31 {l : Launch} {X : CX} {b L k n i : Nat} {xs : Nat → Int32} {σ : ST} (hk : k ≤ 600000) (hn : n ≤ 7302250) (hL : L ≤ 3072) (hi : i + 6 ≤ L) (hI : LI σ) (hY : ∀ τ, LI τ → RJ (GL l X b L xs k n) X cL_law 4 (some .boolean) RL 1571 [some (.ref b), some (.ref (ad X 0)), some (.ref (ad X 112)), some (.int (nI i))] [] τ) :  RJ (GL l X b L xs k n) X cL_law 4 (some .boolean) RL 1135 [some (.ref b), some (.ref (ad X 0)), some (.ref (ad X 112)), some (.int (nI i))] [] σ := by
  obtain ⟨fb, A, hC, hM, hw⟩ := hI
  have hit : (nI i).toInt = i := nI_t (by omega)
  have q1 : (1 : Int32).toInt = 1 := by decide
  have q2 : (2 : Int32).toInt = 2 := by decide
  have q3 : (3 : Int32).toInt = 3 := by decide
  have q4 : (4 : Int32).toInt = 4 := by decide
  have q5 : (5 : Int32).toInt = 5 := by decide
  have e1 : (nI i + 1).toInt = i + 1 := by rw [i_add (by omega) (by omega), hit, q1]
  have e2 : (nI i + 2).toInt = i + 2 := by rw [i_add (by omega) (by omega), hit, q2]
  have e3 : (nI i + 3).toInt = i + 3 := by rw [i_add (by omega) (by omega), hit, q3]
  have e4 : (nI i + 4).toInt = i + 4 := by rw [i_add (by omega) (by omega), hit, q4]
  have e5 : (nI i + 5).toInt = i + 5 := by rw [i_add (by omega) (by omega), hit, q5]
  refine rj_ald1 dL_law_1135 rfl ?_
  refine rj_ald0 dL_law_1136 rfl ?_
  refine rj_ild3 dL_law_1137 rfl ?_
  refine rj_ic1 dL_law_1138 ?_
  refine rj_iadd dL_law_1139 ?_
  refine rj_sld (vp_in_iff.mpr ⟨by omega, by omega⟩) dL_law_1140 ?_
  refine rj_V1 (ci := 11) cL_140 rfl (by decide) (by first | assumption | rfl) dL_law_1141 (c_X11_seed hC hw) (fitL hk hn (by decide) (by decide)) (Nat.le_of_ble_eq_true rfl) ?_
  rintro v τ ⟨rfl, ⟨fb1, hC1⟩, ho1⟩
  simp only [Option.toList, List.cons_append, List.nil_append]
  have hM1 := mr_sys hM ho1
  refine rj_ald2 dL_law_1144 rfl ?_
  refine rj_ald0 dL_law_1145 rfl ?_
  refine rj_ild3 dL_law_1146 rfl ?_
  refine rj_ic1 dL_law_1147 ?_
  refine rj_iadd dL_law_1148 ?_
  refine rj_sld (vp_in_iff.mpr ⟨by omega, by omega⟩) dL_law_1149 ?_
  refine rj_V1 (ci := 12) cL_143 rfl (by decide) (by first | assumption | rfl) dL_law_1150 (c_X12_seed hM1 hw) (fitL hk hn (by decide) (by decide)) (Nat.le_of_ble_eq_true rfl) ?_
  rintro v υ ⟨rfl, hM2, ho2⟩
  simp only [Option.toList, List.cons_append, List.nil_append]
  have hC2 := cr_md hC1 ho2
  refine rj_ic_eq (tgt := 1571) dL_law_1153 (by decide) (fun h_1153 => ?_) (fun h_1153 => ?_)
  · exact hY υ ⟨fb1, _, hC2, hM2, k_seed hw⟩
  · exact absurd rfl h_1153

set_option maxRecDepth 100000 in
theorem lawc_32 {l : Launch} {X : CX} {b L k n i : Nat} {xs : Nat → Int32} {σ : ST} (hk : k ≤ 600000) (hn : n ≤ 7302250) (hL : L ≤ 3072) (hi : i + 6 ≤ L) (hI : LI σ) (hY : ∀ τ, LI τ → RJ (GL l X b L xs k n) X cL_law 4 (some .boolean) RL 1571 [some (.ref b), some (.ref (ad X 0)), some (.ref (ad X 112)), some (.int (nI i))] [] τ) :  RJ (GL l X b L xs k n) X cL_law 4 (some .boolean) RL 1158 [some (.ref b), some (.ref (ad X 0)), some (.ref (ad X 112)), some (.int (nI i))] [] σ := by
  obtain ⟨fb, A, hC, hM, hw⟩ := hI
  have hit : (nI i).toInt = i := nI_t (by omega)
  have q1 : (1 : Int32).toInt = 1 := by decide
  have q2 : (2 : Int32).toInt = 2 := by decide
  have q3 : (3 : Int32).toInt = 3 := by decide
  have q4 : (4 : Int32).toInt = 4 := by decide
  have q5 : (5 : Int32).toInt = 5 := by decide
  have e1 : (nI i + 1).toInt = i + 1 := by rw [i_add (by omega) (by omega), hit, q1]
  have e2 : (nI i + 2).toInt = i + 2 := by rw [i_add (by omega) (by omega), hit, q2]
  have e3 : (nI i + 3).toInt = i + 3 := by rw [i_add (by omega) (by omega), hit, q3]
  have e4 : (nI i + 4).toInt = i + 4 := by rw [i_add (by omega) (by omega), hit, q4]
  have e5 : (nI i + 5).toInt = i + 5 := by rw [i_add (by omega) (by omega), hit, q5]
  refine rj_ald1 dL_law_1158 rfl ?_
  refine rj_ald0 dL_law_1159 rfl ?_
  refine rj_ild3 dL_law_1160 rfl ?_
  refine rj_ic1 dL_law_1161 ?_
  refine rj_iadd dL_law_1162 ?_
  refine rj_sld (vp_in_iff.mpr ⟨by omega, by omega⟩) dL_law_1163 ?_
  refine rj_ald0 dL_law_1164 rfl ?_
  refine rj_ild3 dL_law_1165 rfl ?_
  refine rj_ic2 dL_law_1166 ?_
  refine rj_iadd dL_law_1167 ?_
  refine rj_sld (vp_in_iff.mpr ⟨by omega, by omega⟩) dL_law_1168 ?_
  refine rj_V2 (ci := 11) cL_144 rfl (by decide) (by first | assumption | rfl) dL_law_1169 (c_X11_feed hC hw) (fitL hk hn (by decide) (by decide)) (Nat.le_of_ble_eq_true rfl) ?_
  rintro v τ ⟨rfl, ⟨fb1, hC1⟩, ho1⟩
  simp only [Option.toList, List.cons_append, List.nil_append]
  have hM1 := mr_sys hM ho1
  refine rj_ald2 dL_law_1172 rfl ?_
  refine rj_ald0 dL_law_1173 rfl ?_
  refine rj_ild3 dL_law_1174 rfl ?_
  refine rj_ic1 dL_law_1175 ?_
  refine rj_iadd dL_law_1176 ?_
  refine rj_sld (vp_in_iff.mpr ⟨by omega, by omega⟩) dL_law_1177 ?_
  refine rj_ald0 dL_law_1178 rfl ?_
  refine rj_ild3 dL_law_1179 rfl ?_
  refine rj_ic2 dL_law_1180 ?_
  refine rj_iadd dL_law_1181 ?_
  refine rj_sld (vp_in_iff.mpr ⟨by omega, by omega⟩) dL_law_1182 ?_
  refine rj_V2 (ci := 12) cL_147 rfl (by decide) (by first | assumption | rfl) dL_law_1183 (c_X12_feed hM1 hw) (fitL hk hn (by decide) (by decide)) (Nat.le_of_ble_eq_true rfl) ?_
  rintro v υ ⟨rfl, hM2, ho2⟩
  simp only [Option.toList, List.cons_append, List.nil_append]
  have hC2 := cr_md hC1 ho2
  refine rj_ic_eq (tgt := 1571) dL_law_1186 (by decide) (fun h_1186 => ?_) (fun h_1186 => ?_)
  · exact hY υ ⟨fb1, _, hC2, hM2, k_feed hw⟩
  · exact absurd rfl h_1186

set_option maxRecDepth 100000 in
theorem lawc_33 {l : Launch} {X : CX} {b L k n i : Nat} {xs : Nat → Int32} {σ : ST} (hk : k ≤ 600000) (hn : n ≤ 7302250) (hL : L ≤ 3072) (hi : i + 6 ≤ L) (hI : LI σ) (hY : ∀ τ, LI τ → RJ (GL l X b L xs k n) X cL_law 4 (some .boolean) RL 1571 [some (.ref b), some (.ref (ad X 0)), some (.ref (ad X 112)), some (.int (nI i))] [] τ) :  RJ (GL l X b L xs k n) X cL_law 4 (some .boolean) RL 1191 [some (.ref b), some (.ref (ad X 0)), some (.ref (ad X 112)), some (.int (nI i))] [] σ := by
  obtain ⟨fb, A, hC, hM, hw⟩ := hI
  have hit : (nI i).toInt = i := nI_t (by omega)
  have q1 : (1 : Int32).toInt = 1 := by decide
  have q2 : (2 : Int32).toInt = 2 := by decide
  have q3 : (3 : Int32).toInt = 3 := by decide
  have q4 : (4 : Int32).toInt = 4 := by decide
  have q5 : (5 : Int32).toInt = 5 := by decide
  have e1 : (nI i + 1).toInt = i + 1 := by rw [i_add (by omega) (by omega), hit, q1]
  have e2 : (nI i + 2).toInt = i + 2 := by rw [i_add (by omega) (by omega), hit, q2]
  have e3 : (nI i + 3).toInt = i + 3 := by rw [i_add (by omega) (by omega), hit, q3]
  have e4 : (nI i + 4).toInt = i + 4 := by rw [i_add (by omega) (by omega), hit, q4]
  have e5 : (nI i + 5).toInt = i + 5 := by rw [i_add (by omega) (by omega), hit, q5]
  refine rj_ald1 dL_law_1191 rfl ?_
  refine rj_V0 (ci := 11) cL_148 rfl (by decide) (by first | assumption | rfl) dL_law_1192 (c_X11_wipe hC hw) (fitL hk hn (by decide) (by decide)) (Nat.le_of_ble_eq_true rfl) ?_
  rintro v τ ⟨rfl, ⟨fb1, hC1⟩, ho1⟩
  simp only [Option.toList, List.cons_append, List.nil_append]
  have hM1 := mr_sys hM ho1
  refine rj_ald2 dL_law_1195 rfl ?_
  refine rj_V0 (ci := 12) cL_152 rfl (by decide) (by first | assumption | rfl) dL_law_1196 (c_X12_wipe hM1 hw) (fitL hk hn (by decide) (by decide)) (Nat.le_of_ble_eq_true rfl) ?_
  rintro v υ ⟨rfl, hM2, ho2⟩
  simp only [Option.toList, List.cons_append, List.nil_append]
  have hC2 := cr_md hC1 ho2
  refine rj_ic_eq (tgt := 1571) dL_law_1199 (by decide) (fun h_1199 => ?_) (fun h_1199 => ?_)
  · exact hY υ ⟨fb1, _, hC2, hM2, k_wipe hw⟩
  · exact absurd rfl h_1199

set_option maxRecDepth 100000 in
theorem lawc_34 {l : Launch} {X : CX} {b L k n i : Nat} {xs : Nat → Int32} {σ : ST} (hk : k ≤ 600000) (hn : n ≤ 7302250) (hL : L ≤ 3072) (hi : i + 6 ≤ L) (hI : LI σ) (hY : ∀ τ, LI τ → RJ (GL l X b L xs k n) X cL_law 4 (some .boolean) RL 1571 [some (.ref b), some (.ref (ad X 0)), some (.ref (ad X 112)), some (.int (nI i))] [] τ) :  RJ (GL l X b L xs k n) X cL_law 4 (some .boolean) RL 1204 [some (.ref b), some (.ref (ad X 0)), some (.ref (ad X 112)), some (.int (nI i))] [] σ := by
  obtain ⟨fb, A, hC, hM, hw⟩ := hI
  have hit : (nI i).toInt = i := nI_t (by omega)
  have q1 : (1 : Int32).toInt = 1 := by decide
  have q2 : (2 : Int32).toInt = 2 := by decide
  have q3 : (3 : Int32).toInt = 3 := by decide
  have q4 : (4 : Int32).toInt = 4 := by decide
  have q5 : (5 : Int32).toInt = 5 := by decide
  have e1 : (nI i + 1).toInt = i + 1 := by rw [i_add (by omega) (by omega), hit, q1]
  have e2 : (nI i + 2).toInt = i + 2 := by rw [i_add (by omega) (by omega), hit, q2]
  have e3 : (nI i + 3).toInt = i + 3 := by rw [i_add (by omega) (by omega), hit, q3]
  have e4 : (nI i + 4).toInt = i + 4 := by rw [i_add (by omega) (by omega), hit, q4]
  have e5 : (nI i + 5).toInt = i + 5 := by rw [i_add (by omega) (by omega), hit, q5]
  refine rj_ald1 dL_law_1204 rfl ?_
  refine rj_V0 (ci := 11) cL_153 rfl (by decide) (by first | assumption | rfl) dL_law_1205 (c_X11_text hC hw) (fitL hk hn (by decide) (by decide)) (Nat.le_of_ble_eq_true rfl) ?_
  rintro v τ ⟨rfl, ⟨fb1, hC1⟩, ho1⟩
  simp only [Option.toList, List.cons_append, List.nil_append]
  have hM1 := mr_sys hM ho1
  refine rj_ald2 dL_law_1208 rfl ?_
  refine rj_V0 (ci := 12) cL_156 rfl (by decide) (by first | assumption | rfl) dL_law_1209 (c_X12_text hM1 hw) (fitL hk hn (by decide) (by decide)) (Nat.le_of_ble_eq_true rfl) ?_
  rintro v υ ⟨rfl, hM2, ho2⟩
  simp only [Option.toList, List.cons_append, List.nil_append]
  have hC2 := cr_md hC1 ho2
  refine rj_ic_eq (tgt := 1571) dL_law_1212 (by decide) (fun h_1212 => ?_) (fun h_1212 => ?_)
  · exact hY υ ⟨fb1, _, hC2, hM2, k_text hw⟩
  · exact absurd rfl h_1212

set_option maxRecDepth 100000 in
theorem lawc_35 {l : Launch} {X : CX} {b L k n i : Nat} {xs : Nat → Int32} {σ : ST} (hk : k ≤ 600000) (hn : n ≤ 7302250) (hL : L ≤ 3072) (hi : i + 6 ≤ L) (hI : LI σ) (hY : ∀ τ, LI τ → RJ (GL l X b L xs k n) X cL_law 4 (some .boolean) RL 1571 [some (.ref b), some (.ref (ad X 0)), some (.ref (ad X 112)), some (.int (nI i))] [] τ) :  RJ (GL l X b L xs k n) X cL_law 4 (some .boolean) RL 1217 [some (.ref b), some (.ref (ad X 0)), some (.ref (ad X 112)), some (.int (nI i))] [] σ := by
  obtain ⟨fb, A, hC, hM, hw⟩ := hI
  have hit : (nI i).toInt = i := nI_t (by omega)
  have q1 : (1 : Int32).toInt = 1 := by decide
  have q2 : (2 : Int32).toInt = 2 := by decide
  have q3 : (3 : Int32).toInt = 3 := by decide
  have q4 : (4 : Int32).toInt = 4 := by decide
  have q5 : (5 : Int32).toInt = 5 := by decide
  have e1 : (nI i + 1).toInt = i + 1 := by rw [i_add (by omega) (by omega), hit, q1]
  have e2 : (nI i + 2).toInt = i + 2 := by rw [i_add (by omega) (by omega), hit, q2]
  have e3 : (nI i + 3).toInt = i + 3 := by rw [i_add (by omega) (by omega), hit, q3]
  have e4 : (nI i + 4).toInt = i + 4 := by rw [i_add (by omega) (by omega), hit, q4]
  have e5 : (nI i + 5).toInt = i + 5 := by rw [i_add (by omega) (by omega), hit, q5]
  refine rj_ald1 dL_law_1217 rfl ?_
  refine rj_ald0 dL_law_1218 rfl ?_
  refine rj_ild3 dL_law_1219 rfl ?_
  refine rj_ic1 dL_law_1220 ?_
  refine rj_iadd dL_law_1221 ?_
  refine rj_sld (vp_in_iff.mpr ⟨by omega, by omega⟩) dL_law_1222 ?_
  refine rj_ald0 dL_law_1223 rfl ?_
  refine rj_ild3 dL_law_1224 rfl ?_
  refine rj_ic2 dL_law_1225 ?_
  refine rj_iadd dL_law_1226 ?_
  refine rj_sld (vp_in_iff.mpr ⟨by omega, by omega⟩) dL_law_1227 ?_
  refine rj_ald0 dL_law_1228 rfl ?_
  refine rj_ild3 dL_law_1229 rfl ?_
  refine rj_ic3 dL_law_1230 ?_
  refine rj_iadd dL_law_1231 ?_
  refine rj_sld (vp_in_iff.mpr ⟨by omega, by omega⟩) dL_law_1232 ?_
  refine rj_V3 (ci := 11) cL_157 rfl (by decide) (by first | assumption | rfl) dL_law_1233 (c_X11_sheet hC hw) (fitL hk hn (by decide) (by decide)) (Nat.le_of_ble_eq_true rfl) ?_
  rintro v τ ⟨rfl, ⟨fb1, hC1⟩, ho1⟩
  simp only [Option.toList, List.cons_append, List.nil_append]
  have hM1 := mr_sys hM ho1
  refine rj_ald2 dL_law_1236 rfl ?_
  refine rj_ald0 dL_law_1237 rfl ?_
  refine rj_ild3 dL_law_1238 rfl ?_
  refine rj_ic1 dL_law_1239 ?_
  refine rj_iadd dL_law_1240 ?_
  refine rj_sld (vp_in_iff.mpr ⟨by omega, by omega⟩) dL_law_1241 ?_
  refine rj_ald0 dL_law_1242 rfl ?_
  refine rj_ild3 dL_law_1243 rfl ?_
  refine rj_ic2 dL_law_1244 ?_
  refine rj_iadd dL_law_1245 ?_
  refine rj_sld (vp_in_iff.mpr ⟨by omega, by omega⟩) dL_law_1246 ?_
  refine rj_ald0 dL_law_1247 rfl ?_
  refine rj_ild3 dL_law_1248 rfl ?_
  refine rj_ic3 dL_law_1249 ?_
  refine rj_iadd dL_law_1250 ?_
  refine rj_sld (vp_in_iff.mpr ⟨by omega, by omega⟩) dL_law_1251 ?_
  refine rj_V3 (ci := 12) cL_160 rfl (by decide) (by first | assumption | rfl) dL_law_1252 (c_X12_sheet hM1 hw) (fitL hk hn (by decide) (by decide)) (Nat.le_of_ble_eq_true rfl) ?_
  rintro v υ ⟨rfl, hM2, ho2⟩
  simp only [Option.toList, List.cons_append, List.nil_append]
  have hC2 := cr_md hC1 ho2
  refine rj_ic_eq (tgt := 1571) dL_law_1255 (by decide) (fun h_1255 => ?_) (fun h_1255 => ?_)
  · exact hY υ ⟨fb1, _, hC2, hM2, k_sheet hw⟩
  · exact absurd rfl h_1255

set_option maxRecDepth 100000 in
theorem lawc_36 {l : Launch} {X : CX} {b L k n i : Nat} {xs : Nat → Int32} {σ : ST} (hk : k ≤ 600000) (hn : n ≤ 7302250) (hL : L ≤ 3072) (hi : i + 6 ≤ L) (hI : LI σ) (hY : ∀ τ, LI τ → RJ (GL l X b L xs k n) X cL_law 4 (some .boolean) RL 1571 [some (.ref b), some (.ref (ad X 0)), some (.ref (ad X 112)), some (.int (nI i))] [] τ) :  RJ (GL l X b L xs k n) X cL_law 4 (some .boolean) RL 1260 [some (.ref b), some (.ref (ad X 0)), some (.ref (ad X 112)), some (.int (nI i))] [] σ := by
  obtain ⟨fb, A, hC, hM, hw⟩ := hI
  have hit : (nI i).toInt = i := nI_t (by omega)
  have q1 : (1 : Int32).toInt = 1 := by decide
  have q2 : (2 : Int32).toInt = 2 := by decide
  have q3 : (3 : Int32).toInt = 3 := by decide
  have q4 : (4 : Int32).toInt = 4 := by decide
  have q5 : (5 : Int32).toInt = 5 := by decide
  have e1 : (nI i + 1).toInt = i + 1 := by rw [i_add (by omega) (by omega), hit, q1]
  have e2 : (nI i + 2).toInt = i + 2 := by rw [i_add (by omega) (by omega), hit, q2]
  have e3 : (nI i + 3).toInt = i + 3 := by rw [i_add (by omega) (by omega), hit, q3]
  have e4 : (nI i + 4).toInt = i + 4 := by rw [i_add (by omega) (by omega), hit, q4]
  have e5 : (nI i + 5).toInt = i + 5 := by rw [i_add (by omega) (by omega), hit, q5]
  refine rj_ald1 dL_law_1260 rfl ?_
  refine rj_ald0 dL_law_1261 rfl ?_
  refine rj_ild3 dL_law_1262 rfl ?_
  refine rj_ic1 dL_law_1263 ?_
  refine rj_iadd dL_law_1264 ?_
  refine rj_sld (vp_in_iff.mpr ⟨by omega, by omega⟩) dL_law_1265 ?_
  refine rj_ald0 dL_law_1266 rfl ?_
  refine rj_ild3 dL_law_1267 rfl ?_
  refine rj_ic2 dL_law_1268 ?_
  refine rj_iadd dL_law_1269 ?_
  refine rj_sld (vp_in_iff.mpr ⟨by omega, by omega⟩) dL_law_1270 ?_
  refine rj_ald0 dL_law_1271 rfl ?_
  refine rj_ild3 dL_law_1272 rfl ?_
  refine rj_ic3 dL_law_1273 ?_
  refine rj_iadd dL_law_1274 ?_
  refine rj_sld (vp_in_iff.mpr ⟨by omega, by omega⟩) dL_law_1275 ?_
  refine rj_i2l dL_law_1276 ?_
  refine rj_bipush (v := 32) dL_law_1277 (by decide) ?_
  refine rj_lshl dL_law_1279 ?_
  refine rj_ald0 dL_law_1280 rfl ?_
  refine rj_ild3 dL_law_1281 rfl ?_
  refine rj_ic4 dL_law_1282 ?_
  refine rj_iadd dL_law_1283 ?_
  refine rj_sld (vp_in_iff.mpr ⟨by omega, by omega⟩) dL_law_1284 ?_
  refine rj_i2l dL_law_1285 ?_
  refine rj_ldc2 kL_161 dL_law_1286 ?_
  refine rj_land dL_law_1289 ?_
  refine rj_lor dL_law_1290 ?_
  refine rj_V3 (ci := 11) cL_163 rfl (by decide) (by first | assumption | rfl) dL_law_1291 (c_X11_write hC hw) (fitL hk hn (by decide) (by decide)) (Nat.le_of_ble_eq_true rfl) ?_
  rintro v τ ⟨rfl, ⟨fb1, hC1⟩, ho1⟩
  simp only [Option.toList, List.cons_append, List.nil_append]
  have hM1 := mr_sys hM ho1
  refine rj_ald2 dL_law_1294 rfl ?_
  refine rj_ald0 dL_law_1295 rfl ?_
  refine rj_ild3 dL_law_1296 rfl ?_
  refine rj_ic1 dL_law_1297 ?_
  refine rj_iadd dL_law_1298 ?_
  refine rj_sld (vp_in_iff.mpr ⟨by omega, by omega⟩) dL_law_1299 ?_
  refine rj_ald0 dL_law_1300 rfl ?_
  refine rj_ild3 dL_law_1301 rfl ?_
  refine rj_ic2 dL_law_1302 ?_
  refine rj_iadd dL_law_1303 ?_
  refine rj_sld (vp_in_iff.mpr ⟨by omega, by omega⟩) dL_law_1304 ?_
  refine rj_ald0 dL_law_1305 rfl ?_
  refine rj_ild3 dL_law_1306 rfl ?_
  refine rj_ic3 dL_law_1307 ?_
  refine rj_iadd dL_law_1308 ?_
  refine rj_sld (vp_in_iff.mpr ⟨by omega, by omega⟩) dL_law_1309 ?_
  refine rj_i2l dL_law_1310 ?_
  refine rj_bipush (v := 32) dL_law_1311 (by decide) ?_
  refine rj_lshl dL_law_1313 ?_
  refine rj_ald0 dL_law_1314 rfl ?_
  refine rj_ild3 dL_law_1315 rfl ?_
  refine rj_ic4 dL_law_1316 ?_
  refine rj_iadd dL_law_1317 ?_
  refine rj_sld (vp_in_iff.mpr ⟨by omega, by omega⟩) dL_law_1318 ?_
  refine rj_i2l dL_law_1319 ?_
  refine rj_ldc2 kL_161 dL_law_1320 ?_
  refine rj_land dL_law_1323 ?_
  refine rj_lor dL_law_1324 ?_
  refine rj_V3 (ci := 12) cL_167 rfl (by decide) (by first | assumption | rfl) dL_law_1325 (c_X12_write hM1 hw) (fitL hk hn (by decide) (by decide)) (Nat.le_of_ble_eq_true rfl) ?_
  rintro v υ ⟨rfl, hM2, ho2⟩
  simp only [Option.toList, List.cons_append, List.nil_append]
  have hC2 := cr_md hC1 ho2
  refine rj_lcmp dL_law_1328 ?_
  refine rj_if_eq (tgt := 1571) dL_law_1329 (by decide) (fun h_1329 => ?_) (fun h_1329 => ?_)
  · exact hY υ ⟨fb1, _, hC2, hM2, k_write hw⟩
  · exact absurd (lcm_0.mpr rfl) h_1329

set_option maxRecDepth 100000 in
theorem lawc_37 {l : Launch} {X : CX} {b L k n i : Nat} {xs : Nat → Int32} {σ : ST} (hk : k ≤ 600000) (hn : n ≤ 7302250) (hL : L ≤ 3072) (hi : i + 6 ≤ L) (hI : LI σ) (hY : ∀ τ, LI τ → RJ (GL l X b L xs k n) X cL_law 4 (some .boolean) RL 1571 [some (.ref b), some (.ref (ad X 0)), some (.ref (ad X 112)), some (.int (nI i))] [] τ) :  RJ (GL l X b L xs k n) X cL_law 4 (some .boolean) RL 1334 [some (.ref b), some (.ref (ad X 0)), some (.ref (ad X 112)), some (.int (nI i))] [] σ := by
  obtain ⟨fb, A, hC, hM, hw⟩ := hI
  have hit : (nI i).toInt = i := nI_t (by omega)
  have q1 : (1 : Int32).toInt = 1 := by decide
  have q2 : (2 : Int32).toInt = 2 := by decide
  have q3 : (3 : Int32).toInt = 3 := by decide
  have q4 : (4 : Int32).toInt = 4 := by decide
  have q5 : (5 : Int32).toInt = 5 := by decide
  have e1 : (nI i + 1).toInt = i + 1 := by rw [i_add (by omega) (by omega), hit, q1]
  have e2 : (nI i + 2).toInt = i + 2 := by rw [i_add (by omega) (by omega), hit, q2]
  have e3 : (nI i + 3).toInt = i + 3 := by rw [i_add (by omega) (by omega), hit, q3]
  have e4 : (nI i + 4).toInt = i + 4 := by rw [i_add (by omega) (by omega), hit, q4]
  have e5 : (nI i + 5).toInt = i + 5 := by rw [i_add (by omega) (by omega), hit, q5]
  refine rj_ald1 dL_law_1334 rfl ?_
  refine rj_ald0 dL_law_1335 rfl ?_
  refine rj_ild3 dL_law_1336 rfl ?_
  refine rj_ic1 dL_law_1337 ?_
  refine rj_iadd dL_law_1338 ?_
  refine rj_sld (vp_in_iff.mpr ⟨by omega, by omega⟩) dL_law_1339 ?_
  refine rj_ald0 dL_law_1340 rfl ?_
  refine rj_ild3 dL_law_1341 rfl ?_
  refine rj_ic2 dL_law_1342 ?_
  refine rj_iadd dL_law_1343 ?_
  refine rj_sld (vp_in_iff.mpr ⟨by omega, by omega⟩) dL_law_1344 ?_
  refine rj_ald0 dL_law_1345 rfl ?_
  refine rj_ild3 dL_law_1346 rfl ?_
  refine rj_ic3 dL_law_1347 ?_
  refine rj_iadd dL_law_1348 ?_
  refine rj_sld (vp_in_iff.mpr ⟨by omega, by omega⟩) dL_law_1349 ?_
  refine rj_ald0 dL_law_1350 rfl ?_
  refine rj_ild3 dL_law_1351 rfl ?_
  refine rj_ic4 dL_law_1352 ?_
  refine rj_iadd dL_law_1353 ?_
  refine rj_sld (vp_in_iff.mpr ⟨by omega, by omega⟩) dL_law_1354 ?_
  refine rj_ald0 dL_law_1355 rfl ?_
  refine rj_ild3 dL_law_1356 rfl ?_
  refine rj_ic5 dL_law_1357 ?_
  refine rj_iadd dL_law_1358 ?_
  refine rj_sld (vp_in_iff.mpr ⟨by omega, by omega⟩) dL_law_1359 ?_
  refine rj_V5 (ci := 11) cL_168 rfl (by decide) (by first | assumption | rfl) dL_law_1360 (c_X11_copy hC hw) (fitL hk hn (by decide) (by decide)) (Nat.le_of_ble_eq_true rfl) ?_
  rintro v τ ⟨rfl, ⟨fb1, hC1⟩, ho1⟩
  simp only [Option.toList, List.cons_append, List.nil_append]
  have hM1 := mr_sys hM ho1
  refine rj_ald2 dL_law_1363 rfl ?_
  refine rj_ald0 dL_law_1364 rfl ?_
  refine rj_ild3 dL_law_1365 rfl ?_
  refine rj_ic1 dL_law_1366 ?_
  refine rj_iadd dL_law_1367 ?_
  refine rj_sld (vp_in_iff.mpr ⟨by omega, by omega⟩) dL_law_1368 ?_
  refine rj_ald0 dL_law_1369 rfl ?_
  refine rj_ild3 dL_law_1370 rfl ?_
  refine rj_ic2 dL_law_1371 ?_
  refine rj_iadd dL_law_1372 ?_
  refine rj_sld (vp_in_iff.mpr ⟨by omega, by omega⟩) dL_law_1373 ?_
  refine rj_ald0 dL_law_1374 rfl ?_
  refine rj_ild3 dL_law_1375 rfl ?_
  refine rj_ic3 dL_law_1376 ?_
  refine rj_iadd dL_law_1377 ?_
  refine rj_sld (vp_in_iff.mpr ⟨by omega, by omega⟩) dL_law_1378 ?_
  refine rj_ald0 dL_law_1379 rfl ?_
  refine rj_ild3 dL_law_1380 rfl ?_
  refine rj_ic4 dL_law_1381 ?_
  refine rj_iadd dL_law_1382 ?_
  refine rj_sld (vp_in_iff.mpr ⟨by omega, by omega⟩) dL_law_1383 ?_
  refine rj_ald0 dL_law_1384 rfl ?_
  refine rj_ild3 dL_law_1385 rfl ?_
  refine rj_ic5 dL_law_1386 ?_
  refine rj_iadd dL_law_1387 ?_
  refine rj_sld (vp_in_iff.mpr ⟨by omega, by omega⟩) dL_law_1388 ?_
  refine rj_V5 (ci := 12) cL_172 rfl (by decide) (by first | assumption | rfl) dL_law_1389 (c_X12_copy hM1 hw) (fitL hk hn (by decide) (by decide)) (Nat.le_of_ble_eq_true rfl) ?_
  rintro v υ ⟨rfl, hM2, ho2⟩
  simp only [Option.toList, List.cons_append, List.nil_append]
  have hC2 := cr_md hC1 ho2
  refine rj_ic_eq (tgt := 1571) dL_law_1392 (by decide) (fun h_1392 => ?_) (fun h_1392 => ?_)
  · exact hY υ ⟨fb1, _, hC2, hM2, k_copy hw⟩
  · exact absurd rfl h_1392

set_option maxRecDepth 100000 in
theorem lawc_38 {l : Launch} {X : CX} {b L k n i : Nat} {xs : Nat → Int32} {σ : ST} (hk : k ≤ 600000) (hn : n ≤ 7302250) (hL : L ≤ 3072) (hi : i + 6 ≤ L) (hI : LI σ) (hY : ∀ τ, LI τ → RJ (GL l X b L xs k n) X cL_law 4 (some .boolean) RL 1571 [some (.ref b), some (.ref (ad X 0)), some (.ref (ad X 112)), some (.int (nI i))] [] τ) :  RJ (GL l X b L xs k n) X cL_law 4 (some .boolean) RL 1397 [some (.ref b), some (.ref (ad X 0)), some (.ref (ad X 112)), some (.int (nI i))] [] σ := by
  obtain ⟨fb, A, hC, hM, hw⟩ := hI
  have hit : (nI i).toInt = i := nI_t (by omega)
  have q1 : (1 : Int32).toInt = 1 := by decide
  have q2 : (2 : Int32).toInt = 2 := by decide
  have q3 : (3 : Int32).toInt = 3 := by decide
  have q4 : (4 : Int32).toInt = 4 := by decide
  have q5 : (5 : Int32).toInt = 5 := by decide
  have e1 : (nI i + 1).toInt = i + 1 := by rw [i_add (by omega) (by omega), hit, q1]
  have e2 : (nI i + 2).toInt = i + 2 := by rw [i_add (by omega) (by omega), hit, q2]
  have e3 : (nI i + 3).toInt = i + 3 := by rw [i_add (by omega) (by omega), hit, q3]
  have e4 : (nI i + 4).toInt = i + 4 := by rw [i_add (by omega) (by omega), hit, q4]
  have e5 : (nI i + 5).toInt = i + 5 := by rw [i_add (by omega) (by omega), hit, q5]
  refine rj_ald1 dL_law_1397 rfl ?_
  refine rj_ald0 dL_law_1398 rfl ?_
  refine rj_ild3 dL_law_1399 rfl ?_
  refine rj_ic1 dL_law_1400 ?_
  refine rj_iadd dL_law_1401 ?_
  refine rj_sld (vp_in_iff.mpr ⟨by omega, by omega⟩) dL_law_1402 ?_
  refine rj_ald0 dL_law_1403 rfl ?_
  refine rj_ild3 dL_law_1404 rfl ?_
  refine rj_ic2 dL_law_1405 ?_
  refine rj_iadd dL_law_1406 ?_
  refine rj_sld (vp_in_iff.mpr ⟨by omega, by omega⟩) dL_law_1407 ?_
  refine rj_V2 (ci := 11) cL_173 rfl (by decide) (by first | assumption | rfl) dL_law_1408 (c_X11_load hC hw) (fitL hk hn (by decide) (by decide)) (Nat.le_of_ble_eq_true rfl) ?_
  rintro v τ ⟨rfl, ⟨fb1, hC1⟩, ho1⟩
  simp only [Option.toList, List.cons_append, List.nil_append]
  have hM1 := mr_sys hM ho1
  refine rj_ald2 dL_law_1411 rfl ?_
  refine rj_ald0 dL_law_1412 rfl ?_
  refine rj_ild3 dL_law_1413 rfl ?_
  refine rj_ic1 dL_law_1414 ?_
  refine rj_iadd dL_law_1415 ?_
  refine rj_sld (vp_in_iff.mpr ⟨by omega, by omega⟩) dL_law_1416 ?_
  refine rj_ald0 dL_law_1417 rfl ?_
  refine rj_ild3 dL_law_1418 rfl ?_
  refine rj_ic2 dL_law_1419 ?_
  refine rj_iadd dL_law_1420 ?_
  refine rj_sld (vp_in_iff.mpr ⟨by omega, by omega⟩) dL_law_1421 ?_
  refine rj_V2 (ci := 12) cL_176 rfl (by decide) (by first | assumption | rfl) dL_law_1422 (c_X12_load hM1 hw) (fitL hk hn (by decide) (by decide)) (Nat.le_of_ble_eq_true rfl) ?_
  rintro v υ ⟨rfl, hM2, ho2⟩
  simp only [Option.toList, List.cons_append, List.nil_append]
  have hC2 := cr_md hC1 ho2
  refine rj_ic_eq (tgt := 1571) dL_law_1425 (by decide) (fun h_1425 => ?_) (fun h_1425 => ?_)
  · exact hY υ ⟨fb1, _, hC2, hM2, k_load hw⟩
  · exact absurd rfl h_1425

set_option maxRecDepth 100000 in
theorem lawc_39 {l : Launch} {X : CX} {b L k n i : Nat} {xs : Nat → Int32} {σ : ST} (hk : k ≤ 600000) (hn : n ≤ 7302250) (hL : L ≤ 3072) (hi : i + 6 ≤ L) (hI : LI σ) (hY : ∀ τ, LI τ → RJ (GL l X b L xs k n) X cL_law 4 (some .boolean) RL 1571 [some (.ref b), some (.ref (ad X 0)), some (.ref (ad X 112)), some (.int (nI i))] [] τ) :  RJ (GL l X b L xs k n) X cL_law 4 (some .boolean) RL 1430 [some (.ref b), some (.ref (ad X 0)), some (.ref (ad X 112)), some (.int (nI i))] [] σ := by
  obtain ⟨fb, A, hC, hM, hw⟩ := hI
  have hit : (nI i).toInt = i := nI_t (by omega)
  have q1 : (1 : Int32).toInt = 1 := by decide
  have q2 : (2 : Int32).toInt = 2 := by decide
  have q3 : (3 : Int32).toInt = 3 := by decide
  have q4 : (4 : Int32).toInt = 4 := by decide
  have q5 : (5 : Int32).toInt = 5 := by decide
  have e1 : (nI i + 1).toInt = i + 1 := by rw [i_add (by omega) (by omega), hit, q1]
  have e2 : (nI i + 2).toInt = i + 2 := by rw [i_add (by omega) (by omega), hit, q2]
  have e3 : (nI i + 3).toInt = i + 3 := by rw [i_add (by omega) (by omega), hit, q3]
  have e4 : (nI i + 4).toInt = i + 4 := by rw [i_add (by omega) (by omega), hit, q4]
  have e5 : (nI i + 5).toInt = i + 5 := by rw [i_add (by omega) (by omega), hit, q5]
  refine rj_ald1 dL_law_1430 rfl ?_
  refine rj_ald0 dL_law_1431 rfl ?_
  refine rj_ild3 dL_law_1432 rfl ?_
  refine rj_ic1 dL_law_1433 ?_
  refine rj_iadd dL_law_1434 ?_
  refine rj_sld (vp_in_iff.mpr ⟨by omega, by omega⟩) dL_law_1435 ?_
  refine rj_ald0 dL_law_1436 rfl ?_
  refine rj_ild3 dL_law_1437 rfl ?_
  refine rj_ic2 dL_law_1438 ?_
  refine rj_iadd dL_law_1439 ?_
  refine rj_sld (vp_in_iff.mpr ⟨by omega, by omega⟩) dL_law_1440 ?_
  refine rj_V2 (ci := 11) cL_177 rfl (by decide) (by first | assumption | rfl) dL_law_1441 (c_X11_show hC hw) (fitL hk hn (by decide) (by decide)) (Nat.le_of_ble_eq_true rfl) ?_
  rintro v τ ⟨rfl, ⟨fb1, hC1⟩, ho1⟩
  simp only [Option.toList, List.cons_append, List.nil_append]
  have hM1 := mr_sys hM ho1
  refine rj_ald2 dL_law_1444 rfl ?_
  refine rj_ald0 dL_law_1445 rfl ?_
  refine rj_ild3 dL_law_1446 rfl ?_
  refine rj_ic1 dL_law_1447 ?_
  refine rj_iadd dL_law_1448 ?_
  refine rj_sld (vp_in_iff.mpr ⟨by omega, by omega⟩) dL_law_1449 ?_
  refine rj_ald0 dL_law_1450 rfl ?_
  refine rj_ild3 dL_law_1451 rfl ?_
  refine rj_ic2 dL_law_1452 ?_
  refine rj_iadd dL_law_1453 ?_
  refine rj_sld (vp_in_iff.mpr ⟨by omega, by omega⟩) dL_law_1454 ?_
  refine rj_V2 (ci := 12) cL_180 rfl (by decide) (by first | assumption | rfl) dL_law_1455 (c_X12_show hM1 hw) (fitL hk hn (by decide) (by decide)) (Nat.le_of_ble_eq_true rfl) ?_
  rintro v υ ⟨rfl, hM2, ho2⟩
  simp only [Option.toList, List.cons_append, List.nil_append]
  have hC2 := cr_md hC1 ho2
  refine rj_ic_eq (tgt := 1571) dL_law_1458 (by decide) (fun h_1458 => ?_) (fun h_1458 => ?_)
  · exact hY υ ⟨fb1, _, hC2, hM2, k_show hw⟩
  · exact absurd rfl h_1458

set_option maxRecDepth 100000 in
theorem lawc_40 {l : Launch} {X : CX} {b L k n i : Nat} {xs : Nat → Int32} {σ : ST} (hk : k ≤ 600000) (hn : n ≤ 7302250) (hL : L ≤ 3072) (hi : i + 6 ≤ L) (hI : LI σ) (hY : ∀ τ, LI τ → RJ (GL l X b L xs k n) X cL_law 4 (some .boolean) RL 1571 [some (.ref b), some (.ref (ad X 0)), some (.ref (ad X 112)), some (.int (nI i))] [] τ) :  RJ (GL l X b L xs k n) X cL_law 4 (some .boolean) RL 1463 [some (.ref b), some (.ref (ad X 0)), some (.ref (ad X 112)), some (.int (nI i))] [] σ := by
  obtain ⟨fb, A, hC, hM, hw⟩ := hI
  have hit : (nI i).toInt = i := nI_t (by omega)
  have q1 : (1 : Int32).toInt = 1 := by decide
  have q2 : (2 : Int32).toInt = 2 := by decide
  have q3 : (3 : Int32).toInt = 3 := by decide
  have q4 : (4 : Int32).toInt = 4 := by decide
  have q5 : (5 : Int32).toInt = 5 := by decide
  have e1 : (nI i + 1).toInt = i + 1 := by rw [i_add (by omega) (by omega), hit, q1]
  have e2 : (nI i + 2).toInt = i + 2 := by rw [i_add (by omega) (by omega), hit, q2]
  have e3 : (nI i + 3).toInt = i + 3 := by rw [i_add (by omega) (by omega), hit, q3]
  have e4 : (nI i + 4).toInt = i + 4 := by rw [i_add (by omega) (by omega), hit, q4]
  have e5 : (nI i + 5).toInt = i + 5 := by rw [i_add (by omega) (by omega), hit, q5]
  refine rj_ald1 dL_law_1463 rfl ?_
  refine rj_ald0 dL_law_1464 rfl ?_
  refine rj_ild3 dL_law_1465 rfl ?_
  refine rj_ic1 dL_law_1466 ?_
  refine rj_iadd dL_law_1467 ?_
  refine rj_sld (vp_in_iff.mpr ⟨by omega, by omega⟩) dL_law_1468 ?_
  refine rj_V1 (ci := 11) cL_181 rfl (by decide) (by first | assumption | rfl) dL_law_1469 (c_X11_read hC hw) (fitL hk hn (by decide) (by decide)) (Nat.le_of_ble_eq_true rfl) ?_
  rintro v τ ⟨rfl, ⟨fb1, hC1⟩, ho1⟩
  simp only [Option.toList, List.cons_append, List.nil_append]
  have hM1 := mr_sys hM ho1
  refine rj_ald2 dL_law_1472 rfl ?_
  refine rj_ald0 dL_law_1473 rfl ?_
  refine rj_ild3 dL_law_1474 rfl ?_
  refine rj_ic1 dL_law_1475 ?_
  refine rj_iadd dL_law_1476 ?_
  refine rj_sld (vp_in_iff.mpr ⟨by omega, by omega⟩) dL_law_1477 ?_
  refine rj_V1 (ci := 12) cL_184 rfl (by decide) (by first | assumption | rfl) dL_law_1478 (c_X12_read hM1 hw) (fitL hk hn (by decide) (by decide)) (Nat.le_of_ble_eq_true rfl) ?_
  rintro v υ ⟨rfl, hM2, ho2⟩
  simp only [Option.toList, List.cons_append, List.nil_append]
  have hC2 := cr_md hC1 ho2
  refine rj_ic_eq (tgt := 1571) dL_law_1481 (by decide) (fun h_1481 => ?_) (fun h_1481 => ?_)
  · exact hY υ ⟨fb1, _, hC2, hM2, k_read hw⟩
  · exact absurd rfl h_1481

set_option maxRecDepth 100000 in
theorem lawc_41 {l : Launch} {X : CX} {b L k n i : Nat} {xs : Nat → Int32} {σ : ST} (hk : k ≤ 600000) (hn : n ≤ 7302250) (hL : L ≤ 3072) (hi : i + 6 ≤ L) (hI : LI σ) (hY : ∀ τ, LI τ → RJ (GL l X b L xs k n) X cL_law 4 (some .boolean) RL 1571 [some (.ref b), some (.ref (ad X 0)), some (.ref (ad X 112)), some (.int (nI i))] [] τ) :  RJ (GL l X b L xs k n) X cL_law 4 (some .boolean) RL 1486 [some (.ref b), some (.ref (ad X 0)), some (.ref (ad X 112)), some (.int (nI i))] [] σ := by
  obtain ⟨fb, A, hC, hM, hw⟩ := hI
  have hit : (nI i).toInt = i := nI_t (by omega)
  have q1 : (1 : Int32).toInt = 1 := by decide
  have q2 : (2 : Int32).toInt = 2 := by decide
  have q3 : (3 : Int32).toInt = 3 := by decide
  have q4 : (4 : Int32).toInt = 4 := by decide
  have q5 : (5 : Int32).toInt = 5 := by decide
  have e1 : (nI i + 1).toInt = i + 1 := by rw [i_add (by omega) (by omega), hit, q1]
  have e2 : (nI i + 2).toInt = i + 2 := by rw [i_add (by omega) (by omega), hit, q2]
  have e3 : (nI i + 3).toInt = i + 3 := by rw [i_add (by omega) (by omega), hit, q3]
  have e4 : (nI i + 4).toInt = i + 4 := by rw [i_add (by omega) (by omega), hit, q4]
  have e5 : (nI i + 5).toInt = i + 5 := by rw [i_add (by omega) (by omega), hit, q5]
  refine rj_ald1 dL_law_1486 rfl ?_
  refine rj_V0 (ci := 11) cL_185 rfl (by decide) (by first | assumption | rfl) dL_law_1487 (c_X11_image hC hw) (fitL hk hn (by decide) (by decide)) (Nat.le_of_ble_eq_true rfl) ?_
  rintro v τ ⟨rfl, ⟨fb1, hC1⟩, ho1⟩
  simp only [Option.toList, List.cons_append, List.nil_append]
  have hM1 := mr_sys hM ho1
  refine rj_ald2 dL_law_1490 rfl ?_
  refine rj_V0 (ci := 12) cL_188 rfl (by decide) (by first | assumption | rfl) dL_law_1491 (c_X12_image hM1 hw) (fitL hk hn (by decide) (by decide)) (Nat.le_of_ble_eq_true rfl) ?_
  rintro v υ ⟨rfl, hM2, ho2⟩
  simp only [Option.toList, List.cons_append, List.nil_append]
  have hC2 := cr_md hC1 ho2
  refine rj_ic_eq (tgt := 1571) dL_law_1494 (by decide) (fun h_1494 => ?_) (fun h_1494 => ?_)
  · exact hY υ ⟨fb1, _, hC2, hM2, k_image hw⟩
  · exact absurd rfl h_1494

set_option maxRecDepth 100000 in
theorem lawc_42 {l : Launch} {X : CX} {b L k n i : Nat} {xs : Nat → Int32} {σ : ST} (hk : k ≤ 600000) (hn : n ≤ 7302250) (hL : L ≤ 3072) (hi : i + 6 ≤ L) (hI : LI σ) (hY : ∀ τ, LI τ → RJ (GL l X b L xs k n) X cL_law 4 (some .boolean) RL 1571 [some (.ref b), some (.ref (ad X 0)), some (.ref (ad X 112)), some (.int (nI i))] [] τ) :  RJ (GL l X b L xs k n) X cL_law 4 (some .boolean) RL 1499 [some (.ref b), some (.ref (ad X 0)), some (.ref (ad X 112)), some (.int (nI i))] [] σ := by
  obtain ⟨fb, A, hC, hM, hw⟩ := hI
  have hit : (nI i).toInt = i := nI_t (by omega)
  have q1 : (1 : Int32).toInt = 1 := by decide
  have q2 : (2 : Int32).toInt = 2 := by decide
  have q3 : (3 : Int32).toInt = 3 := by decide
  have q4 : (4 : Int32).toInt = 4 := by decide
  have q5 : (5 : Int32).toInt = 5 := by decide
  have e1 : (nI i + 1).toInt = i + 1 := by rw [i_add (by omega) (by omega), hit, q1]
  have e2 : (nI i + 2).toInt = i + 2 := by rw [i_add (by omega) (by omega), hit, q2]
  have e3 : (nI i + 3).toInt = i + 3 := by rw [i_add (by omega) (by omega), hit, q3]
  have e4 : (nI i + 4).toInt = i + 4 := by rw [i_add (by omega) (by omega), hit, q4]
  have e5 : (nI i + 5).toInt = i + 5 := by rw [i_add (by omega) (by omega), hit, q5]
  refine rj_ald1 dL_law_1499 rfl ?_
  refine rj_V0 (ci := 11) cL_189 rfl (by decide) (by first | assumption | rfl) dL_law_1500 (c_X11_undo hC hw) (fitL hk hn (by decide) (by decide)) (Nat.le_of_ble_eq_true rfl) ?_
  rintro v τ ⟨rfl, ⟨fb1, hC1⟩, ho1⟩
  simp only [Option.toList, List.cons_append, List.nil_append]
  have hM1 := mr_sys hM ho1
  refine rj_ald2 dL_law_1503 rfl ?_
  refine rj_V0 (ci := 12) cL_192 rfl (by decide) (by first | assumption | rfl) dL_law_1504 (c_X12_undo hM1 hw) (fitL hk hn (by decide) (by decide)) (Nat.le_of_ble_eq_true rfl) ?_
  rintro v υ ⟨rfl, hM2, ho2⟩
  simp only [Option.toList, List.cons_append, List.nil_append]
  have hC2 := cr_md hC1 ho2
  refine rj_ic_eq (tgt := 1571) dL_law_1507 (by decide) (fun h_1507 => ?_) (fun h_1507 => ?_)
  · exact hY υ ⟨fb1, _, hC2, hM2, k_undo hw⟩
  · exact absurd rfl h_1507

set_option maxRecDepth 100000 in
theorem lawc_43 {l : Launch} {X : CX} {b L k n i : Nat} {xs : Nat → Int32} {σ : ST} (hk : k ≤ 600000) (hn : n ≤ 7302250) (hL : L ≤ 3072) (hi : i + 6 ≤ L) (hI : LI σ) (hY : ∀ τ, LI τ → RJ (GL l X b L xs k n) X cL_law 4 (some .boolean) RL 1571 [some (.ref b), some (.ref (ad X 0)), some (.ref (ad X 112)), some (.int (nI i))] [] τ) :  RJ (GL l X b L xs k n) X cL_law 4 (some .boolean) RL 1512 [some (.ref b), some (.ref (ad X 0)), some (.ref (ad X 112)), some (.int (nI i))] [] σ := by
  obtain ⟨fb, A, hC, hM, hw⟩ := hI
  have hit : (nI i).toInt = i := nI_t (by omega)
  have q1 : (1 : Int32).toInt = 1 := by decide
  have q2 : (2 : Int32).toInt = 2 := by decide
  have q3 : (3 : Int32).toInt = 3 := by decide
  have q4 : (4 : Int32).toInt = 4 := by decide
  have q5 : (5 : Int32).toInt = 5 := by decide
  have e1 : (nI i + 1).toInt = i + 1 := by rw [i_add (by omega) (by omega), hit, q1]
  have e2 : (nI i + 2).toInt = i + 2 := by rw [i_add (by omega) (by omega), hit, q2]
  have e3 : (nI i + 3).toInt = i + 3 := by rw [i_add (by omega) (by omega), hit, q3]
  have e4 : (nI i + 4).toInt = i + 4 := by rw [i_add (by omega) (by omega), hit, q4]
  have e5 : (nI i + 5).toInt = i + 5 := by rw [i_add (by omega) (by omega), hit, q5]
  refine rj_ald1 dL_law_1512 rfl ?_
  refine rj_V0 (ci := 11) cL_193 rfl (by decide) (by first | assumption | rfl) dL_law_1513 (c_X11_tear hC hw) (fitL hk hn (by decide) (by decide)) (Nat.le_of_ble_eq_true rfl) ?_
  rintro v τ ⟨rfl, ⟨fb1, hC1⟩, ho1⟩
  simp only [Option.toList, List.cons_append, List.nil_append]
  have hM1 := mr_sys hM ho1
  refine rj_ald2 dL_law_1516 rfl ?_
  refine rj_V0 (ci := 12) cL_196 rfl (by decide) (by first | assumption | rfl) dL_law_1517 (c_X12_tear hM1 hw) (fitL hk hn (by decide) (by decide)) (Nat.le_of_ble_eq_true rfl) ?_
  rintro v υ ⟨rfl, hM2, ho2⟩
  simp only [Option.toList, List.cons_append, List.nil_append]
  have hC2 := cr_md hC1 ho2
  refine rj_ic_eq (tgt := 1571) dL_law_1520 (by decide) (fun h_1520 => ?_) (fun h_1520 => ?_)
  · exact hY υ ⟨fb1, _, hC2, hM2, k_tear hw⟩
  · exact absurd rfl h_1520

set_option maxRecDepth 100000 in
theorem lawc_44 {l : Launch} {X : CX} {b L k n i : Nat} {xs : Nat → Int32} {σ : ST} (hk : k ≤ 600000) (hn : n ≤ 7302250) (hL : L ≤ 3072) (hi : i + 6 ≤ L) (hI : LI σ) (hY : ∀ τ, LI τ → RJ (GL l X b L xs k n) X cL_law 4 (some .boolean) RL 1571 [some (.ref b), some (.ref (ad X 0)), some (.ref (ad X 112)), some (.int (nI i))] [] τ) :  RJ (GL l X b L xs k n) X cL_law 4 (some .boolean) RL 1525 [some (.ref b), some (.ref (ad X 0)), some (.ref (ad X 112)), some (.int (nI i))] [] σ := by
  obtain ⟨fb, A, hC, hM, hw⟩ := hI
  have hit : (nI i).toInt = i := nI_t (by omega)
  have q1 : (1 : Int32).toInt = 1 := by decide
  have q2 : (2 : Int32).toInt = 2 := by decide
  have q3 : (3 : Int32).toInt = 3 := by decide
  have q4 : (4 : Int32).toInt = 4 := by decide
  have q5 : (5 : Int32).toInt = 5 := by decide
  have e1 : (nI i + 1).toInt = i + 1 := by rw [i_add (by omega) (by omega), hit, q1]
  have e2 : (nI i + 2).toInt = i + 2 := by rw [i_add (by omega) (by omega), hit, q2]
  have e3 : (nI i + 3).toInt = i + 3 := by rw [i_add (by omega) (by omega), hit, q3]
  have e4 : (nI i + 4).toInt = i + 4 := by rw [i_add (by omega) (by omega), hit, q4]
  have e5 : (nI i + 5).toInt = i + 5 := by rw [i_add (by omega) (by omega), hit, q5]
  refine rj_ald1 dL_law_1525 rfl ?_
  refine rj_ald0 dL_law_1526 rfl ?_
  refine rj_ild3 dL_law_1527 rfl ?_
  refine rj_ic1 dL_law_1528 ?_
  refine rj_iadd dL_law_1529 ?_
  refine rj_sld (vp_in_iff.mpr ⟨by omega, by omega⟩) dL_law_1530 ?_
  refine rj_V1 (ci := 11) cL_197 rfl (by decide) (by first | assumption | rfl) dL_law_1531 (c_X11_count hC hw) (fitL hk hn (by decide) (by decide)) (Nat.le_of_ble_eq_true rfl) ?_
  rintro v τ ⟨rfl, ⟨fb1, hC1⟩, ho1⟩
  simp only [Option.toList, List.cons_append, List.nil_append]
  have hM1 := mr_sys hM ho1
  refine rj_ald2 dL_law_1534 rfl ?_
  refine rj_ald0 dL_law_1535 rfl ?_
  refine rj_ild3 dL_law_1536 rfl ?_
  refine rj_ic1 dL_law_1537 ?_
  refine rj_iadd dL_law_1538 ?_
  refine rj_sld (vp_in_iff.mpr ⟨by omega, by omega⟩) dL_law_1539 ?_
  refine rj_V1 (ci := 12) cL_200 rfl (by decide) (by first | assumption | rfl) dL_law_1540 (c_X12_count hM1 hw) (fitL hk hn (by decide) (by decide)) (Nat.le_of_ble_eq_true rfl) ?_
  rintro v υ ⟨rfl, hM2, ho2⟩
  simp only [Option.toList, List.cons_append, List.nil_append]
  have hC2 := cr_md hC1 ho2
  refine rj_ic_eq (tgt := 1571) dL_law_1543 (by decide) (fun h_1543 => ?_) (fun h_1543 => ?_)
  · exact hY υ ⟨fb1, _, hC2, hM2, k_count hw⟩
  · exact absurd rfl h_1543

set_option maxRecDepth 100000 in
theorem lawc_45 {l : Launch} {X : CX} {b L k n i : Nat} {xs : Nat → Int32} {σ : ST} (hk : k ≤ 600000) (hn : n ≤ 7302250) (hL : L ≤ 3072) (hi : i + 6 ≤ L) (hI : LI σ) (hY : ∀ τ, LI τ → RJ (GL l X b L xs k n) X cL_law 4 (some .boolean) RL 1571 [some (.ref b), some (.ref (ad X 0)), some (.ref (ad X 112)), some (.int (nI i))] [] τ) :  RJ (GL l X b L xs k n) X cL_law 4 (some .boolean) RL 1548 [some (.ref b), some (.ref (ad X 0)), some (.ref (ad X 112)), some (.int (nI i))] [] σ := by
  obtain ⟨fb, A, hC, hM, hw⟩ := hI
  have hit : (nI i).toInt = i := nI_t (by omega)
  have q1 : (1 : Int32).toInt = 1 := by decide
  have q2 : (2 : Int32).toInt = 2 := by decide
  have q3 : (3 : Int32).toInt = 3 := by decide
  have q4 : (4 : Int32).toInt = 4 := by decide
  have q5 : (5 : Int32).toInt = 5 := by decide
  have e1 : (nI i + 1).toInt = i + 1 := by rw [i_add (by omega) (by omega), hit, q1]
  have e2 : (nI i + 2).toInt = i + 2 := by rw [i_add (by omega) (by omega), hit, q2]
  have e3 : (nI i + 3).toInt = i + 3 := by rw [i_add (by omega) (by omega), hit, q3]
  have e4 : (nI i + 4).toInt = i + 4 := by rw [i_add (by omega) (by omega), hit, q4]
  have e5 : (nI i + 5).toInt = i + 5 := by rw [i_add (by omega) (by omega), hit, q5]
  refine rj_ald1 dL_law_1548 rfl ?_
  refine rj_ald0 dL_law_1549 rfl ?_
  refine rj_ild3 dL_law_1550 rfl ?_
  refine rj_ic1 dL_law_1551 ?_
  refine rj_iadd dL_law_1552 ?_
  refine rj_sld (vp_in_iff.mpr ⟨by omega, by omega⟩) dL_law_1553 ?_
  refine rj_V1 (ci := 11) cL_201 rfl (by decide) (by first | assumption | rfl) dL_law_1554 (c_X11_status hC hw) (fitL hk hn (by decide) (by decide)) (Nat.le_of_ble_eq_true rfl) ?_
  rintro v τ ⟨rfl, ⟨fb1, hC1⟩, ho1⟩
  simp only [Option.toList, List.cons_append, List.nil_append]
  have hM1 := mr_sys hM ho1
  refine rj_ald2 dL_law_1557 rfl ?_
  refine rj_ald0 dL_law_1558 rfl ?_
  refine rj_ild3 dL_law_1559 rfl ?_
  refine rj_ic1 dL_law_1560 ?_
  refine rj_iadd dL_law_1561 ?_
  refine rj_sld (vp_in_iff.mpr ⟨by omega, by omega⟩) dL_law_1562 ?_
  refine rj_V1 (ci := 12) cL_204 rfl (by decide) (by first | assumption | rfl) dL_law_1563 (c_X12_status hM1 hw) (fitL hk hn (by decide) (by decide)) (Nat.le_of_ble_eq_true rfl) ?_
  rintro v υ ⟨rfl, hM2, ho2⟩
  simp only [Option.toList, List.cons_append, List.nil_append]
  have hC2 := cr_md hC1 ho2
  refine rj_ic_eq (tgt := 1571) dL_law_1566 (by decide) (fun h_1566 => ?_) (fun h_1566 => ?_)
  · exact hY υ ⟨fb1, _, hC2, hM2, k_status hw⟩
  · exact absurd rfl h_1566

