set_option maxRecDepth 100000 in
theorem mm_chk_278 : mm_c278.all (mm_chk 278) = true := by decide +kernel
set_option maxRecDepth 100000 in
theorem mm_chk_279 : mm_c279.all (mm_chk 279) = true := by decide +kernel
set_option maxRecDepth 100000 in
theorem mm_chk_280 : mm_c280.all (mm_chk 280) = true := by decide +kernel
set_option maxRecDepth 100000 in
theorem mm_chk_281 : mm_c281.all (mm_chk 281) = true := by decide +kernel
theorem mm_chunks {α : Type} (f : α → Bool) (l : List α) : ∀ k : Nat, (∀ i, i < k → ((l.drop (40 * i)).take 40).all f = true) → (l.take (40 * k)).all f = true
  | 0, _ => by simp
  | k + 1, h => by
    have h1 := mm_chunks f l k (fun i hi => h i (by omega))
    have h2 := h k (by omega)
    rw [show 40 * (k + 1) = 40 * k + 40 by omega, List.take_add, List.all_append, h1, h2]
    rfl
set_option maxRecDepth 100000 in
theorem mm_chl_0 : ((mm_c277.drop 0).take 40).all (mm_chk 277) = true := by decide +kernel
set_option maxRecDepth 100000 in
theorem mm_chl_1 : ((mm_c277.drop 40).take 40).all (mm_chk 277) = true := by decide +kernel
set_option maxRecDepth 100000 in
theorem mm_chl_2 : ((mm_c277.drop 80).take 40).all (mm_chk 277) = true := by decide +kernel
set_option maxRecDepth 100000 in
theorem mm_chl_3 : ((mm_c277.drop 120).take 40).all (mm_chk 277) = true := by decide +kernel
set_option maxRecDepth 100000 in
theorem mm_chl_4 : ((mm_c277.drop 160).take 40).all (mm_chk 277) = true := by decide +kernel
set_option maxRecDepth 100000 in
theorem mm_chl_5 : ((mm_c277.drop 200).take 40).all (mm_chk 277) = true := by decide +kernel
set_option maxRecDepth 100000 in
theorem mm_chl_6 : ((mm_c277.drop 240).take 40).all (mm_chk 277) = true := by decide +kernel
set_option maxRecDepth 100000 in
theorem mm_chl_7 : ((mm_c277.drop 280).take 40).all (mm_chk 277) = true := by decide +kernel
set_option maxRecDepth 100000 in
theorem mm_chl_8 : ((mm_c277.drop 320).take 40).all (mm_chk 277) = true := by decide +kernel
set_option maxRecDepth 100000 in
theorem mm_chl_9 : ((mm_c277.drop 360).take 40).all (mm_chk 277) = true := by decide +kernel
set_option maxRecDepth 100000 in
theorem mm_chl_10 : ((mm_c277.drop 400).take 40).all (mm_chk 277) = true := by decide +kernel
set_option maxRecDepth 100000 in
theorem mm_chl_11 : ((mm_c277.drop 440).take 40).all (mm_chk 277) = true := by decide +kernel
set_option maxRecDepth 100000 in
theorem mm_chl_12 : ((mm_c277.drop 480).take 40).all (mm_chk 277) = true := by decide +kernel
set_option maxRecDepth 100000 in
theorem mm_chl_13 : ((mm_c277.drop 520).take 40).all (mm_chk 277) = true := by decide +kernel
set_option maxRecDepth 100000 in
theorem mm_chl_14 : ((mm_c277.drop 560).take 40).all (mm_chk 277) = true := by decide +kernel
set_option maxRecDepth 100000 in
theorem mm_chl_15 : ((mm_c277.drop 600).take 40).all (mm_chk 277) = true := by decide +kernel
set_option maxRecDepth 100000 in
theorem mm_chl_16 : ((mm_c277.drop 640).take 40).all (mm_chk 277) = true := by decide +kernel
set_option maxRecDepth 100000 in
theorem mm_chl_17 : ((mm_c277.drop 680).take 40).all (mm_chk 277) = true := by decide +kernel
set_option maxRecDepth 100000 in
theorem mm_chl_18 : ((mm_c277.drop 720).take 40).all (mm_chk 277) = true := by decide +kernel
set_option maxRecDepth 100000 in
theorem mm_chl_19 : ((mm_c277.drop 760).take 40).all (mm_chk 277) = true := by decide +kernel
set_option maxRecDepth 100000 in
theorem mm_chl_20 : ((mm_c277.drop 800).take 40).all (mm_chk 277) = true := by decide +kernel
set_option maxRecDepth 100000 in
theorem mm_chl_21 : ((mm_c277.drop 840).take 40).all (mm_chk 277) = true := by decide +kernel
set_option maxRecDepth 100000 in
theorem mm_chl_22 : ((mm_c277.drop 880).take 40).all (mm_chk 277) = true := by decide +kernel
set_option maxRecDepth 100000 in
theorem mm_chl_23 : ((mm_c277.drop 920).take 40).all (mm_chk 277) = true := by decide +kernel
theorem mm_chl : ∀ i, i < 24 → ((mm_c277.drop (40 * i)).take 40).all (mm_chk 277) = true
  | 0, _ => mm_chl_0
  | 1, _ => mm_chl_1
  | 2, _ => mm_chl_2
  | 3, _ => mm_chl_3
  | 4, _ => mm_chl_4
  | 5, _ => mm_chl_5
  | 6, _ => mm_chl_6
  | 7, _ => mm_chl_7
  | 8, _ => mm_chl_8
  | 9, _ => mm_chl_9
  | 10, _ => mm_chl_10
  | 11, _ => mm_chl_11
  | 12, _ => mm_chl_12
  | 13, _ => mm_chl_13
  | 14, _ => mm_chl_14
  | 15, _ => mm_chl_15
  | 16, _ => mm_chl_16
  | 17, _ => mm_chl_17
  | 18, _ => mm_chl_18
  | 19, _ => mm_chl_19
  | 20, _ => mm_chl_20
  | 21, _ => mm_chl_21
  | 22, _ => mm_chl_22
  | 23, _ => mm_chl_23
  | _ + 24, h => absurd h (by omega)
theorem mm_chk_277 : mm_c277.all (mm_chk 277) = true := by
  have h := mm_chunks (mm_chk 277) mm_c277 24 mm_chl
  rwa [List.take_of_length_le (by decide +kernel)] at h
set_option maxRecDepth 100000 in
theorem mm_chk_282 : mm_c282.all (mm_chk 282) = true := by decide +kernel
set_option maxRecDepth 100000 in
theorem mm_chk_283 : mm_c283.all (mm_chk 283) = true := by decide +kernel
set_option maxRecDepth 100000 in
theorem mm_chk_284 : mm_c284.all (mm_chk 284) = true := by decide +kernel
set_option maxRecDepth 100000 in
theorem mm_chk_285 : mm_c285.all (mm_chk 285) = true := by decide +kernel
set_option maxRecDepth 100000 in
theorem mm_chk_286 : mm_c286.all (mm_chk 286) = true := by decide +kernel
set_option maxRecDepth 100000 in
theorem mm_chk_287 : mm_c287.all (mm_chk 287) = true := by decide +kernel
set_option maxRecDepth 100000 in
theorem mm_chk_288 : mm_c288.all (mm_chk 288) = true := by decide +kernel
set_option maxRecDepth 100000 in
theorem mm_chk_289 : mm_c289.all (mm_chk 289) = true := by decide +kernel
set_option maxRecDepth 100000 in
theorem mm_chk_290 : mm_c290.all (mm_chk 290) = true := by decide +kernel
set_option maxRecDepth 100000 in
theorem mm_chk_291 : mm_c291.all (mm_chk 291) = true := by decide +kernel
set_option maxRecDepth 100000 in
theorem mm_chk_292 : mm_c292.all (mm_chk 292) = true := by decide +kernel
set_option maxRecDepth 100000 in
theorem mm_chk_293 : mm_c293.all (mm_chk 293) = true := by decide +kernel
