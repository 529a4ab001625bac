/-! the cases of the law -/
section LC
variable {G : xa_G} {b L : Nat} {xs : Nat → Int32} {S : XS} {c : Nat × Nat} {n : Nat}
theorem lc_feed (hS : lwS G b L) (hi : 6 * n + 6 ≤ L) (hc : c.1 ≤ 601024 ∧ c.2 ≤ 7293034) (R : RR n (pj S)) (K : LWK G b L xs n c) : xa_L G M_L_law (lwP G b L xs) room_1 c.1 c.2 212 (lwl n) [] (hp S c) (lwZ b) := by
  obtain ⟨v, S1, S2, e1, e2, R2⟩ := pr_feed (c := c) R (xs (6 * n + 1)) (xs (6 * n + 2)) (xs (6 * n + 3)) (xs (6 * n + 4)) (xs (6 * n + 5))
  refine l_aload_n dL_law_212 rfl ?_
  refine l_sc hS 1 (by decide) (by omega) rfl rfl dL_law_213 dL_law_214 dL_law_216 dL_law_217 dL_law_218 ?_
  refine l_sc hS 2 (by decide) (by omega) rfl rfl dL_law_219 dL_law_220 dL_law_222 dL_law_223 dL_law_224 ?_
  refine l_sc hS 3 (by decide) (by omega) rfl rfl dL_law_225 dL_law_226 dL_law_228 dL_law_229 dL_law_230 ?_
  refine l_sc hS 4 (by decide) (by omega) rfl rfl dL_law_231 dL_law_232 dL_law_234 dL_law_235 dL_law_236 ?_
  refine l_sc hS 5 (by decide) (by omega) rfl rfl dL_law_237 dL_law_238 dL_law_240 dL_law_241 dL_law_242 ?_
  refine l_callK dL_law_243 ⟨cb_X11_feed, ml_L_19, im_X11_feed⟩ se_11_X11_feed (ckf_X11_feed e1) (ev_X11_feed e1) ⟨Nat.le_of_ble_eq_true rfl, Nat.le_of_ble_eq_true rfl⟩ hc rfl (As := [.int (xs (6 * n + 1)), .int (xs (6 * n + 2)), .int (xs (6 * n + 3)), .int (xs (6 * n + 4)), .int (xs (6 * n + 5))]) rfl (st := []) rfl (Nat.le_of_ble_eq_true rfl) rfl ?_
  refine l_aload_n dL_law_246 rfl ?_
  refine l_sc hS 1 (by decide) (by omega) rfl rfl dL_law_247 dL_law_248 dL_law_250 dL_law_251 dL_law_252 ?_
  refine l_sc hS 2 (by decide) (by omega) rfl rfl dL_law_253 dL_law_254 dL_law_256 dL_law_257 dL_law_258 ?_
  refine l_sc hS 3 (by decide) (by omega) rfl rfl dL_law_259 dL_law_260 dL_law_262 dL_law_263 dL_law_264 ?_
  refine l_sc hS 4 (by decide) (by omega) rfl rfl dL_law_265 dL_law_266 dL_law_268 dL_law_269 dL_law_270 ?_
  refine l_sc hS 5 (by decide) (by omega) rfl rfl dL_law_271 dL_law_272 dL_law_274 dL_law_275 dL_law_276 ?_
  refine l_callK dL_law_277 ⟨cb_X12_feed, ml_L_23, im_X12_feed⟩ se_12_X12_feed (ckf_X12_feed e2) (ev_X12_feed e2) ⟨Nat.le_of_ble_eq_true rfl, Nat.le_of_ble_eq_true rfl⟩ hc rfl (As := [.int (xs (6 * n + 1)), .int (xs (6 * n + 2)), .int (xs (6 * n + 3)), .int (xs (6 * n + 4)), .int (xs (6 * n + 5))]) rfl (st := [.int v]) rfl (Nat.le_of_ble_eq_true rfl) rfl ?_
  exact l_icmp_eq dL_law_280 (tgt := 1602) (by decide) (fun _ => K S2 R2) (fun z => absurd rfl z)
theorem lc_end (hS : lwS G b L) (hi : 6 * n + 6 ≤ L) (hc : c.1 ≤ 601024 ∧ c.2 ≤ 7293034) (R : RR n (pj S)) (K : LWK G b L xs n c) : xa_L G M_L_law (lwP G b L xs) room_1 c.1 c.2 285 (lwl n) [] (hp S c) (lwZ b) := by
  obtain ⟨v, S1, S2, e1, e2, R2⟩ := pr_end (c := c) R (xs (6 * n + 1))
  refine l_aload_n dL_law_285 rfl ?_
  refine l_sc hS 1 (by decide) (by omega) rfl rfl dL_law_286 dL_law_287 dL_law_289 dL_law_290 dL_law_291 ?_
  refine l_callK dL_law_292 ⟨cb_X11_end, ml_L_24, im_X11_end⟩ se_11_X11_end (ckf_X11_end e1) (ev_X11_end e1) ⟨Nat.le_of_ble_eq_true rfl, Nat.le_of_ble_eq_true rfl⟩ hc rfl (As := [.int (xs (6 * n + 1))]) rfl (st := []) rfl (Nat.le_of_ble_eq_true rfl) rfl ?_
  refine l_aload_n dL_law_295 rfl ?_
  refine l_sc hS 1 (by decide) (by omega) rfl rfl dL_law_296 dL_law_297 dL_law_299 dL_law_300 dL_law_301 ?_
  refine l_callK dL_law_302 ⟨cb_X12_end, ml_L_28, im_X12_end⟩ se_12_X12_end (ckf_X12_end e2) (ev_X12_end e2) ⟨Nat.le_of_ble_eq_true rfl, Nat.le_of_ble_eq_true rfl⟩ hc rfl (As := [.int (xs (6 * n + 1))]) rfl (st := [.int v]) rfl (Nat.le_of_ble_eq_true rfl) rfl ?_
  exact l_icmp_eq dL_law_305 (tgt := 1602) (by decide) (fun _ => K S2 R2) (fun z => absurd rfl z)
theorem lc_fault (hS : lwS G b L) (hi : 6 * n + 6 ≤ L) (hc : c.1 ≤ 601024 ∧ c.2 ≤ 7293034) (R : RR n (pj S)) (K : LWK G b L xs n c) : xa_L G M_L_law (lwP G b L xs) room_1 c.1 c.2 310 (lwl n) [] (hp S c) (lwZ b) := by
  obtain ⟨v, S1, S2, e1, e2, R2⟩ := pr_fault (c := c) R (xs (6 * n + 1))
  refine l_aload_n dL_law_310 rfl ?_
  refine l_sc hS 1 (by decide) (by omega) rfl rfl dL_law_311 dL_law_312 dL_law_314 dL_law_315 dL_law_316 ?_
  refine l_callK dL_law_317 ⟨cb_X11_fault, ml_L_29, im_X11_fault⟩ se_11_X11_fault (ckf_X11_fault e1) (ev_X11_fault e1) ⟨Nat.le_of_ble_eq_true rfl, Nat.le_of_ble_eq_true rfl⟩ hc rfl (As := [.int (xs (6 * n + 1))]) rfl (st := []) rfl (Nat.le_of_ble_eq_true rfl) rfl ?_
  refine l_aload_n dL_law_320 rfl ?_
  refine l_sc hS 1 (by decide) (by omega) rfl rfl dL_law_321 dL_law_322 dL_law_324 dL_law_325 dL_law_326 ?_
  refine l_callK dL_law_327 ⟨cb_X12_fault, ml_L_33, im_X12_fault⟩ se_12_X12_fault (ckf_X12_fault e2) (ev_X12_fault e2) ⟨Nat.le_of_ble_eq_true rfl, Nat.le_of_ble_eq_true rfl⟩ hc rfl (As := [.int (xs (6 * n + 1))]) rfl (st := [.int v]) rfl (Nat.le_of_ble_eq_true rfl) rfl ?_
  exact l_icmp_eq dL_law_330 (tgt := 1602) (by decide) (fun _ => K S2 R2) (fun z => absurd rfl z)
theorem lc_text (hS : lwS G b L) (hi : 6 * n + 6 ≤ L) (hc : c.1 ≤ 601024 ∧ c.2 ≤ 7293034) (R : RR n (pj S)) (K : LWK G b L xs n c) : xa_L G M_L_law (lwP G b L xs) room_1 c.1 c.2 335 (lwl n) [] (hp S c) (lwZ b) := by
  obtain ⟨v, S1, S2, e1, e2, R2⟩ := pr_text (c := c) R (xs (6 * n + 1))
  refine l_aload_n dL_law_335 rfl ?_
  refine l_sc hS 1 (by decide) (by omega) rfl rfl dL_law_336 dL_law_337 dL_law_339 dL_law_340 dL_law_341 ?_
  refine l_callK dL_law_342 ⟨cb_X11_text, ml_L_34, im_X11_text⟩ se_11_X11_text (ckf_X11_text e1) (ev_X11_text e1) ⟨Nat.le_of_ble_eq_true rfl, Nat.le_of_ble_eq_true rfl⟩ hc rfl (As := [.int (xs (6 * n + 1))]) rfl (st := []) rfl (Nat.le_of_ble_eq_true rfl) rfl ?_
  refine l_aload_n dL_law_345 rfl ?_
  refine l_sc hS 1 (by decide) (by omega) rfl rfl dL_law_346 dL_law_347 dL_law_349 dL_law_350 dL_law_351 ?_
  refine l_callK dL_law_352 ⟨cb_X12_text, ml_L_37, im_X12_text⟩ se_12_X12_text (ckf_X12_text e2) (ev_X12_text e2) ⟨Nat.le_of_ble_eq_true rfl, Nat.le_of_ble_eq_true rfl⟩ hc rfl (As := [.int (xs (6 * n + 1))]) rfl (st := [.int v]) rfl (Nat.le_of_ble_eq_true rfl) rfl ?_
  exact l_icmp_eq dL_law_355 (tgt := 1602) (by decide) (fun _ => K S2 R2) (fun z => absurd rfl z)
theorem lc_owes (hS : lwS G b L) (hi : 6 * n + 6 ≤ L) (hc : c.1 ≤ 601024 ∧ c.2 ≤ 7293034) (R : RR n (pj S)) (K : LWK G b L xs n c) : xa_L G M_L_law (lwP G b L xs) room_1 c.1 c.2 428 (lwl n) [] (hp S c) (lwZ b) := by
  obtain ⟨v, S2, e1, e2, R2⟩ := pr_owes (c := c) R (xs (6 * n + 1)) (xs (6 * n + 2))
  refine l_aload_n dL_law_428 rfl ?_
  refine l_sc hS 1 (by decide) (by omega) rfl rfl dL_law_429 dL_law_430 dL_law_432 dL_law_433 dL_law_434 ?_
  refine l_sc hS 2 (by decide) (by omega) rfl rfl dL_law_435 dL_law_436 dL_law_438 dL_law_439 dL_law_440 ?_
  refine l_callK dL_law_441 ⟨cb_X11_owes, ml_L_48, im_X11_owes⟩ se_11_X11_owes (ckf_X11_owes e1) (ev_X11_owes e1) ⟨Nat.le_of_ble_eq_true rfl, Nat.le_of_ble_eq_true rfl⟩ hc rfl (As := [.int (xs (6 * n + 1)), .int (xs (6 * n + 2))]) rfl (st := []) rfl (Nat.le_of_ble_eq_true rfl) rfl ?_
  refine l_aload_n dL_law_444 rfl ?_
  refine l_sc hS 1 (by decide) (by omega) rfl rfl dL_law_445 dL_law_446 dL_law_448 dL_law_449 dL_law_450 ?_
  refine l_sc hS 2 (by decide) (by omega) rfl rfl dL_law_451 dL_law_452 dL_law_454 dL_law_455 dL_law_456 ?_
  refine l_callK dL_law_457 ⟨cb_X12_owes, ml_L_51, im_X12_owes⟩ se_12_X12_owes (ckf_X12_owes e2) (ev_X12_owes e2) ⟨Nat.le_of_ble_eq_true rfl, Nat.le_of_ble_eq_true rfl⟩ hc rfl (As := [.int (xs (6 * n + 1)), .int (xs (6 * n + 2))]) rfl (st := [.int v]) rfl (Nat.le_of_ble_eq_true rfl) rfl ?_
  exact l_icmp_eq dL_law_460 (tgt := 1602) (by decide) (fun _ => K S2 R2) (fun z => absurd rfl z)
theorem lc_law (hS : lwS G b L) (hi : 6 * n + 6 ≤ L) (hc : c.1 ≤ 601024 ∧ c.2 ≤ 7293034) (R : RR n (pj S)) (K : LWK G b L xs n c) : xa_L G M_L_law (lwP G b L xs) room_1 c.1 c.2 465 (lwl n) [] (hp S c) (lwZ b) := by
  obtain ⟨v, S1, S2, e1, e2, R2⟩ := pr_law (c := c) R (xs (6 * n + 1))
  refine l_aload_n dL_law_465 rfl ?_
  refine l_sc hS 1 (by decide) (by omega) rfl rfl dL_law_466 dL_law_467 dL_law_469 dL_law_470 dL_law_471 ?_
  refine l_callK dL_law_472 ⟨cb_X11_law, ml_L_52, im_X11_law⟩ se_11_X11_law (ckf_X11_law e1) (ev_X11_law e1) ⟨Nat.le_of_ble_eq_true rfl, Nat.le_of_ble_eq_true rfl⟩ hc rfl (As := [.int (xs (6 * n + 1))]) rfl (st := []) rfl (Nat.le_of_ble_eq_true rfl) rfl ?_
  refine l_aload_n dL_law_475 rfl ?_
  refine l_sc hS 1 (by decide) (by omega) rfl rfl dL_law_476 dL_law_477 dL_law_479 dL_law_480 dL_law_481 ?_
  refine l_callK dL_law_482 ⟨cb_X12_law, ml_L_55, im_X12_law⟩ se_12_X12_law (ckf_X12_law e2) (ev_X12_law e2) ⟨Nat.le_of_ble_eq_true rfl, Nat.le_of_ble_eq_true rfl⟩ hc rfl (As := [.int (xs (6 * n + 1))]) rfl (st := [.int v]) rfl (Nat.le_of_ble_eq_true rfl) rfl ?_
  exact l_icmp_eq dL_law_485 (tgt := 1602) (by decide) (fun _ => K S2 R2) (fun z => absurd rfl z)
theorem lc_sung (hS : lwS G b L) (hi : 6 * n + 6 ≤ L) (hc : c.1 ≤ 601024 ∧ c.2 ≤ 7293034) (R : RR n (pj S)) (K : LWK G b L xs n c) : xa_L G M_L_law (lwP G b L xs) room_1 c.1 c.2 490 (lwl n) [] (hp S c) (lwZ b) := by
  obtain ⟨v, S2, e1, e2, R2⟩ := pr_sung (c := c) R (xs (6 * n + 1)) (xs (6 * n + 2))
  refine l_aload_n dL_law_490 rfl ?_
  refine l_sc hS 1 (by decide) (by omega) rfl rfl dL_law_491 dL_law_492 dL_law_494 dL_law_495 dL_law_496 ?_
  refine l_sc hS 2 (by decide) (by omega) rfl rfl dL_law_497 dL_law_498 dL_law_500 dL_law_501 dL_law_502 ?_
  refine l_callK dL_law_503 ⟨cb_X11_sung, ml_L_56, im_X11_sung⟩ se_11_X11_sung (ckf_X11_sung e1) (ev_X11_sung e1) ⟨Nat.le_of_ble_eq_true rfl, Nat.le_of_ble_eq_true rfl⟩ hc rfl (As := [.int (xs (6 * n + 1)), .int (xs (6 * n + 2))]) rfl (st := []) rfl (Nat.le_of_ble_eq_true rfl) rfl ?_
  refine l_aload_n dL_law_506 rfl ?_
  refine l_sc hS 1 (by decide) (by omega) rfl rfl dL_law_507 dL_law_508 dL_law_510 dL_law_511 dL_law_512 ?_
  refine l_sc hS 2 (by decide) (by omega) rfl rfl dL_law_513 dL_law_514 dL_law_516 dL_law_517 dL_law_518 ?_
  refine l_callK dL_law_519 ⟨cb_X12_sung, ml_L_59, im_X12_sung⟩ se_12_X12_sung (ckf_X12_sung e2) (ev_X12_sung e2) ⟨Nat.le_of_ble_eq_true rfl, Nat.le_of_ble_eq_true rfl⟩ hc rfl (As := [.int (xs (6 * n + 1)), .int (xs (6 * n + 2))]) rfl (st := [.int v]) rfl (Nat.le_of_ble_eq_true rfl) rfl ?_
  exact l_icmp_eq dL_law_522 (tgt := 1602) (by decide) (fun _ => K S2 R2) (fun z => absurd rfl z)
theorem lc_grace (hS : lwS G b L) (hi : 6 * n + 6 ≤ L) (hc : c.1 ≤ 601024 ∧ c.2 ≤ 7293034) (R : RR n (pj S)) (K : LWK G b L xs n c) : xa_L G M_L_law (lwP G b L xs) room_1 c.1 c.2 527 (lwl n) [] (hp S c) (lwZ b) := by
  obtain ⟨v, S1, S2, e1, e2, R2⟩ := pr_grace (c := c) R (xs (6 * n + 1))
  refine l_aload_n dL_law_527 rfl ?_
  refine l_sc hS 1 (by decide) (by omega) rfl rfl dL_law_528 dL_law_529 dL_law_531 dL_law_532 dL_law_533 ?_
  refine l_callK dL_law_534 ⟨cb_X11_grace, ml_L_60, im_X11_grace⟩ se_11_X11_grace (ckf_X11_grace e1) (ev_X11_grace e1) ⟨Nat.le_of_ble_eq_true rfl, Nat.le_of_ble_eq_true rfl⟩ hc rfl (As := [.int (xs (6 * n + 1))]) rfl (st := []) rfl (Nat.le_of_ble_eq_true rfl) rfl ?_
  refine l_aload_n dL_law_537 rfl ?_
  refine l_sc hS 1 (by decide) (by omega) rfl rfl dL_law_538 dL_law_539 dL_law_541 dL_law_542 dL_law_543 ?_
  refine l_callK dL_law_544 ⟨cb_X12_grace, ml_L_63, im_X12_grace⟩ se_12_X12_grace (ckf_X12_grace e2) (ev_X12_grace e2) ⟨Nat.le_of_ble_eq_true rfl, Nat.le_of_ble_eq_true rfl⟩ hc rfl (As := [.int (xs (6 * n + 1))]) rfl (st := [.int v]) rfl (Nat.le_of_ble_eq_true rfl) rfl ?_
  exact l_icmp_eq dL_law_547 (tgt := 1602) (by decide) (fun _ => K S2 R2) (fun z => absurd rfl z)
theorem lc_cross (hS : lwS G b L) (hi : 6 * n + 6 ≤ L) (hc : c.1 ≤ 601024 ∧ c.2 ≤ 7293034) (R : RR n (pj S)) (K : LWK G b L xs n c) : xa_L G M_L_law (lwP G b L xs) room_1 c.1 c.2 552 (lwl n) [] (hp S c) (lwZ b) := by
  obtain ⟨v, S1, S2, e1, e2, R2⟩ := pr_cross (c := c) R (xs (6 * n + 1))
  refine l_aload_n dL_law_552 rfl ?_
  refine l_sc hS 1 (by decide) (by omega) rfl rfl dL_law_553 dL_law_554 dL_law_556 dL_law_557 dL_law_558 ?_
  refine l_callK dL_law_559 ⟨cb_X11_cross, ml_L_64, im_X11_cross⟩ se_11_X11_cross (ckf_X11_cross e1) (ev_X11_cross e1) ⟨Nat.le_of_ble_eq_true rfl, Nat.le_of_ble_eq_true rfl⟩ hc rfl (As := [.int (xs (6 * n + 1))]) rfl (st := []) rfl (Nat.le_of_ble_eq_true rfl) rfl ?_
  refine l_aload_n dL_law_562 rfl ?_
  refine l_sc hS 1 (by decide) (by omega) rfl rfl dL_law_563 dL_law_564 dL_law_566 dL_law_567 dL_law_568 ?_
  refine l_callK dL_law_569 ⟨cb_X12_cross, ml_L_67, im_X12_cross⟩ se_12_X12_cross (ckf_X12_cross e2) (ev_X12_cross e2) ⟨Nat.le_of_ble_eq_true rfl, Nat.le_of_ble_eq_true rfl⟩ hc rfl (As := [.int (xs (6 * n + 1))]) rfl (st := [.int v]) rfl (Nat.le_of_ble_eq_true rfl) rfl ?_
  exact l_icmp_eq dL_law_572 (tgt := 1602) (by decide) (fun _ => K S2 R2) (fun z => absurd rfl z)
theorem lc_sing (hS : lwS G b L) (hi : 6 * n + 6 ≤ L) (hc : c.1 ≤ 601024 ∧ c.2 ≤ 7293034) (R : RR n (pj S)) (K : LWK G b L xs n c) : xa_L G M_L_law (lwP G b L xs) room_1 c.1 c.2 577 (lwl n) [] (hp S c) (lwZ b) := by
  obtain ⟨v, S1, S2, e1, e2, R2⟩ := pr_sing (c := c) R (xs (6 * n + 1))
  refine l_aload_n dL_law_577 rfl ?_
  refine l_sc hS 1 (by decide) (by omega) rfl rfl dL_law_578 dL_law_579 dL_law_581 dL_law_582 dL_law_583 ?_
  refine l_callK dL_law_584 ⟨cb_X11_sing, ml_L_68, im_X11_sing⟩ se_11_X11_sing (ckf_X11_sing e1) (ev_X11_sing e1) ⟨Nat.le_of_ble_eq_true rfl, Nat.le_of_ble_eq_true rfl⟩ hc rfl (As := [.int (xs (6 * n + 1))]) rfl (st := []) rfl (Nat.le_of_ble_eq_true rfl) rfl ?_
  refine l_aload_n dL_law_587 rfl ?_
  refine l_sc hS 1 (by decide) (by omega) rfl rfl dL_law_588 dL_law_589 dL_law_591 dL_law_592 dL_law_593 ?_
  refine l_callK dL_law_594 ⟨cb_X12_sing, ml_L_71, im_X12_sing⟩ se_12_X12_sing (ckf_X12_sing e2) (ev_X12_sing e2) ⟨Nat.le_of_ble_eq_true rfl, Nat.le_of_ble_eq_true rfl⟩ hc rfl (As := [.int (xs (6 * n + 1))]) rfl (st := [.int v]) rfl (Nat.le_of_ble_eq_true rfl) rfl ?_
  exact l_icmp_eq dL_law_597 (tgt := 1602) (by decide) (fun _ => K S2 R2) (fun z => absurd rfl z)
theorem lc_gives (hS : lwS G b L) (hi : 6 * n + 6 ≤ L) (hc : c.1 ≤ 601024 ∧ c.2 ≤ 7293034) (R : RR n (pj S)) (K : LWK G b L xs n c) : xa_L G M_L_law (lwP G b L xs) room_1 c.1 c.2 602 (lwl n) [] (hp S c) (lwZ b) := by
  obtain ⟨v, S1, S2, e1, e2, R2⟩ := pr_gives (c := c) R (xs (6 * n + 1)) (xs (6 * n + 2)) (xs (6 * n + 3))
  refine l_aload_n dL_law_602 rfl ?_
  refine l_sc hS 1 (by decide) (by omega) rfl rfl dL_law_603 dL_law_604 dL_law_606 dL_law_607 dL_law_608 ?_
  refine l_sc hS 2 (by decide) (by omega) rfl rfl dL_law_609 dL_law_610 dL_law_612 dL_law_613 dL_law_614 ?_
  refine l_sc hS 3 (by decide) (by omega) rfl rfl dL_law_615 dL_law_616 dL_law_618 dL_law_619 dL_law_620 ?_
  refine l_callK dL_law_621 ⟨cb_X11_gives, ml_L_72, im_X11_gives⟩ se_11_X11_gives (ckf_X11_gives e1) (ev_X11_gives e1) ⟨Nat.le_of_ble_eq_true rfl, Nat.le_of_ble_eq_true rfl⟩ hc rfl (As := [.int (xs (6 * n + 1)), .int (xs (6 * n + 2)), .int (xs (6 * n + 3))]) rfl (st := []) rfl (Nat.le_of_ble_eq_true rfl) rfl ?_
  refine l_aload_n dL_law_624 rfl ?_
  refine l_sc hS 1 (by decide) (by omega) rfl rfl dL_law_625 dL_law_626 dL_law_628 dL_law_629 dL_law_630 ?_
  refine l_sc hS 2 (by decide) (by omega) rfl rfl dL_law_631 dL_law_632 dL_law_634 dL_law_635 dL_law_636 ?_
  refine l_sc hS 3 (by decide) (by omega) rfl rfl dL_law_637 dL_law_638 dL_law_640 dL_law_641 dL_law_642 ?_
  refine l_callK dL_law_643 ⟨cb_X12_gives, ml_L_76, im_X12_gives⟩ se_12_X12_gives (ckf_X12_gives e2) (ev_X12_gives e2) ⟨Nat.le_of_ble_eq_true rfl, Nat.le_of_ble_eq_true rfl⟩ hc rfl (As := [.int (xs (6 * n + 1)), .int (xs (6 * n + 2)), .int (xs (6 * n + 3))]) rfl (st := [.int v]) rfl (Nat.le_of_ble_eq_true rfl) rfl ?_
  exact l_icmp_eq dL_law_646 (tgt := 1602) (by decide) (fun _ => K S2 R2) (fun z => absurd rfl z)
theorem lc_forgives (hS : lwS G b L) (hi : 6 * n + 6 ≤ L) (hc : c.1 ≤ 601024 ∧ c.2 ≤ 7293034) (R : RR n (pj S)) (K : LWK G b L xs n c) : xa_L G M_L_law (lwP G b L xs) room_1 c.1 c.2 651 (lwl n) [] (hp S c) (lwZ b) := by
  obtain ⟨v, S1, S2, e1, e2, R2⟩ := pr_forgives (c := c) R (xs (6 * n + 1)) (xs (6 * n + 2))
  refine l_aload_n dL_law_651 rfl ?_
  refine l_sc hS 1 (by decide) (by omega) rfl rfl dL_law_652 dL_law_653 dL_law_655 dL_law_656 dL_law_657 ?_
  refine l_sc hS 2 (by decide) (by omega) rfl rfl dL_law_658 dL_law_659 dL_law_661 dL_law_662 dL_law_663 ?_
  refine l_callK dL_law_664 ⟨cb_X11_forgives, ml_L_77, im_X11_forgives⟩ se_11_X11_forgives (ckf_X11_forgives e1) (ev_X11_forgives e1) ⟨Nat.le_of_ble_eq_true rfl, Nat.le_of_ble_eq_true rfl⟩ hc rfl (As := [.int (xs (6 * n + 1)), .int (xs (6 * n + 2))]) rfl (st := []) rfl (Nat.le_of_ble_eq_true rfl) rfl ?_
  refine l_aload_n dL_law_667 rfl ?_
  refine l_sc hS 1 (by decide) (by omega) rfl rfl dL_law_668 dL_law_669 dL_law_671 dL_law_672 dL_law_673 ?_
  refine l_sc hS 2 (by decide) (by omega) rfl rfl dL_law_674 dL_law_675 dL_law_677 dL_law_678 dL_law_679 ?_
  refine l_callK dL_law_680 ⟨cb_X12_forgives, ml_L_80, im_X12_forgives⟩ se_12_X12_forgives (ckf_X12_forgives e2) (ev_X12_forgives e2) ⟨Nat.le_of_ble_eq_true rfl, Nat.le_of_ble_eq_true rfl⟩ hc rfl (As := [.int (xs (6 * n + 1)), .int (xs (6 * n + 2))]) rfl (st := [.int v]) rfl (Nat.le_of_ble_eq_true rfl) rfl ?_
  exact l_icmp_eq dL_law_683 (tgt := 1602) (by decide) (fun _ => K S2 R2) (fun z => absurd rfl z)
theorem lc_keep (hS : lwS G b L) (hi : 6 * n + 6 ≤ L) (hc : c.1 ≤ 601024 ∧ c.2 ≤ 7293034) (R : RR n (pj S)) (K : LWK G b L xs n c) : xa_L G M_L_law (lwP G b L xs) room_1 c.1 c.2 688 (lwl n) [] (hp S c) (lwZ b) := by
  obtain ⟨v, S1, S2, e1, e2, R2⟩ := pr_keep (c := c) R (xs (6 * n + 1))
  refine l_aload_n dL_law_688 rfl ?_
  refine l_sc hS 1 (by decide) (by omega) rfl rfl dL_law_689 dL_law_690 dL_law_692 dL_law_693 dL_law_694 ?_
  refine l_callK dL_law_695 ⟨cb_X11_keep, ml_L_81, im_X11_keep⟩ se_11_X11_keep (ckf_X11_keep e1) (ev_X11_keep e1) ⟨Nat.le_of_ble_eq_true rfl, Nat.le_of_ble_eq_true rfl⟩ hc rfl (As := [.int (xs (6 * n + 1))]) rfl (st := []) rfl (Nat.le_of_ble_eq_true rfl) rfl ?_
  refine l_aload_n dL_law_698 rfl ?_
  refine l_sc hS 1 (by decide) (by omega) rfl rfl dL_law_699 dL_law_700 dL_law_702 dL_law_703 dL_law_704 ?_
  refine l_callK dL_law_705 ⟨cb_X12_keep, ml_L_84, im_X12_keep⟩ se_12_X12_keep (ckf_X12_keep e2) (ev_X12_keep e2) ⟨Nat.le_of_ble_eq_true rfl, Nat.le_of_ble_eq_true rfl⟩ hc rfl (As := [.int (xs (6 * n + 1))]) rfl (st := [.int v]) rfl (Nat.le_of_ble_eq_true rfl) rfl ?_
  exact l_icmp_eq dL_law_708 (tgt := 1602) (by decide) (fun _ => K S2 R2) (fun z => absurd rfl z)
theorem lc_give (hS : lwS G b L) (hi : 6 * n + 6 ≤ L) (hc : c.1 ≤ 601024 ∧ c.2 ≤ 7293034) (R : RR n (pj S)) (K : LWK G b L xs n c) : xa_L G M_L_law (lwP G b L xs) room_1 c.1 c.2 713 (lwl n) [] (hp S c) (lwZ b) := by
  obtain ⟨v, S1, S2, e1, e2, R2⟩ := pr_give (c := c) R (xs (6 * n + 1))
  refine l_aload_n dL_law_713 rfl ?_
  refine l_sc hS 1 (by decide) (by omega) rfl rfl dL_law_714 dL_law_715 dL_law_717 dL_law_718 dL_law_719 ?_
  refine l_callK dL_law_720 ⟨cb_X11_give, ml_L_85, im_X11_give⟩ se_11_X11_give (ckf_X11_give e1) (ev_X11_give e1) ⟨Nat.le_of_ble_eq_true rfl, Nat.le_of_ble_eq_true rfl⟩ hc rfl (As := [.int (xs (6 * n + 1))]) rfl (st := []) rfl (Nat.le_of_ble_eq_true rfl) rfl ?_
  refine l_aload_n dL_law_723 rfl ?_
  refine l_sc hS 1 (by decide) (by omega) rfl rfl dL_law_724 dL_law_725 dL_law_727 dL_law_728 dL_law_729 ?_
  refine l_callK dL_law_730 ⟨cb_X12_give, ml_L_88, im_X12_give⟩ se_12_X12_give (ckf_X12_give e2) (ev_X12_give e2) ⟨Nat.le_of_ble_eq_true rfl, Nat.le_of_ble_eq_true rfl⟩ hc rfl (As := [.int (xs (6 * n + 1))]) rfl (st := [.int v]) rfl (Nat.le_of_ble_eq_true rfl) rfl ?_
  exact l_icmp_eq dL_law_733 (tgt := 1602) (by decide) (fun _ => K S2 R2) (fun z => absurd rfl z)
theorem lc_years (hS : lwS G b L) (hi : 6 * n + 6 ≤ L) (hc : c.1 ≤ 601024 ∧ c.2 ≤ 7293034) (R : RR n (pj S)) (K : LWK G b L xs n c) : xa_L G M_L_law (lwP G b L xs) room_1 c.1 c.2 738 (lwl n) [] (hp S c) (lwZ b) := by
  obtain ⟨v, S1, S2, e1, e2, R2⟩ := pr_years (c := c) R (xs (6 * n + 1)) ((((xs (6 * n + 2)).toInt64 <<< (Int32.toInt64 32 &&& 63)) ||| ((xs (6 * n + 3)).toInt64 &&& 4294967295)))
  refine l_aload_n dL_law_738 rfl ?_
  refine l_sc hS 1 (by decide) (by omega) rfl rfl dL_law_739 dL_law_740 dL_law_742 dL_law_743 dL_law_744 ?_
  refine l_sc hS 2 (by decide) (by omega) rfl rfl dL_law_745 dL_law_746 dL_law_748 dL_law_749 dL_law_750 ?_
  refine l_i2l dL_law_751 ?_
  refine l_bipush dL_law_752 (v := 32) (by decide) ?_
  refine l_lshl dL_law_754 ?_
  refine l_sc hS 3 (by decide) (by omega) rfl rfl dL_law_755 dL_law_756 dL_law_758 dL_law_759 dL_law_760 ?_
  refine l_i2l dL_law_761 ?_
  refine l_ldc2 dL_law_762 rfl cl_L_89 ?_
  refine l_land dL_law_765 ?_
  refine l_lor dL_law_766 ?_
  refine l_callK dL_law_767 ⟨cb_X11_years, ml_L_91, im_X11_years⟩ se_11_X11_years (ckf_X11_years e1) (ev_X11_years e1) ⟨Nat.le_of_ble_eq_true rfl, Nat.le_of_ble_eq_true rfl⟩ hc rfl (As := [.int (xs (6 * n + 1)), .long ((((xs (6 * n + 2)).toInt64 <<< (Int32.toInt64 32 &&& 63)) ||| ((xs (6 * n + 3)).toInt64 &&& 4294967295)))]) rfl (st := []) rfl (Nat.le_of_ble_eq_true rfl) rfl ?_
  refine l_aload_n dL_law_770 rfl ?_
  refine l_sc hS 1 (by decide) (by omega) rfl rfl dL_law_771 dL_law_772 dL_law_774 dL_law_775 dL_law_776 ?_
  refine l_sc hS 2 (by decide) (by omega) rfl rfl dL_law_777 dL_law_778 dL_law_780 dL_law_781 dL_law_782 ?_
  refine l_i2l dL_law_783 ?_
  refine l_bipush dL_law_784 (v := 32) (by decide) ?_
  refine l_lshl dL_law_786 ?_
  refine l_sc hS 3 (by decide) (by omega) rfl rfl dL_law_787 dL_law_788 dL_law_790 dL_law_791 dL_law_792 ?_
  refine l_i2l dL_law_793 ?_
  refine l_ldc2 dL_law_794 rfl cl_L_89 ?_
  refine l_land dL_law_797 ?_
  refine l_lor dL_law_798 ?_
  refine l_callK dL_law_799 ⟨cb_X12_years, ml_L_95, im_X12_years⟩ se_12_X12_years (ckf_X12_years e2) (ev_X12_years e2) ⟨Nat.le_of_ble_eq_true rfl, Nat.le_of_ble_eq_true rfl⟩ hc rfl (As := [.int (xs (6 * n + 1)), .long ((((xs (6 * n + 2)).toInt64 <<< (Int32.toInt64 32 &&& 63)) ||| ((xs (6 * n + 3)).toInt64 &&& 4294967295)))]) rfl (st := [.int v]) rfl (Nat.le_of_ble_eq_true rfl) rfl ?_
  exact l_icmp_eq dL_law_802 (tgt := 1602) (by decide) (fun _ => K S2 R2) (fun z => absurd rfl z)
theorem lc_status (hS : lwS G b L) (hi : 6 * n + 6 ≤ L) (hc : c.1 ≤ 601024 ∧ c.2 ≤ 7293034) (R : RR n (pj S)) (K : LWK G b L xs n c) : xa_L G M_L_law (lwP G b L xs) room_1 c.1 c.2 807 (lwl n) [] (hp S c) (lwZ b) := by
  obtain ⟨v, S2, e1, e2, R2⟩ := pr_status (c := c) R (xs (6 * n + 1))
  refine l_aload_n dL_law_807 rfl ?_
  refine l_sc hS 1 (by decide) (by omega) rfl rfl dL_law_808 dL_law_809 dL_law_811 dL_law_812 dL_law_813 ?_
  refine l_callK dL_law_814 ⟨cb_X11_status, ml_L_96, im_X11_status⟩ se_11_X11_status (ckf_X11_status e1) (ev_X11_status e1) ⟨Nat.le_of_ble_eq_true rfl, Nat.le_of_ble_eq_true rfl⟩ hc rfl (As := [.int (xs (6 * n + 1))]) rfl (st := []) rfl (Nat.le_of_ble_eq_true rfl) rfl ?_
  refine l_aload_n dL_law_817 rfl ?_
  refine l_sc hS 1 (by decide) (by omega) rfl rfl dL_law_818 dL_law_819 dL_law_821 dL_law_822 dL_law_823 ?_
  refine l_callK dL_law_824 ⟨cb_X12_status, ml_L_99, im_X12_status⟩ se_12_X12_status (ckf_X12_status e2) (ev_X12_status e2) ⟨Nat.le_of_ble_eq_true rfl, Nat.le_of_ble_eq_true rfl⟩ hc rfl (As := [.int (xs (6 * n + 1))]) rfl (st := [.int v]) rfl (Nat.le_of_ble_eq_true rfl) rfl ?_
  exact l_icmp_eq dL_law_827 (tgt := 1602) (by decide) (fun _ => K S2 R2) (fun z => absurd rfl z)
theorem lc_undo (hS : lwS G b L) (hi : 6 * n + 6 ≤ L) (hc : c.1 ≤ 601024 ∧ c.2 ≤ 7293034) (R : RR n (pj S)) (K : LWK G b L xs n c) : xa_L G M_L_law (lwP G b L xs) room_1 c.1 c.2 832 (lwl n) [] (hp S c) (lwZ b) := by
  obtain ⟨v, S1, S2, e1, e2, R2⟩ := pr_undo (c := c) R 
  refine l_aload_n dL_law_832 rfl ?_
  refine l_callK dL_law_833 ⟨cb_X11_undo, ml_L_100, im_X11_undo⟩ se_11_X11_undo (ckf_X11_undo e1) (ev_X11_undo e1) ⟨Nat.le_of_ble_eq_true rfl, Nat.le_of_ble_eq_true rfl⟩ hc rfl (As := []) rfl (st := []) rfl (Nat.le_of_ble_eq_true rfl) rfl ?_
  refine l_aload_n dL_law_836 rfl ?_
  refine l_callK dL_law_837 ⟨cb_X12_undo, ml_L_103, im_X12_undo⟩ se_12_X12_undo (ckf_X12_undo e2) (ev_X12_undo e2) ⟨Nat.le_of_ble_eq_true rfl, Nat.le_of_ble_eq_true rfl⟩ hc rfl (As := []) rfl (st := [.int v]) rfl (Nat.le_of_ble_eq_true rfl) rfl ?_
  exact l_icmp_eq dL_law_840 (tgt := 1602) (by decide) (fun _ => K S2 R2) (fun z => absurd rfl z)
theorem lc_log (hS : lwS G b L) (hi : 6 * n + 6 ≤ L) (hc : c.1 ≤ 601024 ∧ c.2 ≤ 7293034) (R : RR n (pj S)) (K : LWK G b L xs n c) : xa_L G M_L_law (lwP G b L xs) room_1 c.1 c.2 845 (lwl n) [] (hp S c) (lwZ b) := by
  obtain ⟨v, S2, e1, e2, R2⟩ := pr_log (c := c) R (xs (6 * n + 1)) (xs (6 * n + 2))
  refine l_aload_n dL_law_845 rfl ?_
  refine l_sc hS 1 (by decide) (by omega) rfl rfl dL_law_846 dL_law_847 dL_law_849 dL_law_850 dL_law_851 ?_
  refine l_sc hS 2 (by decide) (by omega) rfl rfl dL_law_852 dL_law_853 dL_law_855 dL_law_856 dL_law_857 ?_
  refine l_callK dL_law_858 ⟨cb_X11_log, ml_L_104, im_X11_log⟩ se_11_X11_log (ckf_X11_log e1) (ev_X11_log e1) ⟨Nat.le_of_ble_eq_true rfl, Nat.le_of_ble_eq_true rfl⟩ hc rfl (As := [.int (xs (6 * n + 1)), .int (xs (6 * n + 2))]) rfl (st := []) rfl (Nat.le_of_ble_eq_true rfl) rfl ?_
  refine l_aload_n dL_law_861 rfl ?_
  refine l_sc hS 1 (by decide) (by omega) rfl rfl dL_law_862 dL_law_863 dL_law_865 dL_law_866 dL_law_867 ?_
  refine l_sc hS 2 (by decide) (by omega) rfl rfl dL_law_868 dL_law_869 dL_law_871 dL_law_872 dL_law_873 ?_
  refine l_callK dL_law_874 ⟨cb_X12_log, ml_L_107, im_X12_log⟩ se_12_X12_log (ckf_X12_log e2) (ev_X12_log e2) ⟨Nat.le_of_ble_eq_true rfl, Nat.le_of_ble_eq_true rfl⟩ hc rfl (As := [.int (xs (6 * n + 1)), .int (xs (6 * n + 2))]) rfl (st := [.int v]) rfl (Nat.le_of_ble_eq_true rfl) rfl ?_
  exact l_icmp_eq dL_law_877 (tgt := 1602) (by decide) (fun _ => K S2 R2) (fun z => absurd rfl z)
theorem lc_after (hS : lwS G b L) (hi : 6 * n + 6 ≤ L) (hc : c.1 ≤ 601024 ∧ c.2 ≤ 7293034) (R : RR n (pj S)) (K : LWK G b L xs n c) : xa_L G M_L_law (lwP G b L xs) room_1 c.1 c.2 882 (lwl n) [] (hp S c) (lwZ b) := by
  obtain ⟨v, S1, S2, e1, e2, R2⟩ := pr_after (c := c) R (xs (6 * n + 1)) (xs (6 * n + 2)) (xs (6 * n + 3)) (xs (6 * n + 4))
  refine l_aload_n dL_law_882 rfl ?_
  refine l_sc hS 1 (by decide) (by omega) rfl rfl dL_law_883 dL_law_884 dL_law_886 dL_law_887 dL_law_888 ?_
  refine l_sc hS 2 (by decide) (by omega) rfl rfl dL_law_889 dL_law_890 dL_law_892 dL_law_893 dL_law_894 ?_
  refine l_sc hS 3 (by decide) (by omega) rfl rfl dL_law_895 dL_law_896 dL_law_898 dL_law_899 dL_law_900 ?_
  refine l_sc hS 4 (by decide) (by omega) rfl rfl dL_law_901 dL_law_902 dL_law_904 dL_law_905 dL_law_906 ?_
  refine l_callK dL_law_907 ⟨cb_X11_after, ml_L_108, im_X11_after⟩ se_11_X11_after (ckf_X11_after e1) (ev_X11_after e1) ⟨Nat.le_of_ble_eq_true rfl, Nat.le_of_ble_eq_true rfl⟩ hc rfl (As := [.int (xs (6 * n + 1)), .int (xs (6 * n + 2)), .int (xs (6 * n + 3)), .int (xs (6 * n + 4))]) rfl (st := []) rfl (Nat.le_of_ble_eq_true rfl) rfl ?_
  refine l_aload_n dL_law_910 rfl ?_
  refine l_sc hS 1 (by decide) (by omega) rfl rfl dL_law_911 dL_law_912 dL_law_914 dL_law_915 dL_law_916 ?_
  refine l_sc hS 2 (by decide) (by omega) rfl rfl dL_law_917 dL_law_918 dL_law_920 dL_law_921 dL_law_922 ?_
  refine l_sc hS 3 (by decide) (by omega) rfl rfl dL_law_923 dL_law_924 dL_law_926 dL_law_927 dL_law_928 ?_
  refine l_sc hS 4 (by decide) (by omega) rfl rfl dL_law_929 dL_law_930 dL_law_932 dL_law_933 dL_law_934 ?_
  refine l_callK dL_law_935 ⟨cb_X12_after, ml_L_112, im_X12_after⟩ se_12_X12_after (ckf_X12_after e2) (ev_X12_after e2) ⟨Nat.le_of_ble_eq_true rfl, Nat.le_of_ble_eq_true rfl⟩ hc rfl (As := [.int (xs (6 * n + 1)), .int (xs (6 * n + 2)), .int (xs (6 * n + 3)), .int (xs (6 * n + 4))]) rfl (st := [.int v]) rfl (Nat.le_of_ble_eq_true rfl) rfl ?_
  exact l_icmp_eq dL_law_938 (tgt := 1602) (by decide) (fun _ => K S2 R2) (fun z => absurd rfl z)
end LC
