section LP
variable {p : Program} {l : Launch} {e : Env} {s : State} {m : MethodId} {below : List Frame} {meth : Method} {c : Code} {b L : Nat} {xs : Nat → Int32} {D : va_G} {cA : Nat → ClassId} {aC aM : Nat → Nat} {pc : Nat} {i : Int} {st : List Value} {hC hM : Hp}
theorem law_next (C : LCx p s m meth c b L xs D cA aC aM) (k : LV p l e s m below meth c b D cA aC aM 18 (i + 4) [] hC hM) : LV p l e s m below meth c b D cA aC aM 754 i [] hC hM := by
  intro H locs las h1 h2 h3 h4 h5 h6
  refine lv_iinc (v := Int32.ofInt (i + 4)) (lv' := [(3, .int (Int32.ofInt (i + 4))), (0, .ref b), (1, .ref (aC 0)), (2, .ref (aM 0))]) C.1.1 C.1.2.1 dL_law_754 h6 (k := 3) rfl (by rw [Int32.ofInt_add]) (by decide) rfl (fun ls hl => ?_)
  exact lv_goto (tgt := 18) C.1.1 C.1.2.1 dL_law_757 (by decide) (k H locs ls h1 h2 h3 h4 h5 (lv_sub hl [1, 2, 3, 0] rfl))
theorem law_test (C : LCx p s m meth c b L xs D cA aC aM) (hi : 0 ≤ i ∧ i ≤ 300) (kt : (L : Int) - 4 < i → LV p l e s m below meth c b D cA aC aM 760 i [] hC hM) (kf : ¬ (L : Int) - 4 < i → LV p l e s m below meth c b D cA aC aM 26 i [] hC hM) : LV p l e s m below meth c b D cA aC aM 18 i [] hC hM := by
  intro H locs las h1 h2 h3 h4 h5 h6
  obtain ⟨⟨hx, hb, hr, hml, hown, hts, hX, hbl, hlocks, hgv⟩, hK, hap, hL2⟩ := C
  refine lv_iload_n hx hb dL_law_18 rfl (lv_at h6 3 rfl) ?_
  refine lv_aload_n hx hb dL_law_19 rfl (lv_at h6 0 rfl) ?_
  refine va_slen hx hb hX hbl (Nat.not_le.mpr hbl) h5 dL_law_20 ?_
  refine lv_iconst (v := Int32.ofInt 4) hx hb dL_law_21 rfl ?_
  refine lv_isub hx hb dL_law_22 ?_
  rw [show Int32.ofNat L = Int32.ofInt (L : Int) from q_nat L, ← Int32.ofInt_sub]
  exact lv_icmp_gt (tgt := 760) hx hb dL_law_23 (by decide) (fun w => kt ((q_lt ⟨by omega, by omega⟩ ⟨by omega, by omega⟩).mp w) H locs las h1 h2 h3 h4 h5 h6) (fun w => kf (fun v => w ((q_lt ⟨by omega, by omega⟩ ⟨by omega, by omega⟩).mpr v)) H locs las h1 h2 h3 h4 h5 h6)
theorem law_exit (C : LCx p s m meth c b L xs D cA aC aM) : LV p l e s m below meth c b D cA aC aM 760 i [] hC hM := by
  intro H locs las h1 h2 h3 h4 h5 h6
  obtain ⟨⟨hx, hb, hr, hml, hown, hts, hX, hbl, hlocks, hgv⟩, hK, hap, hL2⟩ := C
  refine lv_iconst (v := 1) hx hb dL_law_760 (by decide) ?_
  exact va_forget h5.2.2 (lw_ret hx hb hr hlocks dL_law_761)
theorem law_body (C : LCx p s m meth c b L xs D cA aC aM) (hi : 0 ≤ i) (hL : i + 4 ≤ L) (r : Rel hC hM) (K : ∀ h' h'', Rel h' h'' → LV p l e s m below meth c b D cA aC aM 754 i [] h' h'') : LV p l e s m below meth c b D cA aC aM 26 i [] hC hM := by
  intro H locs las h1 h2 h3 h4 h5 h6
  obtain ⟨⟨hx, hb, hr, hml, hown, hts, hX, hbl, hlocks, hgv⟩, hK, hap, hL2⟩ := id C
  refine lv_aload_n hx hb dL_law_26 rfl (lv_at h6 0 rfl) ?_
  refine lv_iload_n hx hb dL_law_27 rfl (lv_at h6 3 rfl) ?_
  refine va_sld hx hb hX hbl (Nat.not_le.mpr hbl) h5 (q_in hi (by omega) (by omega)) dL_law_28 ?_
  refine lv_bipush (v := 31) hx hb dL_law_29 (by decide +kernel) ?_
  refine lv_iand hx hb dL_law_31 ?_
  obtain ⟨j, hj, ej⟩ := pk_andE (xs (Int32.ofInt i).toNatClampNeg) (m := 31) 5 (by decide +kernel)
  rw [ej]
  have hj : j < 32 := hj
  have tz : (nI j).toInt = (j : Int) := by rw [q_nat, q_toI ⟨by omega, by omega⟩]
  have hj2 : j = 0 ∨ j = 1 ∨ j = 2 ∨ j = 3 ∨ j = 4 ∨ j = 5 ∨ j = 6 ∨ j = 7 ∨ j = 8 ∨ j = 9 ∨ j = 10 ∨ j = 11 ∨ j = 12 ∨ j = 13 ∨ j = 14 ∨ j = 15 ∨ j = 16 ∨ j = 17 ∨ j = 18 ∨ j = 19 ∨ j = 20 ∨ j = 21 ∨ j = 22 ∨ j = 23 ∨ j = 24 ∨ 24 < j := by omega
  rcases hj2 with rfl | rfl | rfl | rfl | rfl | rfl | rfl | rfl | rfl | rfl | rfl | rfl | rfl | rfl | rfl | rfl | rfl | rfl | rfl | rfl | rfl | rfl | rfl | rfl | rfl | w
  · refine lv_tableIn (tgt := 148) (off := 116) hx hb dL_law_32 (by rw [tz]; decide) (by rw [tz]; decide) (by rw [tz]; rfl) (by decide) ?_
    exact arm1 C hi hL (a_type r (q_rng _)) kL_13 kL_17 rfl rfl (by decide) (by decide) sl_149 sl_158 dL_law_148 dL_law_154 dL_law_157 dL_law_163 dL_law_166 (by decide) K H locs las h1 h2 h3 h4 h5 h6
  · refine lv_tableIn (tgt := 171) (off := 139) hx hb dL_law_32 (by rw [tz]; decide) (by rw [tz]; decide) (by rw [tz]; rfl) (by decide) ?_
    exact arm0 C (a_clear r) kL_18 kL_22 rfl rfl (by decide) (by decide) dL_law_171 dL_law_172 dL_law_175 dL_law_176 dL_law_179 (by decide) K H locs las h1 h2 h3 h4 h5 h6
  · refine lv_tableIn (tgt := 184) (off := 152) hx hb dL_law_32 (by rw [tz]; decide) (by rw [tz]; decide) (by rw [tz]; rfl) (by decide) ?_
    exact arm0 C (a_spa r) kL_23 kL_26 rfl rfl (by decide) (by decide) dL_law_184 dL_law_185 dL_law_188 dL_law_189 dL_law_192 (by decide) K H locs las h1 h2 h3 h4 h5 h6
  · refine lv_tableIn (tgt := 197) (off := 165) hx hb dL_law_32 (by rw [tz]; decide) (by rw [tz]; decide) (by rw [tz]; rfl) (by decide) ?_
    exact arm2 C hi hL (a_chair r (q_rng _) (q_rng _)) kL_27 kL_31 rfl rfl (by decide) (by decide) sl_198 sl_203 sl_212 sl_217 dL_law_197 dL_law_208 dL_law_211 dL_law_222 dL_law_225 (by decide) K H locs las h1 h2 h3 h4 h5 h6
  · refine lv_tableIn (tgt := 230) (off := 198) hx hb dL_law_32 (by rw [tz]; decide) (by rw [tz]; decide) (by rw [tz]; rfl) (by decide) ?_
    exact arm1 C hi hL (a_pusher r (q_rng _)) kL_32 kL_35 rfl rfl (by decide) (by decide) sl_231 sl_240 dL_law_230 dL_law_236 dL_law_239 dL_law_245 dL_law_248 (by decide) K H locs las h1 h2 h3 h4 h5 h6
  · refine lv_tableIn (tgt := 253) (off := 221) hx hb dL_law_32 (by rw [tz]; decide) (by rw [tz]; decide) (by rw [tz]; rfl) (by decide) ?_
    exact arm1 C hi hL (a_cell r (q_rng _)) kL_36 kL_39 rfl rfl (by decide) (by decide) sl_254 sl_263 dL_law_253 dL_law_259 dL_law_262 dL_law_268 dL_law_271 (by decide) K H locs las h1 h2 h3 h4 h5 h6
  · refine lv_tableIn (tgt := 276) (off := 244) hx hb dL_law_32 (by rw [tz]; decide) (by rw [tz]; decide) (by rw [tz]; rfl) (by decide) ?_
    exact arm1 C hi hL (a_now r (q_rng _)) kL_40 kL_43 rfl rfl (by decide) (by decide) sl_277 sl_286 dL_law_276 dL_law_282 dL_law_285 dL_law_291 dL_law_294 (by decide) K H locs las h1 h2 h3 h4 h5 h6
  · refine lv_tableIn (tgt := 299) (off := 267) hx hb dL_law_32 (by rw [tz]; decide) (by rw [tz]; decide) (by rw [tz]; rfl) (by decide) ?_
    exact arm0 C (a_tuesday r) kL_44 kL_47 rfl rfl (by decide) (by decide) dL_law_299 dL_law_300 dL_law_303 dL_law_304 dL_law_307 (by decide) K H locs las h1 h2 h3 h4 h5 h6
  · refine lv_tableIn (tgt := 312) (off := 280) hx hb dL_law_32 (by rw [tz]; decide) (by rw [tz]; decide) (by rw [tz]; rfl) (by decide) ?_
    exact arm2 C hi hL (a_changes r (q_rng _) (q_rng _)) kL_48 kL_51 rfl rfl (by decide) (by decide) sl_313 sl_318 sl_327 sl_332 dL_law_312 dL_law_323 dL_law_326 dL_law_337 dL_law_340 (by decide) K H locs las h1 h2 h3 h4 h5 h6
  · refine lv_tableIn (tgt := 345) (off := 313) hx hb dL_law_32 (by rw [tz]; decide) (by rw [tz]; decide) (by rw [tz]; rfl) (by decide) ?_
    exact arm2 C hi hL (a_sets r (q_rng _) (q_rng _)) kL_52 kL_55 rfl rfl (by decide) (by decide) sl_346 sl_351 sl_360 sl_365 dL_law_345 dL_law_356 dL_law_359 dL_law_370 dL_law_373 (by decide) K H locs las h1 h2 h3 h4 h5 h6
  · refine lv_tableIn (tgt := 378) (off := 346) hx hb dL_law_32 (by rw [tz]; decide) (by rw [tz]; decide) (by rw [tz]; rfl) (by decide) ?_
    exact arm2 C hi hL (a_greases r (q_rng _) (q_rng _)) kL_56 kL_59 rfl rfl (by decide) (by decide) sl_379 sl_384 sl_393 sl_398 dL_law_378 dL_law_389 dL_law_392 dL_law_403 dL_law_406 (by decide) K H locs las h1 h2 h3 h4 h5 h6
  · refine lv_tableIn (tgt := 411) (off := 379) hx hb dL_law_32 (by rw [tz]; decide) (by rw [tz]; decide) (by rw [tz]; rfl) (by decide) ?_
    exact arm0 C (a_undo r) kL_60 kL_63 rfl rfl (by decide) (by decide) dL_law_411 dL_law_412 dL_law_415 dL_law_416 dL_law_419 (by decide) K H locs las h1 h2 h3 h4 h5 h6
  · refine lv_tableIn (tgt := 424) (off := 392) hx hb dL_law_32 (by rw [tz]; decide) (by rw [tz]; decide) (by rw [tz]; rfl) (by decide) ?_
    exact arm1 C hi hL (a_time r (q_rng _)) kL_64 kL_67 rfl rfl (by decide) (by decide) sl_425 sl_434 dL_law_424 dL_law_430 dL_law_433 dL_law_439 dL_law_442 (by decide) K H locs las h1 h2 h3 h4 h5 h6
  · refine lv_tableIn (tgt := 447) (off := 415) hx hb dL_law_32 (by rw [tz]; decide) (by rw [tz]; decide) (by rw [tz]; rfl) (by decide) ?_
    exact arm1 C hi hL (a_place r (q_rng _)) kL_68 kL_71 rfl rfl (by decide) (by decide) sl_448 sl_457 dL_law_447 dL_law_453 dL_law_456 dL_law_462 dL_law_465 (by decide) K H locs las h1 h2 h3 h4 h5 h6
  · refine lv_tableIn (tgt := 470) (off := 438) hx hb dL_law_32 (by rw [tz]; decide) (by rw [tz]; decide) (by rw [tz]; rfl) (by decide) ?_
    exact arm1 C hi hL (a_alone r (q_rng _)) kL_72 kL_75 rfl rfl (by decide) (by decide) sl_471 sl_480 dL_law_470 dL_law_476 dL_law_479 dL_law_485 dL_law_488 (by decide) K H locs las h1 h2 h3 h4 h5 h6
  · refine lv_tableIn (tgt := 493) (off := 461) hx hb dL_law_32 (by rw [tz]; decide) (by rw [tz]; decide) (by rw [tz]; rfl) (by decide) ?_
    exact arm2 C hi hL (a_king r (q_rng _) (q_rng _)) kL_76 kL_79 rfl rfl (by decide) (by decide) sl_494 sl_499 sl_508 sl_513 dL_law_493 dL_law_504 dL_law_507 dL_law_518 dL_law_521 (by decide) K H locs las h1 h2 h3 h4 h5 h6
  · refine lv_tableIn (tgt := 526) (off := 494) hx hb dL_law_32 (by rw [tz]; decide) (by rw [tz]; decide) (by rw [tz]; rfl) (by decide) ?_
    exact arm1 C hi hL (a_fair r (q_rng _)) kL_80 kL_83 rfl rfl (by decide) (by decide) sl_527 sl_536 dL_law_526 dL_law_532 dL_law_535 dL_law_541 dL_law_544 (by decide) K H locs las h1 h2 h3 h4 h5 h6
  · refine lv_tableIn (tgt := 549) (off := 517) hx hb dL_law_32 (by rw [tz]; decide) (by rw [tz]; decide) (by rw [tz]; rfl) (by decide) ?_
    exact arm3 C hi hL (a_odds r (q_rng _) (q_rng _) (q_rng _)) kL_84 kL_88 rfl rfl (by decide) (by decide) sl_550 sl_555 sl_560 sl_569 sl_574 sl_579 dL_law_549 dL_law_565 dL_law_568 dL_law_584 dL_law_587 (by decide) K H locs las h1 h2 h3 h4 h5 h6
  · refine lv_tableIn (tgt := 592) (off := 560) hx hb dL_law_32 (by rw [tz]; decide) (by rw [tz]; decide) (by rw [tz]; rfl) (by decide) ?_
    exact arm2 C hi hL (a_times r (q_rng _) (q_rng _)) kL_89 kL_92 rfl rfl (by decide) (by decide) sl_593 sl_598 sl_607 sl_612 dL_law_592 dL_law_603 dL_law_606 dL_law_617 dL_law_620 (by decide) K H locs las h1 h2 h3 h4 h5 h6
  · refine lv_tableIn (tgt := 625) (off := 593) hx hb dL_law_32 (by rw [tz]; decide) (by rw [tz]; decide) (by rw [tz]; rfl) (by decide) ?_
    exact arm0 C (a_forget r) kL_93 kL_96 rfl rfl (by decide) (by decide) dL_law_625 dL_law_626 dL_law_629 dL_law_630 dL_law_633 (by decide) K H locs las h1 h2 h3 h4 h5 h6
  · refine lv_tableIn (tgt := 638) (off := 606) hx hb dL_law_32 (by rw [tz]; decide) (by rw [tz]; decide) (by rw [tz]; rfl) (by decide) ?_
    exact arm2 C hi hL (a_rate r (q_rng _) (q_rng _)) kL_97 kL_100 rfl rfl (by decide) (by decide) sl_639 sl_644 sl_653 sl_658 dL_law_638 dL_law_649 dL_law_652 dL_law_663 dL_law_666 (by decide) K H locs las h1 h2 h3 h4 h5 h6
  · refine lv_tableIn (tgt := 671) (off := 639) hx hb dL_law_32 (by rw [tz]; decide) (by rw [tz]; decide) (by rw [tz]; rfl) (by decide) ?_
    exact arm1 C hi hL (a_keep r (q_rng _)) kL_101 kL_104 rfl rfl (by decide) (by decide) sl_672 sl_681 dL_law_671 dL_law_677 dL_law_680 dL_law_686 dL_law_689 (by decide) K H locs las h1 h2 h3 h4 h5 h6
  · refine lv_tableIn (tgt := 694) (off := 662) hx hb dL_law_32 (by rw [tz]; decide) (by rw [tz]; decide) (by rw [tz]; rfl) (by decide) ?_
    exact arm1 C hi hL (a_back r (q_rng _)) kL_105 kL_108 rfl rfl (by decide) (by decide) sl_695 sl_704 dL_law_694 dL_law_700 dL_law_703 dL_law_709 dL_law_712 (by decide) K H locs las h1 h2 h3 h4 h5 h6
  · refine lv_tableIn (tgt := 717) (off := 685) hx hb dL_law_32 (by rw [tz]; decide) (by rw [tz]; decide) (by rw [tz]; rfl) (by decide) ?_
    exact arm1 C hi hL (a_count r (q_rng _)) kL_109 kL_112 rfl rfl (by decide) (by decide) sl_718 sl_727 dL_law_717 dL_law_723 dL_law_726 dL_law_732 dL_law_735 (by decide) K H locs las h1 h2 h3 h4 h5 h6
  · refine lv_tableIn (tgt := 740) (off := 708) hx hb dL_law_32 (by rw [tz]; decide) (by rw [tz]; decide) (by rw [tz]; rfl) (by decide) ?_
    exact armT C r K H locs las h1 h2 h3 h4 h5 h6
  · refine lv_tableOut (tgt := 754) hx hb dL_law_32 (by rw [tz]; omega) (by decide) ?_
    exact K hC hM r H locs las h1 h2 h3 h4 h5 h6
theorem law_loop (C : LCx p s m meth c b L xs D cA aC aM) : ∀ (n : Nat) (i : Int) (hC hM : Hp), 0 ≤ i → i ≤ 260 → (L : Int) - i < n → Rel hC hM → LV p l e s m below meth c b D cA aC aM 18 i [] hC hM := by
  have hL2 := C.2.2.2
  intro n
  induction n with
  | zero => intro i hC hM h0 h1 h2 r; exact law_test C ⟨h0, by omega⟩ (fun _ => law_exit C) (fun w => absurd (by omega) w)
  | succ n ih =>
    intro i hC hM h0 h1 h2 r
    exact law_test C ⟨h0, by omega⟩ (fun _ => law_exit C) (fun w => law_body C h0 (by omega) r (fun h' h'' r' => law_next C (ih (i + 4) h' h'' (by omega) (by omega) (by omega) r')))
end LP
