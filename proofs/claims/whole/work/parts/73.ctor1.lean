abbrev sh5 : List CS := [.inr (5, [.inr 1, .inl 0, .inl 0, .inl 0, .inl 0, .inl 0]), .inl (0, 120)]
abbrev sh6 : List CS := [.inr (6, [.inr 1, .inr 2, .inr 3, .inr 4, .inl 0, .inl 0, .inl 0]), .inl (0, 16), .inl (0, 5), .inl (0, 5), .inl (0, 5)]
abbrev sh0 : List CS := [.inr (0, [.inr 1, .inr 2, .inr 3, .inr 4, .inl 0, .inl 2]), .inl (0, 5), .inl (0, 5), .inl (1, 5), .inl (0, 5)]
abbrev sh1 : List CS := [.inr (1, [.inr 1, .inr 2, .inr 3, .inl 0]), .inl (0, 10), .inl (0, 10), .inl (0, 10)]
abbrev sh7 : List CS := [.inr (7, [.inr 1, .inr 2, .inl 0]), .inl (0, 6), .inl (0, 6)]
abbrev sh4 : List CS := [.inr (4, [.inr 1, .inr 2, .inr 3, .inr 4, .inr 5, .inl 0]), .inl (0, 5), .inl (0, 5), .inl (0, 5), .inl (0, 5), .inl (0, 5)]
abbrev sh3 : List CS := [.inr (3, [.inl 1])]
abbrev sh2 : List CS := [.inr (2, [.inr 1, .inr 6, .inr 11, .inr 17, .inr 18, .inr 19]), .inr (6, [.inr 2, .inr 3, .inr 4, .inr 5, .inl 0, .inl 0, .inl 0]), .inl (0, 16), .inl (0, 5), .inl (0, 5), .inl (0, 5), .inr (0, [.inr 7, .inr 8, .inr 9, .inr 10, .inl 0, .inl 2]), .inl (0, 5), .inl (0, 5), .inl (1, 5), .inl (0, 5), .inr (4, [.inr 12, .inr 13, .inr 14, .inr 15, .inr 16, .inl 0]), .inl (0, 5), .inl (0, 5), .inl (0, 5), .inl (0, 5), .inl (0, 5), .inl (0, 5), .inl (0, 5), .inl (0, 5)]
abbrev mX5_init : MI := (yX5_init, cX5_init, 1, none, { frames := 1, cells := 1, slots := 120, locals := 12 })
abbrev mX6_init : MI := (yX6_init, cX6_init, 1, none, { frames := 1, cells := 4, slots := 31, locals := 12 })
abbrev mX0_init : MI := (yX0_init, cX0_init, 1, none, { frames := 1, cells := 4, slots := 20, locals := 12 })
abbrev mX1_init : MI := (yX1_init, cX1_init, 1, none, { frames := 1, cells := 3, slots := 30, locals := 12 })
abbrev mX7_init : MI := (yX7_init, cX7_init, 1, none, { frames := 1, cells := 2, slots := 12, locals := 12 })
abbrev mX4_init : MI := (yX4_init, cX4_init, 1, none, { frames := 1, cells := 5, slots := 25, locals := 12 })
abbrev mX3_init : MI := (yX3_init, cX3_init, 1, none, { frames := 1, cells := 0, slots := 0, locals := 12 })
abbrev mX2_init : MI := (yX2_init, cX2_init, 1, none, { frames := 2, cells := 19, slots := 110, locals := 32 })
abbrev mX9_init : MI := (yX9_init, cX9_init, 1, none, { frames := 1, cells := 21, slots := 494, locals := 12 })
abbrev mX8_init : MI := (yX8_init, cX8_init, 1, none, { frames := 3, cells := 45, slots := 382, locals := 52 })
theorem gX5_9 : FF RX5 9 5 0 (.array .int) := ⟨RX5, TX5, 6, tyX5, rfl, by decide, inX5, gw_in 75 (by decide +kernel) (by decide +kernel), tyX5_ok, nmX5, rfl, rfl, by decide +kernel⟩
theorem gX6_9 : FF RX6 9 6 0 (.array .int) := ⟨RX6, TX6, 7, tyX6, rfl, by decide, inX6, gw_in 102 (by decide +kernel) (by decide +kernel), tyX6_ok, nmX6, rfl, rfl, by decide +kernel⟩
theorem gX6_15 : FF RX6 15 6 1 (.array .int) := ⟨RX6, TX6, 7, tyX6, rfl, by decide, inX6, gw_in 105 (by decide +kernel) (by decide +kernel), tyX6_ok, nmX6, rfl, rfl, by decide +kernel⟩
theorem gX6_18 : FF RX6 18 6 2 (.array .int) := ⟨RX6, TX6, 7, tyX6, rfl, by decide, inX6, gw_in 108 (by decide +kernel) (by decide +kernel), tyX6_ok, nmX6, rfl, rfl, by decide +kernel⟩
theorem gX6_21 : FF RX6 21 6 3 (.array .int) := ⟨RX6, TX6, 7, tyX6, rfl, by decide, inX6, gw_in 111 (by decide +kernel) (by decide +kernel), tyX6_ok, nmX6, rfl, rfl, by decide +kernel⟩
theorem gX0_9 : FF RX0 9 0 0 (.array .int) := ⟨RX0, TX0, 6, tyX0, rfl, by decide, inX0, gw_in 147 (by decide +kernel) (by decide +kernel), tyX0_ok, nmX0, rfl, rfl, by decide +kernel⟩
theorem gX0_15 : FF RX0 15 0 1 (.array .int) := ⟨RX0, TX0, 6, tyX0, rfl, by decide, inX0, gw_in 150 (by decide +kernel) (by decide +kernel), tyX0_ok, nmX0, rfl, rfl, by decide +kernel⟩
theorem gX0_18 : FF RX0 18 0 2 (.array .boolean) := ⟨RX0, TX0, 6, tyX0, rfl, by decide, inX0, gw_in 155 (by decide +kernel) (by decide +kernel), tyX0_ok, nmX0, rfl, rfl, by decide +kernel⟩
theorem gX0_22 : FF RX0 22 0 3 (.array .int) := ⟨RX0, TX0, 6, tyX0, rfl, by decide, inX0, gw_in 159 (by decide +kernel) (by decide +kernel), tyX0_ok, nmX0, rfl, rfl, by decide +kernel⟩
theorem gX1_9 : FF RX1 9 1 0 (.array .int) := ⟨RX1, TX1, 4, tyX1, rfl, by decide, inX1, gw_in 187 (by decide +kernel) (by decide +kernel), tyX1_ok, nmX1, rfl, rfl, by decide +kernel⟩
theorem gX1_15 : FF RX1 15 1 1 (.array .int) := ⟨RX1, TX1, 4, tyX1, rfl, by decide, inX1, gw_in 188 (by decide +kernel) (by decide +kernel), tyX1_ok, nmX1, rfl, rfl, by decide +kernel⟩
theorem gX1_18 : FF RX1 18 1 2 (.array .int) := ⟨RX1, TX1, 4, tyX1, rfl, by decide, inX1, gw_in 189 (by decide +kernel) (by decide +kernel), tyX1_ok, nmX1, rfl, rfl, by decide +kernel⟩
theorem gX7_9 : FF RX7 9 7 0 (.array .int) := ⟨RX7, TX7, 3, tyX7, rfl, by decide, inX7, gw_in 207 (by decide +kernel) (by decide +kernel), tyX7_ok, nmX7, rfl, rfl, by decide +kernel⟩
theorem gX7_15 : FF RX7 15 7 1 (.array .int) := ⟨RX7, TX7, 3, tyX7, rfl, by decide, inX7, gw_in 208 (by decide +kernel) (by decide +kernel), tyX7_ok, nmX7, rfl, rfl, by decide +kernel⟩
theorem gX4_9 : FF RX4 9 4 0 (.array .int) := ⟨RX4, TX4, 6, tyX4, rfl, by decide, inX4, gw_in 245 (by decide +kernel) (by decide +kernel), tyX4_ok, nmX4, rfl, rfl, by decide +kernel⟩
theorem gX4_15 : FF RX4 15 4 1 (.array .int) := ⟨RX4, TX4, 6, tyX4, rfl, by decide, inX4, gw_in 247 (by decide +kernel) (by decide +kernel), tyX4_ok, nmX4, rfl, rfl, by decide +kernel⟩
theorem gX4_18 : FF RX4 18 4 2 (.array .int) := ⟨RX4, TX4, 6, tyX4, rfl, by decide, inX4, gw_in 249 (by decide +kernel) (by decide +kernel), tyX4_ok, nmX4, rfl, rfl, by decide +kernel⟩
theorem gX4_21 : FF RX4 21 4 3 (.array .int) := ⟨RX4, TX4, 6, tyX4, rfl, by decide, inX4, gw_in 250 (by decide +kernel) (by decide +kernel), tyX4_ok, nmX4, rfl, rfl, by decide +kernel⟩
theorem gX4_24 : FF RX4 24 4 4 (.array .int) := ⟨RX4, TX4, 6, tyX4, rfl, by decide, inX4, gw_in 251 (by decide +kernel) (by decide +kernel), tyX4_ok, nmX4, rfl, rfl, by decide +kernel⟩
theorem gX2_12 : FF RX2 12 2 0 (.object "ChairRegents$Spa") := ⟨RX2, TX2, 6, tyX2, rfl, by decide, inX2, gw_in 266 (by decide +kernel) (by decide +kernel), tyX2_ok, nmX2, rfl, rfl, by decide +kernel⟩
theorem gX2_21 : FF RX2 21 2 1 (.object "ChairRegents$Day") := ⟨RX2, TX2, 6, tyX2, rfl, by decide, inX2, gw_in 268 (by decide +kernel) (by decide +kernel), tyX2_ok, nmX2, rfl, rfl, by decide +kernel⟩
theorem gX2_28 : FF RX2 28 2 2 (.object "ChairRegents$Race") := ⟨RX2, TX2, 6, tyX2, rfl, by decide, inX2, gw_in 270 (by decide +kernel) (by decide +kernel), tyX2_ok, nmX2, rfl, rfl, by decide +kernel⟩
theorem gX2_32 : FF RX2 32 2 3 (.array .int) := ⟨RX2, TX2, 6, tyX2, rfl, by decide, inX2, gw_in 271 (by decide +kernel) (by decide +kernel), tyX2_ok, nmX2, rfl, rfl, by decide +kernel⟩
theorem gX2_36 : FF RX2 36 2 4 (.array .int) := ⟨RX2, TX2, 6, tyX2, rfl, by decide, inX2, gw_in 272 (by decide +kernel) (by decide +kernel), tyX2_ok, nmX2, rfl, rfl, by decide +kernel⟩
theorem gX2_39 : FF RX2 39 2 5 (.array .int) := ⟨RX2, TX2, 6, tyX2, rfl, by decide, inX2, gw_in 273 (by decide +kernel) (by decide +kernel), tyX2_ok, nmX2, rfl, rfl, by decide +kernel⟩
theorem gX9_7 : FF RX9 7 9 1 (.array .int) := ⟨RX9, TX9, 36, tyX9, rfl, by decide, inX9, gw_in 721 (by decide +kernel) (by decide +kernel), tyX9_ok, nmX9, rfl, rfl, by decide +kernel⟩
theorem gX9_13 : FF RX9 13 9 3 (.array .int) := ⟨RX9, TX9, 36, tyX9, rfl, by decide, inX9, gw_in 723 (by decide +kernel) (by decide +kernel), tyX9_ok, nmX9, rfl, rfl, by decide +kernel⟩
theorem gX9_16 : FF RX9 16 9 4 (.array .int) := ⟨RX9, TX9, 36, tyX9, rfl, by decide, inX9, gw_in 724 (by decide +kernel) (by decide +kernel), tyX9_ok, nmX9, rfl, rfl, by decide +kernel⟩
theorem gX9_19 : FF RX9 19 9 5 (.array .int) := ⟨RX9, TX9, 36, tyX9, rfl, by decide, inX9, gw_in 725 (by decide +kernel) (by decide +kernel), tyX9_ok, nmX9, rfl, rfl, by decide +kernel⟩
theorem gX9_22 : FF RX9 22 9 6 (.array .int) := ⟨RX9, TX9, 36, tyX9, rfl, by decide, inX9, gw_in 726 (by decide +kernel) (by decide +kernel), tyX9_ok, nmX9, rfl, rfl, by decide +kernel⟩
theorem gX9_25 : FF RX9 25 9 8 (.array .int) := ⟨RX9, TX9, 36, tyX9, rfl, by decide, inX9, gw_in 728 (by decide +kernel) (by decide +kernel), tyX9_ok, nmX9, rfl, rfl, by decide +kernel⟩
theorem gX9_28 : FF RX9 28 9 9 (.array .boolean) := ⟨RX9, TX9, 36, tyX9, rfl, by decide, inX9, gw_in 729 (by decide +kernel) (by decide +kernel), tyX9_ok, nmX9, rfl, rfl, by decide +kernel⟩
theorem gX9_32 : FF RX9 32 9 11 (.array .int) := ⟨RX9, TX9, 36, tyX9, rfl, by decide, inX9, gw_in 731 (by decide +kernel) (by decide +kernel), tyX9_ok, nmX9, rfl, rfl, by decide +kernel⟩
theorem gX9_35 : FF RX9 35 9 13 (.array .int) := ⟨RX9, TX9, 36, tyX9, rfl, by decide, inX9, gw_in 733 (by decide +kernel) (by decide +kernel), tyX9_ok, nmX9, rfl, rfl, by decide +kernel⟩
theorem gX9_38 : FF RX9 38 9 22 (.array .int) := ⟨RX9, TX9, 36, tyX9, rfl, by decide, inX9, gw_in 742 (by decide +kernel) (by decide +kernel), tyX9_ok, nmX9, rfl, rfl, by decide +kernel⟩
theorem gX9_41 : FF RX9 41 9 24 (.array .int) := ⟨RX9, TX9, 36, tyX9, rfl, by decide, inX9, gw_in 744 (by decide +kernel) (by decide +kernel), tyX9_ok, nmX9, rfl, rfl, by decide +kernel⟩
theorem gX9_44 : FF RX9 44 9 25 (.array .int) := ⟨RX9, TX9, 36, tyX9, rfl, by decide, inX9, gw_in 745 (by decide +kernel) (by decide +kernel), tyX9_ok, nmX9, rfl, rfl, by decide +kernel⟩
theorem gX9_47 : FF RX9 47 9 26 (.array .int) := ⟨RX9, TX9, 36, tyX9, rfl, by decide, inX9, gw_in 746 (by decide +kernel) (by decide +kernel), tyX9_ok, nmX9, rfl, rfl, by decide +kernel⟩
theorem gX9_50 : FF RX9 50 9 27 (.array .int) := ⟨RX9, TX9, 36, tyX9, rfl, by decide, inX9, gw_in 747 (by decide +kernel) (by decide +kernel), tyX9_ok, nmX9, rfl, rfl, by decide +kernel⟩
theorem gX9_53 : FF RX9 53 9 28 (.array .int) := ⟨RX9, TX9, 36, tyX9, rfl, by decide, inX9, gw_in 748 (by decide +kernel) (by decide +kernel), tyX9_ok, nmX9, rfl, rfl, by decide +kernel⟩
theorem gX9_56 : FF RX9 56 9 29 (.array .int) := ⟨RX9, TX9, 36, tyX9, rfl, by decide, inX9, gw_in 749 (by decide +kernel) (by decide +kernel), tyX9_ok, nmX9, rfl, rfl, by decide +kernel⟩
theorem gX9_59 : FF RX9 59 9 30 (.array .int) := ⟨RX9, TX9, 36, tyX9, rfl, by decide, inX9, gw_in 750 (by decide +kernel) (by decide +kernel), tyX9_ok, nmX9, rfl, rfl, by decide +kernel⟩
theorem gX9_62 : FF RX9 62 9 32 (.array .int) := ⟨RX9, TX9, 36, tyX9, rfl, by decide, inX9, gw_in 752 (by decide +kernel) (by decide +kernel), tyX9_ok, nmX9, rfl, rfl, by decide +kernel⟩
theorem gX9_65 : FF RX9 65 9 33 (.array .int) := ⟨RX9, TX9, 36, tyX9, rfl, by decide, inX9, gw_in 753 (by decide +kernel) (by decide +kernel), tyX9_ok, nmX9, rfl, rfl, by decide +kernel⟩
theorem gX9_68 : FF RX9 68 9 34 (.array .int) := ⟨RX9, TX9, 36, tyX9, rfl, by decide, inX9, gw_in 754 (by decide +kernel) (by decide +kernel), tyX9_ok, nmX9, rfl, rfl, by decide +kernel⟩
theorem gX9_71 : FF RX9 71 9 35 (.array .int) := ⟨RX9, TX9, 36, tyX9, rfl, by decide, inX9, gw_in 755 (by decide +kernel) (by decide +kernel), tyX9_ok, nmX9, rfl, rfl, by decide +kernel⟩
theorem gX8_10 : FF RX8 10 8 0 (.object "ChairRegents$Script") := ⟨RX8, TX8, 10, tyX8, rfl, by decide, inX8, gw_in 287 (by decide +kernel) (by decide +kernel), tyX8_ok, nmX8, rfl, rfl, by decide +kernel⟩
theorem gX8_19 : FF RX8 19 8 1 (.object "ChairRegents$Spa") := ⟨RX8, TX8, 10, tyX8, rfl, by decide, inX8, gw_in 288 (by decide +kernel) (by decide +kernel), tyX8_ok, nmX8, rfl, rfl, by decide +kernel⟩
theorem gX8_26 : FF RX8 26 8 2 (.object "ChairRegents$Day") := ⟨RX8, TX8, 10, tyX8, rfl, by decide, inX8, gw_in 289 (by decide +kernel) (by decide +kernel), tyX8_ok, nmX8, rfl, rfl, by decide +kernel⟩
theorem gX8_30 : FF RX8 30 8 3 (.object "ChairRegents$Day") := ⟨RX8, TX8, 10, tyX8, rfl, by decide, inX8, gw_in 290 (by decide +kernel) (by decide +kernel), tyX8_ok, nmX8, rfl, rfl, by decide +kernel⟩
theorem gX8_36 : FF RX8 36 8 4 (.object "ChairRegents$Deeds") := ⟨RX8, TX8, 10, tyX8, rfl, by decide, inX8, gw_in 291 (by decide +kernel) (by decide +kernel), tyX8_ok, nmX8, rfl, rfl, by decide +kernel⟩
theorem gX8_43 : FF RX8 43 8 5 (.object "ChairRegents$Stopwatch") := ⟨RX8, TX8, 10, tyX8, rfl, by decide, inX8, gw_in 292 (by decide +kernel) (by decide +kernel), tyX8_ok, nmX8, rfl, rfl, by decide +kernel⟩
theorem gX8_50 : FF RX8 50 8 6 (.object "ChairRegents$Kinds") := ⟨RX8, TX8, 10, tyX8, rfl, by decide, inX8, gw_in 293 (by decide +kernel) (by decide +kernel), tyX8_ok, nmX8, rfl, rfl, by decide +kernel⟩
theorem gX8_57 : FF RX8 57 8 7 (.object "ChairRegents$Forecast") := ⟨RX8, TX8, 10, tyX8, rfl, by decide, inX8, gw_in 294 (by decide +kernel) (by decide +kernel), tyX8_ok, nmX8, rfl, rfl, by decide +kernel⟩
theorem oX8_61 : FL RX8 61 2 0 := ⟨RX2, TX2, 6, tyX2, rfl, by decide, inX2, gw_in 267 (by decide +kernel) (by decide +kernel), tyX2_ok, nmX2⟩
theorem gX8_64 : FF RX8 64 8 8 (.object "ChairRegents$Spa") := ⟨RX8, TX8, 10, tyX8, rfl, by decide, inX8, gw_in 295 (by decide +kernel) (by decide +kernel), tyX8_ok, nmX8, rfl, rfl, by decide +kernel⟩
theorem oX8_65 : FL RX8 65 2 1 := ⟨RX2, TX2, 6, tyX2, rfl, by decide, inX2, gw_in 269 (by decide +kernel) (by decide +kernel), tyX2_ok, nmX2⟩
theorem gX8_68 : FF RX8 68 8 9 (.object "ChairRegents$Day") := ⟨RX8, TX8, 10, tyX8, rfl, by decide, inX8, gw_in 296 (by decide +kernel) (by decide +kernel), tyX8_ok, nmX8, rfl, rfl, by decide +kernel⟩
set_option maxHeartbeats 4000000 in
set_option maxRecDepth 100000 in
theorem n_X5 (l : Launch) (D : va_G) (cA : Nat → ClassId) (a sz : Nat) : Met l yX5_init (Cond.code yX5_init cX5_init 1 none :: gw_tbl) mX5_init.2.2.2.2 (CtP D cA [.ref a] [(a, .inr (5, [.null, .int (Int32.ofInt 0), .int (Int32.ofInt 0), .int (Int32.ofInt 0), .int (Int32.ofInt 0), .int (Int32.ofInt 0)]))] sz) (CtQ D (fun u => u 0 = a) (fun u => wld cA u sh5 hz) (va_A [(a, .inr (5, [.null, .int (Int32.ofInt 0), .int (Int32.ofInt 0), .int (Int32.ofInt 0), .int (Int32.ofInt 0), .int (Int32.ofInt 0)]))] sz)) 1 120 (va_A [(a, .inr (5, [.null, .int (Int32.ofInt 0), .int (Int32.ofInt 0), .int (Int32.ofInt 0), .int (Int32.ofInt 0), .int (Int32.ofInt 0)]))] sz) := by
  refine Met.ofW (cc := cX5_init) (maxL := 1) (ret := none) (by decide) rfl ?_
  intro p e s m args below meth c s₁ B hml hv
  obtain ⟨rfl, hsz, hP, hK, hN⟩ := hv
  have hx := B.exec
  have hb := B.bytes
  have hr := B.returns
  have hts0 := atoms_spec (ws := Cond.code yX5_init cX5_init 1 none :: gw_tbl) B.pre
  have hts : ∀ w ∈ gw_tbl, w.before _ s = true := fun w hw => hts0 w (List.mem_cons_of_mem _ hw)
  have hown : s.vm.findClass RX5 = some m.cls := findClass_of_methodNamed B.named
  have hin : meth.name = "<init>" := (name_of_methodNamed B.named B.method).1
  subst hsz
  have hD : va_D (va_A [(a, .inr (5, [.null, .int (Int32.ofInt 0), .int (Int32.ofInt 0), .int (Int32.ofInt 0), .int (Int32.ofInt 0), .int (Int32.ofInt 0)]))] s.heap.size) [(a, .inr (5, [.null, .int (Int32.ofInt 0), .int (Int32.ofInt 0), .int (Int32.ofInt 0), .int (Int32.ofInt 0), .int (Int32.ofInt 0)]))] := va_D1 (Or.inl ⟨0, _, rfl⟩)
  generalize hAe : va_A [(a, .inr (5, [.null, .int (Int32.ofInt 0), .int (Int32.ofInt 0), .int (Int32.ofInt 0), .int (Int32.ofInt 0), .int (Int32.ofInt 0)]))] s.heap.size = A at hD ⊢
  have hA : ∀ q : Nat, s.heap.size ≤ q → A q := fun q h => by rw [← hAe]; exact Or.inr h
  have hS : va_S A s.heap s.heap [] := va_S.rf
  have hl := lv_entry ([.ref a]) (n := 1) (Nat.le_of_ble_eq_true rfl)
  rw [lg_entry_eq]
  generalize (lg_sl ([.ref a]) ++ List.replicate (1 - (lg_sl ([.ref a])).length) Slot.unset).toArray = ls at hl ⊢
  have hl : lv_has ls 1 [(0, .ref a)] := hl
  have hP0 := hP
  have hD0 := hD
  have hS0 := hS
  clear hP hD hS
  refine lv_aload_n hx hb dX5_init_0 rfl (lv_at hl 0 rfl) ?_
  refine W.objInit hx hb hown (hts _ (gw_in 74 (by decide +kernel) (by decide +kernel))) (hts _ (gw_in 67 (by decide +kernel) (by decide +kernel))) (hts _ (gw_in 68 (by decide +kernel) (by decide +kernel))) rfl (by rw [hml]; exact hl.1) rfl dX5_init_1 (Nat.le_of_ble_eq_true rfl) (Nat.le_of_ble_eq_true rfl) ?_
  refine W.eq (g2 := F0 m 4 ls []) rfl ?_
  refine lv_aload_n hx hb dX5_init_4 rfl (lv_at hl 0 rfl) ?_
  refine lv_bipush (v := 120) hx hb dX5_init_5 (by decide +kernel) ?_
  refine bl_newI (M := mX5_init) hx hb hts hK hP0 hD0 hS0 hA 120 (by decide) (by decide +kernel) (by decide) (Nat.le_of_ble_eq_true rfl) (Nat.le_of_ble_eq_true rfl) dX5_init_7 (fun q0 H1 hP1 hD1 hS1 => ?_)
  clear hP0 hD0 hS0
  refine W.widen (k := 1) (n := 120) (Nat.le_of_ble_eq_true rfl) (Nat.le_of_ble_eq_true rfl) ?_
  refine bl_put (M := mX5_init) (v := .ref q0) gX5_9 hx hb hts hown hin hK hP1 hD1 hS1 0 rfl rfl rfl (Nat.le_of_ble_eq_true rfl) dX5_init_9 (fun H2 locs2 hP2 hD2 hS2 => ?_)
  clear hP1 hD1 hS1
  have hP9 : va_P D vwCl (wld cA (fun k : Nat => ([a, q0] : List Nat).getD k 0) sh5 hz) H2 := hP2
  have hD9 : va_D A (wld cA (fun k : Nat => ([a, q0] : List Nat).getD k 0) sh5 hz) := hD2
  exact W.vret hx hb hr (fun tt ht hW => ⟨⟨(fun k : Nat => ([a, q0] : List Nat).getD k 0), rfl, rfl, by rw [ht]; exact hP9, hD9⟩, hS2.F ht⟩) hS2.2.2 dX5_init_12
set_option maxHeartbeats 4000000 in
set_option maxRecDepth 100000 in
theorem n_X6 (l : Launch) (D : va_G) (cA : Nat → ClassId) (a sz : Nat) : Met l yX6_init (Cond.code yX6_init cX6_init 1 none :: gw_tbl) mX6_init.2.2.2.2 (CtP D cA [.ref a] [(a, .inr (6, [.null, .null, .null, .null, .int (Int32.ofInt 0), .int (Int32.ofInt 0), .int (Int32.ofInt 0)]))] sz) (CtQ D (fun u => u 0 = a) (fun u => wld cA u sh6 hz) (va_A [(a, .inr (6, [.null, .null, .null, .null, .int (Int32.ofInt 0), .int (Int32.ofInt 0), .int (Int32.ofInt 0)]))] sz)) 4 31 (va_A [(a, .inr (6, [.null, .null, .null, .null, .int (Int32.ofInt 0), .int (Int32.ofInt 0), .int (Int32.ofInt 0)]))] sz) := by
  refine Met.ofW (cc := cX6_init) (maxL := 1) (ret := none) (by decide) rfl ?_
  intro p e s m args below meth c s₁ B hml hv
  obtain ⟨rfl, hsz, hP, hK, hN⟩ := hv
  have hx := B.exec
  have hb := B.bytes
  have hr := B.returns
  have hts0 := atoms_spec (ws := Cond.code yX6_init cX6_init 1 none :: gw_tbl) B.pre
  have hts : ∀ w ∈ gw_tbl, w.before _ s = true := fun w hw => hts0 w (List.mem_cons_of_mem _ hw)
  have hown : s.vm.findClass RX6 = some m.cls := findClass_of_methodNamed B.named
  have hin : meth.name = "<init>" := (name_of_methodNamed B.named B.method).1
  subst hsz
  have hD : va_D (va_A [(a, .inr (6, [.null, .null, .null, .null, .int (Int32.ofInt 0), .int (Int32.ofInt 0), .int (Int32.ofInt 0)]))] s.heap.size) [(a, .inr (6, [.null, .null, .null, .null, .int (Int32.ofInt 0), .int (Int32.ofInt 0), .int (Int32.ofInt 0)]))] := va_D1 (Or.inl ⟨0, _, rfl⟩)
  generalize hAe : va_A [(a, .inr (6, [.null, .null, .null, .null, .int (Int32.ofInt 0), .int (Int32.ofInt 0), .int (Int32.ofInt 0)]))] s.heap.size = A at hD ⊢
  have hA : ∀ q : Nat, s.heap.size ≤ q → A q := fun q h => by rw [← hAe]; exact Or.inr h
  have hS : va_S A s.heap s.heap [] := va_S.rf
  have hl := lv_entry ([.ref a]) (n := 1) (Nat.le_of_ble_eq_true rfl)
  rw [lg_entry_eq]
  generalize (lg_sl ([.ref a]) ++ List.replicate (1 - (lg_sl ([.ref a])).length) Slot.unset).toArray = ls at hl ⊢
  have hl : lv_has ls 1 [(0, .ref a)] := hl
  have hP0 := hP
  have hD0 := hD
  have hS0 := hS
  clear hP hD hS
  refine lv_aload_n hx hb dX6_init_0 rfl (lv_at hl 0 rfl) ?_
  refine W.objInit hx hb hown (hts _ (gw_in 101 (by decide +kernel) (by decide +kernel))) (hts _ (gw_in 67 (by decide +kernel) (by decide +kernel))) (hts _ (gw_in 68 (by decide +kernel) (by decide +kernel))) rfl (by rw [hml]; exact hl.1) rfl dX6_init_1 (Nat.le_of_ble_eq_true rfl) (Nat.le_of_ble_eq_true rfl) ?_
  refine W.eq (g2 := F0 m 4 ls []) rfl ?_
  refine lv_aload_n hx hb dX6_init_4 rfl (lv_at hl 0 rfl) ?_
  refine lv_bipush (v := 16) hx hb dX6_init_5 (by decide +kernel) ?_
  refine bl_newI (M := mX6_init) hx hb hts hK hP0 hD0 hS0 hA 16 (by decide) (by decide +kernel) (by decide) (Nat.le_of_ble_eq_true rfl) (Nat.le_of_ble_eq_true rfl) dX6_init_7 (fun q0 H1 hP1 hD1 hS1 => ?_)
  clear hP0 hD0 hS0
  refine W.widen (k := 1) (n := 16) (Nat.le_of_ble_eq_true rfl) (Nat.le_of_ble_eq_true rfl) ?_
  refine bl_put (M := mX6_init) (v := .ref q0) gX6_9 hx hb hts hown hin hK hP1 hD1 hS1 0 rfl rfl rfl (Nat.le_of_ble_eq_true rfl) dX6_init_9 (fun H2 locs2 hP2 hD2 hS2 => ?_)
  clear hP1 hD1 hS1
  refine lv_aload_n hx hb dX6_init_12 rfl (lv_at hl 0 rfl) ?_
  refine lv_iconst (v := 5) hx hb dX6_init_13 (by decide) ?_
  refine bl_newI (M := mX6_init) hx hb hts hK hP2 hD2 hS2 hA 5 (by decide) (by decide +kernel) (by decide) (Nat.le_of_ble_eq_true rfl) (Nat.le_of_ble_eq_true rfl) dX6_init_14 (fun q1 H3 hP3 hD3 hS3 => ?_)
  clear hP2 hD2 hS2
  refine W.widen (k := 2) (n := 21) (Nat.le_of_ble_eq_true rfl) (Nat.le_of_ble_eq_true rfl) ?_
  refine bl_put (M := mX6_init) (v := .ref q1) gX6_15 hx hb hts hown hin hK hP3 hD3 hS3 0 rfl rfl rfl (Nat.le_of_ble_eq_true rfl) dX6_init_16 (fun H4 locs4 hP4 hD4 hS4 => ?_)
  clear hP3 hD3 hS3
  refine lv_aload_n hx hb dX6_init_19 rfl (lv_at hl 0 rfl) ?_
  refine lv_iconst (v := 5) hx hb dX6_init_20 (by decide) ?_
  refine bl_newI (M := mX6_init) hx hb hts hK hP4 hD4 hS4 hA 5 (by decide) (by decide +kernel) (by decide) (Nat.le_of_ble_eq_true rfl) (Nat.le_of_ble_eq_true rfl) dX6_init_21 (fun q2 H5 hP5 hD5 hS5 => ?_)
  clear hP4 hD4 hS4
  refine W.widen (k := 3) (n := 26) (Nat.le_of_ble_eq_true rfl) (Nat.le_of_ble_eq_true rfl) ?_
  refine bl_put (M := mX6_init) (v := .ref q2) gX6_18 hx hb hts hown hin hK hP5 hD5 hS5 0 rfl rfl rfl (Nat.le_of_ble_eq_true rfl) dX6_init_23 (fun H6 locs6 hP6 hD6 hS6 => ?_)
  clear hP5 hD5 hS5
  refine lv_aload_n hx hb dX6_init_26 rfl (lv_at hl 0 rfl) ?_
  refine lv_iconst (v := 5) hx hb dX6_init_27 (by decide) ?_
  refine bl_newI (M := mX6_init) hx hb hts hK hP6 hD6 hS6 hA 5 (by decide) (by decide +kernel) (by decide) (Nat.le_of_ble_eq_true rfl) (Nat.le_of_ble_eq_true rfl) dX6_init_28 (fun q3 H7 hP7 hD7 hS7 => ?_)
  clear hP6 hD6 hS6
  refine W.widen (k := 4) (n := 31) (Nat.le_of_ble_eq_true rfl) (Nat.le_of_ble_eq_true rfl) ?_
  refine bl_put (M := mX6_init) (v := .ref q3) gX6_21 hx hb hts hown hin hK hP7 hD7 hS7 0 rfl rfl rfl (Nat.le_of_ble_eq_true rfl) dX6_init_30 (fun H8 locs8 hP8 hD8 hS8 => ?_)
  clear hP7 hD7 hS7
  have hP9 : va_P D vwCl (wld cA (fun k : Nat => ([a, q0, q1, q2, q3] : List Nat).getD k 0) sh6 hz) H8 := hP8
  have hD9 : va_D A (wld cA (fun k : Nat => ([a, q0, q1, q2, q3] : List Nat).getD k 0) sh6 hz) := hD8
  exact W.vret hx hb hr (fun tt ht hW => ⟨⟨(fun k : Nat => ([a, q0, q1, q2, q3] : List Nat).getD k 0), rfl, rfl, by rw [ht]; exact hP9, hD9⟩, hS8.F ht⟩) hS8.2.2 dX6_init_33
set_option maxHeartbeats 4000000 in
set_option maxRecDepth 100000 in
theorem n_X0 (l : Launch) (D : va_G) (cA : Nat → ClassId) (a sz : Nat) : Met l yX0_init (Cond.code yX0_init cX0_init 1 none :: gw_tbl) mX0_init.2.2.2.2 (CtP D cA [.ref a] [(a, .inr (0, [.null, .null, .null, .null, .int (Int32.ofInt 0), .int (Int32.ofInt 0)]))] sz) (CtQ D (fun u => u 0 = a) (fun u => wld cA u sh0 hz) (va_A [(a, .inr (0, [.null, .null, .null, .null, .int (Int32.ofInt 0), .int (Int32.ofInt 0)]))] sz)) 4 20 (va_A [(a, .inr (0, [.null, .null, .null, .null, .int (Int32.ofInt 0), .int (Int32.ofInt 0)]))] sz) := by
  refine Met.ofW (cc := cX0_init) (maxL := 1) (ret := none) (by decide) rfl ?_
  intro p e s m args below meth c s₁ B hml hv
  obtain ⟨rfl, hsz, hP, hK, hN⟩ := hv
  have hx := B.exec
  have hb := B.bytes
  have hr := B.returns
  have hts0 := atoms_spec (ws := Cond.code yX0_init cX0_init 1 none :: gw_tbl) B.pre
  have hts : ∀ w ∈ gw_tbl, w.before _ s = true := fun w hw => hts0 w (List.mem_cons_of_mem _ hw)
  have hown : s.vm.findClass RX0 = some m.cls := findClass_of_methodNamed B.named
  have hin : meth.name = "<init>" := (name_of_methodNamed B.named B.method).1
  subst hsz
  have hD : va_D (va_A [(a, .inr (0, [.null, .null, .null, .null, .int (Int32.ofInt 0), .int (Int32.ofInt 0)]))] s.heap.size) [(a, .inr (0, [.null, .null, .null, .null, .int (Int32.ofInt 0), .int (Int32.ofInt 0)]))] := va_D1 (Or.inl ⟨0, _, rfl⟩)
  generalize hAe : va_A [(a, .inr (0, [.null, .null, .null, .null, .int (Int32.ofInt 0), .int (Int32.ofInt 0)]))] s.heap.size = A at hD ⊢
  have hA : ∀ q : Nat, s.heap.size ≤ q → A q := fun q h => by rw [← hAe]; exact Or.inr h
  have hS : va_S A s.heap s.heap [] := va_S.rf
  have hl := lv_entry ([.ref a]) (n := 1) (Nat.le_of_ble_eq_true rfl)
  rw [lg_entry_eq]
  generalize (lg_sl ([.ref a]) ++ List.replicate (1 - (lg_sl ([.ref a])).length) Slot.unset).toArray = ls at hl ⊢
  have hl : lv_has ls 1 [(0, .ref a)] := hl
  have hP0 := hP
  have hD0 := hD
  have hS0 := hS
  clear hP hD hS
  refine lv_aload_n hx hb dX0_init_0 rfl (lv_at hl 0 rfl) ?_
  refine W.objInit hx hb hown (hts _ (gw_in 146 (by decide +kernel) (by decide +kernel))) (hts _ (gw_in 67 (by decide +kernel) (by decide +kernel))) (hts _ (gw_in 68 (by decide +kernel) (by decide +kernel))) rfl (by rw [hml]; exact hl.1) rfl dX0_init_1 (Nat.le_of_ble_eq_true rfl) (Nat.le_of_ble_eq_true rfl) ?_
  refine W.eq (g2 := F0 m 4 ls []) rfl ?_
  refine lv_aload_n hx hb dX0_init_4 rfl (lv_at hl 0 rfl) ?_
  refine lv_iconst (v := 5) hx hb dX0_init_5 (by decide) ?_
  refine bl_newI (M := mX0_init) hx hb hts hK hP0 hD0 hS0 hA 5 (by decide) (by decide +kernel) (by decide) (Nat.le_of_ble_eq_true rfl) (Nat.le_of_ble_eq_true rfl) dX0_init_6 (fun q0 H1 hP1 hD1 hS1 => ?_)
  clear hP0 hD0 hS0
  refine W.widen (k := 1) (n := 5) (Nat.le_of_ble_eq_true rfl) (Nat.le_of_ble_eq_true rfl) ?_
  refine bl_put (M := mX0_init) (v := .ref q0) gX0_9 hx hb hts hown hin hK hP1 hD1 hS1 0 rfl rfl rfl (Nat.le_of_ble_eq_true rfl) dX0_init_8 (fun H2 locs2 hP2 hD2 hS2 => ?_)
  clear hP1 hD1 hS1
  refine lv_aload_n hx hb dX0_init_11 rfl (lv_at hl 0 rfl) ?_
  refine lv_iconst (v := 5) hx hb dX0_init_12 (by decide) ?_
  refine bl_newI (M := mX0_init) hx hb hts hK hP2 hD2 hS2 hA 5 (by decide) (by decide +kernel) (by decide) (Nat.le_of_ble_eq_true rfl) (Nat.le_of_ble_eq_true rfl) dX0_init_13 (fun q1 H3 hP3 hD3 hS3 => ?_)
  clear hP2 hD2 hS2
  refine W.widen (k := 2) (n := 10) (Nat.le_of_ble_eq_true rfl) (Nat.le_of_ble_eq_true rfl) ?_
  refine bl_put (M := mX0_init) (v := .ref q1) gX0_15 hx hb hts hown hin hK hP3 hD3 hS3 0 rfl rfl rfl (Nat.le_of_ble_eq_true rfl) dX0_init_15 (fun H4 locs4 hP4 hD4 hS4 => ?_)
  clear hP3 hD3 hS3
  refine lv_aload_n hx hb dX0_init_18 rfl (lv_at hl 0 rfl) ?_
  refine lv_iconst (v := 5) hx hb dX0_init_19 (by decide) ?_
  refine bl_newZ (M := mX0_init) hx hb hts hK hP4 hD4 hS4 hA 5 (by decide) (by decide +kernel) (by decide) (Nat.le_of_ble_eq_true rfl) (Nat.le_of_ble_eq_true rfl) dX0_init_20 (fun q2 H5 hP5 hD5 hS5 => ?_)
  clear hP4 hD4 hS4
  refine W.widen (k := 3) (n := 15) (Nat.le_of_ble_eq_true rfl) (Nat.le_of_ble_eq_true rfl) ?_
  refine bl_put (M := mX0_init) (v := .ref q2) gX0_18 hx hb hts hown hin hK hP5 hD5 hS5 0 rfl rfl rfl (Nat.le_of_ble_eq_true rfl) dX0_init_22 (fun H6 locs6 hP6 hD6 hS6 => ?_)
  clear hP5 hD5 hS5
  refine lv_aload_n hx hb dX0_init_25 rfl (lv_at hl 0 rfl) ?_
  refine lv_iconst (v := 5) hx hb dX0_init_26 (by decide) ?_
  refine bl_newI (M := mX0_init) hx hb hts hK hP6 hD6 hS6 hA 5 (by decide) (by decide +kernel) (by decide) (Nat.le_of_ble_eq_true rfl) (Nat.le_of_ble_eq_true rfl) dX0_init_27 (fun q3 H7 hP7 hD7 hS7 => ?_)
  clear hP6 hD6 hS6
  refine W.widen (k := 4) (n := 20) (Nat.le_of_ble_eq_true rfl) (Nat.le_of_ble_eq_true rfl) ?_
  refine bl_put (M := mX0_init) (v := .ref q3) gX0_22 hx hb hts hown hin hK hP7 hD7 hS7 0 rfl rfl rfl (Nat.le_of_ble_eq_true rfl) dX0_init_29 (fun H8 locs8 hP8 hD8 hS8 => ?_)
  clear hP7 hD7 hS7
  have hP9 : va_P D vwCl (wld cA (fun k : Nat => ([a, q0, q1, q2, q3] : List Nat).getD k 0) sh0 hz) H8 := hP8
  have hD9 : va_D A (wld cA (fun k : Nat => ([a, q0, q1, q2, q3] : List Nat).getD k 0) sh0 hz) := hD8
  exact W.vret hx hb hr (fun tt ht hW => ⟨⟨(fun k : Nat => ([a, q0, q1, q2, q3] : List Nat).getD k 0), rfl, rfl, by rw [ht]; exact hP9, hD9⟩, hS8.F ht⟩) hS8.2.2 dX0_init_32
set_option maxHeartbeats 4000000 in
set_option maxRecDepth 100000 in
theorem n_X1 (l : Launch) (D : va_G) (cA : Nat → ClassId) (a sz : Nat) : Met l yX1_init (Cond.code yX1_init cX1_init 1 none :: gw_tbl) mX1_init.2.2.2.2 (CtP D cA [.ref a] [(a, .inr (1, [.null, .null, .null, .int (Int32.ofInt 0)]))] sz) (CtQ D (fun u => u 0 = a) (fun u => wld cA u sh1 hz) (va_A [(a, .inr (1, [.null, .null, .null, .int (Int32.ofInt 0)]))] sz)) 3 30 (va_A [(a, .inr (1, [.null, .null, .null, .int (Int32.ofInt 0)]))] sz) := by
  refine Met.ofW (cc := cX1_init) (maxL := 1) (ret := none) (by decide) rfl ?_
  intro p e s m args below meth c s₁ B hml hv
  obtain ⟨rfl, hsz, hP, hK, hN⟩ := hv
  have hx := B.exec
  have hb := B.bytes
  have hr := B.returns
  have hts0 := atoms_spec (ws := Cond.code yX1_init cX1_init 1 none :: gw_tbl) B.pre
  have hts : ∀ w ∈ gw_tbl, w.before _ s = true := fun w hw => hts0 w (List.mem_cons_of_mem _ hw)
  have hown : s.vm.findClass RX1 = some m.cls := findClass_of_methodNamed B.named
  have hin : meth.name = "<init>" := (name_of_methodNamed B.named B.method).1
  subst hsz
  have hD : va_D (va_A [(a, .inr (1, [.null, .null, .null, .int (Int32.ofInt 0)]))] s.heap.size) [(a, .inr (1, [.null, .null, .null, .int (Int32.ofInt 0)]))] := va_D1 (Or.inl ⟨0, _, rfl⟩)
  generalize hAe : va_A [(a, .inr (1, [.null, .null, .null, .int (Int32.ofInt 0)]))] s.heap.size = A at hD ⊢
  have hA : ∀ q : Nat, s.heap.size ≤ q → A q := fun q h => by rw [← hAe]; exact Or.inr h
  have hS : va_S A s.heap s.heap [] := va_S.rf
  have hl := lv_entry ([.ref a]) (n := 1) (Nat.le_of_ble_eq_true rfl)
  rw [lg_entry_eq]
  generalize (lg_sl ([.ref a]) ++ List.replicate (1 - (lg_sl ([.ref a])).length) Slot.unset).toArray = ls at hl ⊢
  have hl : lv_has ls 1 [(0, .ref a)] := hl
  have hP0 := hP
  have hD0 := hD
  have hS0 := hS
  clear hP hD hS
  refine lv_aload_n hx hb dX1_init_0 rfl (lv_at hl 0 rfl) ?_
  refine W.objInit hx hb hown (hts _ (gw_in 186 (by decide +kernel) (by decide +kernel))) (hts _ (gw_in 67 (by decide +kernel) (by decide +kernel))) (hts _ (gw_in 68 (by decide +kernel) (by decide +kernel))) rfl (by rw [hml]; exact hl.1) rfl dX1_init_1 (Nat.le_of_ble_eq_true rfl) (Nat.le_of_ble_eq_true rfl) ?_
  refine W.eq (g2 := F0 m 4 ls []) rfl ?_
  refine lv_aload_n hx hb dX1_init_4 rfl (lv_at hl 0 rfl) ?_
  refine lv_bipush (v := 10) hx hb dX1_init_5 (by decide +kernel) ?_
  refine bl_newI (M := mX1_init) hx hb hts hK hP0 hD0 hS0 hA 10 (by decide) (by decide +kernel) (by decide) (Nat.le_of_ble_eq_true rfl) (Nat.le_of_ble_eq_true rfl) dX1_init_7 (fun q0 H1 hP1 hD1 hS1 => ?_)
  clear hP0 hD0 hS0
  refine W.widen (k := 1) (n := 10) (Nat.le_of_ble_eq_true rfl) (Nat.le_of_ble_eq_true rfl) ?_
  refine bl_put (M := mX1_init) (v := .ref q0) gX1_9 hx hb hts hown hin hK hP1 hD1 hS1 0 rfl rfl rfl (Nat.le_of_ble_eq_true rfl) dX1_init_9 (fun H2 locs2 hP2 hD2 hS2 => ?_)
  clear hP1 hD1 hS1
  refine lv_aload_n hx hb dX1_init_12 rfl (lv_at hl 0 rfl) ?_
  refine lv_bipush (v := 10) hx hb dX1_init_13 (by decide +kernel) ?_
  refine bl_newI (M := mX1_init) hx hb hts hK hP2 hD2 hS2 hA 10 (by decide) (by decide +kernel) (by decide) (Nat.le_of_ble_eq_true rfl) (Nat.le_of_ble_eq_true rfl) dX1_init_15 (fun q1 H3 hP3 hD3 hS3 => ?_)
  clear hP2 hD2 hS2
  refine W.widen (k := 2) (n := 20) (Nat.le_of_ble_eq_true rfl) (Nat.le_of_ble_eq_true rfl) ?_
  refine bl_put (M := mX1_init) (v := .ref q1) gX1_15 hx hb hts hown hin hK hP3 hD3 hS3 0 rfl rfl rfl (Nat.le_of_ble_eq_true rfl) dX1_init_17 (fun H4 locs4 hP4 hD4 hS4 => ?_)
  clear hP3 hD3 hS3
  refine lv_aload_n hx hb dX1_init_20 rfl (lv_at hl 0 rfl) ?_
  refine lv_bipush (v := 10) hx hb dX1_init_21 (by decide +kernel) ?_
  refine bl_newI (M := mX1_init) hx hb hts hK hP4 hD4 hS4 hA 10 (by decide) (by decide +kernel) (by decide) (Nat.le_of_ble_eq_true rfl) (Nat.le_of_ble_eq_true rfl) dX1_init_23 (fun q2 H5 hP5 hD5 hS5 => ?_)
  clear hP4 hD4 hS4
  refine W.widen (k := 3) (n := 30) (Nat.le_of_ble_eq_true rfl) (Nat.le_of_ble_eq_true rfl) ?_
  refine bl_put (M := mX1_init) (v := .ref q2) gX1_18 hx hb hts hown hin hK hP5 hD5 hS5 0 rfl rfl rfl (Nat.le_of_ble_eq_true rfl) dX1_init_25 (fun H6 locs6 hP6 hD6 hS6 => ?_)
  clear hP5 hD5 hS5
  have hP9 : va_P D vwCl (wld cA (fun k : Nat => ([a, q0, q1, q2] : List Nat).getD k 0) sh1 hz) H6 := hP6
  have hD9 : va_D A (wld cA (fun k : Nat => ([a, q0, q1, q2] : List Nat).getD k 0) sh1 hz) := hD6
  exact W.vret hx hb hr (fun tt ht hW => ⟨⟨(fun k : Nat => ([a, q0, q1, q2] : List Nat).getD k 0), rfl, rfl, by rw [ht]; exact hP9, hD9⟩, hS6.F ht⟩) hS6.2.2 dX1_init_28
set_option maxHeartbeats 4000000 in
set_option maxRecDepth 100000 in
theorem n_X7 (l : Launch) (D : va_G) (cA : Nat → ClassId) (a sz : Nat) : Met l yX7_init (Cond.code yX7_init cX7_init 1 none :: gw_tbl) mX7_init.2.2.2.2 (CtP D cA [.ref a] [(a, .inr (7, [.null, .null, .int (Int32.ofInt 0)]))] sz) (CtQ D (fun u => u 0 = a) (fun u => wld cA u sh7 hz) (va_A [(a, .inr (7, [.null, .null, .int (Int32.ofInt 0)]))] sz)) 2 12 (va_A [(a, .inr (7, [.null, .null, .int (Int32.ofInt 0)]))] sz) := by
  refine Met.ofW (cc := cX7_init) (maxL := 1) (ret := none) (by decide) rfl ?_
  intro p e s m args below meth c s₁ B hml hv
  obtain ⟨rfl, hsz, hP, hK, hN⟩ := hv
  have hx := B.exec
  have hb := B.bytes
  have hr := B.returns
  have hts0 := atoms_spec (ws := Cond.code yX7_init cX7_init 1 none :: gw_tbl) B.pre
  have hts : ∀ w ∈ gw_tbl, w.before _ s = true := fun w hw => hts0 w (List.mem_cons_of_mem _ hw)
  have hown : s.vm.findClass RX7 = some m.cls := findClass_of_methodNamed B.named
  have hin : meth.name = "<init>" := (name_of_methodNamed B.named B.method).1
  subst hsz
  have hD : va_D (va_A [(a, .inr (7, [.null, .null, .int (Int32.ofInt 0)]))] s.heap.size) [(a, .inr (7, [.null, .null, .int (Int32.ofInt 0)]))] := va_D1 (Or.inl ⟨0, _, rfl⟩)
  generalize hAe : va_A [(a, .inr (7, [.null, .null, .int (Int32.ofInt 0)]))] s.heap.size = A at hD ⊢
  have hA : ∀ q : Nat, s.heap.size ≤ q → A q := fun q h => by rw [← hAe]; exact Or.inr h
  have hS : va_S A s.heap s.heap [] := va_S.rf
  have hl := lv_entry ([.ref a]) (n := 1) (Nat.le_of_ble_eq_true rfl)
  rw [lg_entry_eq]
  generalize (lg_sl ([.ref a]) ++ List.replicate (1 - (lg_sl ([.ref a])).length) Slot.unset).toArray = ls at hl ⊢
  have hl : lv_has ls 1 [(0, .ref a)] := hl
  have hP0 := hP
  have hD0 := hD
  have hS0 := hS
  clear hP hD hS
  refine lv_aload_n hx hb dX7_init_0 rfl (lv_at hl 0 rfl) ?_
  refine W.objInit hx hb hown (hts _ (gw_in 206 (by decide +kernel) (by decide +kernel))) (hts _ (gw_in 67 (by decide +kernel) (by decide +kernel))) (hts _ (gw_in 68 (by decide +kernel) (by decide +kernel))) rfl (by rw [hml]; exact hl.1) rfl dX7_init_1 (Nat.le_of_ble_eq_true rfl) (Nat.le_of_ble_eq_true rfl) ?_
  refine W.eq (g2 := F0 m 4 ls []) rfl ?_
  refine lv_aload_n hx hb dX7_init_4 rfl (lv_at hl 0 rfl) ?_
  refine lv_bipush (v := 6) hx hb dX7_init_5 (by decide +kernel) ?_
  refine bl_newI (M := mX7_init) hx hb hts hK hP0 hD0 hS0 hA 6 (by decide) (by decide +kernel) (by decide) (Nat.le_of_ble_eq_true rfl) (Nat.le_of_ble_eq_true rfl) dX7_init_7 (fun q0 H1 hP1 hD1 hS1 => ?_)
  clear hP0 hD0 hS0
  refine W.widen (k := 1) (n := 6) (Nat.le_of_ble_eq_true rfl) (Nat.le_of_ble_eq_true rfl) ?_
  refine bl_put (M := mX7_init) (v := .ref q0) gX7_9 hx hb hts hown hin hK hP1 hD1 hS1 0 rfl rfl rfl (Nat.le_of_ble_eq_true rfl) dX7_init_9 (fun H2 locs2 hP2 hD2 hS2 => ?_)
  clear hP1 hD1 hS1
  refine lv_aload_n hx hb dX7_init_12 rfl (lv_at hl 0 rfl) ?_
  refine lv_bipush (v := 6) hx hb dX7_init_13 (by decide +kernel) ?_
  refine bl_newI (M := mX7_init) hx hb hts hK hP2 hD2 hS2 hA 6 (by decide) (by decide +kernel) (by decide) (Nat.le_of_ble_eq_true rfl) (Nat.le_of_ble_eq_true rfl) dX7_init_15 (fun q1 H3 hP3 hD3 hS3 => ?_)
  clear hP2 hD2 hS2
  refine W.widen (k := 2) (n := 12) (Nat.le_of_ble_eq_true rfl) (Nat.le_of_ble_eq_true rfl) ?_
  refine bl_put (M := mX7_init) (v := .ref q1) gX7_15 hx hb hts hown hin hK hP3 hD3 hS3 0 rfl rfl rfl (Nat.le_of_ble_eq_true rfl) dX7_init_17 (fun H4 locs4 hP4 hD4 hS4 => ?_)
  clear hP3 hD3 hS3
  have hP9 : va_P D vwCl (wld cA (fun k : Nat => ([a, q0, q1] : List Nat).getD k 0) sh7 hz) H4 := hP4
  have hD9 : va_D A (wld cA (fun k : Nat => ([a, q0, q1] : List Nat).getD k 0) sh7 hz) := hD4
  exact W.vret hx hb hr (fun tt ht hW => ⟨⟨(fun k : Nat => ([a, q0, q1] : List Nat).getD k 0), rfl, rfl, by rw [ht]; exact hP9, hD9⟩, hS4.F ht⟩) hS4.2.2 dX7_init_20
set_option maxHeartbeats 4000000 in
set_option maxRecDepth 100000 in
theorem n_X4 (l : Launch) (D : va_G) (cA : Nat → ClassId) (a sz : Nat) : Met l yX4_init (Cond.code yX4_init cX4_init 1 none :: gw_tbl) mX4_init.2.2.2.2 (CtP D cA [.ref a] [(a, .inr (4, [.null, .null, .null, .null, .null, .int (Int32.ofInt 0)]))] sz) (CtQ D (fun u => u 0 = a) (fun u => wld cA u sh4 hz) (va_A [(a, .inr (4, [.null, .null, .null, .null, .null, .int (Int32.ofInt 0)]))] sz)) 5 25 (va_A [(a, .inr (4, [.null, .null, .null, .null, .null, .int (Int32.ofInt 0)]))] sz) := by
  refine Met.ofW (cc := cX4_init) (maxL := 1) (ret := none) (by decide) rfl ?_
  intro p e s m args below meth c s₁ B hml hv
  obtain ⟨rfl, hsz, hP, hK, hN⟩ := hv
  have hx := B.exec
  have hb := B.bytes
  have hr := B.returns
  have hts0 := atoms_spec (ws := Cond.code yX4_init cX4_init 1 none :: gw_tbl) B.pre
  have hts : ∀ w ∈ gw_tbl, w.before _ s = true := fun w hw => hts0 w (List.mem_cons_of_mem _ hw)
  have hown : s.vm.findClass RX4 = some m.cls := findClass_of_methodNamed B.named
  have hin : meth.name = "<init>" := (name_of_methodNamed B.named B.method).1
  subst hsz
  have hD : va_D (va_A [(a, .inr (4, [.null, .null, .null, .null, .null, .int (Int32.ofInt 0)]))] s.heap.size) [(a, .inr (4, [.null, .null, .null, .null, .null, .int (Int32.ofInt 0)]))] := va_D1 (Or.inl ⟨0, _, rfl⟩)
  generalize hAe : va_A [(a, .inr (4, [.null, .null, .null, .null, .null, .int (Int32.ofInt 0)]))] s.heap.size = A at hD ⊢
  have hA : ∀ q : Nat, s.heap.size ≤ q → A q := fun q h => by rw [← hAe]; exact Or.inr h
  have hS : va_S A s.heap s.heap [] := va_S.rf
  have hl := lv_entry ([.ref a]) (n := 1) (Nat.le_of_ble_eq_true rfl)
  rw [lg_entry_eq]
  generalize (lg_sl ([.ref a]) ++ List.replicate (1 - (lg_sl ([.ref a])).length) Slot.unset).toArray = ls at hl ⊢
  have hl : lv_has ls 1 [(0, .ref a)] := hl
  have hP0 := hP
  have hD0 := hD
  have hS0 := hS
  clear hP hD hS
  refine lv_aload_n hx hb dX4_init_0 rfl (lv_at hl 0 rfl) ?_
  refine W.objInit hx hb hown (hts _ (gw_in 244 (by decide +kernel) (by decide +kernel))) (hts _ (gw_in 67 (by decide +kernel) (by decide +kernel))) (hts _ (gw_in 68 (by decide +kernel) (by decide +kernel))) rfl (by rw [hml]; exact hl.1) rfl dX4_init_1 (Nat.le_of_ble_eq_true rfl) (Nat.le_of_ble_eq_true rfl) ?_
  refine W.eq (g2 := F0 m 4 ls []) rfl ?_
  refine lv_aload_n hx hb dX4_init_4 rfl (lv_at hl 0 rfl) ?_
  refine lv_iconst (v := 5) hx hb dX4_init_5 (by decide) ?_
  refine bl_newI (M := mX4_init) hx hb hts hK hP0 hD0 hS0 hA 5 (by decide) (by decide +kernel) (by decide) (Nat.le_of_ble_eq_true rfl) (Nat.le_of_ble_eq_true rfl) dX4_init_6 (fun q0 H1 hP1 hD1 hS1 => ?_)
  clear hP0 hD0 hS0
  refine W.widen (k := 1) (n := 5) (Nat.le_of_ble_eq_true rfl) (Nat.le_of_ble_eq_true rfl) ?_
  refine bl_put (M := mX4_init) (v := .ref q0) gX4_9 hx hb hts hown hin hK hP1 hD1 hS1 0 rfl rfl rfl (Nat.le_of_ble_eq_true rfl) dX4_init_8 (fun H2 locs2 hP2 hD2 hS2 => ?_)
  clear hP1 hD1 hS1
  refine lv_aload_n hx hb dX4_init_11 rfl (lv_at hl 0 rfl) ?_
  refine lv_iconst (v := 5) hx hb dX4_init_12 (by decide) ?_
  refine bl_newI (M := mX4_init) hx hb hts hK hP2 hD2 hS2 hA 5 (by decide) (by decide +kernel) (by decide) (Nat.le_of_ble_eq_true rfl) (Nat.le_of_ble_eq_true rfl) dX4_init_13 (fun q1 H3 hP3 hD3 hS3 => ?_)
  clear hP2 hD2 hS2
  refine W.widen (k := 2) (n := 10) (Nat.le_of_ble_eq_true rfl) (Nat.le_of_ble_eq_true rfl) ?_
  refine bl_put (M := mX4_init) (v := .ref q1) gX4_15 hx hb hts hown hin hK hP3 hD3 hS3 0 rfl rfl rfl (Nat.le_of_ble_eq_true rfl) dX4_init_15 (fun H4 locs4 hP4 hD4 hS4 => ?_)
  clear hP3 hD3 hS3
  refine lv_aload_n hx hb dX4_init_18 rfl (lv_at hl 0 rfl) ?_
  refine lv_iconst (v := 5) hx hb dX4_init_19 (by decide) ?_
  refine bl_newI (M := mX4_init) hx hb hts hK hP4 hD4 hS4 hA 5 (by decide) (by decide +kernel) (by decide) (Nat.le_of_ble_eq_true rfl) (Nat.le_of_ble_eq_true rfl) dX4_init_20 (fun q2 H5 hP5 hD5 hS5 => ?_)
  clear hP4 hD4 hS4
  refine W.widen (k := 3) (n := 15) (Nat.le_of_ble_eq_true rfl) (Nat.le_of_ble_eq_true rfl) ?_
  refine bl_put (M := mX4_init) (v := .ref q2) gX4_18 hx hb hts hown hin hK hP5 hD5 hS5 0 rfl rfl rfl (Nat.le_of_ble_eq_true rfl) dX4_init_22 (fun H6 locs6 hP6 hD6 hS6 => ?_)
  clear hP5 hD5 hS5
  refine lv_aload_n hx hb dX4_init_25 rfl (lv_at hl 0 rfl) ?_
  refine lv_iconst (v := 5) hx hb dX4_init_26 (by decide) ?_
  refine bl_newI (M := mX4_init) hx hb hts hK hP6 hD6 hS6 hA 5 (by decide) (by decide +kernel) (by decide) (Nat.le_of_ble_eq_true rfl) (Nat.le_of_ble_eq_true rfl) dX4_init_27 (fun q3 H7 hP7 hD7 hS7 => ?_)
  clear hP6 hD6 hS6
  refine W.widen (k := 4) (n := 20) (Nat.le_of_ble_eq_true rfl) (Nat.le_of_ble_eq_true rfl) ?_
  refine bl_put (M := mX4_init) (v := .ref q3) gX4_21 hx hb hts hown hin hK hP7 hD7 hS7 0 rfl rfl rfl (Nat.le_of_ble_eq_true rfl) dX4_init_29 (fun H8 locs8 hP8 hD8 hS8 => ?_)
  clear hP7 hD7 hS7
  refine lv_aload_n hx hb dX4_init_32 rfl (lv_at hl 0 rfl) ?_
  refine lv_iconst (v := 5) hx hb dX4_init_33 (by decide) ?_
  refine bl_newI (M := mX4_init) hx hb hts hK hP8 hD8 hS8 hA 5 (by decide) (by decide +kernel) (by decide) (Nat.le_of_ble_eq_true rfl) (Nat.le_of_ble_eq_true rfl) dX4_init_34 (fun q4 H9 hP9 hD9 hS9 => ?_)
  clear hP8 hD8 hS8
  refine W.widen (k := 5) (n := 25) (Nat.le_of_ble_eq_true rfl) (Nat.le_of_ble_eq_true rfl) ?_
  refine bl_put (M := mX4_init) (v := .ref q4) gX4_24 hx hb hts hown hin hK hP9 hD9 hS9 0 rfl rfl rfl (Nat.le_of_ble_eq_true rfl) dX4_init_36 (fun H10 locs10 hP10 hD10 hS10 => ?_)
  clear hP9 hD9 hS9
  have hP9 : va_P D vwCl (wld cA (fun k : Nat => ([a, q0, q1, q2, q3, q4] : List Nat).getD k 0) sh4 hz) H10 := hP10
  have hD9 : va_D A (wld cA (fun k : Nat => ([a, q0, q1, q2, q3, q4] : List Nat).getD k 0) sh4 hz) := hD10
  exact W.vret hx hb hr (fun tt ht hW => ⟨⟨(fun k : Nat => ([a, q0, q1, q2, q3, q4] : List Nat).getD k 0), rfl, rfl, by rw [ht]; exact hP9, hD9⟩, hS10.F ht⟩) hS10.2.2 dX4_init_39
set_option maxHeartbeats 4000000 in
set_option maxRecDepth 100000 in
theorem n_X3 (l : Launch) (D : va_G) (cA : Nat → ClassId) (a sz : Nat) : Met l yX3_init (Cond.code yX3_init cX3_init 1 none :: gw_tbl) mX3_init.2.2.2.2 (CtP D cA [.ref a] [(a, .inr (3, [.long (Int64.ofInt 0)]))] sz) (CtQ D (fun u => u 0 = a) (fun u => wld cA u sh3 hz) (va_A [(a, .inr (3, [.long (Int64.ofInt 0)]))] sz)) 0 0 (va_A [(a, .inr (3, [.long (Int64.ofInt 0)]))] sz) := by
  refine Met.ofW (cc := cX3_init) (maxL := 1) (ret := none) (by decide) rfl ?_
  intro p e s m args below meth c s₁ B hml hv
  obtain ⟨rfl, hsz, hP, hK, hN⟩ := hv
  have hx := B.exec
  have hb := B.bytes
  have hr := B.returns
  have hts0 := atoms_spec (ws := Cond.code yX3_init cX3_init 1 none :: gw_tbl) B.pre
  have hts : ∀ w ∈ gw_tbl, w.before _ s = true := fun w hw => hts0 w (List.mem_cons_of_mem _ hw)
  have hown : s.vm.findClass RX3 = some m.cls := findClass_of_methodNamed B.named
  have hin : meth.name = "<init>" := (name_of_methodNamed B.named B.method).1
  subst hsz
  have hD : va_D (va_A [(a, .inr (3, [.long (Int64.ofInt 0)]))] s.heap.size) [(a, .inr (3, [.long (Int64.ofInt 0)]))] := va_D1 (Or.inl ⟨0, _, rfl⟩)
  generalize hAe : va_A [(a, .inr (3, [.long (Int64.ofInt 0)]))] s.heap.size = A at hD ⊢
  have hA : ∀ q : Nat, s.heap.size ≤ q → A q := fun q h => by rw [← hAe]; exact Or.inr h
  have hS : va_S A s.heap s.heap [] := va_S.rf
  have hl := lv_entry ([.ref a]) (n := 1) (Nat.le_of_ble_eq_true rfl)
  rw [lg_entry_eq]
  generalize (lg_sl ([.ref a]) ++ List.replicate (1 - (lg_sl ([.ref a])).length) Slot.unset).toArray = ls at hl ⊢
  have hl : lv_has ls 1 [(0, .ref a)] := hl
  have hP0 := hP
  have hD0 := hD
  have hS0 := hS
  clear hP hD hS
  refine lv_aload_n hx hb dX3_init_0 rfl (lv_at hl 0 rfl) ?_
  refine W.objInit hx hb hown (hts _ (gw_in 223 (by decide +kernel) (by decide +kernel))) (hts _ (gw_in 67 (by decide +kernel) (by decide +kernel))) (hts _ (gw_in 68 (by decide +kernel) (by decide +kernel))) rfl (by rw [hml]; exact hl.1) rfl dX3_init_1 (Nat.le_of_ble_eq_true rfl) (Nat.le_of_ble_eq_true rfl) ?_
  refine W.eq (g2 := F0 m 4 ls []) rfl ?_
  have hP9 : va_P D vwCl (wld cA (fun k : Nat => ([a] : List Nat).getD k 0) sh3 hz) s.heap := hP0
  have hD9 : va_D A (wld cA (fun k : Nat => ([a] : List Nat).getD k 0) sh3 hz) := hD0
  exact W.vret hx hb hr (fun tt ht hW => ⟨⟨(fun k : Nat => ([a] : List Nat).getD k 0), rfl, rfl, by rw [ht]; exact hP9, hD9⟩, hS0.F ht⟩) hS0.2.2 dX3_init_4
