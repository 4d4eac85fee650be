set_option maxHeartbeats 4000000 in
set_option maxRecDepth 100000 in
theorem n_X9 (l : Launch) (D : va_G) (cA : Nat → ClassId) (a sz : Nat) : Met l yX9_init (Cond.code yX9_init cX9_init 1 none :: gw_tbl) mX9_init.2.2.2.2 (CtP D cA [.ref a] [(a, .inr (9, [.int (Int32.ofInt 0), .null, .int (Int32.ofInt 0), .null, .null, .null, .null, .int (Int32.ofInt 0), .null, .null, .int (Int32.ofInt 0), .null, .long (Int64.ofInt 0), .null, .int (Int32.ofInt 0), .int (Int32.ofInt 0), .int (Int32.ofInt 0), .int (Int32.ofInt 0), .int (Int32.ofInt 0), .int (Int32.ofInt 0), .int (Int32.ofInt 0), .int (Int32.ofInt 0), .null, .int (Int32.ofInt 0), .null, .null, .null, .null, .null, .null, .null, .int (Int32.ofInt 0), .null, .null, .null, .null]))] sz) (CtQ D (fun u => u 0 = a) (fun u => wld cA u shM hz) (va_A [(a, .inr (9, [.int (Int32.ofInt 0), .null, .int (Int32.ofInt 0), .null, .null, .null, .null, .int (Int32.ofInt 0), .null, .null, .int (Int32.ofInt 0), .null, .long (Int64.ofInt 0), .null, .int (Int32.ofInt 0), .int (Int32.ofInt 0), .int (Int32.ofInt 0), .int (Int32.ofInt 0), .int (Int32.ofInt 0), .int (Int32.ofInt 0), .int (Int32.ofInt 0), .int (Int32.ofInt 0), .null, .int (Int32.ofInt 0), .null, .null, .null, .null, .null, .null, .null, .int (Int32.ofInt 0), .null, .null, .null, .null]))] sz)) 21 494 (va_A [(a, .inr (9, [.int (Int32.ofInt 0), .null, .int (Int32.ofInt 0), .null, .null, .null, .null, .int (Int32.ofInt 0), .null, .null, .int (Int32.ofInt 0), .null, .long (Int64.ofInt 0), .null, .int (Int32.ofInt 0), .int (Int32.ofInt 0), .int (Int32.ofInt 0), .int (Int32.ofInt 0), .int (Int32.ofInt 0), .int (Int32.ofInt 0), .int (Int32.ofInt 0), .int (Int32.ofInt 0), .null, .int (Int32.ofInt 0), .null, .null, .null, .null, .null, .null, .null, .int (Int32.ofInt 0), .null, .null, .null, .null]))] sz) := by
  refine Met.ofW (cc := cX9_init) (maxL := 1) (ret := none) (by decide) rfl ?_
  intro p e s m args below meth c s₁ B hml hv
  obtain ⟨rfl, hsz, hP, hK, hN⟩ := hv
  have hx := B.exec
  have hb := B.bytes
  have hr := B.returns
  have hts0 := atoms_spec (ws := Cond.code yX9_init cX9_init 1 none :: gw_tbl) B.pre
  have hts : ∀ w ∈ gw_tbl, w.before _ s = true := fun w hw => hts0 w (List.mem_cons_of_mem _ hw)
  have hown : s.vm.findClass RX9 = some m.cls := findClass_of_methodNamed B.named
  have hin : meth.name = "<init>" := (name_of_methodNamed B.named B.method).1
  subst hsz
  have hD : va_D (va_A [(a, .inr (9, [.int (Int32.ofInt 0), .null, .int (Int32.ofInt 0), .null, .null, .null, .null, .int (Int32.ofInt 0), .null, .null, .int (Int32.ofInt 0), .null, .long (Int64.ofInt 0), .null, .int (Int32.ofInt 0), .int (Int32.ofInt 0), .int (Int32.ofInt 0), .int (Int32.ofInt 0), .int (Int32.ofInt 0), .int (Int32.ofInt 0), .int (Int32.ofInt 0), .int (Int32.ofInt 0), .null, .int (Int32.ofInt 0), .null, .null, .null, .null, .null, .null, .null, .int (Int32.ofInt 0), .null, .null, .null, .null]))] s.heap.size) [(a, .inr (9, [.int (Int32.ofInt 0), .null, .int (Int32.ofInt 0), .null, .null, .null, .null, .int (Int32.ofInt 0), .null, .null, .int (Int32.ofInt 0), .null, .long (Int64.ofInt 0), .null, .int (Int32.ofInt 0), .int (Int32.ofInt 0), .int (Int32.ofInt 0), .int (Int32.ofInt 0), .int (Int32.ofInt 0), .int (Int32.ofInt 0), .int (Int32.ofInt 0), .int (Int32.ofInt 0), .null, .int (Int32.ofInt 0), .null, .null, .null, .null, .null, .null, .null, .int (Int32.ofInt 0), .null, .null, .null, .null]))] := va_D1 (Or.inl ⟨0, _, rfl⟩)
  generalize hAe : va_A [(a, .inr (9, [.int (Int32.ofInt 0), .null, .int (Int32.ofInt 0), .null, .null, .null, .null, .int (Int32.ofInt 0), .null, .null, .int (Int32.ofInt 0), .null, .long (Int64.ofInt 0), .null, .int (Int32.ofInt 0), .int (Int32.ofInt 0), .int (Int32.ofInt 0), .int (Int32.ofInt 0), .int (Int32.ofInt 0), .int (Int32.ofInt 0), .int (Int32.ofInt 0), .int (Int32.ofInt 0), .null, .int (Int32.ofInt 0), .null, .null, .null, .null, .null, .null, .null, .int (Int32.ofInt 0), .null, .null, .null, .null]))] s.heap.size = A at hD ⊢
  have hA : ∀ q : Nat, s.heap.size ≤ q → A q := fun q h => by rw [← hAe]; exact Or.inr h
  have hS : va_S A s.heap s.heap [] := va_S.rf
  have hl := lv_entry ([.ref a]) (n := 1) (Nat.le_of_ble_eq_true rfl)
  rw [lg_entry_eq]
  generalize (lg_sl ([.ref a]) ++ List.replicate (1 - (lg_sl ([.ref a])).length) Slot.unset).toArray = ls at hl ⊢
  have hl : lv_has ls 1 [(0, .ref a)] := hl
  have hP0 := hP
  have hD0 := hD
  have hS0 := hS
  clear hP hD hS
  refine lv_aload_n hx hb dX9_init_0 rfl (lv_at hl 0 rfl) ?_
  refine W.objInit hx hb hown (hts _ (gw_in 720 (by decide +kernel) (by decide +kernel))) (hts _ (gw_in 67 (by decide +kernel) (by decide +kernel))) (hts _ (gw_in 68 (by decide +kernel) (by decide +kernel))) rfl (by rw [hml]; exact hl.1) rfl dX9_init_1 (Nat.le_of_ble_eq_true rfl) (Nat.le_of_ble_eq_true rfl) ?_
  refine W.eq (g2 := F0 m 4 ls []) rfl ?_
  refine lv_aload_n hx hb dX9_init_4 rfl (lv_at hl 0 rfl) ?_
  refine lv_bipush (v := 16) hx hb dX9_init_5 (by decide +kernel) ?_
  refine bl_newI (M := mX9_init) hx hb hts hK hP0 hD0 hS0 hA 16 (by decide) (by decide +kernel) (by decide) (Nat.le_of_ble_eq_true rfl) (Nat.le_of_ble_eq_true rfl) dX9_init_7 (fun q0 H1 hP1 hD1 hS1 => ?_)
  clear hP0 hD0 hS0
  refine W.widen (k := 1) (n := 16) (Nat.le_of_ble_eq_true rfl) (Nat.le_of_ble_eq_true rfl) ?_
  refine bl_put (M := mX9_init) (v := .ref q0) gX9_7 hx hb hts hown hin hK hP1 hD1 hS1 0 rfl rfl rfl (Nat.le_of_ble_eq_true rfl) dX9_init_9 (fun H2 locs2 hP2 hD2 hS2 => ?_)
  clear hP1 hD1 hS1
  refine lv_aload_n hx hb dX9_init_12 rfl (lv_at hl 0 rfl) ?_
  refine lv_bipush (v := 10) hx hb dX9_init_13 (by decide +kernel) ?_
  refine bl_newI (M := mX9_init) hx hb hts hK hP2 hD2 hS2 hA 10 (by decide) (by decide +kernel) (by decide) (Nat.le_of_ble_eq_true rfl) (Nat.le_of_ble_eq_true rfl) dX9_init_15 (fun q1 H3 hP3 hD3 hS3 => ?_)
  clear hP2 hD2 hS2
  refine W.widen (k := 2) (n := 26) (Nat.le_of_ble_eq_true rfl) (Nat.le_of_ble_eq_true rfl) ?_
  refine bl_put (M := mX9_init) (v := .ref q1) gX9_13 hx hb hts hown hin hK hP3 hD3 hS3 0 rfl rfl rfl (Nat.le_of_ble_eq_true rfl) dX9_init_17 (fun H4 locs4 hP4 hD4 hS4 => ?_)
  clear hP3 hD3 hS3
  refine lv_aload_n hx hb dX9_init_20 rfl (lv_at hl 0 rfl) ?_
  refine lv_iconst (v := 5) hx hb dX9_init_21 (by decide) ?_
  refine bl_newI (M := mX9_init) hx hb hts hK hP4 hD4 hS4 hA 5 (by decide) (by decide +kernel) (by decide) (Nat.le_of_ble_eq_true rfl) (Nat.le_of_ble_eq_true rfl) dX9_init_22 (fun q2 H5 hP5 hD5 hS5 => ?_)
  clear hP4 hD4 hS4
  refine W.widen (k := 3) (n := 31) (Nat.le_of_ble_eq_true rfl) (Nat.le_of_ble_eq_true rfl) ?_
  refine bl_put (M := mX9_init) (v := .ref q2) gX9_16 hx hb hts hown hin hK hP5 hD5 hS5 0 rfl rfl rfl (Nat.le_of_ble_eq_true rfl) dX9_init_24 (fun H6 locs6 hP6 hD6 hS6 => ?_)
  clear hP5 hD5 hS5
  refine lv_aload_n hx hb dX9_init_27 rfl (lv_at hl 0 rfl) ?_
  refine lv_bipush (v := 17) hx hb dX9_init_28 (by decide +kernel) ?_
  refine bl_newI (M := mX9_init) hx hb hts hK hP6 hD6 hS6 hA 17 (by decide) (by decide +kernel) (by decide) (Nat.le_of_ble_eq_true rfl) (Nat.le_of_ble_eq_true rfl) dX9_init_30 (fun q3 H7 hP7 hD7 hS7 => ?_)
  clear hP6 hD6 hS6
  refine W.widen (k := 4) (n := 48) (Nat.le_of_ble_eq_true rfl) (Nat.le_of_ble_eq_true rfl) ?_
  refine bl_put (M := mX9_init) (v := .ref q3) gX9_19 hx hb hts hown hin hK hP7 hD7 hS7 0 rfl rfl rfl (Nat.le_of_ble_eq_true rfl) dX9_init_32 (fun H8 locs8 hP8 hD8 hS8 => ?_)
  clear hP7 hD7 hS7
  refine lv_aload_n hx hb dX9_init_35 rfl (lv_at hl 0 rfl) ?_
  refine lv_sipush (v := 170) hx hb dX9_init_36 (by decide +kernel) ?_
  refine bl_newI (M := mX9_init) hx hb hts hK hP8 hD8 hS8 hA 170 (by decide) (by decide +kernel) (by decide) (Nat.le_of_ble_eq_true rfl) (Nat.le_of_ble_eq_true rfl) dX9_init_39 (fun q4 H9 hP9 hD9 hS9 => ?_)
  clear hP8 hD8 hS8
  refine W.widen (k := 5) (n := 218) (Nat.le_of_ble_eq_true rfl) (Nat.le_of_ble_eq_true rfl) ?_
  refine bl_put (M := mX9_init) (v := .ref q4) gX9_22 hx hb hts hown hin hK hP9 hD9 hS9 0 rfl rfl rfl (Nat.le_of_ble_eq_true rfl) dX9_init_41 (fun H10 locs10 hP10 hD10 hS10 => ?_)
  clear hP9 hD9 hS9
  refine lv_aload_n hx hb dX9_init_44 rfl (lv_at hl 0 rfl) ?_
  refine lv_bipush (v := 34) hx hb dX9_init_45 (by decide +kernel) ?_
  refine bl_newI (M := mX9_init) hx hb hts hK hP10 hD10 hS10 hA 34 (by decide) (by decide +kernel) (by decide) (Nat.le_of_ble_eq_true rfl) (Nat.le_of_ble_eq_true rfl) dX9_init_47 (fun q5 H11 hP11 hD11 hS11 => ?_)
  clear hP10 hD10 hS10
  refine W.widen (k := 6) (n := 252) (Nat.le_of_ble_eq_true rfl) (Nat.le_of_ble_eq_true rfl) ?_
  refine bl_put (M := mX9_init) (v := .ref q5) gX9_25 hx hb hts hown hin hK hP11 hD11 hS11 0 rfl rfl rfl (Nat.le_of_ble_eq_true rfl) dX9_init_49 (fun H12 locs12 hP12 hD12 hS12 => ?_)
  clear hP11 hD11 hS11
  refine lv_aload_n hx hb dX9_init_52 rfl (lv_at hl 0 rfl) ?_
  refine lv_iconst (v := 2) hx hb dX9_init_53 (by decide) ?_
  refine bl_newZ (M := mX9_init) hx hb hts hK hP12 hD12 hS12 hA 2 (by decide) (by decide +kernel) (by decide) (Nat.le_of_ble_eq_true rfl) (Nat.le_of_ble_eq_true rfl) dX9_init_54 (fun q6 H13 hP13 hD13 hS13 => ?_)
  clear hP12 hD12 hS12
  refine W.widen (k := 7) (n := 254) (Nat.le_of_ble_eq_true rfl) (Nat.le_of_ble_eq_true rfl) ?_
  refine bl_put (M := mX9_init) (v := .ref q6) gX9_28 hx hb hts hown hin hK hP13 hD13 hS13 0 rfl rfl rfl (Nat.le_of_ble_eq_true rfl) dX9_init_56 (fun H14 locs14 hP14 hD14 hS14 => ?_)
  clear hP13 hD13 hS13
  refine lv_aload_n hx hb dX9_init_59 rfl (lv_at hl 0 rfl) ?_
  refine lv_bipush (v := 12) hx hb dX9_init_60 (by decide +kernel) ?_
  refine bl_newI (M := mX9_init) hx hb hts hK hP14 hD14 hS14 hA 12 (by decide) (by decide +kernel) (by decide) (Nat.le_of_ble_eq_true rfl) (Nat.le_of_ble_eq_true rfl) dX9_init_62 (fun q7 H15 hP15 hD15 hS15 => ?_)
  clear hP14 hD14 hS14
  refine W.widen (k := 8) (n := 266) (Nat.le_of_ble_eq_true rfl) (Nat.le_of_ble_eq_true rfl) ?_
  refine bl_put (M := mX9_init) (v := .ref q7) gX9_32 hx hb hts hown hin hK hP15 hD15 hS15 0 rfl rfl rfl (Nat.le_of_ble_eq_true rfl) dX9_init_64 (fun H16 locs16 hP16 hD16 hS16 => ?_)
  clear hP15 hD15 hS15
  refine lv_aload_n hx hb dX9_init_67 rfl (lv_at hl 0 rfl) ?_
  refine lv_bipush (v := 120) hx hb dX9_init_68 (by decide +kernel) ?_
  refine bl_newI (M := mX9_init) hx hb hts hK hP16 hD16 hS16 hA 120 (by decide) (by decide +kernel) (by decide) (Nat.le_of_ble_eq_true rfl) (Nat.le_of_ble_eq_true rfl) dX9_init_70 (fun q8 H17 hP17 hD17 hS17 => ?_)
  clear hP16 hD16 hS16
  refine W.widen (k := 9) (n := 386) (Nat.le_of_ble_eq_true rfl) (Nat.le_of_ble_eq_true rfl) ?_
  refine bl_put (M := mX9_init) (v := .ref q8) gX9_35 hx hb hts hown hin hK hP17 hD17 hS17 0 rfl rfl rfl (Nat.le_of_ble_eq_true rfl) dX9_init_72 (fun H18 locs18 hP18 hD18 hS18 => ?_)
  clear hP17 hD17 hS17
  refine lv_aload_n hx hb dX9_init_75 rfl (lv_at hl 0 rfl) ?_
  refine lv_bipush (v := 16) hx hb dX9_init_76 (by decide +kernel) ?_
  refine bl_newI (M := mX9_init) hx hb hts hK hP18 hD18 hS18 hA 16 (by decide) (by decide +kernel) (by decide) (Nat.le_of_ble_eq_true rfl) (Nat.le_of_ble_eq_true rfl) dX9_init_78 (fun q9 H19 hP19 hD19 hS19 => ?_)
  clear hP18 hD18 hS18
  refine W.widen (k := 10) (n := 402) (Nat.le_of_ble_eq_true rfl) (Nat.le_of_ble_eq_true rfl) ?_
  refine bl_put (M := mX9_init) (v := .ref q9) gX9_38 hx hb hts hown hin hK hP19 hD19 hS19 0 rfl rfl rfl (Nat.le_of_ble_eq_true rfl) dX9_init_80 (fun H20 locs20 hP20 hD20 hS20 => ?_)
  clear hP19 hD19 hS19
  refine lv_aload_n hx hb dX9_init_83 rfl (lv_at hl 0 rfl) ?_
  refine lv_bipush (v := 10) hx hb dX9_init_84 (by decide +kernel) ?_
  refine bl_newI (M := mX9_init) hx hb hts hK hP20 hD20 hS20 hA 10 (by decide) (by decide +kernel) (by decide) (Nat.le_of_ble_eq_true rfl) (Nat.le_of_ble_eq_true rfl) dX9_init_86 (fun q10 H21 hP21 hD21 hS21 => ?_)
  clear hP20 hD20 hS20
  refine W.widen (k := 11) (n := 412) (Nat.le_of_ble_eq_true rfl) (Nat.le_of_ble_eq_true rfl) ?_
  refine bl_put (M := mX9_init) (v := .ref q10) gX9_41 hx hb hts hown hin hK hP21 hD21 hS21 0 rfl rfl rfl (Nat.le_of_ble_eq_true rfl) dX9_init_88 (fun H22 locs22 hP22 hD22 hS22 => ?_)
  clear hP21 hD21 hS21
  refine lv_aload_n hx hb dX9_init_91 rfl (lv_at hl 0 rfl) ?_
  refine lv_iconst (v := 5) hx hb dX9_init_92 (by decide) ?_
  refine bl_newI (M := mX9_init) hx hb hts hK hP22 hD22 hS22 hA 5 (by decide) (by decide +kernel) (by decide) (Nat.le_of_ble_eq_true rfl) (Nat.le_of_ble_eq_true rfl) dX9_init_93 (fun q11 H23 hP23 hD23 hS23 => ?_)
  clear hP22 hD22 hS22
  refine W.widen (k := 12) (n := 417) (Nat.le_of_ble_eq_true rfl) (Nat.le_of_ble_eq_true rfl) ?_
  refine bl_put (M := mX9_init) (v := .ref q11) gX9_44 hx hb hts hown hin hK hP23 hD23 hS23 0 rfl rfl rfl (Nat.le_of_ble_eq_true rfl) dX9_init_95 (fun H24 locs24 hP24 hD24 hS24 => ?_)
  clear hP23 hD23 hS23
  refine lv_aload_n hx hb dX9_init_98 rfl (lv_at hl 0 rfl) ?_
  refine lv_bipush (v := 17) hx hb dX9_init_99 (by decide +kernel) ?_
  refine bl_newI (M := mX9_init) hx hb hts hK hP24 hD24 hS24 hA 17 (by decide) (by decide +kernel) (by decide) (Nat.le_of_ble_eq_true rfl) (Nat.le_of_ble_eq_true rfl) dX9_init_101 (fun q12 H25 hP25 hD25 hS25 => ?_)
  clear hP24 hD24 hS24
  refine W.widen (k := 13) (n := 434) (Nat.le_of_ble_eq_true rfl) (Nat.le_of_ble_eq_true rfl) ?_
  refine bl_put (M := mX9_init) (v := .ref q12) gX9_47 hx hb hts hown hin hK hP25 hD25 hS25 0 rfl rfl rfl (Nat.le_of_ble_eq_true rfl) dX9_init_103 (fun H26 locs26 hP26 hD26 hS26 => ?_)
  clear hP25 hD25 hS25
  refine lv_aload_n hx hb dX9_init_106 rfl (lv_at hl 0 rfl) ?_
  refine lv_iconst (v := 5) hx hb dX9_init_107 (by decide) ?_
  refine bl_newI (M := mX9_init) hx hb hts hK hP26 hD26 hS26 hA 5 (by decide) (by decide +kernel) (by decide) (Nat.le_of_ble_eq_true rfl) (Nat.le_of_ble_eq_true rfl) dX9_init_108 (fun q13 H27 hP27 hD27 hS27 => ?_)
  clear hP26 hD26 hS26
  refine W.widen (k := 14) (n := 439) (Nat.le_of_ble_eq_true rfl) (Nat.le_of_ble_eq_true rfl) ?_
  refine bl_put (M := mX9_init) (v := .ref q13) gX9_50 hx hb hts hown hin hK hP27 hD27 hS27 0 rfl rfl rfl (Nat.le_of_ble_eq_true rfl) dX9_init_110 (fun H28 locs28 hP28 hD28 hS28 => ?_)
  clear hP27 hD27 hS27
  refine lv_aload_n hx hb dX9_init_113 rfl (lv_at hl 0 rfl) ?_
  refine lv_iconst (v := 5) hx hb dX9_init_114 (by decide) ?_
  refine bl_newI (M := mX9_init) hx hb hts hK hP28 hD28 hS28 hA 5 (by decide) (by decide +kernel) (by decide) (Nat.le_of_ble_eq_true rfl) (Nat.le_of_ble_eq_true rfl) dX9_init_115 (fun q14 H29 hP29 hD29 hS29 => ?_)
  clear hP28 hD28 hS28
  refine W.widen (k := 15) (n := 444) (Nat.le_of_ble_eq_true rfl) (Nat.le_of_ble_eq_true rfl) ?_
  refine bl_put (M := mX9_init) (v := .ref q14) gX9_53 hx hb hts hown hin hK hP29 hD29 hS29 0 rfl rfl rfl (Nat.le_of_ble_eq_true rfl) dX9_init_117 (fun H30 locs30 hP30 hD30 hS30 => ?_)
  clear hP29 hD29 hS29
  refine lv_aload_n hx hb dX9_init_120 rfl (lv_at hl 0 rfl) ?_
  refine lv_iconst (v := 5) hx hb dX9_init_121 (by decide) ?_
  refine bl_newI (M := mX9_init) hx hb hts hK hP30 hD30 hS30 hA 5 (by decide) (by decide +kernel) (by decide) (Nat.le_of_ble_eq_true rfl) (Nat.le_of_ble_eq_true rfl) dX9_init_122 (fun q15 H31 hP31 hD31 hS31 => ?_)
  clear hP30 hD30 hS30
  refine W.widen (k := 16) (n := 449) (Nat.le_of_ble_eq_true rfl) (Nat.le_of_ble_eq_true rfl) ?_
  refine bl_put (M := mX9_init) (v := .ref q15) gX9_56 hx hb hts hown hin hK hP31 hD31 hS31 0 rfl rfl rfl (Nat.le_of_ble_eq_true rfl) dX9_init_124 (fun H32 locs32 hP32 hD32 hS32 => ?_)
  clear hP31 hD31 hS31
  refine lv_aload_n hx hb dX9_init_127 rfl (lv_at hl 0 rfl) ?_
  refine lv_iconst (v := 5) hx hb dX9_init_128 (by decide) ?_
  refine bl_newI (M := mX9_init) hx hb hts hK hP32 hD32 hS32 hA 5 (by decide) (by decide +kernel) (by decide) (Nat.le_of_ble_eq_true rfl) (Nat.le_of_ble_eq_true rfl) dX9_init_129 (fun q16 H33 hP33 hD33 hS33 => ?_)
  clear hP32 hD32 hS32
  refine W.widen (k := 17) (n := 454) (Nat.le_of_ble_eq_true rfl) (Nat.le_of_ble_eq_true rfl) ?_
  refine bl_put (M := mX9_init) (v := .ref q16) gX9_59 hx hb hts hown hin hK hP33 hD33 hS33 0 rfl rfl rfl (Nat.le_of_ble_eq_true rfl) dX9_init_131 (fun H34 locs34 hP34 hD34 hS34 => ?_)
  clear hP33 hD33 hS33
  refine lv_aload_n hx hb dX9_init_134 rfl (lv_at hl 0 rfl) ?_
  refine lv_bipush (v := 25) hx hb dX9_init_135 (by decide +kernel) ?_
  refine bl_newI (M := mX9_init) hx hb hts hK hP34 hD34 hS34 hA 25 (by decide) (by decide +kernel) (by decide) (Nat.le_of_ble_eq_true rfl) (Nat.le_of_ble_eq_true rfl) dX9_init_137 (fun q17 H35 hP35 hD35 hS35 => ?_)
  clear hP34 hD34 hS34
  refine W.widen (k := 18) (n := 479) (Nat.le_of_ble_eq_true rfl) (Nat.le_of_ble_eq_true rfl) ?_
  refine bl_put (M := mX9_init) (v := .ref q17) gX9_62 hx hb hts hown hin hK hP35 hD35 hS35 0 rfl rfl rfl (Nat.le_of_ble_eq_true rfl) dX9_init_139 (fun H36 locs36 hP36 hD36 hS36 => ?_)
  clear hP35 hD35 hS35
  refine lv_aload_n hx hb dX9_init_142 rfl (lv_at hl 0 rfl) ?_
  refine lv_iconst (v := 5) hx hb dX9_init_143 (by decide) ?_
  refine bl_newI (M := mX9_init) hx hb hts hK hP36 hD36 hS36 hA 5 (by decide) (by decide +kernel) (by decide) (Nat.le_of_ble_eq_true rfl) (Nat.le_of_ble_eq_true rfl) dX9_init_144 (fun q18 H37 hP37 hD37 hS37 => ?_)
  clear hP36 hD36 hS36
  refine W.widen (k := 19) (n := 484) (Nat.le_of_ble_eq_true rfl) (Nat.le_of_ble_eq_true rfl) ?_
  refine bl_put (M := mX9_init) (v := .ref q18) gX9_65 hx hb hts hown hin hK hP37 hD37 hS37 0 rfl rfl rfl (Nat.le_of_ble_eq_true rfl) dX9_init_146 (fun H38 locs38 hP38 hD38 hS38 => ?_)
  clear hP37 hD37 hS37
  refine lv_aload_n hx hb dX9_init_149 rfl (lv_at hl 0 rfl) ?_
  refine lv_iconst (v := 5) hx hb dX9_init_150 (by decide) ?_
  refine bl_newI (M := mX9_init) hx hb hts hK hP38 hD38 hS38 hA 5 (by decide) (by decide +kernel) (by decide) (Nat.le_of_ble_eq_true rfl) (Nat.le_of_ble_eq_true rfl) dX9_init_151 (fun q19 H39 hP39 hD39 hS39 => ?_)
  clear hP38 hD38 hS38
  refine W.widen (k := 20) (n := 489) (Nat.le_of_ble_eq_true rfl) (Nat.le_of_ble_eq_true rfl) ?_
  refine bl_put (M := mX9_init) (v := .ref q19) gX9_68 hx hb hts hown hin hK hP39 hD39 hS39 0 rfl rfl rfl (Nat.le_of_ble_eq_true rfl) dX9_init_153 (fun H40 locs40 hP40 hD40 hS40 => ?_)
  clear hP39 hD39 hS39
  refine lv_aload_n hx hb dX9_init_156 rfl (lv_at hl 0 rfl) ?_
  refine lv_iconst (v := 5) hx hb dX9_init_157 (by decide) ?_
  refine bl_newI (M := mX9_init) hx hb hts hK hP40 hD40 hS40 hA 5 (by decide) (by decide +kernel) (by decide) (Nat.le_of_ble_eq_true rfl) (Nat.le_of_ble_eq_true rfl) dX9_init_158 (fun q20 H41 hP41 hD41 hS41 => ?_)
  clear hP40 hD40 hS40
  refine W.widen (k := 21) (n := 494) (Nat.le_of_ble_eq_true rfl) (Nat.le_of_ble_eq_true rfl) ?_
  refine bl_put (M := mX9_init) (v := .ref q20) gX9_71 hx hb hts hown hin hK hP41 hD41 hS41 0 rfl rfl rfl (Nat.le_of_ble_eq_true rfl) dX9_init_160 (fun H42 locs42 hP42 hD42 hS42 => ?_)
  clear hP41 hD41 hS41
  have hP9 : va_P D vwCl (wld cA (fun k : Nat => ([a, q0, q1, q2, q3, q4, q5, q6, q7, q8, q9, q10, q11, q12, q13, q14, q15, q16, q17, q18, q19, q20] : List Nat).getD k 0) shM hz) H42 := hP42
  have hD9 : va_D A (wld cA (fun k : Nat => ([a, q0, q1, q2, q3, q4, q5, q6, q7, q8, q9, q10, q11, q12, q13, q14, q15, q16, q17, q18, q19, q20] : List Nat).getD k 0) shM hz) := hD42
  exact W.vret hx hb hr (fun tt ht hW => ⟨⟨(fun k : Nat => ([a, q0, q1, q2, q3, q4, q5, q6, q7, q8, q9, q10, q11, q12, q13, q14, q15, q16, q17, q18, q19, q20] : List Nat).getD k 0), rfl, rfl, by rw [ht]; exact hP9, hD9⟩, hS42.F ht⟩) hS42.2.2 dX9_init_163
