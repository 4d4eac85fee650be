theorem arr_known {s : State} {args : Array Value} {ty : FieldType} (h : (Cond.arrayClass ty).before args s = true) (hra : ∀ cA : ClassId, s.vm.findClass ("[" ++ ty.toString) = some cA → va_RA s cA ty) : ∃ cA : ClassId, ArrOfT s cA ty ∧ va_RA s cA ty := by
  obtain ⟨cA, kA, comp, h1, h2, h3⟩ := Cond.arrayClass_spec h
  exact ⟨cA, fun n z => ⟨fun k h => (by cases h), kA, h2, comp, h3⟩, hra cA h1⟩
set_option maxHeartbeats 4000000 in
set_option maxRecDepth 100000 in
/-- THE LAW, from its entry -/
theorem whole_start {p : Program} {e : Env} {s : State} {m : MethodId} {below : List Frame} {meth : Method} {c : Code} (l : Launch) {b L : Nat} {xs : Nat → Int32} (hL : L ≤ 256) (C0 : lw_At p s m meth c b L xs) : W p l e room_1 s m #[Value.ref b] below meth c s.heap [] 0 0 (lw_Z below #[Value.ref b] s) (entryFrame m ([Value.ref b] : List Value).toArray 4) := by
  obtain ⟨hx, hb, hr, hml, hown0, hts0, hX, hbl, hlocks, hgv⟩ := id C0
  have hown : s.vm.findClass RL = some m.cls := hown0
  have hts : ∀ w ∈ gw_tbl, w.before #[Value.ref b] s = true := fun w hw => hts0 w (List.mem_filter.mp hw).1
  have hA : ∀ q : Nat, s.heap.size ≤ q → (fun q : Nat => s.heap.size ≤ q) q := fun _ h => h
  obtain ⟨c0, i0, hKn0⟩ := u_known (C := RX0) (T := TX0) (N := 6) (n := 6) hts inX0 (hts (.instantiable RX0 6) (gw_in 142 (by decide +kernel) (by decide +kernel)))
  obtain ⟨c1, i1, hKn1⟩ := u_known (C := RX1) (T := TX1) (N := 4) (n := 4) hts inX1 (hts (.instantiable RX1 4) (gw_in 182 (by decide +kernel) (by decide +kernel)))
  obtain ⟨c2, i2, hKn2⟩ := u_known (C := RX2) (T := TX2) (N := 6) (n := 6) hts inX2 (hts (.instantiable RX2 6) (gw_in 230 (by decide +kernel) (by decide +kernel)))
  obtain ⟨c3, i3, hKn3⟩ := u_known (C := RX3) (T := TX3) (N := 1) (n := 1) hts inX3 (hts (.instantiable RX3 1) (gw_in 219 (by decide +kernel) (by decide +kernel)))
  obtain ⟨c4, i4, hKn4⟩ := u_known (C := RX4) (T := TX4) (N := 6) (n := 6) hts inX4 (hts (.instantiable RX4 6) (gw_in 240 (by decide +kernel) (by decide +kernel)))
  obtain ⟨c5, i5, hKn5⟩ := u_known (C := RX5) (T := TX5) (N := 6) (n := 6) hts inX5 (hts (.instantiable RX5 6) (gw_in 70 (by decide +kernel) (by decide +kernel)))
  obtain ⟨c6, i6, hKn6⟩ := u_known (C := RX6) (T := TX6) (N := 7) (n := 7) hts inX6 (hts (.instantiable RX6 7) (gw_in 97 (by decide +kernel) (by decide +kernel)))
  obtain ⟨c7, i7, hKn7⟩ := u_known (C := RX7) (T := TX7) (N := 3) (n := 3) hts inX7 (hts (.instantiable RX7 3) (gw_in 202 (by decide +kernel) (by decide +kernel)))
  obtain ⟨c8, i8, hKn8⟩ := u_known (C := RX8) (T := TX8) (N := 10) (n := 10) hts inX8 (hts (.instantiable RX8 10) (gw_in 62 (by decide +kernel) (by decide +kernel)))
  obtain ⟨c9, i9, hKn9⟩ := u_known (C := RX9) (T := TX9) (N := 36) (n := 36) hts inX9 (hts (.instantiable RX9 36) (gw_in 715 (by decide +kernel) (by decide +kernel)))
  obtain ⟨a0, hA0, hR0⟩ := arr_known (ty := .int) (hts _ (gw_in 95 (by decide +kernel) (by decide +kernel))) (fun _ h => h)
  obtain ⟨a1, hA1, hR1⟩ := arr_known (ty := .boolean) (hts _ (gw_in 180 (by decide +kernel) (by decide +kernel))) (fun _ h => h)
  obtain ⟨D, hKc⟩ : ∃ D : va_G, ∀ (k : Nat) (q : vw_C), vwCl[k]? = some q → u_Kn s q.1 q.2.1 q.2.2 (D.1 k) (D.2 k) := by
    refine ⟨(fun k => if k = 0 then c0 else if k = 1 then c1 else if k = 2 then c2 else if k = 3 then c3 else if k = 4 then c4 else if k = 5 then c5 else if k = 6 then c6 else if k = 7 then c7 else if k = 8 then c8 else c9, fun k => if k = 0 then i0 else if k = 1 then i1 else if k = 2 then i2 else if k = 3 then i3 else if k = 4 then i4 else if k = 5 then i5 else if k = 6 then i6 else if k = 7 then i7 else if k = 8 then i8 else i9), ?_⟩
    intro k q hq
    match k, hq with
    | 0, hq => cases hq; exact hKn0
    | 1, hq => cases hq; exact hKn1
    | 2, hq => cases hq; exact hKn2
    | 3, hq => cases hq; exact hKn3
    | 4, hq => cases hq; exact hKn4
    | 5, hq => cases hq; exact hKn5
    | 6, hq => cases hq; exact hKn6
    | 7, hq => cases hq; exact hKn7
    | 8, hq => cases hq; exact hKn8
    | 9, hq => cases hq; exact hKn9
    | k + 10, hq => simp [vwCl] at hq
  obtain ⟨cA, hK⟩ : ∃ cA : Nat → ClassId, va_K D vwCl (tyC cA) s := by
    refine ⟨fun k => if k = 0 then a0 else a1, hKc, ?_⟩
    intro k q hq
    match k, hq with
    | 0, hq => cases hq; exact ⟨hA0, hR0⟩
    | 1, hq => cases hq; exact ⟨hA1, hR1⟩
    | k + 2, hq => simp [tyC] at hq
  have hN : NW6 s := ⟨va_Nw.of rfl (hts0 _ (List.mem_of_getElem? (i := 71) (by decide +kernel))), va_Nw.of rfl (hts0 _ (List.mem_of_getElem? (i := 98) (by decide +kernel))), va_Nw.of rfl (hts0 _ (List.mem_of_getElem? (i := 143) (by decide +kernel))), va_Nw.of rfl (hts0 _ (List.mem_of_getElem? (i := 183) (by decide +kernel))), va_Nw.of rfl (hts0 _ (List.mem_of_getElem? (i := 203) (by decide +kernel))), va_Nw.of rfl (hts0 _ (List.mem_of_getElem? (i := 220) (by decide +kernel))), va_Nw.of rfl (hts0 _ (List.mem_of_getElem? (i := 231) (by decide +kernel))), va_Nw.of rfl (hts0 _ (List.mem_of_getElem? (i := 236) (by decide +kernel))), va_Nw.of rfl (hts0 _ (List.mem_of_getElem? (i := 238) (by decide +kernel))), va_Nw.of rfl (hts0 _ (List.mem_of_getElem? (i := 241) (by decide +kernel)))⟩
  have hS0 : va_S (fun q : Nat => s.heap.size ≤ q) s.heap s.heap [] := va_S.rf
  have hP0 : va_P D vwCl [] s.heap := fun k q h => by simp at h
  have hD0 : va_D (fun q : Nat => s.heap.size ≤ q) [] := ⟨fun i j p q h => by simp at h, fun k q h => by simp at h⟩
  have hl := lv_entry ([.ref b]) (n := 4) (Nat.le_of_ble_eq_true rfl)
  rw [lg_entry_eq]
  generalize (lg_sl ([.ref b]) ++ List.replicate (4 - (lg_sl ([.ref b])).length) Slot.unset).toArray = ls at hl ⊢
  have hl : lv_has ls 4 [(0, .ref b)] := hl
  refine va_new (ci := 8) (fs := [.null, .null, .null, .null, .null, .null, .null, .null, .null, .null]) (C := RX8) (T := TX8) (N := 10) hx hb hts inX8 tyX8 tyX8_ok hown (hts _ (gw_in 61 (by decide +kernel) (by decide +kernel))) (hts _ (gw_in 62 (by decide +kernel) (by decide +kernel))) (hts _ (gw_in 49 (by decide +kernel) (by decide +kernel))) hK hP0 hD0 hS0 hA rfl (by decide +kernel) (Nat.le_of_ble_eq_true rfl) (Nat.le_of_ble_eq_true rfl) dL_law_0 (fun q0 H1 hP1 hD1 hS1 => ?_)
  refine W.widen (k := 1) (n := 10) (Nat.le_of_ble_eq_true rfl) (Nat.le_of_ble_eq_true rfl) ?_
  refine lv_dup hx hb dL_law_3 rfl ?_
  refine bl_call (n := 0) (M := mL_law) (M' := mX8_init) (rest := [.ref q0]) (as := []) hx hb hml hown hts hK hN hl.1 (n_X8 l D cA q0 _) rfl (gw_in 65 (by decide +kernel) (by decide +kernel)) (gw_in 49 (by decide +kernel) (by decide +kernel)) (gw_in 64 (by decide +kernel) (by decide +kernel)) rfl (Or.inl (gw_in 63 (by decide +kernel) (by decide +kernel))) rfl rfl (by decide +kernel) ⟨Nat.le_of_ble_eq_true rfl, Nat.le_of_ble_eq_true rfl⟩ rfl (Nat.le_of_ble_eq_true rfl) ⟨Nat.le_of_ble_eq_true rfl, Nat.le_of_ble_eq_true rfl⟩ hP1 hD1 hS1 hA rfl dL_law_4 (fun uC H2 locs2 hu hP2 hD2 hS2 => ?_)
  subst hu
  refine W.widen (k := 46) (n := 392) (Nat.le_of_ble_eq_true rfl) (Nat.le_of_ble_eq_true rfl) ?_
  refine lv_astore_n (lv' := [(1, .ref (uC 0)), (0, .ref b)]) hx hb dL_law_7 rfl hl (by decide) rfl (fun ls hl => ?_)
  refine va_new (ci := 9) (fs := [.int (Int32.ofInt 0), .null, .int (Int32.ofInt 0), .null, .null, .null, .null, .int (Int32.ofInt 0), .null, .null, .int (Int32.ofInt 0), .null, .long (Int64.ofInt 0), .null, .int (Int32.ofInt 0), .int (Int32.ofInt 0), .int (Int32.ofInt 0), .int (Int32.ofInt 0), .int (Int32.ofInt 0), .int (Int32.ofInt 0), .int (Int32.ofInt 0), .int (Int32.ofInt 0), .null, .int (Int32.ofInt 0), .null, .null, .null, .null, .null, .null, .null, .int (Int32.ofInt 0), .null, .null, .null, .null]) (C := RX9) (T := TX9) (N := 36) hx hb hts inX9 tyX9 tyX9_ok hown (hts _ (gw_in 714 (by decide +kernel) (by decide +kernel))) (hts _ (gw_in 715 (by decide +kernel) (by decide +kernel))) (hts _ (gw_in 58 (by decide +kernel) (by decide +kernel))) hK hP2 hD2 hS2 hA rfl (by decide +kernel) (Nat.le_of_ble_eq_true rfl) (Nat.le_of_ble_eq_true rfl) dL_law_8 (fun q1 H3 hP3 hD3 hS3 => ?_)
  refine W.widen (k := 47) (n := 428) (Nat.le_of_ble_eq_true rfl) (Nat.le_of_ble_eq_true rfl) ?_
  refine lv_dup hx hb dL_law_11 rfl ?_
  refine bl_call (n := 0) (M := mL_law) (M' := mX9_init) (rest := [.ref q1]) (as := []) hx hb hml hown hts hK hN hl.1 (n_X9 l D cA q1 _) rfl (gw_in 718 (by decide +kernel) (by decide +kernel)) (gw_in 58 (by decide +kernel) (by decide +kernel)) (gw_in 717 (by decide +kernel) (by decide +kernel)) rfl (Or.inl (gw_in 716 (by decide +kernel) (by decide +kernel))) rfl rfl (by decide +kernel) ⟨Nat.le_of_ble_eq_true rfl, Nat.le_of_ble_eq_true rfl⟩ rfl (Nat.le_of_ble_eq_true rfl) ⟨Nat.le_of_ble_eq_true rfl, Nat.le_of_ble_eq_true rfl⟩ hP3 hD3 hS3 hA rfl dL_law_12 (fun uM H4 locs4 hu hP4 hD4 hS4 => ?_)
  subst hu
  refine W.widen (k := 68) (n := 922) (Nat.le_of_ble_eq_true rfl) (Nat.le_of_ble_eq_true rfl) ?_
  refine lv_astore_n (lv' := [(2, .ref (uM 0)), (1, .ref (uC 0)), (0, .ref b)]) hx hb dL_law_15 rfl hl (by decide) rfl (fun ls hl => ?_)
  refine lv_iconst (v := Int32.ofInt 0) hx hb dL_law_16 rfl ?_
  refine lv_istore_n (lv' := [(3, .int (Int32.ofInt 0)), (2, .ref (uM 0)), (1, .ref (uC 0)), (0, .ref b)]) hx hb dL_law_17 rfl hl (by decide) rfl (fun ls hl => ?_)
  rw [List.nil_append] at hP4 hD4
  have inl : ∀ (k : Nat) (q : Nat × va_E), (wld cA uC shC hz)[k]? = some q → (wld cA uC shC hz ++ wld cA uM shM hz)[k]? = some q := fun k q hq => by
    rw [List.getElem?_append_left (List.getElem?_eq_some_iff.mp hq).1]
    exact hq
  have inr : ∀ (k : Nat) (q : Nat × va_E), (wld cA uM shM hz)[k]? = some q → (wld cA uC shC hz ++ wld cA uM shM hz)[(wld cA uC shC hz).length + k]? = some q := fun k q hq => by
    rw [List.getElem?_append_right (by omega), show (wld cA uC shC hz).length + k - (wld cA uC shC hz).length = k by omega]
    exact hq
  have hap : ∀ i j, i < 46 → j < 22 → uC i ≠ uM j := by
    intro i j x y w
    have x : i < shC.length := x
    have y : j < shM.length := y
    have e1 := wld_at (cA := cA) (ad := uC) (h := hz) (List.getElem?_eq_getElem x)
    have e2 := wld_at (cA := cA) (ad := uM) (h := hz) (List.getElem?_eq_getElem y)
    have e3 := hD4.1 _ _ _ _ (inl _ _ e1) (inr _ _ e2) w
    have e4 := (List.getElem?_eq_some_iff.mp e1).1
    omega
  exact law_loop ⟨C0, hK, hap, hL⟩ (L + 1) 0 hz hz (by omega) (by omega) (by omega) Rel_0 _ _ ls (fun k q hk => hP4 _ q (inl k q hk)) (fun k q hk => hP4 _ q (inr k q hk)) ⟨fun i j x y hi hj w => hD4.1 i j x y (inl i x hi) (inl j y hj) w, fun k q hk => hD4.2 _ q (inl k q hk)⟩ ⟨fun i j x y hi hj w => by have := hD4.1 _ _ x y (inr i x hi) (inr j y hj) w; omega, fun k q hk => hD4.2 _ q (inr k q hk)⟩ hS4 (lv_sub hl [3, 2, 1, 0] rfl)
