/-! the law's frame: the script, both objects, the count -/
def LCx (p : Program) (s : State) (m : MethodId) (meth : Method) (c : Code) (b L : Nat) (xs : Nat → Int32) (D : va_G) (cA : Nat → ClassId) (aC aM : Nat → Nat) : Prop := lw_At p s m meth c b L xs ∧ va_K D vwCl (tyC cA) s ∧ (∀ i j, i < 46 → j < 22 → aC i ≠ aM j) ∧ L ≤ 256
def LV (p : Program) (l : Launch) (e : Env) (s : State) (m : MethodId) (below : List Frame) (meth : Method) (c : Code) (b : Nat) (D : va_G) (cA : Nat → ClassId) (aC aM : Nat → Nat) (pc : Nat) (i : Int) (st : List Value) (hC hM : Hp) : Prop :=
  ∀ (H : Heap) (locs : List Loc) (las : Array Slot), va_P D vwCl (wld cA aC shC hC) H → va_P D vwCl (wld cA aM shM hM) H → va_D (fun q : Nat => s.heap.size ≤ q) (wld cA aC shC hC) → va_D (fun q : Nat => s.heap.size ≤ q) (wld cA aM shM hM) → va_S (fun q : Nat => s.heap.size ≤ q) s.heap H locs → lv_has las 4 [(0, .ref b), (1, .ref (aC 0)), (2, .ref (aM 0)), (3, .int (Int32.ofInt i))] →
    W p l e room_1 s m #[Value.ref b] below meth c H locs 68 922 (lw_Z below #[Value.ref b] s) (F0 m pc las st)
/-- a world whose cells a call of the other object leaves alone -/
theorem other_kept {D : va_G} {cA : Nat → ClassId} {a1 a2 : Nat → Nat} {sh1 sh2 : List CS} {h1 h2 : Hp} {H H1 : Heap} (hap : ∀ i j, i < sh1.length → j < sh2.length → a1 i ≠ a2 j) (hP : va_P D vwCl (wld cA a2 sh2 h2) H) (hk : ∀ q : Nat, q < H.size → ¬ va_A (wld cA a1 sh1 h1) H.size q → H1[q]? = H[q]?) : va_P D vwCl (wld cA a2 sh2 h2) H1 := by
  refine hP.kept (fun k q hq => ?_)
  have hl := (hP k q hq).lt
  refine hk q.1 hl (fun w => ?_)
  obtain ⟨x, hx, rfl⟩ := wld_inv hq
  rcases w with ⟨k2, e, w⟩ | w
  · obtain ⟨y, hy, he⟩ := wld_inv w
    have e1 : a2 k = a1 k2 := congrArg Prod.fst he
    exact hap k2 k (List.getElem?_eq_some_iff.mp hy).1 (List.getElem?_eq_some_iff.mp hx).1 e1.symm
  · exact absurd hl (by show ¬ a2 k < H.size; exact Nat.not_lt.mpr w)
theorem shC_0 : ∃ sl, shC[0]? = some (.inr (8, sl)) := ⟨_, rfl⟩
theorem shM_0 : ∃ sl, shM[0]? = some (.inr (9, sl)) := ⟨_, rfl⟩
section LW
variable {p : Program} {l : Launch} {e : Env} {s : State} {m : MethodId} {below : List Frame} {meth : Method} {c : Code} {b L : Nat} {xs : Nat → Int32} {D : va_G} {cA : Nat → ClassId} {aC aM : Nat → Nat} {pc : Nat} {i : Int} {st : List Value} {hC hM : Hp}
theorem lx_c (C : LCx p s m meth c b L xs D cA aC aM) (d : decode code pc = .ok (.aload_n 1, 1)) (k : LV p l e s m below meth c b D cA aC aM (pc + 1) i (.ref (aC 0) :: st) hC hM) : LV p l e s m below meth c b D cA aC aM pc i st hC hM := fun H locs las h1 h2 h3 h4 h5 h6 => lv_aload_n C.1.1 C.1.2.1 d rfl (lv_at h6 1 rfl) (k H locs las h1 h2 h3 h4 h5 h6)
theorem lx_m (C : LCx p s m meth c b L xs D cA aC aM) (d : decode code pc = .ok (.aload_n 2, 1)) (k : LV p l e s m below meth c b D cA aC aM (pc + 1) i (.ref (aM 0) :: st) hC hM) : LV p l e s m below meth c b D cA aC aM pc i st hC hM := fun H locs las h1 h2 h3 h4 h5 h6 => lv_aload_n C.1.1 C.1.2.1 d rfl (lv_at h6 2 rfl) (k H locs las h1 h2 h3 h4 h5 h6)
theorem lx_s (C : LCx p s m meth c b L xs D cA aC aM) {n : Int} (d : SL pc n) (hi : 0 ≤ i) (hn : 0 ≤ n) (hL : i + n < L) (k : LV p l e s m below meth c b D cA aC aM (pc + 5) i (.int (Int32.ofInt (xs (i + n).toNat).toInt) :: st) hC hM) : LV p l e s m below meth c b D cA aC aM pc i st hC hM := by
  intro H locs las h1 h2 h3 h4 h5 h6
  obtain ⟨d1, d2, d3, d4, d5⟩ := d
  obtain ⟨⟨hx, hb, hr, hml, hown, hts, hX, hbl, hlocks, hgv⟩, hK, hap, hL2⟩ := C
  refine lv_aload_n hx hb d1 rfl (lv_at h6 0 rfl) ?_
  refine lv_iload_n hx hb d2 rfl (lv_at h6 3 rfl) ?_
  refine lv_iconst (v := Int32.ofInt n) hx hb d3 rfl ?_
  refine lv_iadd hx hb d4 ?_
  rw [← Int32.ofInt_add]
  refine va_sld hx hb hX hbl (Nat.not_le.mpr hbl) h5 (q_in (by omega) hL (by omega)) d5 ?_
  rw [q_cl (by omega) (by omega), ← q_asI (xs (i + n).toNat)]
  exact k H locs las h1 h2 h3 h4 h5 h6
theorem lx_hts (C : LCx p s m meth c b L xs D cA aC aM) : ∀ w ∈ gw_tbl, w.before #[Value.ref b] s = true := fun w hw => C.1.2.2.2.2.2.1 w (List.mem_filter.mp hw).1
theorem lx_callC (C : LCx p s m meth c b L xs D cA aC aM) {M' : MI} {ix : Nat} (as : List AV) {post' : Option AV → Hp → Prop} (hc : CV mL_law M' ix as.length) (hd : decode code pc = .ok (.invokevirtual ix, 3)) (hq : RX8 = M'.1.cls) (has : (vr 0 :: as).length ≤ M'.2.2.1) (hnl : ∀ v ∈ as, ∀ z, v ≠ vl z) (hcat : (st.map fun v => v.category).sum ≤ 8) (kc : Ev shC M' 0 (AL M' as) [] hC post') {stk : List Value} (hstk : stk = (as.map (cv aC)).reverse ++ .ref (aC 0) :: st) (k : ∀ v h', post' v h' → LV p l e s m below meth c b D cA aC aM (pc + 3) i ((v.map (cv aC)).toList ++ st) h' hM) : LV p l e s m below meth c b D cA aC aM pc i stk hC hM := by
  subst hstk
  have hts := lx_hts C
  obtain ⟨⟨hx, hb, hr, hml, hown, -, hX, hbl, hlocks, hgv⟩, hK, hap, hL2⟩ := C
  obtain ⟨⟨c1, c2, c3, c4, c5, c6, c7, c8⟩, c9, c10⟩ := hc
  intro H locs las h1 h2 h3 h4 h5 h6
  have hM := ev_met (vr 0 :: as) rfl has (fun v hv z => by rcases List.mem_cons.mp hv with e | e; (subst e; intro w; cases w); exact hnl v e z) c8 kc l D cA aC H.size
  have hin : ∀ q, va_A (wld cA aC shC hC) H.size q → s.heap.size ≤ q := by
    intro q hq
    rcases hq with ⟨k, e, hk⟩ | hq
    · exact h3.2 k _ hk
    · exact Nat.le_trans h5.1 hq
  have hrun := va_runV (g := F0 m pc las ((as.map (cv aC)).reverse ++ .ref (aC 0) :: st)) (As := as.map (cv aC)) (b := aC 0) (rest := st) (C := M'.1.cls) (R := room_1) (bytes := M'.2.1) (maxL := M'.2.2.1) (ret := M'.2.2.2.1) (n := as.length) (index := ix) (cells := 68) (slots := 922) (p := p) (l := l) (e := e) (below := below) (meth := meth) (locs := locs) ⟨hx, hb, hml, hown, hts⟩ hM ⟨callB_of as.length hts (tb_in c2) rfl c6 c7 (hts _ c3) (hts _ c1) c4 c5, hts _ c9, hts _ c10⟩ ⟨fun a U g mk w => by obtain ⟨w0, w1, wP, wK, wD⟩ := w; exact ⟨w0, w1, wP, va_K.moved (u := U) (U := U.calling g mk a) (Vm.Alike.refl U.vm) wK, wD⟩, by rw [← hq]; obtain ⟨sl, hsl⟩ := shC_0; exact va_recv hK h1 (ci := 8) (q0 := 0) rfl (wld_at hsl), fun U hU hW => ⟨rfl, by rw [hU], by rw [hU]; exact h1, va_K.moved hW.alike hK, h3.weaken (fun _ _ _ _ => trivial)⟩⟩ rfl (by rw [List.length_map]) h6.1 rfl (lv_room hcat) hd ⟨Nat.le_refl _, Nat.le_refl _⟩
  intro T hT X
  obtain ⟨v, st₀, t, T', Lc, h0, X', hL, e1, e2, ⟨⟨v2, h', hv, hp, hb2⟩, hz, hk⟩, stp⟩ := hrun T hT X
  rw [h0] at hz hk
  have hv : v = v2.map (cv aC) := by cases hv; rfl
  subst hv
  have hk2 : ∀ q : Nat, q < H.size → ¬ va_A (wld cA aC shC hC) H.size q → T'.heap[q]? = H[q]? := fun q a b => by rw [e1]; exact hk q a b
  obtain ⟨t2, a1, b1⟩ := k v2 h' hp T'.heap (locs ++ Lc) las (by rw [e1]; exact hb2) (other_kept (sh1 := shC) (sh2 := shM) (h1 := hC) (fun i j x y => hap i j x y) h2 hk2) (wld_D h3) h4
    ⟨Nat.le_trans h5.1 (by rw [e1]; exact hz), fun q x y => by rw [hk2 q (Nat.lt_of_lt_of_le x h5.1) (fun w => y (hin q w))]; exact h5.2.1 q x y, fun q hq => by
      rcases List.mem_append.mp hq with h | h
      · exact h5.2.2 q h
      · exact hin _ (hL q h)⟩ h6 T' rfl X'
  exact ⟨t2, stp t2 a1, b1⟩
theorem lx_callM (C : LCx p s m meth c b L xs D cA aC aM) {M' : MI} {ix : Nat} (as : List AV) {post' : Option AV → Hp → Prop} (hc : CV mL_law M' ix as.length) (hd : decode code pc = .ok (.invokevirtual ix, 3)) (hq : RX9 = M'.1.cls) (has : (vr 0 :: as).length ≤ M'.2.2.1) (hnl : ∀ v ∈ as, ∀ z, v ≠ vl z) (hcat : (st.map fun v => v.category).sum ≤ 8) (kc : Ev shM M' 0 (AL M' as) [] hM post') {stk : List Value} (hstk : stk = (as.map (cv aM)).reverse ++ .ref (aM 0) :: st) (k : ∀ v h', post' v h' → LV p l e s m below meth c b D cA aC aM (pc + 3) i ((v.map (cv aM)).toList ++ st) hC h') : LV p l e s m below meth c b D cA aC aM pc i stk hC hM := by
  subst hstk
  have hts := lx_hts C
  obtain ⟨⟨hx, hb, hr, hml, hown, -, hX, hbl, hlocks, hgv⟩, hK, hap, hL2⟩ := C
  obtain ⟨⟨c1, c2, c3, c4, c5, c6, c7, c8⟩, c9, c10⟩ := hc
  intro H locs las h1 h2 h3 h4 h5 h6
  have hMt := ev_met (vr 0 :: as) rfl has (fun v hv z => by rcases List.mem_cons.mp hv with e | e; (subst e; intro w; cases w); exact hnl v e z) c8 kc l D cA aM H.size
  have hin : ∀ q, va_A (wld cA aM shM hM) H.size q → s.heap.size ≤ q := by
    intro q hq
    rcases hq with ⟨k, e, hk⟩ | hq
    · exact h4.2 k _ hk
    · exact Nat.le_trans h5.1 hq
  have hrun := va_runV (g := F0 m pc las ((as.map (cv aM)).reverse ++ .ref (aM 0) :: st)) (As := as.map (cv aM)) (b := aM 0) (rest := st) (C := M'.1.cls) (R := room_1) (bytes := M'.2.1) (maxL := M'.2.2.1) (ret := M'.2.2.2.1) (n := as.length) (index := ix) (cells := 68) (slots := 922) (p := p) (l := l) (e := e) (below := below) (meth := meth) (locs := locs) ⟨hx, hb, hml, hown, hts⟩ hMt ⟨callB_of as.length hts (tb_in c2) rfl c6 c7 (hts _ c3) (hts _ c1) c4 c5, hts _ c9, hts _ c10⟩ ⟨fun a U g mk w => by obtain ⟨w0, w1, wP, wK, wD⟩ := w; exact ⟨w0, w1, wP, va_K.moved (u := U) (U := U.calling g mk a) (Vm.Alike.refl U.vm) wK, wD⟩, by rw [← hq]; obtain ⟨sl, hsl⟩ := shM_0; exact va_recv hK h2 (ci := 9) (q0 := 0) rfl (wld_at hsl), fun U hU hW => ⟨rfl, by rw [hU], by rw [hU]; exact h2, va_K.moved hW.alike hK, h4.weaken (fun _ _ _ _ => trivial)⟩⟩ rfl (by rw [List.length_map]) h6.1 rfl (lv_room hcat) hd ⟨Nat.le_refl _, Nat.le_refl _⟩
  intro T hT X
  obtain ⟨v, st₀, t, T', Lc, h0, X', hL, e1, e2, ⟨⟨v2, h', hv, hp, hb2⟩, hz, hk⟩, stp⟩ := hrun T hT X
  rw [h0] at hz hk
  have hv : v = v2.map (cv aM) := by cases hv; rfl
  subst hv
  have hk2 : ∀ q : Nat, q < H.size → ¬ va_A (wld cA aM shM hM) H.size q → T'.heap[q]? = H[q]? := fun q a b => by rw [e1]; exact hk q a b
  obtain ⟨t2, a1, b1⟩ := k v2 h' hp T'.heap (locs ++ Lc) las (other_kept (sh1 := shM) (sh2 := shC) (h1 := hM) (fun i j x y w => hap j i y x w.symm) h1 hk2) (by rw [e1]; exact hb2) h3 (wld_D h4)
    ⟨Nat.le_trans h5.1 (by rw [e1]; exact hz), fun q x y => by rw [hk2 q (Nat.lt_of_lt_of_le x h5.1) (fun w => y (hin q w))]; exact h5.2.1 q x y, fun q hq => by
      rcases List.mem_append.mp hq with h | h
      · exact h5.2.2 q h
      · exact hin _ (hL q h)⟩ h6 T' rfl X'
  exact ⟨t2, stp t2 a1, b1⟩
theorem lx_eq (C : LCx p s m meth c b L xs D cA aC aM) {x y off : Int} (d : decode code pc = .ok (.if_icmp .eq off, 3)) (ht : (pc : Int) + off = ((754 : Nat) : Int)) (exy : x = y) (k : LV p l e s m below meth c b D cA aC aM 754 i [] hC hM) : LV p l e s m below meth c b D cA aC aM pc i [.int (Int32.ofInt y), .int (Int32.ofInt x)] hC hM := fun H locs las h1 h2 h3 h4 h5 h6 => lv_icmp_eq C.1.1 C.1.2.1 d ht (fun _ => k H locs las h1 h2 h3 h4 h5 h6) (fun w => absurd (by rw [exy]) w)
end LW
