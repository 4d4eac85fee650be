/-! rows for constructors: a world that grows -/
def hz : Hp := fun _ _ => 0
abbrev nA (cA : Nat → ClassId) (k N : Nat) : va_E := .inl (cA k, N, .inl (fun _ => Int32.ofInt 0))
/-- the links of the nest that the constructors use -/
def NW6 (U : State) : Prop := va_Nw (.methodLinkNest RX8 9 yX5_init RX8) U ∧ va_Nw (.methodLinkNest RX8 18 yX6_init RX8) U ∧ va_Nw (.methodLinkNest RX8 25 yX0_init RX8) U ∧ va_Nw (.methodLinkNest RX8 35 yX1_init RX8) U ∧ va_Nw (.methodLinkNest RX8 42 yX7_init RX8) U ∧ va_Nw (.methodLinkNest RX8 49 yX3_init RX8) U ∧ va_Nw (.methodLinkNest RX8 56 yX2_init RX8) U ∧ va_Nw (.methodLinkNest RX2 11 yX6_init RX8) U ∧ va_Nw (.methodLinkNest RX2 20 yX0_init RX8) U ∧ va_Nw (.methodLinkNest RX2 27 yX4_init RX8) U
theorem NW6.warm {s U : State} (hW : s.WarmedH U.vm) (h : NW6 s) : NW6 U := ⟨va_Nw.warmM hW h.1, va_Nw.warmM hW h.2.1, va_Nw.warmM hW h.2.2.1, va_Nw.warmM hW h.2.2.2.1, va_Nw.warmM hW h.2.2.2.2.1, va_Nw.warmM hW h.2.2.2.2.2.1, va_Nw.warmM hW h.2.2.2.2.2.2.1, va_Nw.warmM hW h.2.2.2.2.2.2.2.1, va_Nw.warmM hW h.2.2.2.2.2.2.2.2.1, va_Nw.warmM hW h.2.2.2.2.2.2.2.2.2⟩
theorem NW6.same {s U : State} (e : s.vm = U.vm) (h : NW6 s) : NW6 U := ⟨va_Nw.same rfl e h.1, va_Nw.same rfl e h.2.1, va_Nw.same rfl e h.2.2.1, va_Nw.same rfl e h.2.2.2.1, va_Nw.same rfl e h.2.2.2.2.1, va_Nw.same rfl e h.2.2.2.2.2.1, va_Nw.same rfl e h.2.2.2.2.2.2.1, va_Nw.same rfl e h.2.2.2.2.2.2.2.1, va_Nw.same rfl e h.2.2.2.2.2.2.2.2.1, va_Nw.same rfl e h.2.2.2.2.2.2.2.2.2⟩
/-- a constructor's contract: its start, its end -/
def CtP (D : va_G) (cA : Nat → ClassId) (as : List Value) (wc : va_W) (sz : Nat) : Array Value → State → Prop := va_Pc as (fun U => U.heap.size = sz ∧ va_P D vwCl wc U.heap ∧ va_K D vwCl (tyC cA) U ∧ NW6 U)
def CtQ (D : va_G) (PO : (Nat → Nat) → Prop) (B : (Nat → Nat) → va_W) (A : Nat → Prop) : Array Value → State → Outcome → State → Prop := va_Qv PO (fun u t => va_P D vwCl (B u) t.heap ∧ va_D A (B u)) A
theorem va_D1 {A : Nat → Prop} {a : Nat} {e : va_E} (h : A a) : va_D A [(a, e)] := by
  refine ⟨fun i j p q hi hj _ => ?_, fun k q hk => ?_⟩
  · have h1 := (List.getElem?_eq_some_iff.mp hi).1
    have h2 := (List.getElem?_eq_some_iff.mp hj).1
    simp only [List.length_cons, List.length_nil] at h1 h2
    omega
  · have h1 := (List.getElem?_eq_some_iff.mp hk).1
    simp only [List.length_cons, List.length_nil] at h1
    rw [show k = 0 by omega] at hk
    cases hk
    exact h
/-- the world's second half came back changed: the first is as it was -/
theorem jn2 {D : va_G} {cl : List vw_C} {A0 : Nat → Prop} {w1 w2 w2' : va_W} {H H1 : Heap} (hP : va_P D cl (w1 ++ w2) H) (hD : va_D A0 (w1 ++ w2)) (hk : ∀ q : Nat, q < H.size → ¬ va_A w2 H.size q → H1[q]? = H[q]?) (hF : ∀ q, va_A w2 H.size q → A0 q) (hP1 : va_P D cl w2' H1) (hD1 : va_D (va_A w2 H.size) w2') : va_P D cl (w1 ++ w2') H1 ∧ va_D A0 (w1 ++ w2') := by
  have inl : ∀ (k : Nat) (q : Nat × va_E), w1[k]? = some q → (w1 ++ w2)[k]? = some q := fun k q hq => by
    rw [List.getElem?_append_left (List.getElem?_eq_some_iff.mp hq).1]
    exact hq
  have apart : ∀ (k : Nat) (q : Nat × va_E), w1[k]? = some q → q.1 < H.size ∧ ¬ va_A w2 H.size q.1 := by
    intro k q hq
    have hl := (hP k q (inl k q hq)).lt
    refine ⟨hl, fun h => ?_⟩
    rcases h with ⟨k2, e, h⟩ | h
    · have h3 : (w1 ++ w2)[w1.length + k2]? = some (q.1, e) := by
        rw [List.getElem?_append_right (by omega), show w1.length + k2 - w1.length = k2 by omega]
        exact h
      have hij := hD.1 k (w1.length + k2) q (q.1, e) (inl k q hq) h3 rfl
      have := (List.getElem?_eq_some_iff.mp hq).1
      omega
    · omega
  refine ⟨va_P.app (fun k q hq => ?_) hP1, va_D.app ⟨fun i j x y hx hy hxy => hD.1 i j x y (inl i x hx) (inl j y hy) hxy, fun k q hq => hD.2 k q (inl k q hq)⟩ (hD1.weaken (fun k q _ h => hF q.1 h)) (fun i j x y hx hy hxy => ?_)⟩
  · obtain ⟨g1, g2⟩ := apart k q hq
    exact (hP k q (inl k q hq)).kept (hk q.1 g1 g2)
  · exact (apart i x hx).2 (by rw [hxy]; exact hD1.2 j y hy)
/-- a final field of the class that is being made -/
def FF (own : String) (i ci j : Nat) (t : FieldType) : Prop := ∃ (C : String) (T : u_T) (N : Nat) (ty : Nat → FieldType), vwCl[ci]? = some (C, T, N) ∧ j < N ∧ (∀ w ∈ u_ws C T N, w ∈ gw_tbl) ∧ (Cond.fieldLink own i (T j).1 (T j).2.1 (T j).2.2.1) ∈ gw_tbl ∧ (∀ k, k < N → parseFieldDescriptor (T k).2.2.1 = some (ty k)) ∧ (∀ a, a < N → ∀ b, b < N → a ≠ b → (T a).2.1 ≠ (T b).2.1) ∧ (T j).2.2.2 = true ∧ (T j).1 = own ∧ parseFieldDescriptor (T j).2.2.1 = some t
section BL
variable {M : MI} {p : Program} {l : Launch} {e : Env} {s : State} {m : MethodId} {args : Array Value} {below : List Frame} {meth : Method} {c : Code} {D : va_G} {cA : Nat → ClassId} {A : Nat → Prop} {H : Heap} {locs : List Loc} {las : Array Slot} {ws : va_W} {rest : List Value} {R : Room} {Q : State → Prop} {cells slots pc : Nat}
theorem bl_newI (hx : p.tables.exec = Jvm.exec) (hb : c.code = M.2.1) (hts : ∀ w ∈ gw_tbl, w.before args s = true) (hK : va_K D vwCl (tyC cA) s) (hP : va_P D vwCl ws H) (hD : va_D A ws) (hS : va_S A s.heap H locs) (hA : ∀ q, s.heap.size ≤ q → A q) {n : Int32} (N : Nat) (hn : ¬ n < 0) (hN : n.toNatClampNeg = N) (hby : N ≤ 1000) (hcells : cells + 1 ≤ R.cells) (hslots : slots + N ≤ R.slots) (hd : decode M.2.1 pc = .ok (.newarray .int, 2))
    (kk : ∀ (q : Nat) (H1 : Heap), va_P D vwCl (ws ++ [(q, nA cA 0 N)]) H1 → va_D A (ws ++ [(q, nA cA 0 N)]) → va_S A s.heap H1 locs → W p l e R s m args below meth c H1 locs (cells + 1) (slots + N) Q (F0 m (pc + 2) las (.ref q :: rest))) : W p l e R s m args below meth c H locs cells slots Q (F0 m pc las (.int n :: rest)) := by
  refine va_newa (a0 := (N, .inl (fun _ => Int32.ofInt 0))) hx hb (atype := .int) (hts _ (gw_in 95 (by decide +kernel) (by decide +kernel))) (ty := .int) rfl hK hP hD hS hA (fun _ => rfl) hn hN (by show N * 4 ≤ _; omega) hcells hslots hd (fun q c2 H1 hK1 hP1 hD1 hS1 => ?_)
  have e1 : s.vm.findClass ("[" ++ FieldType.int.toString) = some c2 := (hK1.2 2 (c2, .int) rfl).2
  have e2 : s.vm.findClass ("[" ++ FieldType.int.toString) = some (cA 0) := (hK.2 0 (cA 0, .int) rfl).2
  have e3 : c2 = cA 0 := Option.some.inj (e1.symm.trans e2)
  subst e3
  exact kk q H1 hP1 hD1 hS1
theorem bl_newZ (hx : p.tables.exec = Jvm.exec) (hb : c.code = M.2.1) (hts : ∀ w ∈ gw_tbl, w.before args s = true) (hK : va_K D vwCl (tyC cA) s) (hP : va_P D vwCl ws H) (hD : va_D A ws) (hS : va_S A s.heap H locs) (hA : ∀ q, s.heap.size ≤ q → A q) {n : Int32} (N : Nat) (hn : ¬ n < 0) (hN : n.toNatClampNeg = N) (hby : N ≤ 1000) (hcells : cells + 1 ≤ R.cells) (hslots : slots + N ≤ R.slots) (hd : decode M.2.1 pc = .ok (.newarray .boolean, 2))
    (kk : ∀ (q : Nat) (H1 : Heap), va_P D vwCl (ws ++ [(q, nA cA 1 N)]) H1 → va_D A (ws ++ [(q, nA cA 1 N)]) → va_S A s.heap H1 locs → W p l e R s m args below meth c H1 locs (cells + 1) (slots + N) Q (F0 m (pc + 2) las (.ref q :: rest))) : W p l e R s m args below meth c H locs cells slots Q (F0 m pc las (.int n :: rest)) := by
  refine va_newa (a0 := (N, .inl (fun _ => Int32.ofInt 0))) hx hb (atype := .boolean) (hts _ (gw_in 180 (by decide +kernel) (by decide +kernel))) (ty := .boolean) rfl hK hP hD hS hA (fun _ => rfl) hn hN (by show N * 1 ≤ _; omega) hcells hslots hd (fun q c2 H1 hK1 hP1 hD1 hS1 => ?_)
  have e1 : s.vm.findClass ("[" ++ FieldType.boolean.toString) = some c2 := (hK1.2 2 (c2, .boolean) rfl).2
  have e2 : s.vm.findClass ("[" ++ FieldType.boolean.toString) = some (cA 1) := (hK.2 1 (cA 1, .boolean) rfl).2
  have e3 : c2 = cA 1 := Option.some.inj (e1.symm.trans e2)
  subst e3
  exact kk q H1 hP1 hD1 hS1
theorem bl_put {own : String} {i ci j : Nat} {t : FieldType} (hL : FF own i ci j t) (hx : p.tables.exec = Jvm.exec) (hb : c.code = M.2.1) (hts : ∀ w ∈ gw_tbl, w.before args s = true) (hown : s.vm.findClass own = some m.cls) (hin : meth.name = "<init>") (hK : va_K D vwCl (tyC cA) s) (hP : va_P D vwCl ws H) (hD : va_D A ws) (hS : va_S A s.heap H locs) (q0 : Nat) {a : Nat} {fs : List Value} (he : ws[q0]? = some (a, .inr (ci, fs))) {v : Value} (hn : narrow t v = v) (hfit : fits t v = true) (hl : j < fs.length) (hd : decode M.2.1 pc = .ok (.putfield i, 3))
    (kk : ∀ (H1 : Heap) (locs1 : List Loc), va_P D vwCl (ws.set q0 (a, .inr (ci, fs.set j v))) H1 → va_D A (ws.set q0 (a, .inr (ci, fs.set j v))) → va_S A s.heap H1 locs1 → W p l e R s m args below meth c H1 locs1 cells slots Q (F0 m (pc + 3) las rest)) : W p l e R s m args below meth c H locs cells slots Q (F0 m pc las (v :: .ref a :: rest)) := by
  obtain ⟨C, T, N, ty, h1, h2, h3, h4, h5, h6, h7, h8, h9⟩ := hL
  exact va_putF hx hb hts h3 ty h5 h6 hown hK hP hD hS q0 he h1 j h2 (hts _ h4) (fun _ w => w) h7 hin h8 h9 hn hfit hl hd kk
theorem bl_get {own : String} {i ci j : Nat} {t : FieldType} (hL : FF own i ci j t) (hx : p.tables.exec = Jvm.exec) (hb : c.code = M.2.1) (hts : ∀ w ∈ gw_tbl, w.before args s = true) (hown : s.vm.findClass own = some m.cls) (hK : va_K D vwCl (tyC cA) s) (hP : va_P D vwCl ws H) (q0 : Nat) {a : Nat} {fs : List Value} (he : ws[q0]? = some (a, .inr (ci, fs))) {v : Value} (hv : fs[j]? = some v) (hd : decode M.2.1 pc = .ok (.getfield i, 3))
    (kk : W p l e R s m args below meth c H locs cells slots Q (F0 m (pc + 3) las (v :: rest))) : W p l e R s m args below meth c H locs cells slots Q (F0 m pc las (.ref a :: rest)) := by
  obtain ⟨C, T, N, ty, h1, h2, h3, h4, h5, h6, h7, h8, h9⟩ := hL
  exact va_get hx hb hts h3 hown hK hP q0 he h1 j h2 (hts _ h4) (fun _ w => w) hv hd kk
/-- a constructor called on the newest cell: by its name, or by the nest -/
theorem bl_call {M' : MI} {i n : Nat} {as : List Value} {b : Nat} {ob : va_E} {PO : (Nat → Nat) → Prop} {B : (Nat → Nat) → va_W} {mc ms : Nat} (hx : p.tables.exec = Jvm.exec) (hb : c.code = M.2.1) (hml : c.maxLocals = M.2.2.1) (hown : s.vm.findClass M.1.cls = some m.cls) (hts : ∀ w ∈ gw_tbl, w.before args s = true) (hK : va_K D vwCl (tyC cA) s) (hN : NW6 s) (hls : las.size = M.2.2.1)
    (hM : Met l M'.1 (Cond.code M'.1 M'.2.1 M'.2.2.1 none :: gw_tbl) M'.2.2.2.2 (CtP D cA (.ref b :: as) [(b, ob)] H.size) (CtQ D PO B (va_A [(b, ob)] H.size)) mc ms (va_A [(b, ob)] H.size))
    (hr : M'.2.2.2.1 = none) (hcd : Cond.code M'.1 M'.2.1 M'.2.2.1 M'.2.2.2.1 ∈ gw_tbl) (hini : Cond.initialized M'.1.cls ∈ gw_tbl) (hinm : Cond.instanceMethod M'.1 ∈ gw_tbl) (hnm : M'.1.name = "<init>") (hlk : Cond.methodLink M.1.cls i M'.1 ∈ gw_tbl ∨ va_Nw (.methodLinkNest M.1.cls i M'.1 RX8) s) (hmc : M'.2.2.2.2.cells = mc) (hms : M'.2.2.2.2.slots = ms)
    (hdd : M'.1.cls ≠ "java/lang/invoke/MethodHandle" ∧ M'.1.cls ≠ "java/lang/invoke/VarHandle" ∧ (parseMethodDescriptor M'.1.desc).map (fun d => d.parameters.length) = some n) (hrm : M'.2.2.2.2.frames + 1 ≤ R.frames ∧ 8 + (M'.2.2.1 + 11) + M'.2.2.2.2.locals ≤ R.locals) (hlen : as.length = n) (hcat : (rest.map fun v => v.category).sum ≤ 8) (hcs : cells + mc ≤ R.cells ∧ slots + ms ≤ R.slots)
    (hP : va_P D vwCl (ws ++ [(b, ob)]) H) (hD : va_D A (ws ++ [(b, ob)])) (hS : va_S A s.heap H locs) (hA : ∀ q, s.heap.size ≤ q → A q) {stk : List Value} (hstk : stk = as.reverse ++ .ref b :: rest) (hd : decode M.2.1 pc = .ok (.invokespecial i, 3))
    (kk : ∀ (u : Nat → Nat) (H1 : Heap) (locs1 : List Loc), PO u → va_P D vwCl (ws ++ B u) H1 → va_D A (ws ++ B u) → va_S A s.heap H1 locs1 → W p l e R s m args below meth c H1 locs1 (cells + mc) (slots + ms) Q (F0 m (pc + 3) las rest)) : W p l e R s m args below meth c H locs cells slots Q (F0 m pc las stk) := by
  subst hstk
  have hPc : va_P D vwCl [(b, ob)] H := fun k q hk => hP (ws.length + k) q (by rw [List.getElem?_append_right (by omega), show ws.length + k - ws.length = k by omega]; exact hk)
  have hbA : A b := hD.2 ws.length (b, ob) (by rw [List.getElem?_append_right (Nat.le_refl _), Nat.sub_self]; rfl)
  have hFc : ∀ q, va_A [(b, ob)] H.size q → A q := fun q hq => by
    rcases hq with ⟨k, e, hk⟩ | hq
    · have h1 := (List.getElem?_eq_some_iff.mp hk).1
      simp only [List.length_cons, List.length_nil] at h1
      rw [show k = 0 by omega] at hk
      cases hk
      exact hbA
    · exact hA q (Nat.le_trans hS.1 hq)
  have hG : GoodIn gw_tbl (Cond.code M'.1 M'.2.1 M'.2.2.1 none :: gw_tbl) := by rw [← hr]; exact tb_in hcd
  have hpre : PreS s H (CtP D cA (.ref b :: as) [(b, ob)] H.size) (.ref b :: as) := ⟨fun a U g mk w => by obtain ⟨w0, w1, wP, wK, wN⟩ := w; exact ⟨w0, w1, wP, va_K.moved (u := U) (U := U.calling g mk a) (Vm.Alike.refl U.vm) wK, NW6.same (s := U) (U := U.calling g mk a) rfl wN⟩, fun U hU hW => ⟨rfl, by rw [hU], by rw [hU]; exact hPc, va_K.moved hW.alike hK, NW6.warm hW hN⟩⟩
  have run : va_Run p l e R s m args below meth c H locs cells slots mc ms (F0 m pc las (as.reverse ++ .ref b :: rest)) rest (CtQ D PO B (va_A [(b, ob)] H.size) (Value.ref b :: as).toArray) (va_A [(b, ob)] H.size) := by
    rcases hlk with hlk | hlk
    · exact va_runI (As := as) (b := b) (rest := rest) ⟨hx, hb, hml, hown, hts⟩ hM ⟨callB_of n hts hG rfl hmc hms (hts _ hini) (hts _ hlk) hdd hrm, hnm, hts _ hinm⟩ hpre rfl hlen hls rfl (lv_room hcat) hd hcs
    · exact va_runIN (As := as) (b := b) (rest := rest) ⟨hx, hb, hml, hown, hts⟩ hM ⟨va_cnB n hts hG rfl hmc hms hlk (hts _ hini) hdd hrm, hnm, hts _ hinm⟩ hpre rfl hlen hls rfl (lv_room hcat) hd hcs
  refine va_callv run hS (fun q _ h => hFc q h) hFc (fun u t H1 locs1 ht hvm hw hB hz1 hk1 hS1 => ?_)
  obtain ⟨hP1, hD1⟩ := hB
  rw [ht] at hP1
  obtain ⟨hP2, hD2⟩ := jn2 hP hD hk1 hFc hP1 hD1
  exact kk u H1 locs1 hw hP2 hD2 hS1
end BL
