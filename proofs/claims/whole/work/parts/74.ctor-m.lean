/-- worlds by plain recursion -/
def mF {α β : Type} (f : Nat → α → β) : Nat → List α → List β
  | _, [] => []
  | k, x :: t => f k x :: mF f (k + 1) t
theorem mF_eq {α β : Type} : ∀ (l : List α) (f : Nat → α → β) (k : Nat), mF f k l = l.mapIdx (fun i x => f (k + i) x) := by
  intro l
  induction l with
  | nil => intro f k; rfl
  | cons x t ih =>
    intro f k
    rw [List.mapIdx_cons]
    show f k x :: mF f (k + 1) t = _
    rw [ih f (k + 1)]
    congr 2
    funext i y
    rw [show k + 1 + i = k + (i + 1) by omega]
def celF (cA : Nat → ClassId) (ad : Nat → Nat) (f : Int → Int) : CS → va_E
  | .inl a => .inl (cA a.1, a.2, .inl (fun i => Int32.ofInt (f i)))
  | .inr o => .inr (o.1, mF (fun j x => cslot ad f j x) 0 o.2)
theorem wld_F (cA : Nat → ClassId) (ad : Nat → Nat) (sh : List CS) (h : Hp) : wld cA ad sh h = mF (fun k x => (ad k, celF cA ad (h k) x)) 0 sh := by
  unfold wld
  rw [mF_eq]
  congr 1
  funext k x
  rw [Nat.zero_add]
  cases x with
  | inl a => rfl
  | inr o =>
    show (ad k, Sum.inr (o.1, o.2.mapIdx (fun j x => cslot ad (h k) j x))) = (ad k, Sum.inr (o.1, mF (fun j x => cslot ad (h k) j x) 0 o.2))
    rw [mF_eq]
    congr 3
    apply congrArg (fun g => List.mapIdx g o.2)
    funext j y
    rw [Nat.zero_add]
section BA
variable {M : MI} {p : Program} {l : Launch} {e : Env} {s : State} {m : MethodId} {args : Array Value} {below : List Frame} {meth : Method} {c : Code} {D : va_G} {cA : Nat → ClassId} {A : Nat → Prop} {H : Heap} {locs : List Loc} {las : Array Slot} {ws : va_W} {rest : List Value} {R : Room} {Q : State → Prop} {cells slots pc : Nat}
theorem bl_arrI {own : String} {i ci j : Nat} {t : FieldType} {fs : List Value} {a : Nat} (fs' : Nat → List Value) (hL : FF own i ci j t) (hx : p.tables.exec = Jvm.exec) (hb : c.code = M.2.1) (hts : ∀ w ∈ gw_tbl, w.before args s = true) (hown : s.vm.findClass own = some m.cls) (hin : meth.name = "<init>") (hK : va_K D vwCl (tyC cA) s) (hP : va_P D vwCl ((a, .inr (ci, fs)) :: ws) H) (hD : va_D A ((a, .inr (ci, fs)) :: ws)) (hS : va_S A s.heap H locs) (hA : ∀ q, s.heap.size ≤ q → A q) {n : Int32} (N : Nat) (hn : ¬ n < 0) (hN : n.toNatClampNeg = N) (hby : N ≤ 1000) (hcells : cells + 1 ≤ R.cells) (hslots : slots + N ≤ R.slots) (hnw : ∀ {q : Nat}, narrow t (.ref q) = .ref q) (hfit : ∀ {q : Nat}, fits t (.ref q) = true) (hl : j < fs.length) (hfs : ∀ q, fs.set j (.ref q) = fs' q) (hd : decode M.2.1 pc = .ok (.newarray .int, 2)) (hd2 : decode M.2.1 (pc + 2) = .ok (.putfield i, 3))
    (kk : ∀ (q : Nat) (H1 : Heap) (locs1 : List Loc), va_P D vwCl ((a, .inr (ci, fs' q)) :: (ws ++ [(q, nA cA 0 N)])) H1 → va_D A ((a, .inr (ci, fs' q)) :: (ws ++ [(q, nA cA 0 N)])) → va_S A s.heap H1 locs1 → W p l e R s m args below meth c H1 locs1 (cells + 1) (slots + N) Q (F0 m (pc + 5) las rest)) : W p l e R s m args below meth c H locs cells slots Q (F0 m pc las (.int n :: .ref a :: rest)) := by
  refine bl_newI (M := M) hx hb hts hK hP hD hS hA N hn hN hby hcells hslots hd (fun q H hP hD hS => ?_)
  refine bl_put (M := M) (v := .ref q) hL hx hb hts hown hin hK hP hD hS 0 rfl hnw hfit hl hd2 (fun H locs hP hD hS => ?_)
  rw [hfs q] at hP hD
  exact kk q H locs hP hD hS
theorem bl_arrZ {own : String} {i ci j : Nat} {t : FieldType} {fs : List Value} {a : Nat} (fs' : Nat → List Value) (hL : FF own i ci j t) (hx : p.tables.exec = Jvm.exec) (hb : c.code = M.2.1) (hts : ∀ w ∈ gw_tbl, w.before args s = true) (hown : s.vm.findClass own = some m.cls) (hin : meth.name = "<init>") (hK : va_K D vwCl (tyC cA) s) (hP : va_P D vwCl ((a, .inr (ci, fs)) :: ws) H) (hD : va_D A ((a, .inr (ci, fs)) :: ws)) (hS : va_S A s.heap H locs) (hA : ∀ q, s.heap.size ≤ q → A q) {n : Int32} (N : Nat) (hn : ¬ n < 0) (hN : n.toNatClampNeg = N) (hby : N ≤ 1000) (hcells : cells + 1 ≤ R.cells) (hslots : slots + N ≤ R.slots) (hnw : ∀ {q : Nat}, narrow t (.ref q) = .ref q) (hfit : ∀ {q : Nat}, fits t (.ref q) = true) (hl : j < fs.length) (hfs : ∀ q, fs.set j (.ref q) = fs' q) (hd : decode M.2.1 pc = .ok (.newarray .boolean, 2)) (hd2 : decode M.2.1 (pc + 2) = .ok (.putfield i, 3))
    (kk : ∀ (q : Nat) (H1 : Heap) (locs1 : List Loc), va_P D vwCl ((a, .inr (ci, fs' q)) :: (ws ++ [(q, nA cA 1 N)])) H1 → va_D A ((a, .inr (ci, fs' q)) :: (ws ++ [(q, nA cA 1 N)])) → va_S A s.heap H1 locs1 → W p l e R s m args below meth c H1 locs1 (cells + 1) (slots + N) Q (F0 m (pc + 5) las rest)) : W p l e R s m args below meth c H locs cells slots Q (F0 m pc las (.int n :: .ref a :: rest)) := by
  refine bl_newZ (M := M) hx hb hts hK hP hD hS hA N hn hN hby hcells hslots hd (fun q H hP hD hS => ?_)
  refine bl_put (M := M) (v := .ref q) hL hx hb hts hown hin hK hP hD hS 0 rfl hnw hfit hl hd2 (fun H locs hP hD hS => ?_)
  rw [hfs q] at hP hD
  exact kk q H locs hP hD hS
end BA
set_option maxHeartbeats 4000000 in
set_option maxRecDepth 100000 in
theorem wM_ex (cA : Nat → ClassId) (q0 q1 q2 q3 q4 q5 q6 q7 q8 q9 q10 q11 q12 q13 q14 q15 q16 q17 q18 q19 q20 q21 : Nat) : wld cA (fun k : Nat => ([q0, q1, q2, q3, q4, q5, q6, q7, q8, q9, q10, q11, q12, q13, q14, q15, q16, q17, q18, q19, q20, q21] : List Nat).getD k 0) shM hz = [(q0, .inr (9, [.int (Int32.ofInt 0), .ref q1, .int (Int32.ofInt 0), .ref q2, .ref q3, .ref q4, .ref q5, .int (Int32.ofInt 0), .ref q6, .ref q7, .int (Int32.ofInt 0), .ref q8, .long (Int64.ofInt 0), .ref q9, .int (Int32.ofInt 0), .int (Int32.ofInt 0), .int (Int32.ofInt 0), .int (Int32.ofInt 0), .int (Int32.ofInt 0), .int (Int32.ofInt 0), .int (Int32.ofInt 0), .int (Int32.ofInt 0), .ref q10, .int (Int32.ofInt 0), .ref q11, .ref q12, .ref q13, .ref q14, .ref q15, .ref q16, .ref q17, .int (Int32.ofInt 0), .ref q18, .ref q19, .ref q20, .ref q21])), (q1, nA cA 0 16), (q2, nA cA 0 10), (q3, nA cA 0 5), (q4, nA cA 0 17), (q5, nA cA 0 170), (q6, nA cA 0 34), (q7, nA cA 1 2), (q8, nA cA 0 12), (q9, nA cA 0 120), (q10, nA cA 0 16), (q11, nA cA 0 10), (q12, nA cA 0 5), (q13, nA cA 0 17), (q14, nA cA 0 5), (q15, nA cA 0 5), (q16, nA cA 0 5), (q17, nA cA 0 5), (q18, nA cA 0 25), (q19, nA cA 0 5), (q20, nA cA 0 5), (q21, nA cA 0 5)] := by
  rw [wld_F]
  show (_ :: _) = (_ :: _)
  simp only [mF, celF, cslot, hz]
  rfl
set_option maxHeartbeats 4000000 in
set_option maxRecDepth 100000 in
theorem n_X9 (l : Launch) (D : va_G) (cA : Nat → ClassId) (a sz : Nat) : Met l yX9_init (Cond.code yX9_init cX9_init 1 none :: gw_tbl) mX9_init.2.2.2.2 (CtP D cA [.ref a] [(a, .inr (9, [.int (Int32.ofInt 0), .null, .int (Int32.ofInt 0), .null, .null, .null, .null, .int (Int32.ofInt 0), .null, .null, .int (Int32.ofInt 0), .null, .long (Int64.ofInt 0), .null, .int (Int32.ofInt 0), .int (Int32.ofInt 0), .int (Int32.ofInt 0), .int (Int32.ofInt 0), .int (Int32.ofInt 0), .int (Int32.ofInt 0), .int (Int32.ofInt 0), .int (Int32.ofInt 0), .null, .int (Int32.ofInt 0), .null, .null, .null, .null, .null, .null, .null, .int (Int32.ofInt 0), .null, .null, .null, .null]))] sz) (CtQ D (fun u => u 0 = a) (fun u => wld cA u shM hz) (va_A [(a, .inr (9, [.int (Int32.ofInt 0), .null, .int (Int32.ofInt 0), .null, .null, .null, .null, .int (Int32.ofInt 0), .null, .null, .int (Int32.ofInt 0), .null, .long (Int64.ofInt 0), .null, .int (Int32.ofInt 0), .int (Int32.ofInt 0), .int (Int32.ofInt 0), .int (Int32.ofInt 0), .int (Int32.ofInt 0), .int (Int32.ofInt 0), .int (Int32.ofInt 0), .int (Int32.ofInt 0), .null, .int (Int32.ofInt 0), .null, .null, .null, .null, .null, .null, .null, .int (Int32.ofInt 0), .null, .null, .null, .null]))] sz)) 21 494 (va_A [(a, .inr (9, [.int (Int32.ofInt 0), .null, .int (Int32.ofInt 0), .null, .null, .null, .null, .int (Int32.ofInt 0), .null, .null, .int (Int32.ofInt 0), .null, .long (Int64.ofInt 0), .null, .int (Int32.ofInt 0), .int (Int32.ofInt 0), .int (Int32.ofInt 0), .int (Int32.ofInt 0), .int (Int32.ofInt 0), .int (Int32.ofInt 0), .int (Int32.ofInt 0), .int (Int32.ofInt 0), .null, .int (Int32.ofInt 0), .null, .null, .null, .null, .null, .null, .null, .int (Int32.ofInt 0), .null, .null, .null, .null]))] sz) := by
  refine Met.ofW (cc := cX9_init) (maxL := 1) (ret := none) (by decide) rfl ?_
  intro p e s m args below meth c s₁ B hml hv
  obtain ⟨rfl, hsz, hP, hK, hN⟩ := hv
  have hx := B.exec
  have hb := B.bytes
  have hr := B.returns
  have hts0 := atoms_spec (ws := Cond.code yX9_init cX9_init 1 none :: gw_tbl) B.pre
  have hts : ∀ w ∈ gw_tbl, w.before _ s = true := fun w hw => hts0 w (List.mem_cons_of_mem _ hw)
  have hown : s.vm.findClass RX9 = some m.cls := findClass_of_methodNamed B.named
  have hin : meth.name = "<init>" := (name_of_methodNamed B.named B.method).1
  subst hsz
  have hD : va_D (va_A [(a, .inr (9, [.int (Int32.ofInt 0), .null, .int (Int32.ofInt 0), .null, .null, .null, .null, .int (Int32.ofInt 0), .null, .null, .int (Int32.ofInt 0), .null, .long (Int64.ofInt 0), .null, .int (Int32.ofInt 0), .int (Int32.ofInt 0), .int (Int32.ofInt 0), .int (Int32.ofInt 0), .int (Int32.ofInt 0), .int (Int32.ofInt 0), .int (Int32.ofInt 0), .int (Int32.ofInt 0), .null, .int (Int32.ofInt 0), .null, .null, .null, .null, .null, .null, .null, .int (Int32.ofInt 0), .null, .null, .null, .null]))] s.heap.size) [(a, .inr (9, [.int (Int32.ofInt 0), .null, .int (Int32.ofInt 0), .null, .null, .null, .null, .int (Int32.ofInt 0), .null, .null, .int (Int32.ofInt 0), .null, .long (Int64.ofInt 0), .null, .int (Int32.ofInt 0), .int (Int32.ofInt 0), .int (Int32.ofInt 0), .int (Int32.ofInt 0), .int (Int32.ofInt 0), .int (Int32.ofInt 0), .int (Int32.ofInt 0), .int (Int32.ofInt 0), .null, .int (Int32.ofInt 0), .null, .null, .null, .null, .null, .null, .null, .int (Int32.ofInt 0), .null, .null, .null, .null]))] := va_D1 (Or.inl ⟨0, _, rfl⟩)
  generalize hAe : va_A [(a, .inr (9, [.int (Int32.ofInt 0), .null, .int (Int32.ofInt 0), .null, .null, .null, .null, .int (Int32.ofInt 0), .null, .null, .int (Int32.ofInt 0), .null, .long (Int64.ofInt 0), .null, .int (Int32.ofInt 0), .int (Int32.ofInt 0), .int (Int32.ofInt 0), .int (Int32.ofInt 0), .int (Int32.ofInt 0), .int (Int32.ofInt 0), .int (Int32.ofInt 0), .int (Int32.ofInt 0), .null, .int (Int32.ofInt 0), .null, .null, .null, .null, .null, .null, .null, .int (Int32.ofInt 0), .null, .null, .null, .null]))] s.heap.size = A at hD ⊢
  have hA : ∀ q : Nat, s.heap.size ≤ q → A q := fun q h => by rw [← hAe]; exact Or.inr h
  have hS : va_S A s.heap s.heap [] := va_S.rf
  have hl := lv_entry ([.ref a]) (n := 1) (Nat.le_of_ble_eq_true rfl)
  rw [lg_entry_eq]
  generalize (lg_sl ([.ref a]) ++ List.replicate (1 - (lg_sl ([.ref a])).length) Slot.unset).toArray = ls at hl ⊢
  have hl : lv_has ls 1 [(0, .ref a)] := hl
  refine lv_aload_n hx hb dX9_init_0 rfl (lv_at hl 0 rfl) ?_
  refine W.objInit hx hb hown (hts _ (gw_in 719 (by decide +kernel) (by decide +kernel))) (hts _ (gw_in 67 (by decide +kernel) (by decide +kernel))) (hts _ (gw_in 68 (by decide +kernel) (by decide +kernel))) rfl (by rw [hml]; exact hl.1) rfl dX9_init_1 (Nat.le_of_ble_eq_true rfl) (Nat.le_of_ble_eq_true rfl) ?_
  refine W.eq (g2 := F0 m 4 ls []) rfl ?_
  refine lv_aload_n hx hb dX9_init_4 rfl (lv_at hl 0 rfl) ?_
  refine lv_bipush (v := 16) hx hb dX9_init_5 (by decide +kernel) ?_
  refine bl_arrI (M := mX9_init) (ci := 9) (j := 1) (fun z => [.int (Int32.ofInt 0), .ref z, .int (Int32.ofInt 0), .null, .null, .null, .null, .int (Int32.ofInt 0), .null, .null, .int (Int32.ofInt 0), .null, .long (Int64.ofInt 0), .null, .int (Int32.ofInt 0), .int (Int32.ofInt 0), .int (Int32.ofInt 0), .int (Int32.ofInt 0), .int (Int32.ofInt 0), .int (Int32.ofInt 0), .int (Int32.ofInt 0), .int (Int32.ofInt 0), .null, .int (Int32.ofInt 0), .null, .null, .null, .null, .null, .null, .null, .int (Int32.ofInt 0), .null, .null, .null, .null]) gX9_7 hx hb hts hown hin hK hP hD hS hA 16 (by decide) (by decide +kernel) (by decide) (Nat.le_of_ble_eq_true rfl) (Nat.le_of_ble_eq_true rfl) rfl rfl (Nat.le_of_ble_eq_true rfl) (fun _ => rfl) dX9_init_7 dX9_init_9 (fun q0 H locs hP hD hS => ?_)
  refine W.widen (k := 1) (n := 16) (Nat.le_of_ble_eq_true rfl) (Nat.le_of_ble_eq_true rfl) ?_
  refine lv_aload_n hx hb dX9_init_12 rfl (lv_at hl 0 rfl) ?_
  refine lv_bipush (v := 10) hx hb dX9_init_13 (by decide +kernel) ?_
  refine bl_arrI (M := mX9_init) (ci := 9) (j := 3) (fun z => [.int (Int32.ofInt 0), .ref q0, .int (Int32.ofInt 0), .ref z, .null, .null, .null, .int (Int32.ofInt 0), .null, .null, .int (Int32.ofInt 0), .null, .long (Int64.ofInt 0), .null, .int (Int32.ofInt 0), .int (Int32.ofInt 0), .int (Int32.ofInt 0), .int (Int32.ofInt 0), .int (Int32.ofInt 0), .int (Int32.ofInt 0), .int (Int32.ofInt 0), .int (Int32.ofInt 0), .null, .int (Int32.ofInt 0), .null, .null, .null, .null, .null, .null, .null, .int (Int32.ofInt 0), .null, .null, .null, .null]) gX9_13 hx hb hts hown hin hK hP hD hS hA 10 (by decide) (by decide +kernel) (by decide) (Nat.le_of_ble_eq_true rfl) (Nat.le_of_ble_eq_true rfl) rfl rfl (Nat.le_of_ble_eq_true rfl) (fun _ => rfl) dX9_init_15 dX9_init_17 (fun q1 H locs hP hD hS => ?_)
  refine W.widen (k := 2) (n := 26) (Nat.le_of_ble_eq_true rfl) (Nat.le_of_ble_eq_true rfl) ?_
  refine lv_aload_n hx hb dX9_init_20 rfl (lv_at hl 0 rfl) ?_
  refine lv_iconst (v := 5) hx hb dX9_init_21 (by decide) ?_
  refine bl_arrI (M := mX9_init) (ci := 9) (j := 4) (fun z => [.int (Int32.ofInt 0), .ref q0, .int (Int32.ofInt 0), .ref q1, .ref z, .null, .null, .int (Int32.ofInt 0), .null, .null, .int (Int32.ofInt 0), .null, .long (Int64.ofInt 0), .null, .int (Int32.ofInt 0), .int (Int32.ofInt 0), .int (Int32.ofInt 0), .int (Int32.ofInt 0), .int (Int32.ofInt 0), .int (Int32.ofInt 0), .int (Int32.ofInt 0), .int (Int32.ofInt 0), .null, .int (Int32.ofInt 0), .null, .null, .null, .null, .null, .null, .null, .int (Int32.ofInt 0), .null, .null, .null, .null]) gX9_16 hx hb hts hown hin hK hP hD hS hA 5 (by decide) (by decide +kernel) (by decide) (Nat.le_of_ble_eq_true rfl) (Nat.le_of_ble_eq_true rfl) rfl rfl (Nat.le_of_ble_eq_true rfl) (fun _ => rfl) dX9_init_22 dX9_init_24 (fun q2 H locs hP hD hS => ?_)
  refine W.widen (k := 3) (n := 31) (Nat.le_of_ble_eq_true rfl) (Nat.le_of_ble_eq_true rfl) ?_
  refine lv_aload_n hx hb dX9_init_27 rfl (lv_at hl 0 rfl) ?_
  refine lv_bipush (v := 17) hx hb dX9_init_28 (by decide +kernel) ?_
  refine bl_arrI (M := mX9_init) (ci := 9) (j := 5) (fun z => [.int (Int32.ofInt 0), .ref q0, .int (Int32.ofInt 0), .ref q1, .ref q2, .ref z, .null, .int (Int32.ofInt 0), .null, .null, .int (Int32.ofInt 0), .null, .long (Int64.ofInt 0), .null, .int (Int32.ofInt 0), .int (Int32.ofInt 0), .int (Int32.ofInt 0), .int (Int32.ofInt 0), .int (Int32.ofInt 0), .int (Int32.ofInt 0), .int (Int32.ofInt 0), .int (Int32.ofInt 0), .null, .int (Int32.ofInt 0), .null, .null, .null, .null, .null, .null, .null, .int (Int32.ofInt 0), .null, .null, .null, .null]) gX9_19 hx hb hts hown hin hK hP hD hS hA 17 (by decide) (by decide +kernel) (by decide) (Nat.le_of_ble_eq_true rfl) (Nat.le_of_ble_eq_true rfl) rfl rfl (Nat.le_of_ble_eq_true rfl) (fun _ => rfl) dX9_init_30 dX9_init_32 (fun q3 H locs hP hD hS => ?_)
  refine W.widen (k := 4) (n := 48) (Nat.le_of_ble_eq_true rfl) (Nat.le_of_ble_eq_true rfl) ?_
  refine lv_aload_n hx hb dX9_init_35 rfl (lv_at hl 0 rfl) ?_
  refine lv_sipush (v := 170) hx hb dX9_init_36 (by decide +kernel) ?_
  refine bl_arrI (M := mX9_init) (ci := 9) (j := 6) (fun z => [.int (Int32.ofInt 0), .ref q0, .int (Int32.ofInt 0), .ref q1, .ref q2, .ref q3, .ref z, .int (Int32.ofInt 0), .null, .null, .int (Int32.ofInt 0), .null, .long (Int64.ofInt 0), .null, .int (Int32.ofInt 0), .int (Int32.ofInt 0), .int (Int32.ofInt 0), .int (Int32.ofInt 0), .int (Int32.ofInt 0), .int (Int32.ofInt 0), .int (Int32.ofInt 0), .int (Int32.ofInt 0), .null, .int (Int32.ofInt 0), .null, .null, .null, .null, .null, .null, .null, .int (Int32.ofInt 0), .null, .null, .null, .null]) gX9_22 hx hb hts hown hin hK hP hD hS hA 170 (by decide) (by decide +kernel) (by decide) (Nat.le_of_ble_eq_true rfl) (Nat.le_of_ble_eq_true rfl) rfl rfl (Nat.le_of_ble_eq_true rfl) (fun _ => rfl) dX9_init_39 dX9_init_41 (fun q4 H locs hP hD hS => ?_)
  refine W.widen (k := 5) (n := 218) (Nat.le_of_ble_eq_true rfl) (Nat.le_of_ble_eq_true rfl) ?_
  refine lv_aload_n hx hb dX9_init_44 rfl (lv_at hl 0 rfl) ?_
  refine lv_bipush (v := 34) hx hb dX9_init_45 (by decide +kernel) ?_
  refine bl_arrI (M := mX9_init) (ci := 9) (j := 8) (fun z => [.int (Int32.ofInt 0), .ref q0, .int (Int32.ofInt 0), .ref q1, .ref q2, .ref q3, .ref q4, .int (Int32.ofInt 0), .ref z, .null, .int (Int32.ofInt 0), .null, .long (Int64.ofInt 0), .null, .int (Int32.ofInt 0), .int (Int32.ofInt 0), .int (Int32.ofInt 0), .int (Int32.ofInt 0), .int (Int32.ofInt 0), .int (Int32.ofInt 0), .int (Int32.ofInt 0), .int (Int32.ofInt 0), .null, .int (Int32.ofInt 0), .null, .null, .null, .null, .null, .null, .null, .int (Int32.ofInt 0), .null, .null, .null, .null]) gX9_25 hx hb hts hown hin hK hP hD hS hA 34 (by decide) (by decide +kernel) (by decide) (Nat.le_of_ble_eq_true rfl) (Nat.le_of_ble_eq_true rfl) rfl rfl (Nat.le_of_ble_eq_true rfl) (fun _ => rfl) dX9_init_47 dX9_init_49 (fun q5 H locs hP hD hS => ?_)
  refine W.widen (k := 6) (n := 252) (Nat.le_of_ble_eq_true rfl) (Nat.le_of_ble_eq_true rfl) ?_
  refine lv_aload_n hx hb dX9_init_52 rfl (lv_at hl 0 rfl) ?_
  refine lv_iconst (v := 2) hx hb dX9_init_53 (by decide) ?_
  refine bl_arrZ (M := mX9_init) (ci := 9) (j := 9) (fun z => [.int (Int32.ofInt 0), .ref q0, .int (Int32.ofInt 0), .ref q1, .ref q2, .ref q3, .ref q4, .int (Int32.ofInt 0), .ref q5, .ref z, .int (Int32.ofInt 0), .null, .long (Int64.ofInt 0), .null, .int (Int32.ofInt 0), .int (Int32.ofInt 0), .int (Int32.ofInt 0), .int (Int32.ofInt 0), .int (Int32.ofInt 0), .int (Int32.ofInt 0), .int (Int32.ofInt 0), .int (Int32.ofInt 0), .null, .int (Int32.ofInt 0), .null, .null, .null, .null, .null, .null, .null, .int (Int32.ofInt 0), .null, .null, .null, .null]) gX9_28 hx hb hts hown hin hK hP hD hS hA 2 (by decide) (by decide +kernel) (by decide) (Nat.le_of_ble_eq_true rfl) (Nat.le_of_ble_eq_true rfl) rfl rfl (Nat.le_of_ble_eq_true rfl) (fun _ => rfl) dX9_init_54 dX9_init_56 (fun q6 H locs hP hD hS => ?_)
  refine W.widen (k := 7) (n := 254) (Nat.le_of_ble_eq_true rfl) (Nat.le_of_ble_eq_true rfl) ?_
  refine lv_aload_n hx hb dX9_init_59 rfl (lv_at hl 0 rfl) ?_
  refine lv_bipush (v := 12) hx hb dX9_init_60 (by decide +kernel) ?_
  refine bl_arrI (M := mX9_init) (ci := 9) (j := 11) (fun z => [.int (Int32.ofInt 0), .ref q0, .int (Int32.ofInt 0), .ref q1, .ref q2, .ref q3, .ref q4, .int (Int32.ofInt 0), .ref q5, .ref q6, .int (Int32.ofInt 0), .ref z, .long (Int64.ofInt 0), .null, .int (Int32.ofInt 0), .int (Int32.ofInt 0), .int (Int32.ofInt 0), .int (Int32.ofInt 0), .int (Int32.ofInt 0), .int (Int32.ofInt 0), .int (Int32.ofInt 0), .int (Int32.ofInt 0), .null, .int (Int32.ofInt 0), .null, .null, .null, .null, .null, .null, .null, .int (Int32.ofInt 0), .null, .null, .null, .null]) gX9_32 hx hb hts hown hin hK hP hD hS hA 12 (by decide) (by decide +kernel) (by decide) (Nat.le_of_ble_eq_true rfl) (Nat.le_of_ble_eq_true rfl) rfl rfl (Nat.le_of_ble_eq_true rfl) (fun _ => rfl) dX9_init_62 dX9_init_64 (fun q7 H locs hP hD hS => ?_)
  refine W.widen (k := 8) (n := 266) (Nat.le_of_ble_eq_true rfl) (Nat.le_of_ble_eq_true rfl) ?_
  refine lv_aload_n hx hb dX9_init_67 rfl (lv_at hl 0 rfl) ?_
  refine lv_bipush (v := 120) hx hb dX9_init_68 (by decide +kernel) ?_
  refine bl_arrI (M := mX9_init) (ci := 9) (j := 13) (fun z => [.int (Int32.ofInt 0), .ref q0, .int (Int32.ofInt 0), .ref q1, .ref q2, .ref q3, .ref q4, .int (Int32.ofInt 0), .ref q5, .ref q6, .int (Int32.ofInt 0), .ref q7, .long (Int64.ofInt 0), .ref z, .int (Int32.ofInt 0), .int (Int32.ofInt 0), .int (Int32.ofInt 0), .int (Int32.ofInt 0), .int (Int32.ofInt 0), .int (Int32.ofInt 0), .int (Int32.ofInt 0), .int (Int32.ofInt 0), .null, .int (Int32.ofInt 0), .null, .null, .null, .null, .null, .null, .null, .int (Int32.ofInt 0), .null, .null, .null, .null]) gX9_35 hx hb hts hown hin hK hP hD hS hA 120 (by decide) (by decide +kernel) (by decide) (Nat.le_of_ble_eq_true rfl) (Nat.le_of_ble_eq_true rfl) rfl rfl (Nat.le_of_ble_eq_true rfl) (fun _ => rfl) dX9_init_70 dX9_init_72 (fun q8 H locs hP hD hS => ?_)
  refine W.widen (k := 9) (n := 386) (Nat.le_of_ble_eq_true rfl) (Nat.le_of_ble_eq_true rfl) ?_
  refine lv_aload_n hx hb dX9_init_75 rfl (lv_at hl 0 rfl) ?_
  refine lv_bipush (v := 16) hx hb dX9_init_76 (by decide +kernel) ?_
  refine bl_arrI (M := mX9_init) (ci := 9) (j := 22) (fun z => [.int (Int32.ofInt 0), .ref q0, .int (Int32.ofInt 0), .ref q1, .ref q2, .ref q3, .ref q4, .int (Int32.ofInt 0), .ref q5, .ref q6, .int (Int32.ofInt 0), .ref q7, .long (Int64.ofInt 0), .ref q8, .int (Int32.ofInt 0), .int (Int32.ofInt 0), .int (Int32.ofInt 0), .int (Int32.ofInt 0), .int (Int32.ofInt 0), .int (Int32.ofInt 0), .int (Int32.ofInt 0), .int (Int32.ofInt 0), .ref z, .int (Int32.ofInt 0), .null, .null, .null, .null, .null, .null, .null, .int (Int32.ofInt 0), .null, .null, .null, .null]) gX9_38 hx hb hts hown hin hK hP hD hS hA 16 (by decide) (by decide +kernel) (by decide) (Nat.le_of_ble_eq_true rfl) (Nat.le_of_ble_eq_true rfl) rfl rfl (Nat.le_of_ble_eq_true rfl) (fun _ => rfl) dX9_init_78 dX9_init_80 (fun q9 H locs hP hD hS => ?_)
  refine W.widen (k := 10) (n := 402) (Nat.le_of_ble_eq_true rfl) (Nat.le_of_ble_eq_true rfl) ?_
  refine lv_aload_n hx hb dX9_init_83 rfl (lv_at hl 0 rfl) ?_
  refine lv_bipush (v := 10) hx hb dX9_init_84 (by decide +kernel) ?_
  refine bl_arrI (M := mX9_init) (ci := 9) (j := 24) (fun z => [.int (Int32.ofInt 0), .ref q0, .int (Int32.ofInt 0), .ref q1, .ref q2, .ref q3, .ref q4, .int (Int32.ofInt 0), .ref q5, .ref q6, .int (Int32.ofInt 0), .ref q7, .long (Int64.ofInt 0), .ref q8, .int (Int32.ofInt 0), .int (Int32.ofInt 0), .int (Int32.ofInt 0), .int (Int32.ofInt 0), .int (Int32.ofInt 0), .int (Int32.ofInt 0), .int (Int32.ofInt 0), .int (Int32.ofInt 0), .ref q9, .int (Int32.ofInt 0), .ref z, .null, .null, .null, .null, .null, .null, .int (Int32.ofInt 0), .null, .null, .null, .null]) gX9_41 hx hb hts hown hin hK hP hD hS hA 10 (by decide) (by decide +kernel) (by decide) (Nat.le_of_ble_eq_true rfl) (Nat.le_of_ble_eq_true rfl) rfl rfl (Nat.le_of_ble_eq_true rfl) (fun _ => rfl) dX9_init_86 dX9_init_88 (fun q10 H locs hP hD hS => ?_)
  refine W.widen (k := 11) (n := 412) (Nat.le_of_ble_eq_true rfl) (Nat.le_of_ble_eq_true rfl) ?_
  refine lv_aload_n hx hb dX9_init_91 rfl (lv_at hl 0 rfl) ?_
  refine lv_iconst (v := 5) hx hb dX9_init_92 (by decide) ?_
  refine bl_arrI (M := mX9_init) (ci := 9) (j := 25) (fun z => [.int (Int32.ofInt 0), .ref q0, .int (Int32.ofInt 0), .ref q1, .ref q2, .ref q3, .ref q4, .int (Int32.ofInt 0), .ref q5, .ref q6, .int (Int32.ofInt 0), .ref q7, .long (Int64.ofInt 0), .ref q8, .int (Int32.ofInt 0), .int (Int32.ofInt 0), .int (Int32.ofInt 0), .int (Int32.ofInt 0), .int (Int32.ofInt 0), .int (Int32.ofInt 0), .int (Int32.ofInt 0), .int (Int32.ofInt 0), .ref q9, .int (Int32.ofInt 0), .ref q10, .ref z, .null, .null, .null, .null, .null, .int (Int32.ofInt 0), .null, .null, .null, .null]) gX9_44 hx hb hts hown hin hK hP hD hS hA 5 (by decide) (by decide +kernel) (by decide) (Nat.le_of_ble_eq_true rfl) (Nat.le_of_ble_eq_true rfl) rfl rfl (Nat.le_of_ble_eq_true rfl) (fun _ => rfl) dX9_init_93 dX9_init_95 (fun q11 H locs hP hD hS => ?_)
  refine W.widen (k := 12) (n := 417) (Nat.le_of_ble_eq_true rfl) (Nat.le_of_ble_eq_true rfl) ?_
  refine lv_aload_n hx hb dX9_init_98 rfl (lv_at hl 0 rfl) ?_
  refine lv_bipush (v := 17) hx hb dX9_init_99 (by decide +kernel) ?_
  refine bl_arrI (M := mX9_init) (ci := 9) (j := 26) (fun z => [.int (Int32.ofInt 0), .ref q0, .int (Int32.ofInt 0), .ref q1, .ref q2, .ref q3, .ref q4, .int (Int32.ofInt 0), .ref q5, .ref q6, .int (Int32.ofInt 0), .ref q7, .long (Int64.ofInt 0), .ref q8, .int (Int32.ofInt 0), .int (Int32.ofInt 0), .int (Int32.ofInt 0), .int (Int32.ofInt 0), .int (Int32.ofInt 0), .int (Int32.ofInt 0), .int (Int32.ofInt 0), .int (Int32.ofInt 0), .ref q9, .int (Int32.ofInt 0), .ref q10, .ref q11, .ref z, .null, .null, .null, .null, .int (Int32.ofInt 0), .null, .null, .null, .null]) gX9_47 hx hb hts hown hin hK hP hD hS hA 17 (by decide) (by decide +kernel) (by decide) (Nat.le_of_ble_eq_true rfl) (Nat.le_of_ble_eq_true rfl) rfl rfl (Nat.le_of_ble_eq_true rfl) (fun _ => rfl) dX9_init_101 dX9_init_103 (fun q12 H locs hP hD hS => ?_)
  refine W.widen (k := 13) (n := 434) (Nat.le_of_ble_eq_true rfl) (Nat.le_of_ble_eq_true rfl) ?_
  refine lv_aload_n hx hb dX9_init_106 rfl (lv_at hl 0 rfl) ?_
  refine lv_iconst (v := 5) hx hb dX9_init_107 (by decide) ?_
  refine bl_arrI (M := mX9_init) (ci := 9) (j := 27) (fun z => [.int (Int32.ofInt 0), .ref q0, .int (Int32.ofInt 0), .ref q1, .ref q2, .ref q3, .ref q4, .int (Int32.ofInt 0), .ref q5, .ref q6, .int (Int32.ofInt 0), .ref q7, .long (Int64.ofInt 0), .ref q8, .int (Int32.ofInt 0), .int (Int32.ofInt 0), .int (Int32.ofInt 0), .int (Int32.ofInt 0), .int (Int32.ofInt 0), .int (Int32.ofInt 0), .int (Int32.ofInt 0), .int (Int32.ofInt 0), .ref q9, .int (Int32.ofInt 0), .ref q10, .ref q11, .ref q12, .ref z, .null, .null, .null, .int (Int32.ofInt 0), .null, .null, .null, .null]) gX9_50 hx hb hts hown hin hK hP hD hS hA 5 (by decide) (by decide +kernel) (by decide) (Nat.le_of_ble_eq_true rfl) (Nat.le_of_ble_eq_true rfl) rfl rfl (Nat.le_of_ble_eq_true rfl) (fun _ => rfl) dX9_init_108 dX9_init_110 (fun q13 H locs hP hD hS => ?_)
  refine W.widen (k := 14) (n := 439) (Nat.le_of_ble_eq_true rfl) (Nat.le_of_ble_eq_true rfl) ?_
  refine lv_aload_n hx hb dX9_init_113 rfl (lv_at hl 0 rfl) ?_
  refine lv_iconst (v := 5) hx hb dX9_init_114 (by decide) ?_
  refine bl_arrI (M := mX9_init) (ci := 9) (j := 28) (fun z => [.int (Int32.ofInt 0), .ref q0, .int (Int32.ofInt 0), .ref q1, .ref q2, .ref q3, .ref q4, .int (Int32.ofInt 0), .ref q5, .ref q6, .int (Int32.ofInt 0), .ref q7, .long (Int64.ofInt 0), .ref q8, .int (Int32.ofInt 0), .int (Int32.ofInt 0), .int (Int32.ofInt 0), .int (Int32.ofInt 0), .int (Int32.ofInt 0), .int (Int32.ofInt 0), .int (Int32.ofInt 0), .int (Int32.ofInt 0), .ref q9, .int (Int32.ofInt 0), .ref q10, .ref q11, .ref q12, .ref q13, .ref z, .null, .null, .int (Int32.ofInt 0), .null, .null, .null, .null]) gX9_53 hx hb hts hown hin hK hP hD hS hA 5 (by decide) (by decide +kernel) (by decide) (Nat.le_of_ble_eq_true rfl) (Nat.le_of_ble_eq_true rfl) rfl rfl (Nat.le_of_ble_eq_true rfl) (fun _ => rfl) dX9_init_115 dX9_init_117 (fun q14 H locs hP hD hS => ?_)
  refine W.widen (k := 15) (n := 444) (Nat.le_of_ble_eq_true rfl) (Nat.le_of_ble_eq_true rfl) ?_
  refine lv_aload_n hx hb dX9_init_120 rfl (lv_at hl 0 rfl) ?_
  refine lv_iconst (v := 5) hx hb dX9_init_121 (by decide) ?_
  refine bl_arrI (M := mX9_init) (ci := 9) (j := 29) (fun z => [.int (Int32.ofInt 0), .ref q0, .int (Int32.ofInt 0), .ref q1, .ref q2, .ref q3, .ref q4, .int (Int32.ofInt 0), .ref q5, .ref q6, .int (Int32.ofInt 0), .ref q7, .long (Int64.ofInt 0), .ref q8, .int (Int32.ofInt 0), .int (Int32.ofInt 0), .int (Int32.ofInt 0), .int (Int32.ofInt 0), .int (Int32.ofInt 0), .int (Int32.ofInt 0), .int (Int32.ofInt 0), .int (Int32.ofInt 0), .ref q9, .int (Int32.ofInt 0), .ref q10, .ref q11, .ref q12, .ref q13, .ref q14, .ref z, .null, .int (Int32.ofInt 0), .null, .null, .null, .null]) gX9_56 hx hb hts hown hin hK hP hD hS hA 5 (by decide) (by decide +kernel) (by decide) (Nat.le_of_ble_eq_true rfl) (Nat.le_of_ble_eq_true rfl) rfl rfl (Nat.le_of_ble_eq_true rfl) (fun _ => rfl) dX9_init_122 dX9_init_124 (fun q15 H locs hP hD hS => ?_)
  refine W.widen (k := 16) (n := 449) (Nat.le_of_ble_eq_true rfl) (Nat.le_of_ble_eq_true rfl) ?_
  refine lv_aload_n hx hb dX9_init_127 rfl (lv_at hl 0 rfl) ?_
  refine lv_iconst (v := 5) hx hb dX9_init_128 (by decide) ?_
  refine bl_arrI (M := mX9_init) (ci := 9) (j := 30) (fun z => [.int (Int32.ofInt 0), .ref q0, .int (Int32.ofInt 0), .ref q1, .ref q2, .ref q3, .ref q4, .int (Int32.ofInt 0), .ref q5, .ref q6, .int (Int32.ofInt 0), .ref q7, .long (Int64.ofInt 0), .ref q8, .int (Int32.ofInt 0), .int (Int32.ofInt 0), .int (Int32.ofInt 0), .int (Int32.ofInt 0), .int (Int32.ofInt 0), .int (Int32.ofInt 0), .int (Int32.ofInt 0), .int (Int32.ofInt 0), .ref q9, .int (Int32.ofInt 0), .ref q10, .ref q11, .ref q12, .ref q13, .ref q14, .ref q15, .ref z, .int (Int32.ofInt 0), .null, .null, .null, .null]) gX9_59 hx hb hts hown hin hK hP hD hS hA 5 (by decide) (by decide +kernel) (by decide) (Nat.le_of_ble_eq_true rfl) (Nat.le_of_ble_eq_true rfl) rfl rfl (Nat.le_of_ble_eq_true rfl) (fun _ => rfl) dX9_init_129 dX9_init_131 (fun q16 H locs hP hD hS => ?_)
  refine W.widen (k := 17) (n := 454) (Nat.le_of_ble_eq_true rfl) (Nat.le_of_ble_eq_true rfl) ?_
  refine lv_aload_n hx hb dX9_init_134 rfl (lv_at hl 0 rfl) ?_
  refine lv_bipush (v := 25) hx hb dX9_init_135 (by decide +kernel) ?_
  refine bl_arrI (M := mX9_init) (ci := 9) (j := 32) (fun z => [.int (Int32.ofInt 0), .ref q0, .int (Int32.ofInt 0), .ref q1, .ref q2, .ref q3, .ref q4, .int (Int32.ofInt 0), .ref q5, .ref q6, .int (Int32.ofInt 0), .ref q7, .long (Int64.ofInt 0), .ref q8, .int (Int32.ofInt 0), .int (Int32.ofInt 0), .int (Int32.ofInt 0), .int (Int32.ofInt 0), .int (Int32.ofInt 0), .int (Int32.ofInt 0), .int (Int32.ofInt 0), .int (Int32.ofInt 0), .ref q9, .int (Int32.ofInt 0), .ref q10, .ref q11, .ref q12, .ref q13, .ref q14, .ref q15, .ref q16, .int (Int32.ofInt 0), .ref z, .null, .null, .null]) gX9_62 hx hb hts hown hin hK hP hD hS hA 25 (by decide) (by decide +kernel) (by decide) (Nat.le_of_ble_eq_true rfl) (Nat.le_of_ble_eq_true rfl) rfl rfl (Nat.le_of_ble_eq_true rfl) (fun _ => rfl) dX9_init_137 dX9_init_139 (fun q17 H locs hP hD hS => ?_)
  refine W.widen (k := 18) (n := 479) (Nat.le_of_ble_eq_true rfl) (Nat.le_of_ble_eq_true rfl) ?_
  refine lv_aload_n hx hb dX9_init_142 rfl (lv_at hl 0 rfl) ?_
  refine lv_iconst (v := 5) hx hb dX9_init_143 (by decide) ?_
  refine bl_arrI (M := mX9_init) (ci := 9) (j := 33) (fun z => [.int (Int32.ofInt 0), .ref q0, .int (Int32.ofInt 0), .ref q1, .ref q2, .ref q3, .ref q4, .int (Int32.ofInt 0), .ref q5, .ref q6, .int (Int32.ofInt 0), .ref q7, .long (Int64.ofInt 0), .ref q8, .int (Int32.ofInt 0), .int (Int32.ofInt 0), .int (Int32.ofInt 0), .int (Int32.ofInt 0), .int (Int32.ofInt 0), .int (Int32.ofInt 0), .int (Int32.ofInt 0), .int (Int32.ofInt 0), .ref q9, .int (Int32.ofInt 0), .ref q10, .ref q11, .ref q12, .ref q13, .ref q14, .ref q15, .ref q16, .int (Int32.ofInt 0), .ref q17, .ref z, .null, .null]) gX9_65 hx hb hts hown hin hK hP hD hS hA 5 (by decide) (by decide +kernel) (by decide) (Nat.le_of_ble_eq_true rfl) (Nat.le_of_ble_eq_true rfl) rfl rfl (Nat.le_of_ble_eq_true rfl) (fun _ => rfl) dX9_init_144 dX9_init_146 (fun q18 H locs hP hD hS => ?_)
  refine W.widen (k := 19) (n := 484) (Nat.le_of_ble_eq_true rfl) (Nat.le_of_ble_eq_true rfl) ?_
  refine lv_aload_n hx hb dX9_init_149 rfl (lv_at hl 0 rfl) ?_
  refine lv_iconst (v := 5) hx hb dX9_init_150 (by decide) ?_
  refine bl_arrI (M := mX9_init) (ci := 9) (j := 34) (fun z => [.int (Int32.ofInt 0), .ref q0, .int (Int32.ofInt 0), .ref q1, .ref q2, .ref q3, .ref q4, .int (Int32.ofInt 0), .ref q5, .ref q6, .int (Int32.ofInt 0), .ref q7, .long (Int64.ofInt 0), .ref q8, .int (Int32.ofInt 0), .int (Int32.ofInt 0), .int (Int32.ofInt 0), .int (Int32.ofInt 0), .int (Int32.ofInt 0), .int (Int32.ofInt 0), .int (Int32.ofInt 0), .int (Int32.ofInt 0), .ref q9, .int (Int32.ofInt 0), .ref q10, .ref q11, .ref q12, .ref q13, .ref q14, .ref q15, .ref q16, .int (Int32.ofInt 0), .ref q17, .ref q18, .ref z, .null]) gX9_68 hx hb hts hown hin hK hP hD hS hA 5 (by decide) (by decide +kernel) (by decide) (Nat.le_of_ble_eq_true rfl) (Nat.le_of_ble_eq_true rfl) rfl rfl (Nat.le_of_ble_eq_true rfl) (fun _ => rfl) dX9_init_151 dX9_init_153 (fun q19 H locs hP hD hS => ?_)
  refine W.widen (k := 20) (n := 489) (Nat.le_of_ble_eq_true rfl) (Nat.le_of_ble_eq_true rfl) ?_
  refine lv_aload_n hx hb dX9_init_156 rfl (lv_at hl 0 rfl) ?_
  refine lv_iconst (v := 5) hx hb dX9_init_157 (by decide) ?_
  refine bl_arrI (M := mX9_init) (ci := 9) (j := 35) (fun z => [.int (Int32.ofInt 0), .ref q0, .int (Int32.ofInt 0), .ref q1, .ref q2, .ref q3, .ref q4, .int (Int32.ofInt 0), .ref q5, .ref q6, .int (Int32.ofInt 0), .ref q7, .long (Int64.ofInt 0), .ref q8, .int (Int32.ofInt 0), .int (Int32.ofInt 0), .int (Int32.ofInt 0), .int (Int32.ofInt 0), .int (Int32.ofInt 0), .int (Int32.ofInt 0), .int (Int32.ofInt 0), .int (Int32.ofInt 0), .ref q9, .int (Int32.ofInt 0), .ref q10, .ref q11, .ref q12, .ref q13, .ref q14, .ref q15, .ref q16, .int (Int32.ofInt 0), .ref q17, .ref q18, .ref q19, .ref z]) gX9_71 hx hb hts hown hin hK hP hD hS hA 5 (by decide) (by decide +kernel) (by decide) (Nat.le_of_ble_eq_true rfl) (Nat.le_of_ble_eq_true rfl) rfl rfl (Nat.le_of_ble_eq_true rfl) (fun _ => rfl) dX9_init_158 dX9_init_160 (fun q20 H locs hP hD hS => ?_)
  refine W.widen (k := 21) (n := 494) (Nat.le_of_ble_eq_true rfl) (Nat.le_of_ble_eq_true rfl) ?_
  simp only [List.nil_append, List.cons_append, List.append_assoc, List.singleton_append] at hP hD
  have hP9 : va_P D vwCl (wld cA (fun k : Nat => ([a, q0, q1, q2, q3, q4, q5, q6, q7, q8, q9, q10, q11, q12, q13, q14, q15, q16, q17, q18, q19, q20] : List Nat).getD k 0) shM hz) H := by rw [wM_ex]; exact hP
  have hD9 : va_D A (wld cA (fun k : Nat => ([a, q0, q1, q2, q3, q4, q5, q6, q7, q8, q9, q10, q11, q12, q13, q14, q15, q16, q17, q18, q19, q20] : List Nat).getD k 0) shM hz) := by rw [wM_ex]; exact hD
  exact W.vret hx hb hr (fun tt ht hW => ⟨⟨(fun k : Nat => ([a, q0, q1, q2, q3, q4, q5, q6, q7, q8, q9, q10, q11, q12, q13, q14, q15, q16, q17, q18, q19, q20] : List Nat).getD k 0), rfl, rfl, by rw [ht]; exact hP9, hD9⟩, hS.F ht⟩) hS.2.2 dX9_init_163
