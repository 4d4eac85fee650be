/-! THE LIGHT JUDGEMENT Ev: a method's frame over a world of fixed shape whose numbers are a function of place and slot. Rows below lift the kit's rows once; all later walks use them. -/
def gw_tbl : List Cond := lw_tbl.filter goodWord
theorem gw_in {w : Cond} (i : Nat) (h : lw_tbl[i]? = some w) (g : goodWord w = true) : w ∈ gw_tbl := List.mem_filter.mpr ⟨List.mem_of_getElem? h, g⟩
abbrev R32 (x : Int) : Prop := -2147483648 ≤ x ∧ x < 2147483648
theorem q_toI {x : Int} (h : R32 x) : (Int32.ofInt x).toInt = x := by
  obtain ⟨h1, h2⟩ := h
  rw [Int32.toInt_ofInt]
  exact Int.bmod_eq_of_le (by show -((4294967296 : Int) / 2) ≤ _; omega) (by show _ < ((4294967296 : Int) + 1) / 2; omega)
theorem q_asI (x : Int32) : Int32.ofInt x.toInt = x := by
  apply Int32.toInt_inj.mp
  rw [Int32.toInt_ofInt]
  have h1 := Int32.le_toInt x
  have h2 := Int32.toInt_lt x
  exact Int.bmod_eq_of_le (by show -((4294967296 : Int) / 2) ≤ _; omega) (by show _ < ((4294967296 : Int) + 1) / 2; omega)
theorem q_rng (x : Int32) : R32 x.toInt := ⟨by have := Int32.le_toInt x; omega, by have := Int32.toInt_lt x; omega⟩
theorem q_lt {x y : Int} (hx : R32 x) (hy : R32 y) : Int32.ofInt x < Int32.ofInt y ↔ x < y := by rw [Int32.lt_iff_toInt_lt, q_toI hx, q_toI hy]
theorem q_le {x y : Int} (hx : R32 x) (hy : R32 y) : Int32.ofInt x ≤ Int32.ofInt y ↔ x ≤ y := by rw [Int32.le_iff_toInt_le, q_toI hx, q_toI hy]
theorem q_eq {x y : Int} (hx : R32 x) (hy : R32 y) : Int32.ofInt x = Int32.ofInt y ↔ x = y := by rw [← Int32.toInt_inj, q_toI hx, q_toI hy]
theorem q_nI {x : Int} (h0 : 0 ≤ x) : Int32.ofInt x = nI x.toNat := by
  show _ = Int32.ofNat _
  rw [← Int32.ofInt_eq_ofNat]
  congr 1
  omega
theorem q_nat (n : Nat) : nI n = Int32.ofInt (n : Int) := by
  show Int32.ofNat _ = _
  rw [Int32.ofInt_eq_ofNat]
theorem q_in {i : Int} {n : Nat} (h0 : 0 ≤ i) (h1 : i < n) (hn : n < 2147483648) : vp_in (Int32.ofInt i) n := by
  rw [vp_in_iff, q_toI ⟨by omega, by omega⟩]
  exact ⟨h0, h1⟩
theorem q_cl {i : Int} (h0 : 0 ≤ i) (h1 : i < 2147483648) : (Int32.ofInt i).toNatClampNeg = i.toNat := by
  show (Int32.ofInt i).toInt.toNat = _
  rw [q_toI ⟨by omega, by omega⟩]

abbrev AV : Type := Int ⊕ (Nat ⊕ Int)
abbrev vi (z : Int) : AV := .inl z
abbrev vr (k : Nat) : AV := .inr (.inl k)
abbrev vl (z : Int) : AV := .inr (.inr z)
abbrev Hp : Type := Nat → Int → Int
def up (f : Int → Int) (i v : Int) : Int → Int := fun b => if b = i then v else f b
def hput (h : Hp) (k : Nat) (f : Int → Int) : Hp := fun a => if a = k then f else h a
theorem up_s {f : Int → Int} {i v : Int} : up f i v i = v := if_pos rfl
theorem up_n {f : Int → Int} {i v j : Int} (h : j ≠ i) : up f i v j = f j := if_neg h
theorem hput_s {h : Hp} {k : Nat} {f : Int → Int} : hput h k f k = f := if_pos rfl
theorem hput_n {h : Hp} {k a : Nat} {f : Int → Int} (n : a ≠ k) : hput h k f a = h a := if_neg n
def cv (ad : Nat → Nat) : AV → Value
  | .inl z => .int (Int32.ofInt z)
  | .inr (.inl k) => .ref (ad k)
  | .inr (.inr z) => .long (Int64.ofInt z)
/-- a slot: inl 0 an int, inl 1 a long, inl 2 a boolean; inr t a reference to place t. A cell: an array (its kind, its length), or an object (its class, its slots) -/
abbrev SK : Type := Nat ⊕ Nat
abbrev CS : Type := (Nat × Nat) ⊕ (Nat × List SK)
def cslot (ad : Nat → Nat) (f : Int → Int) (j : Nat) : SK → Value
  | .inr t => .ref (ad t)
  | .inl k => if k = 1 then .long (Int64.ofInt (f j)) else .int (Int32.ofInt (f j))
def cel (cA : Nat → ClassId) (ad : Nat → Nat) (f : Int → Int) : CS → va_E
  | .inl a => .inl (cA a.1, a.2, .inl (fun i => Int32.ofInt (f i)))
  | .inr o => .inr (o.1, o.2.mapIdx (fun j x => cslot ad f j x))
def wld (cA : Nat → ClassId) (ad : Nat → Nat) (sh : List CS) (h : Hp) : va_W := sh.mapIdx (fun k x => (ad k, cel cA ad (h k) x))
theorem wld_at {cA : Nat → ClassId} {ad : Nat → Nat} {sh : List CS} {h : Hp} {k : Nat} {x : CS} (hk : sh[k]? = some x) : (wld cA ad sh h)[k]? = some (ad k, cel cA ad (h k) x) := by
  unfold wld
  rw [List.getElem?_mapIdx, hk]
  rfl
theorem wld_inv {cA : Nat → ClassId} {ad : Nat → Nat} {sh : List CS} {h : Hp} {k : Nat} {q : Nat × va_E} (hk : (wld cA ad sh h)[k]? = some q) : ∃ x, sh[k]? = some x ∧ q = (ad k, cel cA ad (h k) x) := by
  unfold wld at hk
  rw [List.getElem?_mapIdx] at hk
  cases hx : sh[k]? with
  | none => rw [hx] at hk; cases hk
  | some x => rw [hx] at hk; exact ⟨x, rfl, (Option.some.inj hk).symm⟩
theorem wld_set {cA : Nat → ClassId} {ad : Nat → Nat} {sh : List CS} {h : Hp} {k : Nat} {x : CS} (hk : sh[k]? = some x) (f : Int → Int) : (wld cA ad sh h).set k (ad k, cel cA ad f x) = wld cA ad sh (hput h k f) := by
  apply List.ext_getElem?
  intro i
  rw [List.getElem?_set]
  by_cases e : k = i
  · subst e
    rw [wld_at (h := hput h k f) hk, hput_s]
    have hl : k < (wld cA ad sh h).length := by
      unfold wld
      rw [List.length_mapIdx]
      exact (List.getElem?_eq_some_iff.mp hk).1
    simp [hl]
  · rw [if_neg e]
    unfold wld
    rw [List.getElem?_mapIdx, List.getElem?_mapIdx, hput_n (fun q => e q.symm)]
theorem wld_D {cA : Nat → ClassId} {ad : Nat → Nat} {sh : List CS} {h h2 : Hp} {A : Nat → Prop} (hD : va_D A (wld cA ad sh h)) : va_D A (wld cA ad sh h2) := by
  refine ⟨fun i j p q hi hj e => ?_, fun k q hk => ?_⟩
  · obtain ⟨x, hx, rfl⟩ := wld_inv hi
    obtain ⟨y, hy, rfl⟩ := wld_inv hj
    exact hD.1 i j (ad i, cel cA ad (h i) x) (ad j, cel cA ad (h j) y) (wld_at hx) (wld_at hy) e
  · obtain ⟨x, hx, rfl⟩ := wld_inv hk
    exact hD.2 k (ad k, cel cA ad (h k) x) (wld_at hx)
theorem wld_A {cA : Nat → ClassId} {ad : Nat → Nat} {sh : List CS} {h : Hp} (h2 : Hp) {sz q : Nat} (hA : va_A (wld cA ad sh h) sz q) : va_A (wld cA ad sh h2) sz q := by
  rcases hA with ⟨k, e, hk⟩ | hA
  · obtain ⟨x, hx, he⟩ := wld_inv hk
    cases he
    exact Or.inl ⟨k, _, wld_at hx⟩
  · exact Or.inr hA
/-- a method: its name, bytes, locals, answer, room -/
abbrev MI : Type := MethodName × ByteArray × Nat × Option FieldType × Room
abbrev tyC (cA : Nat → ClassId) : List (ClassId × FieldType) := [(cA 0, .int), (cA 1, .boolean)]
def Cx (M : MI) (p : Program) (s : State) (m : MethodId) (args : Array Value) (meth : Method) (c : Code) (D : va_G) (cA : Nat → ClassId) : Prop :=
  p.tables.exec = Jvm.exec ∧ c.code = M.2.1 ∧ c.maxLocals = M.2.2.1 ∧ meth.sig.returnType = M.2.2.2.1 ∧ s.vm.findClass M.1.cls = some m.cls ∧ meth.locks = false ∧ (∀ w ∈ gw_tbl, w.before args s = true) ∧ va_K D vwCl (tyC cA) s
def Lk (ad : Nat → Nat) (n : Nat) (las : Array Slot) (ls : List (Option AV)) : Prop := las.size = n ∧ lv_wf las ∧ ls.length = n ∧ ∀ (i : Nat) (v : AV), ls[i]? = some (some v) → las[i]? = some (.val (cv ad v)) ∧ (cv ad v).category = 1
def QQ (cA : Nat → ClassId) (ad : Nat → Nat) (D : va_G) (sh : List CS) (post : Option AV → Hp → Prop) (A : Nat → Prop) : Array Value → State → Outcome → State → Prop := fun _ st0 o t => (∃ (v : Option AV) (h : Hp), o = .returned (v.map (cv ad)) ∧ post v h ∧ va_P D vwCl (wld cA ad sh h) t.heap) ∧ va_F A st0 t
def Ev (sh : List CS) (M : MI) (pc : Nat) (ls : List (Option AV)) (st : List AV) (h : Hp) (post : Option AV → Hp → Prop) : Prop :=
  ∀ (p : Program) (l : Launch) (e : Env) (s : State) (m : MethodId) (args : Array Value) (below : List Frame) (meth : Method) (c : Code) (D : va_G) (cA : Nat → ClassId) (ad : Nat → Nat) (A : Nat → Prop) (H : Heap) (locs : List Loc) (las : Array Slot),
    Cx M p s m args meth c D cA → va_P D vwCl (wld cA ad sh h) H → va_D A (wld cA ad sh h) → va_S A s.heap H locs → (∀ q, s.heap.size ≤ q → A q) → Lk ad M.2.2.1 las ls →
    W p l e M.2.2.2.2 s m args below meth c H locs 0 0 (MQ below (QQ cA ad D sh post A) args s 0 0 A) (F0 m pc las (st.map (cv ad)))
theorem Lk.list {ad : Nat → Nat} {n : Nat} {las : Array Slot} {ls : List (Option AV)} (h : Lk ad n las ls) : lv_has las n ((List.range n).filterMap (fun i => (ls[i]?.join).map (fun v => (i, cv ad v)))) := by
  refine ⟨h.1, h.2.1, fun q hq => ?_⟩
  obtain ⟨i, hi, he⟩ := List.mem_filterMap.mp hq
  cases hv : ls[i]? with
  | none => rw [hv] at he; cases he
  | some o =>
    cases o with
    | none => rw [hv] at he; cases he
    | some v =>
      rw [hv] at he
      have he := Option.some.inj he
      subst he
      exact (h.2.2.2 i v hv).1
theorem Lk.set {ad : Nat → Nat} {n : Nat} {las las' : Array Slot} {ls : List (Option AV)} {i : Nat} {v : AV} (h : Lk ad n las ls) (hc : (cv ad v).category = 1) (h' : lv_has las' n ((i, cv ad v) :: ((List.range n).filterMap (fun i => (ls[i]?.join).map (fun v => (i, cv ad v)))).filter (fun q => !(q.1 == i) && !(q.1 + 1 == i && q.2.category == 2)))) : Lk ad n las' (ls.set i (some v)) := by
  refine ⟨h'.1, h'.2.1, by rw [List.length_set]; exact h.2.2.1, fun j w hj => ?_⟩
  rw [List.getElem?_set] at hj
  by_cases e : i = j
  · subst e
    rw [if_pos rfl] at hj
    split at hj
    · cases hj
      exact ⟨h'.2.2 _ List.mem_cons_self, hc⟩
    · cases hj
  · rw [if_neg e] at hj
    have hw := h.2.2.2 j w hj
    refine ⟨h'.2.2 (j, cv ad w) (List.mem_cons_of_mem _ (List.mem_filter.mpr ⟨List.mem_filterMap.mpr ⟨j, ?_, by rw [hj]; rfl⟩, ?_⟩)), hw.2⟩
    · rw [List.mem_range, ← h.2.2.1]
      exact (List.getElem?_eq_some_iff.mp hj).1
    · have : (j == i) = false := by simp; omega
      simp [this, hw.2]
theorem Lk.lt {ad : Nat → Nat} {n : Nat} {las : Array Slot} {ls : List (Option AV)} {i : Nat} (h : Lk ad n las ls) (hi : i < ls.length) : i < n := by rw [← h.2.2.1]; exact hi
