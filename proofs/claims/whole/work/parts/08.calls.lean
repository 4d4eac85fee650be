/-- what a call of M' from M takes of the tables, and the room -/
def CB (M M' : MI) (i n : Nat) : Prop := Cond.methodLink M.1.cls i M'.1 ∈ gw_tbl ∧ Cond.code M'.1 M'.2.1 M'.2.2.1 M'.2.2.2.1 ∈ gw_tbl ∧ Cond.initialized M'.1.cls ∈ gw_tbl ∧ (M'.1.cls ≠ "java/lang/invoke/MethodHandle" ∧ M'.1.cls ≠ "java/lang/invoke/VarHandle" ∧ (parseMethodDescriptor M'.1.desc).map (fun d => d.parameters.length) = some n) ∧ (M'.2.2.2.2.frames + 1 ≤ M.2.2.2.2.frames ∧ 8 + (M'.2.2.1 + 11) + M'.2.2.2.2.locals ≤ M.2.2.2.2.locals) ∧ M'.2.2.2.2.cells = 0 ∧ M'.2.2.2.2.slots = 0 ∧ plainName M'.1.cls = true
def CV (M M' : MI) (i n : Nat) : Prop := CB M M' i n ∧ Cond.instanceMethod M'.1 ∈ gw_tbl ∧ Cond.selects M'.1.cls M'.1 M'.1 ∈ gw_tbl
def CT (M M' : MI) (i n : Nat) : Prop := CB M M' i n ∧ Cond.static M'.1 ∈ gw_tbl
theorem tb_in {M' : MI} (h : Cond.code M'.1 M'.2.1 M'.2.2.1 M'.2.2.2.1 ∈ gw_tbl) : GoodIn gw_tbl (Cond.code M'.1 M'.2.1 M'.2.2.1 M'.2.2.2.1 :: gw_tbl) := by
  intro w hw
  have hm : w ∈ gw_tbl := by
    rcases List.mem_cons.mp hw with e | e
    · rw [e]; exact h
    · exact e
  exact ⟨hm, good_of_word (List.mem_filter.mp hm).2⟩
/-- the contract that a walk of the whole method gives -/
def PcW (D : va_G) (cA : Nat → ClassId) (ad : Nat → Nat) (sh : List CS) (h : Hp) (sz : Nat) (as : List AV) : Array Value → State → Prop := va_Pc (as.map (cv ad)) (fun U => U.heap.size = sz ∧ va_P D vwCl (wld cA ad sh h) U.heap ∧ va_K D vwCl (tyC cA) U ∧ va_D (fun _ => True) (wld cA ad sh h))
theorem q_sl (ad : Nat → Nat) : ∀ as : List AV, (∀ v ∈ as, ∀ z, v ≠ vl z) → lg_sl (as.map (cv ad)) = as.map (fun v => Slot.val (cv ad v)) := by
  intro as
  induction as with
  | nil => intro _; rfl
  | cons v t ih =>
    intro hv
    have h1 : (cv ad v).category = 1 := by
      rcases v with z | k | z
      · rfl
      · rfl
      · exact absurd rfl (hv _ List.mem_cons_self z)
    have h2 := ih (fun w hw => hv w (List.mem_cons_of_mem _ hw))
    unfold lg_sl at h2 ⊢
    rw [List.map_cons, List.flatMap_cons, h2, h1]
    rfl
theorem ev_met {sh : List CS} {M : MI} {ls : List (Option AV)} {h : Hp} {post : Option AV → Hp → Prop} (as : List AV) (hls : as.map some ++ List.replicate (M.2.2.1 - as.length) none = ls) (has : as.length ≤ M.2.2.1) (hnl : ∀ v ∈ as, ∀ z, v ≠ vl z) (hpn : plainName M.1.cls = true) (k : Ev sh M 0 ls [] h post) (l : Launch) (D : va_G) (cA : Nat → ClassId) (ad : Nat → Nat) (sz : Nat) : Met l M.1 (Cond.code M.1 M.2.1 M.2.2.1 M.2.2.2.1 :: gw_tbl) M.2.2.2.2 (PcW D cA ad sh h sz as) (QQ cA ad D sh post (va_A (wld cA ad sh h) sz)) 0 0 (va_A (wld cA ad sh h) sz) := by
  refine Met.ofW (cc := M.2.1) (maxL := M.2.2.1) (ret := M.2.2.2.1) hpn rfl ?_
  intro p e s m args below meth c s₁ B hml hv
  obtain ⟨rfl, hsz, hP, hK, hD0⟩ := hv
  have hts := atoms_spec (ws := Cond.code M.1 M.2.1 M.2.2.1 M.2.2.2.1 :: gw_tbl) B.pre
  subst hsz
  have hl := lv_entry (as.map (cv ad)) (n := M.2.2.1) (by rw [q_sl ad as hnl, List.length_map]; exact has)
  rw [lg_entry_eq]
  refine k p l e s m _ below meth c D cA ad _ s.heap [] _ ⟨B.exec, B.bytes, hml, B.returns, findClass_of_methodNamed B.named, B.notSynchronized, fun w hw => hts w (List.mem_cons_of_mem _ hw), hK⟩ hP (hD0.self (sz := s.heap.size)) va_S.rf (fun q hq => Or.inr hq) ⟨hl.1, hl.2.1, ?_, ?_⟩
  · rw [← hls]
    simp
    omega
  · intro i v hi
    rw [← hls] at hi
    rw [q_sl ad as hnl]
    rw [List.getElem?_append] at hi
    simp only [List.length_map] at hi
    split at hi
    · rename_i hlt
      rw [List.getElem?_map] at hi
      cases hv : as[i]? with
      | none => rw [hv] at hi; cases hi
      | some w =>
        rw [hv] at hi
        cases hi
        refine ⟨?_, ?_⟩
        · rw [List.getElem?_toArray, List.getElem?_append]
          simp only [List.length_map, hlt, if_true, List.getElem?_map, hv]
          rfl
        · rcases v with z | k | z
          · rfl
          · rfl
          · exact absurd rfl (hnl _ (List.mem_of_getElem? hv) z)
    · rw [List.getElem?_replicate] at hi
      split at hi
      · cases hi
      · cases hi
section EVC
variable {sh : List CS} {M : MI} {pc : Nat} {ls : List (Option AV)} {st : List AV} {h : Hp} {post : Option AV → Hp → Prop}
theorem q_rest {R : Room} {p : Program} {l : Launch} {e : Env} {s : State} {m : MethodId} {args : Array Value} {below : List Frame} {meth : Method} {c : Code} {H : Heap} {locs : List Loc} {Q : State → Prop} {D : va_G} {cA : Nat → ClassId} {ad : Nat → Nat} {A : Nat → Prop} {las : Array Slot} {st0 : List Value} {a : Array Value} {post' : Option AV → Hp → Prop} {pc0 : Nat}
    (hr : va_Run p l e R s m args below meth c H locs 0 0 0 0 (F0 m pc0 las st0) (st.map (cv ad)) (QQ cA ad D sh post' (va_A (wld cA ad sh h) H.size) a) (va_A (wld cA ad sh h) H.size)) (hD : va_D A (wld cA ad sh h)) (hS : va_S A s.heap H locs) (hA : ∀ q, s.heap.size ≤ q → A q)
    (kk : ∀ (v : Option AV) (h' : Hp) (H1 : Heap) (locs1 : List Loc), post' v h' → va_P D vwCl (wld cA ad sh h') H1 → va_D A (wld cA ad sh h') → va_S A s.heap H1 locs1 → W p l e R s m args below meth c H1 locs1 0 0 Q (F0 m (pc0 + 3) las ((v.toList ++ st).map (cv ad)))) : W p l e R s m args below meth c H locs 0 0 Q (F0 m pc0 las st0) := by
  have hin : ∀ q, va_A (wld cA ad sh h) H.size q → A q := by
    intro q hq
    rcases hq with ⟨k, e, hk⟩ | hq
    · exact hD.2 k _ hk
    · exact hA q (Nat.le_trans hS.1 hq)
  intro T hT X
  obtain ⟨v, st₀, t, T', L, h0, X', hL, e1, e2, ⟨⟨v2, h', hv, hp, hb⟩, hz, hk⟩, stp⟩ := hr T hT X
  rw [h0] at hz hk
  have hv : v = v2.map (cv ad) := by cases hv; rfl
  subst hv
  obtain ⟨t2, a1, b1⟩ := kk v2 h' T'.heap (locs ++ L) hp (by rw [e1]; exact hb) (wld_D hD)
    ⟨Nat.le_trans hS.1 (by rw [e1]; exact hz), fun q h1 h2 => by rw [e1, hk q (Nat.lt_of_lt_of_le h1 hS.1) (fun z => h2 (hin q z))]; exact hS.2.1 q h1 h2, fun q hq => by
      rcases List.mem_append.mp hq with h | h
      · exact hS.2.2 q h
      · exact hin _ (hL q h)⟩ T' rfl X'
  refine ⟨t2, stp t2 ?_, b1⟩
  have e3 : (v2.toList ++ st).map (cv ad) = (v2.map (cv ad)).toList ++ st.map (cv ad) := by
    cases v2 <;> rfl
  rw [e3] at a1
  exact a1
theorem q_cat {ad : Nat → Nat} (hst : st.length ≤ 4) : ((st.map (cv ad)).map fun v => v.category).sum ≤ 8 := by
  have : ∀ s2 : List AV, ((s2.map (cv ad)).map fun v => v.category).sum ≤ 2 * s2.length := by
    intro s2
    induction s2 with
    | nil => exact Nat.le_refl 0
    | cons v t ih =>
      have hc : (cv ad v).category ≤ 2 := by rcases lv_cat (cv ad v) with h | h <;> omega
      simp only [List.map_cons, List.sum_cons, List.length_cons]
      omega
  have := this st
  omega
theorem ev_callV {M' : MI} (n : Nat) {i b ci : Nat} {sl : List SK} {q : vw_C} (as : List AV) {ls' : List (Option AV)} {post' : Option AV → Hp → Prop} (hc : CV M M' i as.length) (hd : decode M.2.1 pc = .ok (.invokevirtual i, 3)) (hn : pc + 3 = n) (hb : sh[b]? = some (.inr (ci, sl))) (hq : vwCl[ci]? = some q) (hq2 : q.1 = M'.1.cls) (hls : (vr b :: as).map some ++ List.replicate (M'.2.2.1 - (vr b :: as).length) none = ls') (has : (vr b :: as).length ≤ M'.2.2.1) (hnl : ∀ v ∈ as, ∀ z, v ≠ vl z) (hst : st.length ≤ 4) (kc : Ev sh M' 0 ls' [] h post') (k : ∀ v h', post' v h' → Ev sh M n ls (v.toList ++ st) h' post) : Ev sh M pc ls (as.reverse ++ vr b :: st) h post := by
  subst hn
  obtain ⟨⟨c1, c2, c3, c4, c5, c6, c7, c8⟩, c9, c10⟩ := hc
  intro p l e s m args below meth c D cA ad A H locs las C hP hD hS hA hl
  obtain ⟨hx, hbb, hml, hr, hown, hlk, hts, hK⟩ := C
  have hM := ev_met (vr b :: as) hls has (fun v hv z => by rcases List.mem_cons.mp hv with e | e; (subst e; intro w; cases w); exact hnl v e z) c8 kc l D cA ad H.size
  have hrun := va_runV (g := F0 m pc las ((as.reverse ++ vr b :: st).map (cv ad))) (As := as.map (cv ad)) (b := ad b) (rest := st.map (cv ad)) (C := M'.1.cls) (R := M.2.2.2.2) (bytes := M'.2.1) (maxL := M'.2.2.1) (ret := M'.2.2.2.1) (n := as.length) (index := i) (cells := 0) (slots := 0) (p := p) (l := l) (e := e) (below := below) (meth := meth) (locs := locs) ⟨hx, hbb, hml, hown, hts⟩ hM ⟨callB_of as.length hts (tb_in c2) rfl c6 c7 (hts _ c3) (hts _ c1) c4 c5, hts _ c9, hts _ c10⟩ ⟨fun a U g mk w => by obtain ⟨w0, w1, wP, wK, wD⟩ := w; exact ⟨w0, w1, wP, va_K.moved (u := U) (U := U.calling g mk a) (Vm.Alike.refl U.vm) wK, wD⟩, by rw [← hq2]; exact va_recv hK hP hq (wld_at hb), fun U hU hW => ⟨rfl, by rw [hU], by rw [hU]; exact hP, va_K.moved hW.alike hK, hD.weaken (fun _ _ _ _ => trivial)⟩⟩ rfl (by rw [List.length_map]) hl.1 (by show (as.reverse ++ vr b :: st).map (cv ad) = _; simp [cv]) (lv_room (q_cat hst)) hd ⟨Nat.zero_le _, Nat.zero_le _⟩
  exact q_rest hrun hD hS hA (fun v h' H1 locs1 hp hP1 hD1 hS1 => k v h' hp p l e s m args below meth c D cA ad A H1 locs1 las ⟨hx, hbb, hml, hr, hown, hlk, hts, hK⟩ hP1 hD1 hS1 hA hl)
theorem ev_callS {M' : MI} (n : Nat) {i : Nat} (as : List AV) {ls' : List (Option AV)} {post' : Option AV → Hp → Prop} (hc : CT M M' i as.length) (hd : decode M.2.1 pc = .ok (.invokestatic i, 3)) (hn : pc + 3 = n) (hls : as.map some ++ List.replicate (M'.2.2.1 - as.length) none = ls') (has : as.length ≤ M'.2.2.1) (hnl : ∀ v ∈ as, ∀ z, v ≠ vl z) (hst : st.length ≤ 4) (kc : Ev sh M' 0 ls' [] h post') (k : ∀ v h', post' v h' → Ev sh M n ls (v.toList ++ st) h' post) : Ev sh M pc ls (as.reverse ++ st) h post := by
  subst hn
  obtain ⟨⟨c1, c2, c3, c4, c5, c6, c7, c8⟩, c9⟩ := hc
  intro p l e s m args below meth c D cA ad A H locs las C hP hD hS hA hl
  obtain ⟨hx, hbb, hml, hr, hown, hlk, hts, hK⟩ := C
  have hM := ev_met as hls has hnl c8 kc l D cA ad H.size
  have hrun := va_runS (g := F0 m pc las ((as.reverse ++ st).map (cv ad))) (As := as.map (cv ad)) (rest := st.map (cv ad)) (R := M.2.2.2.2) (bytes := M'.2.1) (maxL := M'.2.2.1) (ret := M'.2.2.2.1) (n := as.length) (index := i) (cells := 0) (slots := 0) (p := p) (l := l) (e := e) (below := below) (meth := meth) (locs := locs) ⟨hx, hbb, hml, hown, hts⟩ hM ⟨callB_of as.length hts (tb_in c2) rfl c6 c7 (hts _ c3) (hts _ c1) c4 c5, hts _ c9⟩ ⟨fun a U g mk w => by obtain ⟨w0, w1, wP, wK, wD⟩ := w; exact ⟨w0, w1, wP, va_K.moved (u := U) (U := U.calling g mk a) (Vm.Alike.refl U.vm) wK, wD⟩, fun U hU hW => ⟨rfl, by rw [hU], by rw [hU]; exact hP, va_K.moved hW.alike hK, hD.weaken (fun _ _ _ _ => trivial)⟩⟩ rfl (by rw [List.length_map]) hl.1 (by show (as.reverse ++ st).map (cv ad) = _; simp) (lv_room (q_cat hst)) hd ⟨Nat.zero_le _, Nat.zero_le _⟩
  exact q_rest hrun hD hS hA (fun v h' H1 locs1 hp hP1 hD1 hS1 => k v h' hp p l e s m args below meth c D cA ad A H1 locs1 las ⟨hx, hbb, hml, hr, hown, hlk, hts, hK⟩ hP1 hD1 hS1 hA hl)
/-- Math.max, Math.min, System.arraycopy -/
def CM (M : MI) (i : Nat) : Prop := (Cond.methodLink M.1.cls i Lib.Math.max.name ∈ gw_tbl) ∧ Cond.static Lib.Math.max.name ∈ gw_tbl ∧ Cond.initialized "java/lang/Math" ∈ gw_tbl ∧ Cond.code Lib.Math.max.name Lib.Math.max.code 2 (some .int) ∈ gw_tbl ∧ 1 ≤ M.2.2.2.2.frames ∧ 21 ≤ M.2.2.2.2.locals
def CN (M : MI) (i : Nat) : Prop := (Cond.methodLink M.1.cls i Lib.Math.min.name ∈ gw_tbl) ∧ Cond.static Lib.Math.min.name ∈ gw_tbl ∧ Cond.initialized "java/lang/Math" ∈ gw_tbl ∧ Cond.code Lib.Math.min.name Lib.Math.min.code 2 (some .int) ∈ gw_tbl ∧ 1 ≤ M.2.2.2.2.frames ∧ 21 ≤ M.2.2.2.2.locals
def CA (M : MI) (i : Nat) : Prop := (Cond.methodLink M.1.cls i arraycopyName ∈ gw_tbl) ∧ Cond.native arraycopyName ∈ gw_tbl ∧ Cond.static arraycopyName ∈ gw_tbl ∧ Cond.initialized "java/lang/System" ∈ gw_tbl ∧ 1 ≤ M.2.2.2.2.frames ∧ nativeFrameWords "java/lang/System" "arraycopy" 5 + 11 ≤ M.2.2.2.2.locals
theorem ev_max (n : Nat) {i : Nat} {x y : Int} (hc : CM M i) (hd : decode M.2.1 pc = .ok (.invokestatic i, 3)) (hn : pc + 3 = n) (hx : R32 x) (hy : R32 y) (hst : st.length ≤ 4) (k : Ev sh M n ls (vi (if x < y then y else x) :: st) h post) : Ev sh M pc ls (vi y :: vi x :: st) h post := by
  subst hn
  obtain ⟨c1, c2, c3, c4, c5, c6⟩ := hc
  intro p l e s m args below meth c D cA ad A H locs las C hP hD hS hA hl
  have hts := C.2.2.2.2.2.2.1
  have hcat := q_cat (ad := ad) hst
  refine va_mmax C.1 C.2.1 (C.2.2.1.trans hl.1.symm) C.2.2.2.2.1 (hts _ c1) (hts _ c2) (hts _ c3) (hts _ c4) c5 (by omega) (Nat.zero_le _) (Nat.zero_le _) hd ?_
  have e2 : (if Int32.ofInt x < Int32.ofInt y then Int32.ofInt y else Int32.ofInt x) = Int32.ofInt (if x < y then y else x) := by
    by_cases q : x < y
    · rw [if_pos q, if_pos ((q_lt hx hy).mpr q)]
    · rw [if_neg q, if_neg (fun w => q ((q_lt hx hy).mp w))]
  rw [e2]
  exact k p l e s m args below meth c D cA ad A H locs las C hP hD hS hA hl
theorem ev_min (n : Nat) {i : Nat} {x y : Int} (hc : CN M i) (hd : decode M.2.1 pc = .ok (.invokestatic i, 3)) (hn : pc + 3 = n) (hx : R32 x) (hy : R32 y) (hst : st.length ≤ 4) (k : Ev sh M n ls (vi (if y < x then y else x) :: st) h post) : Ev sh M pc ls (vi y :: vi x :: st) h post := by
  subst hn
  obtain ⟨c1, c2, c3, c4, c5, c6⟩ := hc
  intro p l e s m args below meth c D cA ad A H locs las C hP hD hS hA hl
  have hts := C.2.2.2.2.2.2.1
  have hcat := q_cat (ad := ad) hst
  refine va_mmin C.1 C.2.1 (C.2.2.1.trans hl.1.symm) C.2.2.2.2.1 (hts _ c1) (hts _ c2) (hts _ c3) (hts _ c4) c5 (by omega) (Nat.zero_le _) (Nat.zero_le _) hd ?_
  have e2 : (if Int32.ofInt y < Int32.ofInt x then Int32.ofInt y else Int32.ofInt x) = Int32.ofInt (if y < x then y else x) := by
    by_cases q : y < x
    · rw [if_pos q, if_pos ((q_lt hy hx).mpr q)]
    · rw [if_neg q, if_neg (fun w => q ((q_lt hy hx).mp w))]
  rw [e2]
  exact k p l e s m args below meth c D cA ad A H locs las C hP hD hS hA hl
/-- a stretch of n from sp of f laid over g from dp on -/
def cpy (f g : Int → Int) (sp dp n : Int) : Int → Int := fun k => if dp ≤ k ∧ k < dp + n then f (sp + (k - dp)) else g k
theorem ev_copy (n : Nat) {i a b Na Nb : Nat} {sp dp m : Int} (hc : CA M i) (hd : decode M.2.1 pc = .ok (.invokestatic i, 3)) (hn : pc + 3 = n) (ha : sh[a]? = some (.inl (0, Na))) (hb : sh[b]? = some (.inl (0, Nb))) (hNa : Na < 2147483648) (hNb : Nb < 2147483648) (h1 : 0 ≤ sp) (h2 : 0 ≤ dp) (h3 : 0 ≤ m) (h4 : sp + m ≤ Na) (h5 : dp + m ≤ Nb) (hst : st = []) (k : Ev sh M n ls st (hput h b (cpy (h a) (h b) sp dp m)) post) : Ev sh M pc ls (vi m :: vi dp :: vr b :: vi sp :: vr a :: st) h post := by
  subst hn
  subst hst
  obtain ⟨c1, c2, c3, c4, c5, c6⟩ := hc
  intro p l e s m0 args below meth c D cA ad A H locs las C hP hD hS hA hl
  have hts := C.2.2.2.2.2.2.1
  have e1 := q_cl h1 (by omega)
  have e2 := q_cl h2 (by omega)
  have e3 := q_cl h3 (by omega)
  have nn : ∀ {z : Int}, 0 ≤ z → z < 2147483648 → ¬ Int32.ofInt z < 0 := fun {z} a b w => by
    rw [q_z] at w
    have := (q_lt ⟨by omega, by omega⟩ ⟨by decide, by decide⟩).mp w
    omega
  refine va_copyi C.1 C.2.1 (C.2.2.1.trans hl.1.symm) C.2.2.2.2.1 (hts _ c1) (hts _ c2) (hts _ c3) (hts _ c4) C.2.2.2.2.2.2.2 hP hD hS a b 0 0 (wld_at ha) (wld_at hb) rfl rfl rfl (nn h1 (by omega)) (nn h2 (by omega)) (nn h3 (by omega)) (by rw [e1, e3]; omega) (by rw [e2, e3]; omega) (fun _ _ => rfl) c5 (by show 0 + _ ≤ _; omega) hd (fun H1 locs1 hP1 hD1 hS1 => ?_)
  have hw : (wld cA ad sh h).set b (ad b, .inl (cA 0, Nb, .inl (va_cpy (fun j : Nat => Int32.ofInt (h a j)) (fun j : Nat => Int32.ofInt (h b j)) (Int32.ofInt sp).toNatClampNeg (Int32.ofInt dp).toNatClampNeg (Int32.ofInt m).toNatClampNeg))) = wld cA ad sh (hput h b (cpy (h a) (h b) sp dp m)) := by
    rw [← wld_set hb, e1, e2, e3]
    show _ = (wld cA ad sh h).set b (ad b, Sum.inl (cA 0, Nb, Sum.inl (fun j : Nat => Int32.ofInt (cpy (h a) (h b) sp dp m j))))
    have e4 : va_cpy (fun j : Nat => Int32.ofInt (h a j)) (fun j : Nat => Int32.ofInt (h b j)) sp.toNat dp.toNat m.toNat = fun j : Nat => Int32.ofInt (cpy (h a) (h b) sp dp m j) := by
      funext j
      unfold va_cpy cpy
      by_cases q : dp ≤ j ∧ j < dp + m
      · have e5 : ((sp.toNat + (j - dp.toNat) : Nat) : Int) = sp + (j - dp) := by omega
        rw [if_pos q, if_pos (by omega), ← e5]
      · rw [if_neg q, if_neg (by omega)]
    rw [e4]
  exact k p l e s m0 args below meth c D cA ad A H1 locs1 las C (hw ▸ hP1) (hw ▸ hD1) hS1 hA hl
end EVC
