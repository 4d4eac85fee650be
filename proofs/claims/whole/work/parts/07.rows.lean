section EVR
variable {sh : List CS} {M : MI} {pc : Nat} {ls : List (Option AV)} {st : List AV} {h : Hp} {post : Option AV → Hp → Prop}
theorem ev_iconst (n : Nat) {v : Int} (hd : decode M.2.1 pc = .ok (.iconst v, 1)) (hn : pc + 1 = n) (k : Ev sh M n ls (vi v :: st) h post) : Ev sh M pc ls st h post := by
  subst hn
  intro p l e s m args below meth c D cA ad A H locs las C hP hD hS hA hl
  exact lv_iconst C.1 C.2.1 hd rfl (k p l e s m args below meth c D cA ad A H locs las C hP hD hS hA hl)
theorem ev_bipush (n : Nat) {v : Int} (hd : decode M.2.1 pc = .ok (.bipush v, 2)) (hn : pc + 2 = n) (hv : (Int8.ofInt v).toInt32 = Int32.ofInt v) (k : Ev sh M n ls (vi v :: st) h post) : Ev sh M pc ls st h post := by
  subst hn
  intro p l e s m args below meth c D cA ad A H locs las C hP hD hS hA hl
  exact lv_bipush C.1 C.2.1 hd hv (k p l e s m args below meth c D cA ad A H locs las C hP hD hS hA hl)
theorem ev_sipush (n : Nat) {v : Int} (hd : decode M.2.1 pc = .ok (.sipush v, 3)) (hn : pc + 3 = n) (hv : (Int16.ofInt v).toInt32 = Int32.ofInt v) (k : Ev sh M n ls (vi v :: st) h post) : Ev sh M pc ls st h post := by
  subst hn
  intro p l e s m args below meth c D cA ad A H locs las C hP hD hS hA hl
  exact lv_sipush C.1 C.2.1 hd hv (k p l e s m args below meth c D cA ad A H locs las C hP hD hS hA hl)
theorem ev_lconst (n : Nat) {f : Fin 2} (v : Int) (hd : decode M.2.1 pc = .ok (.lconst f, 1)) (hn : pc + 1 = n) (hv : Int64.ofNat (f : Nat) = Int64.ofInt v) (k : Ev sh M n ls (vl v :: st) h post) : Ev sh M pc ls st h post := by
  subst hn
  intro p l e s m args below meth c D cA ad A H locs las C hP hD hS hA hl
  exact lv_lconst C.1 C.2.1 hd hv (k p l e s m args below meth c D cA ad A H locs las C hP hD hS hA hl)
theorem ev_ldc (n : Nat) {i : Nat} (v : Int) {w : Int32} (hw : Cond.constant M.1.cls i w ∈ gw_tbl) (hv : w = Int32.ofInt v) (hd : decode M.2.1 pc = .ok (.ldc i, 2)) (hn : pc + 2 = n) (k : Ev sh M n ls (vi v :: st) h post) : Ev sh M pc ls st h post := by
  subst hn
  subst hv
  intro p l e s m args below meth c D cA ad A H locs las C hP hD hS hA hl
  exact lv_ldc C.1 C.2.1 C.2.2.2.2.1 (C.2.2.2.2.2.2.1 _ hw) hd (k p l e s m args below meth c D cA ad A H locs las C hP hD hS hA hl)
theorem ev_ldc2 (n : Nat) {i : Nat} (v : Int) {w : Int64} (hw : Cond.constantLong M.1.cls i w ∈ gw_tbl) (hv : w = Int64.ofInt v) (hd : decode M.2.1 pc = .ok (.ldc2_w i, 3)) (hn : pc + 3 = n) (k : Ev sh M n ls (vl v :: st) h post) : Ev sh M pc ls st h post := by
  subst hn
  subst hv
  intro p l e s m args below meth c D cA ad A H locs las C hP hD hS hA hl
  exact lv_ldc2 C.1 C.2.1 C.2.2.2.2.1 (C.2.2.2.2.2.2.1 _ hw) hd (k p l e s m args below meth c D cA ad A H locs las C hP hD hS hA hl)
theorem ev_iload_n (n : Nat) {f : Fin 4} {x : Int} (hd : decode M.2.1 pc = .ok (.iload_n f, 1)) (hn : pc + 1 = n) (hx : ls[(f : Nat)]? = some (some (vi x))) (k : Ev sh M n ls (vi x :: st) h post) : Ev sh M pc ls st h post := by
  subst hn
  intro p l e s m args below meth c D cA ad A H locs las C hP hD hS hA hl
  exact lv_iload_n C.1 C.2.1 hd rfl (hl.2.2.2 _ _ hx).1 (k p l e s m args below meth c D cA ad A H locs las C hP hD hS hA hl)
theorem ev_iload (n : Nat) {i : Nat} {x : Int} (hd : decode M.2.1 pc = .ok (.iload i, 2)) (hn : pc + 2 = n) (hx : ls[i]? = some (some (vi x))) (k : Ev sh M n ls (vi x :: st) h post) : Ev sh M pc ls st h post := by
  subst hn
  intro p l e s m args below meth c D cA ad A H locs las C hP hD hS hA hl
  exact lv_iload C.1 C.2.1 hd (hl.2.2.2 _ _ hx).1 (k p l e s m args below meth c D cA ad A H locs las C hP hD hS hA hl)
theorem ev_aload_n (n : Nat) {f : Fin 4} {x : Nat} (hd : decode M.2.1 pc = .ok (.aload_n f, 1)) (hn : pc + 1 = n) (hx : ls[(f : Nat)]? = some (some (vr x))) (k : Ev sh M n ls (vr x :: st) h post) : Ev sh M pc ls st h post := by
  subst hn
  intro p l e s m args below meth c D cA ad A H locs las C hP hD hS hA hl
  exact lv_aload_n C.1 C.2.1 hd rfl (hl.2.2.2 _ _ hx).1 (k p l e s m args below meth c D cA ad A H locs las C hP hD hS hA hl)
theorem ev_istore_n (n : Nat) {f : Fin 4} {x : Int} (hd : decode M.2.1 pc = .ok (.istore_n f, 1)) (hn : pc + 1 = n) (hi : (f : Nat) < ls.length) (k : Ev sh M n (ls.set (f : Nat) (some (vi x))) st h post) : Ev sh M pc ls (vi x :: st) h post := by
  subst hn
  intro p l e s m args below meth c D cA ad A H locs las C hP hD hS hA hl
  exact lv_istore_n C.1 C.2.1 hd rfl hl.list (hl.lt hi) rfl (fun las' h' => k p l e s m args below meth c D cA ad A H locs las' C hP hD hS hA (hl.set (v := vi x) rfl h'))
theorem ev_istore (n : Nat) {i : Nat} {x : Int} (hd : decode M.2.1 pc = .ok (.istore i, 2)) (hn : pc + 2 = n) (hi : i < ls.length) (k : Ev sh M n (ls.set i (some (vi x))) st h post) : Ev sh M pc ls (vi x :: st) h post := by
  subst hn
  intro p l e s m args below meth c D cA ad A H locs las C hP hD hS hA hl
  exact lv_istore C.1 C.2.1 hd hl.list (hl.lt hi) rfl (fun las' h' => k p l e s m args below meth c D cA ad A H locs las' C hP hD hS hA (hl.set (v := vi x) rfl h'))
theorem ev_astore_n (n : Nat) {f : Fin 4} {x : Nat} (hd : decode M.2.1 pc = .ok (.astore_n f, 1)) (hn : pc + 1 = n) (hi : (f : Nat) < ls.length) (k : Ev sh M n (ls.set (f : Nat) (some (vr x))) st h post) : Ev sh M pc ls (vr x :: st) h post := by
  subst hn
  intro p l e s m args below meth c D cA ad A H locs las C hP hD hS hA hl
  exact lv_astore_n C.1 C.2.1 hd rfl hl.list (hl.lt hi) rfl (fun las' h' => k p l e s m args below meth c D cA ad A H locs las' C hP hD hS hA (hl.set (v := vr x) rfl h'))
theorem ev_iinc (n : Nat) {i : Nat} {d x : Int} (hd : decode M.2.1 pc = .ok (.iinc i d, 3)) (hn : pc + 3 = n) (hx : ls[i]? = some (some (vi x))) (k : Ev sh M n (ls.set i (some (vi (x + d)))) st h post) : Ev sh M pc ls st h post := by
  subst hn
  intro p l e s m args below meth c D cA ad A H locs las C hP hD hS hA hl
  have hi : i < ls.length := (List.getElem?_eq_some_iff.mp hx).1
  have hm : (i, cv ad (vi x)) ∈ (List.range M.2.2.1).filterMap (fun i => (ls[i]?.join).map (fun v => (i, cv ad v))) := List.mem_filterMap.mpr ⟨i, List.mem_range.mpr (hl.lt hi), by rw [hx]; rfl⟩
  obtain ⟨j, hj⟩ := List.getElem?_of_mem hm
  exact lv_iinc C.1 C.2.1 hd hl.list hj (Int32.ofInt_add x d).symm (hl.lt hi) rfl (fun las' h' => k p l e s m args below meth c D cA ad A H locs las' C hP hD hS hA (hl.set (v := vi (x + d)) rfl h'))
theorem ev_iadd (n : Nat) {x y : Int} (hd : decode M.2.1 pc = .ok (.iadd, 1)) (hn : pc + 1 = n) (k : Ev sh M n ls (vi (x + y) :: st) h post) : Ev sh M pc ls (vi y :: vi x :: st) h post := by
  subst hn
  intro p l e s m args below meth c D cA ad A H locs las C hP hD hS hA hl
  refine lv_iadd C.1 C.2.1 hd ?_
  rw [← Int32.ofInt_add]
  exact k p l e s m args below meth c D cA ad A H locs las C hP hD hS hA hl
theorem ev_isub (n : Nat) {x y : Int} (hd : decode M.2.1 pc = .ok (.isub, 1)) (hn : pc + 1 = n) (k : Ev sh M n ls (vi (x - y) :: st) h post) : Ev sh M pc ls (vi y :: vi x :: st) h post := by
  subst hn
  intro p l e s m args below meth c D cA ad A H locs las C hP hD hS hA hl
  refine lv_isub C.1 C.2.1 hd ?_
  rw [← Int32.ofInt_sub]
  exact k p l e s m args below meth c D cA ad A H locs las C hP hD hS hA hl
theorem ev_imul (n : Nat) {x y : Int} (hd : decode M.2.1 pc = .ok (.imul, 1)) (hn : pc + 1 = n) (k : Ev sh M n ls (vi (x * y) :: st) h post) : Ev sh M pc ls (vi y :: vi x :: st) h post := by
  subst hn
  intro p l e s m args below meth c D cA ad A H locs las C hP hD hS hA hl
  refine lv_imul C.1 C.2.1 hd ?_
  rw [← Int32.ofInt_mul]
  exact k p l e s m args below meth c D cA ad A H locs las C hP hD hS hA hl
theorem ev_ladd (n : Nat) {x y : Int} (hd : decode M.2.1 pc = .ok (.ladd, 1)) (hn : pc + 1 = n) (k : Ev sh M n ls (vl (x + y) :: st) h post) : Ev sh M pc ls (vl y :: vl x :: st) h post := by
  subst hn
  intro p l e s m args below meth c D cA ad A H locs las C hP hD hS hA hl
  refine lv_ladd C.1 C.2.1 hd ?_
  rw [← Int64.ofInt_add]
  exact k p l e s m args below meth c D cA ad A H locs las C hP hD hS hA hl
theorem q_n0 {y : Int} (hy : 0 < y) (hy2 : y < 2147483648) : ¬ Int32.ofInt y = 0 := by
  intro q
  have := (q_eq (x := y) (y := 0) ⟨by omega, by omega⟩ ⟨by omega, by omega⟩).mp q
  omega
theorem q_div {x y : Int} (hx : 0 ≤ x) (hx2 : x < 2147483648) (hy : 0 < y) (hy2 : y < 2147483648) : Int32.ofInt x / Int32.ofInt y = Int32.ofInt (x / y) := by
  rw [q_nI hx, q_nI (by omega : 0 ≤ y), pk_div (by omega) (by omega) (by omega), q_nat]
  congr 1
  rw [Int.natCast_ediv, Int.toNat_of_nonneg hx, Int.toNat_of_nonneg (by omega)]
theorem q_rem {x y : Int} (hx : 0 ≤ x) (hx2 : x < 2147483648) (hy : 0 < y) (hy2 : y < 2147483648) : Int32.ofInt x - Int32.ofInt x / Int32.ofInt y * Int32.ofInt y = Int32.ofInt (x % y) := by
  rw [q_nI hx, q_nI (by omega : 0 ≤ y), pk_rem (by omega) (by omega) (by omega), q_nat]
  congr 1
  rw [Int.natCast_emod, Int.toNat_of_nonneg hx, Int.toNat_of_nonneg (by omega)]
theorem ev_idiv (n : Nat) {x y : Int} (hd : decode M.2.1 pc = .ok (.idiv, 1)) (hn : pc + 1 = n) (hx : 0 ≤ x ∧ x < 2147483648) (hy : 0 < y ∧ y < 2147483648) (k : Ev sh M n ls (vi (x / y) :: st) h post) : Ev sh M pc ls (vi y :: vi x :: st) h post := by
  subst hn
  intro p l e s m args below meth c D cA ad A H locs las C hP hD hS hA hl
  refine lv_idiv C.1 C.2.1 hd (q_n0 hy.1 hy.2) ?_
  rw [q_div hx.1 hx.2 hy.1 hy.2]
  exact k p l e s m args below meth c D cA ad A H locs las C hP hD hS hA hl
theorem ev_irem (n : Nat) {x y : Int} (hd : decode M.2.1 pc = .ok (.irem, 1)) (hn : pc + 1 = n) (hx : 0 ≤ x ∧ x < 2147483648) (hy : 0 < y ∧ y < 2147483648) (k : Ev sh M n ls (vi (x % y) :: st) h post) : Ev sh M pc ls (vi y :: vi x :: st) h post := by
  subst hn
  intro p l e s m args below meth c D cA ad A H locs las C hP hD hS hA hl
  refine lv_irem C.1 C.2.1 hd (q_n0 hy.1 hy.2) ?_
  rw [q_rem hx.1 hx.2 hy.1 hy.2]
  exact k p l e s m args below meth c D cA ad A H locs las C hP hD hS hA hl
theorem q_sm : ∀ k : Fin 32, ((nI k.val &&& 31).toBitVec.smod 32).toNat = k.val := by decide +kernel
theorem q_shl {x y : Int} (hx : 0 ≤ x) (hy : 0 ≤ y) (hy2 : y < 32) (hz : x * 2 ^ y.toNat < 4294967296) : Int32.ofInt x <<< (Int32.ofInt y &&& 31) = Int32.ofInt (x * 2 ^ y.toNat) := by
  have hz2 : x.toNat * 2 ^ y.toNat < 2 ^ 32 := by
    have : ((x.toNat * 2 ^ y.toNat : Nat) : Int) < 4294967296 := by
      rw [Int.natCast_mul, Int.toNat_of_nonneg hx, Int.natCast_pow]; exact hz
    omega
  rw [q_nI hx, q_nI hy, pk_shlN _ y.toNat (q_sm ⟨y.toNat, by omega⟩) hz2, q_nat]
  congr 1
  rw [Int.natCast_mul, Int.toNat_of_nonneg hx, Int.natCast_pow]
  rfl
theorem q_shr {x y : Int} (hx : 0 ≤ x) (hx2 : x < 2147483648) (hy : 0 ≤ y) (hy2 : y < 32) : Int32.ofInt x >>> (Int32.ofInt y &&& 31) = Int32.ofInt (x / 2 ^ y.toNat) := by
  rw [q_nI hx, q_nI hy, pk_shrN (by omega) _ y.toNat (q_sm ⟨y.toNat, by omega⟩), q_nat]
  congr 1
  rw [Int.natCast_ediv, Int.toNat_of_nonneg hx, Int.natCast_pow]
  rfl
theorem ev_ishl (n : Nat) {x y : Int} (hd : decode M.2.1 pc = .ok (.ishl, 1)) (hn : pc + 1 = n) (hx : 0 ≤ x) (hy : 0 ≤ y ∧ y < 32) (hz : x * 2 ^ y.toNat < 4294967296) (k : Ev sh M n ls (vi (x * 2 ^ y.toNat) :: st) h post) : Ev sh M pc ls (vi y :: vi x :: st) h post := by
  subst hn
  intro p l e s m args below meth c D cA ad A H locs las C hP hD hS hA hl
  refine lv_ishl C.1 C.2.1 hd ?_
  rw [q_shl hx hy.1 hy.2 hz]
  exact k p l e s m args below meth c D cA ad A H locs las C hP hD hS hA hl
theorem ev_ishr (n : Nat) {x y : Int} (hd : decode M.2.1 pc = .ok (.ishr, 1)) (hn : pc + 1 = n) (hx : 0 ≤ x ∧ x < 2147483648) (hy : 0 ≤ y ∧ y < 32) (k : Ev sh M n ls (vi (x / 2 ^ y.toNat) :: st) h post) : Ev sh M pc ls (vi y :: vi x :: st) h post := by
  subst hn
  intro p l e s m args below meth c D cA ad A H locs las C hP hD hS hA hl
  refine lv_ishr C.1 C.2.1 hd ?_
  rw [q_shr hx.1 hx.2 hy.1 hy.2]
  exact k p l e s m args below meth c D cA ad A H locs las C hP hD hS hA hl
theorem q_bv (a : Nat) : (nI a).toBitVec = BitVec.ofNat 32 a := by first | rfl | (show (Int32.ofNat a).toBitVec = _; simp [Int32.toBitVec_ofNat'])
theorem q_and (a b : Nat) : nI a &&& nI b = nI (a &&& b) := Int32.toBitVec_inj.mp (by rw [Int32.toBitVec_and, q_bv, q_bv, q_bv, BitVec.ofNat_and])
theorem q_or (a b : Nat) : nI a ||| nI b = nI (a ||| b) := Int32.toBitVec_inj.mp (by rw [Int32.toBitVec_or, q_bv, q_bv, q_bv, BitVec.ofNat_or])
theorem q_xor (a b : Nat) : nI a ^^^ nI b = nI (a ^^^ b) := Int32.toBitVec_inj.mp (by rw [Int32.toBitVec_xor, q_bv, q_bv, q_bv, BitVec.ofNat_xor])
theorem ev_iand (n : Nat) {x y : Int} (hd : decode M.2.1 pc = .ok (.iand, 1)) (hn : pc + 1 = n) (hx : 0 ≤ x) (hy : 0 ≤ y) (k : Ev sh M n ls (vi ((x.toNat &&& y.toNat : Nat) : Int) :: st) h post) : Ev sh M pc ls (vi y :: vi x :: st) h post := by
  subst hn
  intro p l e s m args below meth c D cA ad A H locs las C hP hD hS hA hl
  refine lv_iand C.1 C.2.1 hd ?_
  rw [q_nI hx, q_nI hy, q_and, q_nat]
  exact k p l e s m args below meth c D cA ad A H locs las C hP hD hS hA hl
theorem ev_ior (n : Nat) {x y : Int} (hd : decode M.2.1 pc = .ok (.ior, 1)) (hn : pc + 1 = n) (hx : 0 ≤ x) (hy : 0 ≤ y) (k : Ev sh M n ls (vi ((x.toNat ||| y.toNat : Nat) : Int) :: st) h post) : Ev sh M pc ls (vi y :: vi x :: st) h post := by
  subst hn
  intro p l e s m args below meth c D cA ad A H locs las C hP hD hS hA hl
  refine lv_ior C.1 C.2.1 hd ?_
  rw [q_nI hx, q_nI hy, q_or, q_nat]
  exact k p l e s m args below meth c D cA ad A H locs las C hP hD hS hA hl
theorem ev_ixor (n : Nat) {x y : Int} (hd : decode M.2.1 pc = .ok (.ixor, 1)) (hn : pc + 1 = n) (hx : 0 ≤ x) (hy : 0 ≤ y) (k : Ev sh M n ls (vi ((x.toNat ^^^ y.toNat : Nat) : Int) :: st) h post) : Ev sh M pc ls (vi y :: vi x :: st) h post := by
  subst hn
  intro p l e s m args below meth c D cA ad A H locs las C hP hD hS hA hl
  refine lv_ixor C.1 C.2.1 hd ?_
  rw [q_nI hx, q_nI hy, q_xor, q_nat]
  exact k p l e s m args below meth c D cA ad A H locs las C hP hD hS hA hl
theorem ev_dup_i (n : Nat) {x : Int} (hd : decode M.2.1 pc = .ok (.dup, 1)) (hn : pc + 1 = n) (k : Ev sh M n ls (vi x :: vi x :: st) h post) : Ev sh M pc ls (vi x :: st) h post := by
  subst hn
  intro p l e s m args below meth c D cA ad A H locs las C hP hD hS hA hl
  exact lv_dup C.1 C.2.1 hd rfl (k p l e s m args below meth c D cA ad A H locs las C hP hD hS hA hl)
theorem ev_dup_r (n : Nat) {x : Nat} (hd : decode M.2.1 pc = .ok (.dup, 1)) (hn : pc + 1 = n) (k : Ev sh M n ls (vr x :: vr x :: st) h post) : Ev sh M pc ls (vr x :: st) h post := by
  subst hn
  intro p l e s m args below meth c D cA ad A H locs las C hP hD hS hA hl
  exact lv_dup C.1 C.2.1 hd rfl (k p l e s m args below meth c D cA ad A H locs las C hP hD hS hA hl)
theorem ev_dup2 (n : Nat) {x : Int} {y : Nat} (hd : decode M.2.1 pc = .ok (.dup2, 1)) (hn : pc + 1 = n) (k : Ev sh M n ls (vi x :: vr y :: vi x :: vr y :: st) h post) : Ev sh M pc ls (vi x :: vr y :: st) h post := by
  subst hn
  intro p l e s m args below meth c D cA ad A H locs las C hP hD hS hA hl
  exact lv_dup2_11 C.1 C.2.1 hd rfl rfl (k p l e s m args below meth c D cA ad A H locs las C hP hD hS hA hl)
theorem ev_goto (n : Nat) {off : Int} (hd : decode M.2.1 pc = .ok (.goto off, 3)) (hn : (pc : Int) + off = (n : Int)) (k : Ev sh M n ls st h post) : Ev sh M pc ls st h post := by
  intro p l e s m args below meth c D cA ad A H locs las C hP hD hS hA hl
  exact lv_goto C.1 C.2.1 hd hn (k p l e s m args below meth c D cA ad A H locs las C hP hD hS hA hl)
theorem q_z : (0 : Int32) = Int32.ofInt 0 := by decide +kernel
theorem ev_icmp_eq (n t : Nat) {x y : Int} {off : Int} (hd : decode M.2.1 pc = .ok (.if_icmp .eq off, 3)) (hn : pc + 3 = n) (ht : (pc : Int) + off = (t : Int)) (hx : R32 x) (hy : R32 y) (kt : x = y → Ev sh M t ls st h post) (kf : ¬ x = y → Ev sh M n ls st h post) : Ev sh M pc ls (vi y :: vi x :: st) h post := by
  subst hn
  intro p l e s m args below meth c D cA ad A H locs las C hP hD hS hA hl
  exact lv_icmp_eq C.1 C.2.1 hd ht (fun q => kt (by exact ((q_eq hx hy).mp q)) p l e s m args below meth c D cA ad A H locs las C hP hD hS hA hl) (fun q => kf (by exact (fun w => q ((q_eq hx hy).mpr w))) p l e s m args below meth c D cA ad A H locs las C hP hD hS hA hl)
theorem ev_if_eq (n t : Nat) {x : Int} {off : Int} (hd : decode M.2.1 pc = .ok (.ifCond .eq off, 3)) (hn : pc + 3 = n) (ht : (pc : Int) + off = (t : Int)) (hx : R32 x) (kt : x = 0 → Ev sh M t ls st h post) (kf : ¬ x = 0 → Ev sh M n ls st h post) : Ev sh M pc ls (vi x :: st) h post := by
  subst hn
  have hy : R32 0 := ⟨by decide, by decide⟩
  intro p l e s m args below meth c D cA ad A H locs las C hP hD hS hA hl
  exact lv_if_eq C.1 C.2.1 hd ht (fun q => kt (by rw [q_z] at q; exact ((q_eq hx hy).mp q)) p l e s m args below meth c D cA ad A H locs las C hP hD hS hA hl) (fun q => kf (by rw [q_z] at q; exact (fun w => q ((q_eq hx hy).mpr w))) p l e s m args below meth c D cA ad A H locs las C hP hD hS hA hl)
theorem ev_icmp_ne (n t : Nat) {x y : Int} {off : Int} (hd : decode M.2.1 pc = .ok (.if_icmp .ne off, 3)) (hn : pc + 3 = n) (ht : (pc : Int) + off = (t : Int)) (hx : R32 x) (hy : R32 y) (kt : ¬ x = y → Ev sh M t ls st h post) (kf : x = y → Ev sh M n ls st h post) : Ev sh M pc ls (vi y :: vi x :: st) h post := by
  subst hn
  intro p l e s m args below meth c D cA ad A H locs las C hP hD hS hA hl
  exact lv_icmp_ne C.1 C.2.1 hd ht (fun q => kt (by exact (fun w => q ((q_eq hx hy).mpr w))) p l e s m args below meth c D cA ad A H locs las C hP hD hS hA hl) (fun q => kf (by exact ((q_eq hx hy).mp q)) p l e s m args below meth c D cA ad A H locs las C hP hD hS hA hl)
theorem ev_if_ne (n t : Nat) {x : Int} {off : Int} (hd : decode M.2.1 pc = .ok (.ifCond .ne off, 3)) (hn : pc + 3 = n) (ht : (pc : Int) + off = (t : Int)) (hx : R32 x) (kt : ¬ x = 0 → Ev sh M t ls st h post) (kf : x = 0 → Ev sh M n ls st h post) : Ev sh M pc ls (vi x :: st) h post := by
  subst hn
  have hy : R32 0 := ⟨by decide, by decide⟩
  intro p l e s m args below meth c D cA ad A H locs las C hP hD hS hA hl
  exact lv_if_ne C.1 C.2.1 hd ht (fun q => kt (by rw [q_z] at q; exact (fun w => q ((q_eq hx hy).mpr w))) p l e s m args below meth c D cA ad A H locs las C hP hD hS hA hl) (fun q => kf (by rw [q_z] at q; exact ((q_eq hx hy).mp q)) p l e s m args below meth c D cA ad A H locs las C hP hD hS hA hl)
theorem ev_icmp_lt (n t : Nat) {x y : Int} {off : Int} (hd : decode M.2.1 pc = .ok (.if_icmp .lt off, 3)) (hn : pc + 3 = n) (ht : (pc : Int) + off = (t : Int)) (hx : R32 x) (hy : R32 y) (kt : x < y → Ev sh M t ls st h post) (kf : ¬ x < y → Ev sh M n ls st h post) : Ev sh M pc ls (vi y :: vi x :: st) h post := by
  subst hn
  intro p l e s m args below meth c D cA ad A H locs las C hP hD hS hA hl
  exact lv_icmp_lt C.1 C.2.1 hd ht (fun q => kt (by exact ((q_lt hx hy).mp q)) p l e s m args below meth c D cA ad A H locs las C hP hD hS hA hl) (fun q => kf (by exact (fun w => q ((q_lt hx hy).mpr w))) p l e s m args below meth c D cA ad A H locs las C hP hD hS hA hl)
theorem ev_if_lt (n t : Nat) {x : Int} {off : Int} (hd : decode M.2.1 pc = .ok (.ifCond .lt off, 3)) (hn : pc + 3 = n) (ht : (pc : Int) + off = (t : Int)) (hx : R32 x) (kt : x < 0 → Ev sh M t ls st h post) (kf : ¬ x < 0 → Ev sh M n ls st h post) : Ev sh M pc ls (vi x :: st) h post := by
  subst hn
  have hy : R32 0 := ⟨by decide, by decide⟩
  intro p l e s m args below meth c D cA ad A H locs las C hP hD hS hA hl
  exact lv_if_lt C.1 C.2.1 hd ht (fun q => kt (by rw [q_z] at q; exact ((q_lt hx hy).mp q)) p l e s m args below meth c D cA ad A H locs las C hP hD hS hA hl) (fun q => kf (by rw [q_z] at q; exact (fun w => q ((q_lt hx hy).mpr w))) p l e s m args below meth c D cA ad A H locs las C hP hD hS hA hl)
theorem ev_icmp_ge (n t : Nat) {x y : Int} {off : Int} (hd : decode M.2.1 pc = .ok (.if_icmp .ge off, 3)) (hn : pc + 3 = n) (ht : (pc : Int) + off = (t : Int)) (hx : R32 x) (hy : R32 y) (kt : y ≤ x → Ev sh M t ls st h post) (kf : ¬ y ≤ x → Ev sh M n ls st h post) : Ev sh M pc ls (vi y :: vi x :: st) h post := by
  subst hn
  intro p l e s m args below meth c D cA ad A H locs las C hP hD hS hA hl
  exact lv_icmp_ge C.1 C.2.1 hd ht (fun q => kt (by exact ((q_le hy hx).mp q)) p l e s m args below meth c D cA ad A H locs las C hP hD hS hA hl) (fun q => kf (by exact (fun w => q ((q_le hy hx).mpr w))) p l e s m args below meth c D cA ad A H locs las C hP hD hS hA hl)
theorem ev_if_ge (n t : Nat) {x : Int} {off : Int} (hd : decode M.2.1 pc = .ok (.ifCond .ge off, 3)) (hn : pc + 3 = n) (ht : (pc : Int) + off = (t : Int)) (hx : R32 x) (kt : 0 ≤ x → Ev sh M t ls st h post) (kf : ¬ 0 ≤ x → Ev sh M n ls st h post) : Ev sh M pc ls (vi x :: st) h post := by
  subst hn
  have hy : R32 0 := ⟨by decide, by decide⟩
  intro p l e s m args below meth c D cA ad A H locs las C hP hD hS hA hl
  exact lv_if_ge C.1 C.2.1 hd ht (fun q => kt (by rw [q_z] at q; exact ((q_le hy hx).mp q)) p l e s m args below meth c D cA ad A H locs las C hP hD hS hA hl) (fun q => kf (by rw [q_z] at q; exact (fun w => q ((q_le hy hx).mpr w))) p l e s m args below meth c D cA ad A H locs las C hP hD hS hA hl)
theorem ev_icmp_gt (n t : Nat) {x y : Int} {off : Int} (hd : decode M.2.1 pc = .ok (.if_icmp .gt off, 3)) (hn : pc + 3 = n) (ht : (pc : Int) + off = (t : Int)) (hx : R32 x) (hy : R32 y) (kt : y < x → Ev sh M t ls st h post) (kf : ¬ y < x → Ev sh M n ls st h post) : Ev sh M pc ls (vi y :: vi x :: st) h post := by
  subst hn
  intro p l e s m args below meth c D cA ad A H locs las C hP hD hS hA hl
  exact lv_icmp_gt C.1 C.2.1 hd ht (fun q => kt (by exact ((q_lt hy hx).mp q)) p l e s m args below meth c D cA ad A H locs las C hP hD hS hA hl) (fun q => kf (by exact (fun w => q ((q_lt hy hx).mpr w))) p l e s m args below meth c D cA ad A H locs las C hP hD hS hA hl)
theorem ev_if_gt (n t : Nat) {x : Int} {off : Int} (hd : decode M.2.1 pc = .ok (.ifCond .gt off, 3)) (hn : pc + 3 = n) (ht : (pc : Int) + off = (t : Int)) (hx : R32 x) (kt : 0 < x → Ev sh M t ls st h post) (kf : ¬ 0 < x → Ev sh M n ls st h post) : Ev sh M pc ls (vi x :: st) h post := by
  subst hn
  have hy : R32 0 := ⟨by decide, by decide⟩
  intro p l e s m args below meth c D cA ad A H locs las C hP hD hS hA hl
  exact lv_if_gt C.1 C.2.1 hd ht (fun q => kt (by rw [q_z] at q; exact ((q_lt hy hx).mp q)) p l e s m args below meth c D cA ad A H locs las C hP hD hS hA hl) (fun q => kf (by rw [q_z] at q; exact (fun w => q ((q_lt hy hx).mpr w))) p l e s m args below meth c D cA ad A H locs las C hP hD hS hA hl)
theorem ev_icmp_le (n t : Nat) {x y : Int} {off : Int} (hd : decode M.2.1 pc = .ok (.if_icmp .le off, 3)) (hn : pc + 3 = n) (ht : (pc : Int) + off = (t : Int)) (hx : R32 x) (hy : R32 y) (kt : x ≤ y → Ev sh M t ls st h post) (kf : ¬ x ≤ y → Ev sh M n ls st h post) : Ev sh M pc ls (vi y :: vi x :: st) h post := by
  subst hn
  intro p l e s m args below meth c D cA ad A H locs las C hP hD hS hA hl
  exact lv_icmp_le C.1 C.2.1 hd ht (fun q => kt (by exact ((q_le hx hy).mp q)) p l e s m args below meth c D cA ad A H locs las C hP hD hS hA hl) (fun q => kf (by exact (fun w => q ((q_le hx hy).mpr w))) p l e s m args below meth c D cA ad A H locs las C hP hD hS hA hl)
theorem ev_if_le (n t : Nat) {x : Int} {off : Int} (hd : decode M.2.1 pc = .ok (.ifCond .le off, 3)) (hn : pc + 3 = n) (ht : (pc : Int) + off = (t : Int)) (hx : R32 x) (kt : x ≤ 0 → Ev sh M t ls st h post) (kf : ¬ x ≤ 0 → Ev sh M n ls st h post) : Ev sh M pc ls (vi x :: st) h post := by
  subst hn
  have hy : R32 0 := ⟨by decide, by decide⟩
  intro p l e s m args below meth c D cA ad A H locs las C hP hD hS hA hl
  exact lv_if_le C.1 C.2.1 hd ht (fun q => kt (by rw [q_z] at q; exact ((q_le hx hy).mp q)) p l e s m args below meth c D cA ad A H locs las C hP hD hS hA hl) (fun q => kf (by rw [q_z] at q; exact (fun w => q ((q_le hx hy).mpr w))) p l e s m args below meth c D cA ad A H locs las C hP hD hS hA hl)
theorem ev_tswIn (t : Nat) {x d lo hi off : Int} {offs : Array Int} {len : Nat} (hd : decode M.2.1 pc = .ok (.tableswitch d lo hi offs, len)) (hx : R32 x) (h1 : ¬ x < lo) (h2 : ¬ hi < x) (ho : offs[(x - lo).toNat]? = some off) (ht : (pc : Int) + off = (t : Int)) (k : Ev sh M t ls st h post) : Ev sh M pc ls (vi x :: st) h post := by
  intro p l e s m args below meth c D cA ad A H locs las C hP hD hS hA hl
  exact lv_tableIn C.1 C.2.1 hd (by rw [q_toI hx]; exact h1) (by rw [q_toI hx]; exact h2) (by rw [q_toI hx]; exact ho) ht (k p l e s m args below meth c D cA ad A H locs las C hP hD hS hA hl)
theorem ev_tswOut (t : Nat) {x d lo hi : Int} {offs : Array Int} {len : Nat} (hd : decode M.2.1 pc = .ok (.tableswitch d lo hi offs, len)) (hx : R32 x) (h1 : x < lo ∨ hi < x) (ht : (pc : Int) + d = (t : Int)) (k : Ev sh M t ls st h post) : Ev sh M pc ls (vi x :: st) h post := by
  intro p l e s m args below meth c D cA ad A H locs las C hP hD hS hA hl
  exact lv_tableOut C.1 C.2.1 hd (by rw [q_toI hx]; exact h1) ht (k p l e s m args below meth c D cA ad A H locs las C hP hD hS hA hl)
theorem ev_lsw (t : Nat) {x d off : Int} {ps : Array (Int × Int)} {len : Nat} (hd : decode M.2.1 pc = .ok (.lookupswitch d ps, len)) (hx : R32 x) (hp : (ps.toList.zip (ps.toList.drop 1)).all (fun (a, next) => a.1 < next.1) = true) (ho : Op.lookupswitch.offset ps.toList d x = off) (ht : (pc : Int) + off = (t : Int)) (k : Ev sh M t ls st h post) : Ev sh M pc ls (vi x :: st) h post := by
  intro p l e s m args below meth c D cA ad A H locs las C hP hD hS hA hl
  exact lv_lookup C.1 C.2.1 hd hp (by rw [q_toI hx]; exact ho) ht (k p l e s m args below meth c D cA ad A H locs las C hP hD hS hA hl)
theorem ev_ireturn {x : Int} (hr : M.2.2.2.1 = some .int) (hd : decode M.2.1 pc = .ok (.ireturn, 1)) (hp : post (some (vi x)) h) : Ev sh M pc ls [vi x] h post := by
  intro p l e s m args below meth c D cA ad A H locs las C hP hD hS hA hl
  have hlk := C.2.2.2.2.2.1
  exact W.iret C.1 C.2.1 (C.2.2.2.1.trans hr) (fun t ht hW => ⟨⟨some (vi x), h, rfl, hp, by rw [ht]; exact hP⟩, hS.F ht⟩) hS.2.2 hd
theorem ev_zreturn {x : Int} (hr : M.2.2.2.1 = some .boolean) (hd : decode M.2.1 pc = .ok (.ireturn, 1)) (hx : x = 0 ∨ x = 1) (hp : post (some (vi x)) h) : Ev sh M pc ls [vi x] h post := by
  intro p l e s m args below meth c D cA ad A H locs las C hP hD hS hA hl
  have hlk := C.2.2.2.2.2.1
  exact W.zret C.1 C.2.1 (C.2.2.2.1.trans hr) (by rcases hx with rfl | rfl <;> decide +kernel) (fun t ht hW => ⟨⟨some (vi x), h, rfl, hp, by rw [ht]; exact hP⟩, hS.F ht⟩) hS.2.2 hd
theorem ev_lreturn {x : Int} (hr : M.2.2.2.1 = some .long) (hd : decode M.2.1 pc = .ok (.lreturn, 1)) (hp : post (some (vl x)) h) : Ev sh M pc ls [vl x] h post := by
  intro p l e s m args below meth c D cA ad A H locs las C hP hD hS hA hl
  have hlk := C.2.2.2.2.2.1
  exact W.lret C.1 C.2.1 (C.2.2.2.1.trans hr) (fun t ht hW => ⟨⟨some (vl x), h, rfl, hp, by rw [ht]; exact hP⟩, hS.F ht⟩) hS.2.2 hd
theorem ev_areturn {x : Nat} {N : String} (hr : M.2.2.2.1 = some (.object N)) (hd : decode M.2.1 pc = .ok (.areturn, 1)) (hp : post (some (vr x)) h) : Ev sh M pc ls [vr x] h post := by
  intro p l e s m args below meth c D cA ad A H locs las C hP hD hS hA hl
  have hlk := C.2.2.2.2.2.1
  exact W.aret C.1 C.2.1 (C.2.2.2.1.trans hr) (Or.inl ⟨N, rfl⟩) (Or.inr ⟨_, rfl⟩) (fun t ht hW => ⟨⟨some (vr x), h, rfl, hp, by rw [ht]; exact hP⟩, hS.F ht⟩) hS.2.2 hd
theorem ev_return (hr : M.2.2.2.1 = none) (hd : decode M.2.1 pc = .ok (.return_, 1)) (hp : post none h) : Ev sh M pc ls [] h post := by
  intro p l e s m args below meth c D cA ad A H locs las C hP hD hS hA hl
  have hlk := C.2.2.2.2.2.1
  exact W.vret C.1 C.2.1 (C.2.2.2.1.trans hr) (fun t ht hW => ⟨⟨none, h, rfl, hp, by rw [ht]; exact hP⟩, hS.F ht⟩) hS.2.2 hd
/-- a field's link: class own's entry i names slot j of class ci -/
def FL (own : String) (i ci j : Nat) : Prop := ∃ (C : String) (T : u_T) (N : Nat) (ty : Nat → FieldType), vwCl[ci]? = some (C, T, N) ∧ j < N ∧ (∀ w ∈ u_ws C T N, w ∈ gw_tbl) ∧ (Cond.fieldLink own i (T j).1 (T j).2.1 (T j).2.2.1) ∈ gw_tbl ∧ (∀ k, k < N → parseFieldDescriptor (T k).2.2.1 = some (ty k)) ∧ (∀ a, a < N → ∀ b, b < N → a ≠ b → (T a).2.1 ≠ (T b).2.1)
/-- and it may be written: its type -/
def FP (own : String) (i ci j : Nat) (t : FieldType) : Prop := ∃ (C : String) (T : u_T) (N : Nat) (ty : Nat → FieldType), vwCl[ci]? = some (C, T, N) ∧ j < N ∧ (∀ w ∈ u_ws C T N, w ∈ gw_tbl) ∧ (Cond.fieldLink own i (T j).1 (T j).2.1 (T j).2.2.1) ∈ gw_tbl ∧ (∀ k, k < N → parseFieldDescriptor (T k).2.2.1 = some (ty k)) ∧ (∀ a, a < N → ∀ b, b < N → a ≠ b → (T a).2.1 ≠ (T b).2.1) ∧ (T j).2.2.2 = false ∧ parseFieldDescriptor (T j).2.2.1 = some t
theorem ev_get {own : String} (n : Nat) {i ci j q : Nat} {sl : List SK} {x : SK} (hL : FL own i ci j) (ho : own = M.1.cls) (hd : decode M.2.1 pc = .ok (.getfield i, 3)) (hn : pc + 3 = n) (hq : sh[q]? = some (.inr (ci, sl))) (hx : sl[j]? = some x) {v : AV} (hv : ∀ ad, cslot ad (h q) j x = cv ad v) (k : Ev sh M n ls (v :: st) h post) : Ev sh M pc ls (vr q :: st) h post := by
  subst hn
  subst ho
  obtain ⟨C0, T, N, ty, h1, h2, h3, h4, -, -⟩ := hL
  intro p l e s m args below meth c D cA ad A H locs las C hP hD hS hA hl
  refine va_get C.1 C.2.1 C.2.2.2.2.2.2.1 h3 C.2.2.2.2.1 C.2.2.2.2.2.2.2 hP q (wld_at hq) h1 j h2 (C.2.2.2.2.2.2.1 _ h4) (fun _ w => w) (v := cv ad v) ?_ hd (k p l e s m args below meth c D cA ad A H locs las C hP hD hS hA hl)
  rw [List.getElem?_mapIdx, hx, ← hv ad]
  rfl
theorem ev_getI {own : String} (n : Nat) (z : Int) {i ci j q : Nat} {sl : List SK} {b : Nat} (hL : FL own i ci j) (ho : own = M.1.cls) (hd : decode M.2.1 pc = .ok (.getfield i, 3)) (hn : pc + 3 = n) (hq : sh[q]? = some (.inr (ci, sl))) (hx : sl[j]? = some (.inl b)) (hb : ¬ b = 1) (hz : (j : Int) = z) (k : Ev sh M n ls (vi (h q z) :: st) h post) : Ev sh M pc ls (vr q :: st) h post := ev_get n hL ho hd hn hq hx (fun ad => by show (if b = 1 then _ else _) = _; rw [if_neg hb, hz]; rfl) k
theorem ev_getL {own : String} (n : Nat) (z : Int) {i ci j q : Nat} {sl : List SK} (hL : FL own i ci j) (ho : own = M.1.cls) (hd : decode M.2.1 pc = .ok (.getfield i, 3)) (hn : pc + 3 = n) (hq : sh[q]? = some (.inr (ci, sl))) (hx : sl[j]? = some (.inl 1)) (hz : (j : Int) = z) (k : Ev sh M n ls (vl (h q z) :: st) h post) : Ev sh M pc ls (vr q :: st) h post := ev_get n hL ho hd hn hq hx (fun ad => by subst hz; rfl) k
theorem ev_getR {own : String} (n : Nat) {i ci j q t : Nat} {sl : List SK} (hL : FL own i ci j) (ho : own = M.1.cls) (hd : decode M.2.1 pc = .ok (.getfield i, 3)) (hn : pc + 3 = n) (hq : sh[q]? = some (.inr (ci, sl))) (hx : sl[j]? = some (.inr t)) (k : Ev sh M n ls (vr t :: st) h post) : Ev sh M pc ls (vr q :: st) h post := ev_get n hL ho hd hn hq hx (fun ad => rfl) k
theorem q_setslot {ad : Nat → Nat} {f : Int → Int} {sl : List SK} {j : Nat} {b : Nat} (v : Int) (hx : sl[j]? = some (.inl b)) : (sl.mapIdx (fun i x => cslot ad f i x)).set j (cslot ad (fun _ => v) j (.inl b)) = sl.mapIdx (fun i x => cslot ad (up f (j : Int) v) i x) := by
  apply List.ext_getElem?
  intro i
  rw [List.getElem?_set, List.getElem?_mapIdx, List.getElem?_mapIdx]
  by_cases e : j = i
  · subst e
    have hl : j < (sl.mapIdx (fun i x => cslot ad f i x)).length := by
      rw [List.length_mapIdx]
      exact (List.getElem?_eq_some_iff.mp hx).1
    rw [if_pos rfl, if_pos hl, hx]
    simp [cslot, up]
  · rw [if_neg e]
    cases hs : sl[i]? with
    | none => rfl
    | some x =>
      have hne : ¬ (i : Int) = (j : Int) := by omega
      cases x with
      | inl b2 => simp [cslot, up, hne]
      | inr t => simp [cslot]
theorem ev_put {own : String} (n : Nat) {i ci j q b : Nat} {sl : List SK} {ty : FieldType} {x : AV} {z : Int} (hL : FP own i ci j ty) (ho : own = M.1.cls) (hd : decode M.2.1 pc = .ok (.putfield i, 3)) (hn : pc + 3 = n) (hq : sh[q]? = some (.inr (ci, sl))) (hx : sl[j]? = some (.inl b)) (hv : ∀ ad, cv ad x = cslot ad (fun _ => z) j (.inl b)) (hnar : ∀ ad, narrow ty (cv ad x) = cv ad x) (hfit : ∀ ad, fits ty (cv ad x) = true) (k : Ev sh M n ls st (hput h q (up (h q) j z)) post) : Ev sh M pc ls (x :: vr q :: st) h post := by
  subst hn
  subst ho
  obtain ⟨C0, T, N, ty0, h1, h2, h3, h4, h5, h6, h7, h8⟩ := hL
  intro p l e s m args below meth c D cA ad A H locs las C hP hD hS hA hl
  refine va_put C.1 C.2.1 C.2.2.2.2.2.2.1 h3 ty0 h5 h6 C.2.2.2.2.1 C.2.2.2.2.2.2.2 hP hD hS q (wld_at hq) h1 j h2 (C.2.2.2.2.2.2.1 _ h4) (fun _ w => w) h7 (ty := ty) (v := cv ad x) h8 (hnar ad) (hfit ad) (by rw [List.length_mapIdx]; exact (List.getElem?_eq_some_iff.mp hx).1) hd (fun H1 locs1 hP1 hD1 hS1 => ?_)
  have hw : (wld cA ad sh h).set q (ad q, .inr (ci, (sl.mapIdx (fun j x => cslot ad (h q) j x)).set j (cv ad x))) = wld cA ad sh (hput h q (up (h q) j z)) := by
    rw [← wld_set hq]
    show _ = (wld cA ad sh h).set q (ad q, Sum.inr (ci, sl.mapIdx (fun i x => cslot ad (up (h q) j z) i x)))
    rw [← q_setslot z hx, hv ad]
  exact k p l e s m args below meth c D cA ad A H1 locs1 las C (hw ▸ hP1) (hw ▸ hD1) hS1 hA hl
theorem ev_putI {own : String} (n : Nat) (w : Int) {i ci j q : Nat} {sl : List SK} {z : Int} (hL : FP own i ci j .int) (ho : own = M.1.cls) (hd : decode M.2.1 pc = .ok (.putfield i, 3)) (hn : pc + 3 = n) (hq : sh[q]? = some (.inr (ci, sl))) (hx : sl[j]? = some (.inl 0)) (hw : (j : Int) = w) (k : Ev sh M n ls st (hput h q (up (h q) w z)) post) : Ev sh M pc ls (vi z :: vr q :: st) h post := ev_put n hL ho hd hn hq hx (fun ad => rfl) (fun ad => rfl) (fun ad => rfl) (hw ▸ k)
theorem ev_putL {own : String} (n : Nat) (w : Int) {i ci j q : Nat} {sl : List SK} {z : Int} (hL : FP own i ci j .long) (ho : own = M.1.cls) (hd : decode M.2.1 pc = .ok (.putfield i, 3)) (hn : pc + 3 = n) (hq : sh[q]? = some (.inr (ci, sl))) (hx : sl[j]? = some (.inl 1)) (hw : (j : Int) = w) (k : Ev sh M n ls st (hput h q (up (h q) w z)) post) : Ev sh M pc ls (vl z :: vr q :: st) h post := ev_put n hL ho hd hn hq hx (fun ad => rfl) (fun ad => rfl) (fun ad => rfl) (hw ▸ k)
theorem ev_putZ {own : String} (n : Nat) (w : Int) {i ci j q : Nat} {sl : List SK} {z : Int} (hL : FP own i ci j .boolean) (ho : own = M.1.cls) (hd : decode M.2.1 pc = .ok (.putfield i, 3)) (hn : pc + 3 = n) (hq : sh[q]? = some (.inr (ci, sl))) (hx : sl[j]? = some (.inl 2)) (hz : z = 0 ∨ z = 1) (hw : (j : Int) = w) (k : Ev sh M n ls st (hput h q (up (h q) w z)) post) : Ev sh M pc ls (vi z :: vr q :: st) h post := ev_put n hL ho hd hn hq hx (fun ad => rfl) (fun ad => by rcases hz with rfl | rfl <;> (show narrow .boolean (.int _) = .int _; decide +kernel)) (fun ad => by rcases hz with rfl | rfl <;> (show fits .boolean (.int _) = true; decide +kernel)) (hw ▸ k)
theorem ev_iald (n : Nat) {q N : Nat} {i : Int} (hd : decode M.2.1 pc = .ok (.iaload, 1)) (hn : pc + 1 = n) (hq : sh[q]? = some (.inl (0, N))) (hN : N < 2147483648) (hi : 0 ≤ i ∧ i < N) (k : Ev sh M n ls (vi (h q i) :: st) h post) : Ev sh M pc ls (vi i :: vr q :: st) h post := by
  subst hn
  intro p l e s m args below meth c D cA ad A H locs las C hP hD hS hA hl
  refine va_iald C.1 C.2.1 C.2.2.2.2.2.2.2 hP q 0 (wld_at hq) rfl (q_in hi.1 hi.2 hN) hd ?_
  rw [q_cl hi.1 (by omega), Int.toNat_of_nonneg hi.1]
  exact k p l e s m args below meth c D cA ad A H locs las C hP hD hS hA hl
theorem ev_zald (n : Nat) {q N : Nat} {i : Int} (hd : decode M.2.1 pc = .ok (.baload, 1)) (hn : pc + 1 = n) (hq : sh[q]? = some (.inl (1, N))) (hN : N < 2147483648) (hi : 0 ≤ i ∧ i < N) (k : Ev sh M n ls (vi (h q i) :: st) h post) : Ev sh M pc ls (vi i :: vr q :: st) h post := by
  subst hn
  intro p l e s m args below meth c D cA ad A H locs las C hP hD hS hA hl
  refine va_zald C.1 C.2.1 C.2.2.2.2.2.2.2 hP q 1 (wld_at hq) rfl (q_in hi.1 hi.2 hN) hd ?_
  rw [q_cl hi.1 (by omega), Int.toNat_of_nonneg hi.1]
  exact k p l e s m args below meth c D cA ad A H locs las C hP hD hS hA hl
theorem q_updA {f : Int → Int} {i v : Int} (h0 : 0 ≤ i) : upd (fun j : Nat => Int32.ofInt (f j)) i.toNat (Int32.ofInt v) = fun j : Nat => Int32.ofInt (up f i v j) := by
  funext j
  unfold upd up
  by_cases e : j = i.toNat
  · rw [if_pos e, if_pos (by omega)]
  · rw [if_neg e, if_neg (by omega)]
theorem ev_iast (n : Nat) {q N : Nat} {i v : Int} (hd : decode M.2.1 pc = .ok (.iastore, 1)) (hn : pc + 1 = n) (hq : sh[q]? = some (.inl (0, N))) (hN : N < 2147483648) (hi : 0 ≤ i ∧ i < N) (k : Ev sh M n ls st (hput h q (up (h q) i v)) post) : Ev sh M pc ls (vi v :: vi i :: vr q :: st) h post := by
  subst hn
  intro p l e s m args below meth c D cA ad A H locs las C hP hD hS hA hl
  refine va_iast C.1 C.2.1 C.2.2.2.2.2.2.2 hP hD hS q 0 (wld_at hq) rfl (q_in hi.1 hi.2 hN) hd (fun H1 locs1 hP1 hD1 hS1 => ?_)
  have hw : (wld cA ad sh h).set q (ad q, .inl (cA 0, N, .inl (upd (fun j : Nat => Int32.ofInt (h q j)) (Int32.ofInt i).toNatClampNeg (Int32.ofInt v)))) = wld cA ad sh (hput h q (up (h q) i v)) := by
    rw [← wld_set hq, q_cl hi.1 (by omega), q_updA hi.1]
    rfl
  exact k p l e s m args below meth c D cA ad A H1 locs1 las C (hw ▸ hP1) (hw ▸ hD1) hS1 hA hl
theorem ev_zast (n : Nat) {q N : Nat} {i v : Int} (hd : decode M.2.1 pc = .ok (.bastore, 1)) (hn : pc + 1 = n) (hq : sh[q]? = some (.inl (1, N))) (hN : N < 2147483648) (hi : 0 ≤ i ∧ i < N) (hv : v = 0 ∨ v = 1) (k : Ev sh M n ls st (hput h q (up (h q) i v)) post) : Ev sh M pc ls (vi v :: vi i :: vr q :: st) h post := by
  subst hn
  intro p l e s m args below meth c D cA ad A H locs las C hP hD hS hA hl
  refine va_zast C.1 C.2.1 C.2.2.2.2.2.2.2 hP hD hS q 1 (wld_at hq) rfl (q_in hi.1 hi.2 hN) hd (fun H1 locs1 hP1 hD1 hS1 => ?_)
  have hnv : vp_nar .boolean (Int32.ofInt v) = Int32.ofInt v := by rcases hv with rfl | rfl <;> decide +kernel
  have hw : (wld cA ad sh h).set q (ad q, .inl (cA 1, N, .inl (upd (fun j : Nat => Int32.ofInt (h q j)) (Int32.ofInt i).toNatClampNeg (vp_nar .boolean (Int32.ofInt v))))) = wld cA ad sh (hput h q (up (h q) i v)) := by
    rw [hnv, ← wld_set hq, q_cl hi.1 (by omega), q_updA hi.1]
    rfl
  exact k p l e s m args below meth c D cA ad A H1 locs1 las C (hw ▸ hP1) (hw ▸ hD1) hS1 hA hl
end EVR
