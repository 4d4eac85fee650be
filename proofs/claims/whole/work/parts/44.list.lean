/-! the ways in their order: the class's and the model's, told by the kernel -/
def CL (n : Int) : List Nat := (List.range (pw n n.toNat).toNat).filter (fun i => wayB n (i : Int))
def nxOK (n : Int) (a b : Nat) : Bool := (nextP n (dgt n (a : Int))).1 && (List.range n.toNat).all (fun c => decide ((nextP n (dgt n (a : Int))).2 (c : Int) = dgt n (b : Int) (c : Int)))
def chn (n : Int) : List Nat → Bool
  | [] => false
  | a :: L => match L with
    | [] => !(nextP n (dgt n (a : Int))).1
    | b :: _ => nxOK n a b && chn n L
def hd0 (n : Int) (L : List Nat) : Bool := (List.range n.toNat).all (fun c => decide (dgt n ((L.headD 0 : Nat) : Int) (c : Int) = (c : Int)))
theorem chk1 : (chn 1 (CL 1) && hd0 1 (CL 1) && decide ((CL 1).length ≤ 120)) = true := by decide +kernel
theorem chk2 : (chn 2 (CL 2) && hd0 2 (CL 2) && decide ((CL 2).length ≤ 120)) = true := by decide +kernel
theorem chk3 : (chn 3 (CL 3) && hd0 3 (CL 3) && decide ((CL 3).length ≤ 120)) = true := by decide +kernel
theorem chk4 : (chn 4 (CL 4) && hd0 4 (CL 4) && decide ((CL 4).length ≤ 120)) = true := by decide +kernel
theorem chk5 : (chn 5 (CL 5) && hd0 5 (CL 5) && decide ((CL 5).length ≤ 120)) = true := by decide +kernel
theorem chk {n : Int} (hn : 0 < n ∧ n ≤ 5) : chn n (CL n) = true ∧ hd0 n (CL n) = true ∧ (CL n).length ≤ 120 := by
  have e : n = 1 ∨ n = 2 ∨ n = 3 ∨ n = 4 ∨ n = 5 := by omega
  have h : (chn n (CL n) && hd0 n (CL n) && decide ((CL n).length ≤ 120)) = true := by
    rcases e with rfl | rfl | rfl | rfl | rfl
    · exact chk1
    · exact chk2
    · exact chk3
    · exact chk4
    · exact chk5
  rw [Bool.and_eq_true, Bool.and_eq_true, decide_eq_true_iff] at h
  exact ⟨h.1.1, h.1.2, h.2⟩
