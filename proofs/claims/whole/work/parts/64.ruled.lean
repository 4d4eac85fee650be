/-! who ruled most: the class's answer and the model's -/
theorem ru_rm {f : Int → Int} (h0 : 0 ≤ f 0) (h1 : 0 ≤ f 1) (h2 : 0 ≤ f 2) (h3 : 0 ≤ f 3) : ruF f 4 0 (-9) 0 = if f 0 = 0 ∧ f 1 = 0 ∧ f 2 = 0 ∧ f 3 = 0 then -9 else rmF f 3 := by
  have r1 : rmF f 1 = if f 0 < f 1 then 1 else 0 := rfl
  have r2 : rmF f 2 = if f (rmF f 1) < f 2 then 2 else rmF f 1 := rfl
  have r3 : rmF f 3 = if f (rmF f 2) < f 3 then 3 else rmF f 2 := rfl
  have e : ruF f 4 0 (-9) 0 = if 0 < f 0 then (if f 0 < f 1 then (if f 1 < f 2 then (if f 2 < f 3 then 3 else 2) else (if f 1 < f 3 then 3 else 1)) else (if f 0 < f 2 then (if f 2 < f 3 then 3 else 2) else (if f 0 < f 3 then 3 else 0))) else (if 0 < f 1 then (if f 1 < f 2 then (if f 2 < f 3 then 3 else 2) else (if f 1 < f 3 then 3 else 1)) else (if 0 < f 2 then (if f 2 < f 3 then 3 else 2) else (if 0 < f 3 then 3 else -9))) := rfl
  rw [e]
  by_cases a : f 0 < f 1
  · rw [if_pos a] at r1
    rw [r1] at r2
    by_cases b : f 1 < f 2
    · rw [if_pos b] at r2
      rw [r2] at r3
      rw [r3]
      repeat' split
      all_goals first | rfl | omega
    · rw [if_neg b] at r2
      rw [r2] at r3
      rw [r3]
      repeat' split
      all_goals first | rfl | omega
  · rw [if_neg a] at r1
    rw [r1] at r2
    by_cases b : f 0 < f 2
    · rw [if_pos b] at r2
      rw [r2] at r3
      rw [r3]
      repeat' split
      all_goals first | rfl | omega
    · rw [if_neg b] at r2
      rw [r2] at r3
      rw [r3]
      repeat' split
      all_goals first | rfl | omega
theorem rsum_all {pol reg : Int → Int} : ∀ (k : Nat), (∀ c : Int, 0 ≤ c → c < k → 0 ≤ pol c ∧ pol c ≤ 3) → sumZ (fun c => if pol c = 0 then reg c else 0) k + sumZ (fun c => if pol c = 1 then reg c else 0) k + sumZ (fun c => if pol c = 2 then reg c else 0) k + sumZ (fun c => if pol c = 3 then reg c else 0) k = sumZ reg k := by
  intro k
  induction k with
  | zero => intro _; rfl
  | succ k ih =>
    intro hp
    have h1 := ih (fun c a b => hp c a (by omega))
    have h2 := hp k (by omega) (by omega)
    show (sumZ (fun c => if pol c = 0 then reg c else 0) k + (if pol k = 0 then reg k else 0)) + (sumZ (fun c => if pol c = 1 then reg c else 0) k + (if pol k = 1 then reg k else 0)) + (sumZ (fun c => if pol c = 2 then reg c else 0) k + (if pol k = 2 then reg k else 0)) + (sumZ (fun c => if pol c = 3 then reg c else 0) k + (if pol k = 3 then reg k else 0)) = sumZ reg k + reg k
    have : pol k = 0 ∨ pol k = 1 ∨ pol k = 2 ∨ pol k = 3 := by omega
    rcases this with e | e | e | e
    all_goals
      rw [e]
      simp only [Int.reduceEq, if_true, if_false]
      omega
/-- with the weeks the sum of all regencies, both answer alike -/
theorem ruled_eq {n wk : Int} {pol reg pol' reg' : Int → Int} (hn : 0 ≤ n ∧ n ≤ 5) (hp : ∀ c, 0 ≤ c → c < n → 0 ≤ pol c ∧ pol c ≤ 3) (hr : ∀ c, 0 ≤ c → c < n → 0 ≤ reg c ∧ reg c ≤ 1000) (e1 : ∀ c, 0 ≤ c → c < n → pol' c = pol c) (e2 : ∀ c, 0 ≤ c → c < n → reg' c = reg c) (hw : wk = sumZ reg n.toNat) : ruF (rsum n pol' reg') 4 0 (-9) 0 = if wk = 0 then -9 else rmF (rsum n pol reg) 3 := by
  have ef : rsum n pol' reg' = rsum n pol reg := by
    funext p
    unfold rsum
    exact sumZ_congr (fun c a b => by rw [e1 c a (by omega), e2 c a (by omega)])
  rw [ef]
  have r0 := (rsum_r (pol := pol) hn hr 0).1
  have r1 := (rsum_r (pol := pol) hn hr 1).1
  have r2 := (rsum_r (pol := pol) hn hr 2).1
  have r3 := (rsum_r (pol := pol) hn hr 3).1
  rw [ru_rm r0 r1 r2 r3]
  have hs : rsum n pol reg 0 + rsum n pol reg 1 + rsum n pol reg 2 + rsum n pol reg 3 = wk := by
    rw [hw]
    exact rsum_all n.toNat (fun c a b => hp c a (by omega))
  by_cases z : wk = 0
  · rw [if_pos z, if_pos (by omega)]
  · rw [if_neg z, if_neg (by omega)]
