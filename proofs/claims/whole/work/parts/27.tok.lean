/-! the text's tokens, as numbers -/
def ch (t : Int → Int) (L p : Int) : Int := if p < L then t p else -1
def skp (t : Int → Int) (L : Int) : Nat → Int → Int
  | 0, p => p
  | k + 1, p => if ch t L p = 32 then skp t L k (p + 1) else p
def digB (c : Int) : Bool := decide (48 ≤ c ∧ c ≤ 57)
def dge (t : Int → Int) (L : Int) : Nat → Int → Int
  | 0, p => p
  | k + 1, p => if digB (ch t L p) = true then dge t L k (p + 1) else p
def tS (t : Int → Int) (L p : Int) : Int := skp t L (L - p).toNat p
def nv (t : Int → Int) (s e : Int) : Int := if e - s = 1 then t s - 48 else if e - s = 2 ∧ t s ≠ 48 then 10 * (t s - 48) + (t (s + 1) - 48) else -1
/-- a token by where it begins: its end, its kind (-1 the end, -2 a number, else its letter), its value -/
def eE (t : Int → Int) (L s : Int) : Int := if s < L then (if digB (t s) = true then dge t L (L - s).toNat s else s + 1) else s
def eK (t : Int → Int) (L s : Int) : Int := if s < L then (if digB (t s) = true then -2 else t s) else -1
def tE (t : Int → Int) (L p : Int) : Int := eE t L (tS t L p)
def tK (t : Int → Int) (L p : Int) : Int := eK t L (tS t L p)
def tV (t : Int → Int) (L p : Int) : Int := nv t (tS t L p) (tE t L p)
theorem skp_r {t : Int → Int} {L : Int} : ∀ (k : Nat) (p : Int), L - p = k → p ≤ skp t L k p ∧ skp t L k p ≤ L ∧ ¬ ch t L (skp t L k p) = 32 := by
  intro k
  induction k with
  | zero =>
    intro p h
    refine ⟨Int.le_refl _, by show p ≤ L; omega, ?_⟩
    show ¬ ch t L p = 32
    unfold ch
    rw [if_neg (by omega)]
    decide
  | succ k ih =>
    intro p h
    unfold skp
    by_cases q : ch t L p = 32
    · rw [if_pos q]
      have := ih (p + 1) (by omega)
      exact ⟨by omega, this.2⟩
    · rw [if_neg q]
      exact ⟨Int.le_refl _, by omega, q⟩
theorem dge_r {t : Int → Int} {L : Int} : ∀ (k : Nat) (p : Int), L - p = k → p ≤ dge t L k p ∧ dge t L k p ≤ L := by
  intro k
  induction k with
  | zero => intro p h; exact ⟨Int.le_refl _, by show p ≤ L; omega⟩
  | succ k ih =>
    intro p h
    unfold dge
    split
    · have := ih (p + 1) (by omega)
      omega
    · omega
theorem tS_r {t : Int → Int} {L p : Int} (h : p ≤ L) : p ≤ tS t L p ∧ tS t L p ≤ L := by
  have := skp_r (t := t) (L := L) (L - p).toNat p (by omega)
  exact ⟨this.1, this.2.1⟩
theorem ch_in {t : Int → Int} {L p : Int} (h : p < L) : ch t L p = t p := if_pos h
theorem eE_r {t : Int → Int} {L s : Int} (h : s ≤ L) : s ≤ eE t L s ∧ eE t L s ≤ L ∧ (s < L → s < eE t L s) := by
  unfold eE
  by_cases q : s < L
  · rw [if_pos q]
    by_cases d : digB (t s) = true
    · rw [if_pos d]
      obtain ⟨k, hk⟩ : ∃ k : Nat, (L - s).toNat = k + 1 := ⟨(L - s).toNat - 1, by omega⟩
      rw [hk]
      unfold dge
      rw [ch_in q, if_pos d]
      have := dge_r (t := t) (L := L) k (s + 1) (by omega)
      omega
    · rw [if_neg d]; omega
  · rw [if_neg q]; omega
theorem tE_r {t : Int → Int} {L p : Int} (h : p ≤ L) : p ≤ tE t L p ∧ tE t L p ≤ L := by
  have h1 := tS_r (t := t) h
  have h2 := eE_r (t := t) h1.2
  unfold tE
  omega
theorem digB_t {c : Int} : digB c = true ↔ 48 ≤ c ∧ c ≤ 57 := by unfold digB; rw [decide_eq_true_iff]
theorem digB_f {c : Int} : digB c = false ↔ ¬ (48 ≤ c ∧ c ≤ 57) := by unfold digB; rw [decide_eq_false_iff_not]
/-- the model's way to read a number -/
def nmF (t : Int → Int) : Nat → Int → Int → Int
  | 0, _, v => v
  | k + 1, p, v => nmF t k (p + 1) (if 99 < v then v else 10 * v + t p - 48)
theorem nm_big {t : Int → Int} : ∀ (k : Nat) (p v : Int), 99 < v → nmF t k p v = v := by
  intro k
  induction k with
  | zero => intro p v _; rfl
  | succ k ih =>
    intro p v h
    unfold nmF
    rw [if_pos h]
    exact ih _ _ h
theorem dge_dig {t : Int → Int} {L : Int} : ∀ (k : Nat) (p q : Int), L - p = k → p ≤ q → q < dge t L k p → 48 ≤ t q ∧ t q ≤ 57 := by
  intro k
  induction k with
  | zero =>
    intro p q h a b
    have b : q < p := b
    omega
  | succ k ih =>
    intro p q h a b
    unfold dge at b
    by_cases d : digB (ch t L p) = true
    · rw [if_pos d] at b
      by_cases e : q = p
      · subst e
        rw [ch_in (by omega)] at d
        exact digB_t.mp d
      · exact ih (p + 1) q (by omega) (by omega) b
    · rw [if_neg d] at b
      omega
/-- numbers: the model's and ours -/
theorem nm_nv {t : Int → Int} {s e : Int} (h1 : s < e) (hd : ∀ q, s ≤ q → q < e → 48 ≤ t q ∧ t q ≤ 57) : (0 ≤ nmF t (e - s).toNat s 0 ∧ nmF t (e - s).toNat s 0 ≤ 999) ∧ ((99 < nmF t (e - s).toNat s 0 ∨ (t s = 48 ∧ 1 < e - s)) → nv t s e = -1) ∧ (¬ (99 < nmF t (e - s).toNat s 0 ∨ (t s = 48 ∧ 1 < e - s)) → nv t s e = nmF t (e - s).toNat s 0 ∧ 0 ≤ nv t s e) := by
  have hr : ∀ (k : Nat) (p v : Int), (∀ q, p ≤ q → q < p + k → 48 ≤ t q ∧ t q ≤ 57) → 0 ≤ v ∧ v ≤ 999 → 0 ≤ nmF t k p v ∧ nmF t k p v ≤ 999 := by
    intro k
    induction k with
    | zero => intro p v _ h; exact h
    | succ k ih =>
      intro p v hq h
      unfold nmF
      refine ih _ _ (fun q a b => hq q (by omega) (by omega)) ?_
      have := hq p (by omega) (by omega)
      split <;> omega
  refine ⟨hr _ _ _ (fun q a b => hd q a (by omega)) (by omega), ?_⟩
  have d1 := hd s (by omega) h1
  by_cases m1 : e - s = 1
  · have e1 : nmF t (e - s).toNat s 0 = t s - 48 := by
      rw [show (e - s).toNat = 1 by omega]
      show (if (99 : Int) < 0 then 0 else 10 * 0 + t s - 48) = _
      rw [if_neg (by omega)]
      omega
    have e2 : nv t s e = t s - 48 := if_pos m1
    rw [e1, e2]
    omega
  · by_cases m2 : e - s = 2
    · have d2 := hd (s + 1) (by omega) (by omega)
      have e1 : nmF t (e - s).toNat s 0 = 10 * (t s - 48) + (t (s + 1) - 48) := by
        rw [show (e - s).toNat = 2 by omega]
        show (if (99 : Int) < (if (99 : Int) < 0 then 0 else 10 * 0 + t s - 48) then (if (99 : Int) < 0 then 0 else 10 * 0 + t s - 48) else 10 * (if (99 : Int) < 0 then 0 else 10 * 0 + t s - 48) + t (s + 1) - 48) = _
        rw [if_neg (by omega : ¬ (99 : Int) < 0), if_neg (by omega)]
        omega
      rw [e1]
      unfold nv
      rw [if_neg m1]
      by_cases z : t s = 48
      · rw [if_neg (fun w => w.2 z)]; omega
      · rw [if_pos ⟨m2, z⟩]; omega
    · have e2 : nv t s e = -1 := by
        unfold nv
        rw [if_neg m1, if_neg (fun w => m2 w.1)]
      have d2 := hd (s + 1) (by omega) (by omega)
      have d3 := hd (s + 2) (by omega) (by omega)
      rw [e2]
      refine ⟨fun _ => rfl, fun w => ?_⟩
      exfalso
      apply w
      by_cases z : t s = 48
      · exact Or.inr ⟨z, by omega⟩
      · left
        obtain ⟨k, hk⟩ : ∃ k : Nat, (e - s).toNat = k + 3 := ⟨(e - s).toNat - 3, by omega⟩
        rw [hk]
        show 99 < nmF t k (s + 1 + 1 + 1) (if (99 : Int) < (if (99 : Int) < (if (99 : Int) < 0 then 0 else 10 * 0 + t s - 48) then (if (99 : Int) < 0 then 0 else 10 * 0 + t s - 48) else 10 * (if (99 : Int) < 0 then 0 else 10 * 0 + t s - 48) + t (s + 1) - 48) then (if (99 : Int) < (if (99 : Int) < 0 then 0 else 10 * 0 + t s - 48) then (if (99 : Int) < 0 then 0 else 10 * 0 + t s - 48) else 10 * (if (99 : Int) < 0 then 0 else 10 * 0 + t s - 48) + t (s + 1) - 48) else 10 * (if (99 : Int) < (if (99 : Int) < 0 then 0 else 10 * 0 + t s - 48) then (if (99 : Int) < 0 then 0 else 10 * 0 + t s - 48) else 10 * (if (99 : Int) < 0 then 0 else 10 * 0 + t s - 48) + t (s + 1) - 48) + t (s + 1 + 1) - 48)
        rw [if_neg (by omega : ¬ (99 : Int) < 0), if_neg (by omega : ¬ (99 : Int) < 10 * 0 + t s - 48), if_neg (by omega), show s + 1 + 1 = s + 2 by omega, nm_big _ _ _ (by omega)]
        omega
