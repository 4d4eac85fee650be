/-! fair handicaps: what the folds are -/
theorem lo_ch {b : Int → Int} : ∀ (k : Nat) (l lo : Int) (f : Int → Int), (∀ c : Int, 0 ≤ c → c < k → loF b k l lo ≤ b c + fill5 k l f (5 + c)) ∧ loF b k l lo ≤ lo ∧ (loF b k l lo = lo ∨ ∃ c : Int, 0 ≤ c ∧ c < k ∧ loF b k l lo = b c + fill5 k l f (5 + c)) := by
  intro k
  induction k with
  | zero => intro l lo f; exact ⟨fun c a b => by omega, Int.le_refl _, Or.inl rfl⟩
  | succ k ih =>
    intro l lo f
    have h := ih (l / 6) (if b k + l % 6 < lo then b k + l % 6 else lo) (up f (5 + k) (l % 6))
    have e : fill5 k (l / 6) (up f (5 + k) (l % 6)) (5 + (k : Int)) = l % 6 := by rw [f5_out k _ _ _ (Or.inl (Int.le_refl _)), up_s]
    show (∀ c : Int, 0 ≤ c → c < ((k + 1 : Nat) : Int) → loF b k (l / 6) _ ≤ b c + fill5 k (l / 6) (up f (5 + k) (l % 6)) (5 + c)) ∧ loF b k (l / 6) _ ≤ lo ∧ (loF b k (l / 6) _ = lo ∨ ∃ c : Int, 0 ≤ c ∧ c < ((k + 1 : Nat) : Int) ∧ loF b k (l / 6) _ = b c + fill5 k (l / 6) (up f (5 + k) (l % 6)) (5 + c))
    obtain ⟨h1, h2, h3⟩ := h
    generalize loF b k (l / 6) (if b k + l % 6 < lo then b k + l % 6 else lo) = X at *
    have hx : X ≤ b k + l % 6 ∧ X ≤ lo := by split at h2 <;> omega
    refine ⟨fun c a q => ?_, hx.2, ?_⟩
    · by_cases w : c = k
      · subst w; rw [e]; exact hx.1
      · exact h1 c a (by omega)
    · rcases h3 with h3 | ⟨c, a, q, h3⟩
      · split at h3
        · exact Or.inr ⟨k, by omega, by omega, by rw [e]; exact h3⟩
        · exact Or.inl h3
      · exact Or.inr ⟨c, a, by omega, h3⟩
theorem hi_ch {b : Int → Int} : ∀ (k : Nat) (l hi : Int) (f : Int → Int), (∀ c : Int, 0 ≤ c → c < k → b c + fill5 k l f (5 + c) ≤ hiF b k l hi) ∧ hi ≤ hiF b k l hi ∧ (hiF b k l hi = hi ∨ ∃ c : Int, 0 ≤ c ∧ c < k ∧ hiF b k l hi = b c + fill5 k l f (5 + c)) := by
  intro k
  induction k with
  | zero => intro l hi f; exact ⟨fun c a b => by omega, Int.le_refl _, Or.inl rfl⟩
  | succ k ih =>
    intro l hi f
    have h := ih (l / 6) (if hi < b k + l % 6 then b k + l % 6 else hi) (up f (5 + k) (l % 6))
    have e : fill5 k (l / 6) (up f (5 + k) (l % 6)) (5 + (k : Int)) = l % 6 := by rw [f5_out k _ _ _ (Or.inl (Int.le_refl _)), up_s]
    show (∀ c : Int, 0 ≤ c → c < ((k + 1 : Nat) : Int) → b c + fill5 k (l / 6) (up f (5 + k) (l % 6)) (5 + c) ≤ hiF b k (l / 6) _) ∧ hi ≤ hiF b k (l / 6) _ ∧ (hiF b k (l / 6) _ = hi ∨ ∃ c : Int, 0 ≤ c ∧ c < ((k + 1 : Nat) : Int) ∧ hiF b k (l / 6) _ = b c + fill5 k (l / 6) (up f (5 + k) (l % 6)) (5 + c))
    obtain ⟨h1, h2, h3⟩ := h
    generalize hiF b k (l / 6) (if hi < b k + l % 6 then b k + l % 6 else hi) = X at *
    have hx : b k + l % 6 ≤ X ∧ hi ≤ X := by split at h2 <;> omega
    refine ⟨fun c a q => ?_, hx.2, ?_⟩
    · by_cases w : c = k
      · subst w; rw [e]; exact hx.1
      · exact h1 c a (by omega)
    · rcases h3 with h3 | ⟨c, a, q, h3⟩
      · split at h3
        · exact Or.inr ⟨k, by omega, by omega, by rw [e]; exact h3⟩
        · exact Or.inl h3
      · exact Or.inr ⟨c, a, by omega, h3⟩
theorem su_ch : ∀ (k : Nat) (l s : Int) (f : Int → Int), suF k l s = s + sumZ (fun c => fill5 k l f (5 + c)) k := by
  intro k
  induction k with
  | zero => intro l s f; show s = s + 0; omega
  | succ k ih =>
    intro l s f
    show suF k (l / 6) (s + l % 6) = s + (sumZ (fun c => fill5 k (l / 6) (up f (5 + k) (l % 6)) (5 + c)) k + fill5 k (l / 6) (up f (5 + k) (l % 6)) (5 + (k : Int)))
    rw [f5_out k _ _ _ (Or.inl (Int.le_refl _)), up_s, ih (l / 6) _ (up f (5 + k) (l % 6))]
    omega
theorem loU_ch {v : Int → Int} : ∀ k : Nat, (∀ c : Int, 0 ≤ c → c < k → loU v k ≤ v c) ∧ (loU v k = 133 ∨ ∃ c : Int, 0 ≤ c ∧ c < k ∧ loU v k = v c) := by
  intro k
  induction k with
  | zero => exact ⟨fun c a b => by omega, Or.inl rfl⟩
  | succ k ih =>
    obtain ⟨h1, h2⟩ := ih
    show (∀ c : Int, 0 ≤ c → c < ((k + 1 : Nat) : Int) → (if v k < loU v k then v k else loU v k) ≤ v c) ∧ ((if v k < loU v k then v k else loU v k) = 133 ∨ ∃ c : Int, 0 ≤ c ∧ c < ((k + 1 : Nat) : Int) ∧ (if v k < loU v k then v k else loU v k) = v c)
    refine ⟨fun c a b => ?_, ?_⟩
    · by_cases w : c = k
      · subst w; split <;> omega
      · have := h1 c a (by omega)
        split <;> omega
    · split
      · exact Or.inr ⟨k, by omega, by omega, rfl⟩
      · rcases h2 with h2 | ⟨c, a, b, h2⟩
        · exact Or.inl h2
        · exact Or.inr ⟨c, a, by omega, h2⟩
theorem hiU_ch {v : Int → Int} : ∀ k : Nat, (∀ c : Int, 0 ≤ c → c < k → v c ≤ hiU v k) ∧ (hiU v k = 0 ∨ ∃ c : Int, 0 ≤ c ∧ c < k ∧ hiU v k = v c) := by
  intro k
  induction k with
  | zero => exact ⟨fun c a b => by omega, Or.inl rfl⟩
  | succ k ih =>
    obtain ⟨h1, h2⟩ := ih
    show (∀ c : Int, 0 ≤ c → c < ((k + 1 : Nat) : Int) → v c ≤ (if hiU v k < v k then v k else hiU v k)) ∧ ((if hiU v k < v k then v k else hiU v k) = 0 ∨ ∃ c : Int, 0 ≤ c ∧ c < ((k + 1 : Nat) : Int) ∧ (if hiU v k < v k then v k else hiU v k) = v c)
    refine ⟨fun c a b => ?_, ?_⟩
    · by_cases w : c = k
      · subst w; split <;> omega
      · have := h1 c a (by omega)
        split <;> omega
    · split
      · exact Or.inr ⟨k, by omega, by omega, rfl⟩
      · rcases h2 with h2 | ⟨c, a, b, h2⟩
        · exact Or.inl h2
        · exact Or.inr ⟨c, a, by omega, h2⟩
/-- the model's fold finds a code with the least spread and, among those, the least sum -/
theorem ffold_min {b : Int → Int} {n : Int} (hs : ∀ i : Nat, 0 ≤ sprF b n i) : ∀ N : Nat, 0 < N → ∃ j : Nat, j < N ∧ ffold b n N = (sprF b n j, sumF n j, D6 n j) ∧ ∀ i : Nat, i < N → sprF b n j < sprF b n i ∨ (sprF b n j = sprF b n i ∧ sumF n j ≤ sumF n i) := by
  intro N
  induction N with
  | zero => intro h; omega
  | succ N ih =>
    intro _
    have hsN := hs N
    by_cases z : N = 0
    · subst z
      refine ⟨0, by omega, ?_, fun i hi => ?_⟩
      · show fstep b n ((0 : Nat) : Int) (-1, 0, fun _ => 0) = _
        unfold fstep
        rw [if_pos (Or.inl (by show (-1 : Int) < 0; decide))]
      · have : i = 0 := by omega
        subst this
        exact Or.inr ⟨rfl, Int.le_refl _⟩
    · obtain ⟨j, hj, e, hm⟩ := ih (by omega)
      have hsj := hs j
      by_cases q : sprF b n N < sprF b n j ∨ (sprF b n N = sprF b n j ∧ sumF n N < sumF n j)
      · refine ⟨N, by omega, ?_, fun i hi => ?_⟩
        · show fstep b n N (ffold b n N) = _
          rw [e]
          unfold fstep
          rw [if_pos (Or.inr q)]
        · by_cases w : i = N
          · subst w; exact Or.inr ⟨rfl, Int.le_refl _⟩
          · have := hm i (by omega)
            omega
      · refine ⟨j, by omega, ?_, fun i hi => ?_⟩
        · show fstep b n N (ffold b n N) = _
          rw [e]
          unfold fstep
          rw [if_neg (fun y => y.elim (fun y => by have y : sprF b n j < 0 := y; omega) q)]
        · by_cases w : i = N
          · subst w; omega
          · exact hm i (by omega)
