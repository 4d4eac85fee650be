theorem odd_cg {n : Int} {f g : Int → Int} {c x : Int} : ∀ i : Nat, (∀ k : Nat, k < i → f k = g k) → oddF n f c x i = oddF n g c x i := by
  intro i
  induction i with
  | zero => intro _; rfl
  | succ i ih =>
    intro h
    rw [oddF_s, oddF_s, ih (fun k a => h k (by omega)), h i (by omega)]
section RL4
variable {hC hM : Hp}
theorem odds_eq (hW : MW hM) (t : TD hC hM) (hs : NW (hM 0 2) (hM 4)) (hCw : CCh hC) (d : DY (hM 0 2) hC 21 (hM 4)) {c x : Int} : oddF (hC 2 5) (winK hC 21) c x (2 ^ (hC 2 5).toNat) = oddF (hM 0 2) (winI hM) c x (2 ^ (hM 0 2).toNat) := by
  rw [t.1]
  exact odd_cg _ (fun k _ => win_day hW t hs hCw d k)
/-- a bit as the class has it -/
theorem grease_up {s : Int → Int} {n c i : Int} {f : Int → Int} (hn : n ≤ 5) (hc : 0 ≤ c ∧ c < n) (hs : 0 ≤ s 10 ∧ s 10 < 32) (hf : ∀ e, 0 ≤ e → e < n → f e = bit (s 10) e) (hi : 0 ≤ i ∧ i ≤ 1) (hb : ¬ bit (s 10) c = i) (hx : ∀ e, 0 ≤ e → e < 5 → bit (gx (s 10) c) e = if e = c then 1 - bit (s 10) c else bit (s 10) e) : ∀ e, 0 ≤ e → e < n → up f c i e = bit (gx (s 10) c) e := fun e a b => by
  rw [hx e a (by omega)]
  by_cases q : e = c
  · subst q
    rw [up_s, if_pos rfl]
    have := bit_z (s 10) e
    omega
  · rw [up_n q, if_neg q]
    exact hf e a b
theorem gx_fin : ∀ a : Fin 32, ∀ c : Fin 5, (0 ≤ gx (a.val : Int) (c.val : Int) ∧ gx (a.val : Int) (c.val : Int) < 32) ∧ ∀ d : Fin 5, bit (gx (a.val : Int) (c.val : Int)) (d.val : Int) = if d = c then 1 - bit (a.val : Int) (c.val : Int) else bit (a.val : Int) (d.val : Int) := by decide +kernel
theorem gx_b {a c d : Int} (ha : 0 ≤ a ∧ a < 32) (hc : 0 ≤ c ∧ c < 5) (hd : 0 ≤ d ∧ d < 5) : bit (gx a c) d = if d = c then 1 - bit a c else bit a d := by
  have := (gx_fin ⟨a.toNat, by omega⟩ ⟨c.toNat, by omega⟩).2 ⟨d.toNat, by omega⟩
  dsimp only at this
  rw [Int.toNat_of_nonneg ha.1, Int.toNat_of_nonneg hc.1, Int.toNat_of_nonneg hd.1] at this
  rw [this]
  by_cases q : d = c
  · rw [if_pos q, if_pos (by subst q; rfl)]
  · rw [if_neg q, if_neg (fun w => q (by have := congrArg Fin.val w; dsimp only at this; omega))]
end RL4
