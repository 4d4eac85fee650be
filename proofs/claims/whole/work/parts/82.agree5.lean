theorem perC_o {k : Nat} (h : perC k = true) : k ≠ 1 ∧ k ≠ 3 ∧ (k < 17 ∨ 20 < k) := by
  refine ⟨?_, ?_, ?_⟩
  · rintro rfl; exact absurd h (by decide)
  · rintro rfl; exact absurd h (by decide)
  · by_cases q : k < 17
    · exact Or.inl q
    · by_cases q2 : 20 < k
      · exact Or.inr q2
      · have : k = 17 ∨ k = 18 ∨ k = 19 ∨ k = 20 := by omega
        rcases this with rfl | rfl | rfl | rfl <;> exact absurd h (by decide)
theorem PD.ps {h h' : Hp} (p : PD h h') : PsC h h' := ⟨fun k hk => p.1 k (perC_o hk).1 (perC_o hk).2.1 (perC_o hk).2.2, p.2⟩
section AG5
variable {hC hM : Hp} {c : Int}
theorem spa_rel (r : Rel hC hM) {H h'' : Hp} {S : PS} (sd : SD H S) (so : PSok S) (pd : PD hC H) (st : StM hM h'' S) : Rel (spN H) h'' := by
  obtain ⟨⟨s1, s2, s3, s4, s5, s6⟩, s7, s8, s9, s10, s11, s12⟩ := st
  obtain ⟨t1, t2, t3, t4, t5⟩ := sd
  obtain ⟨o1, o2, o3, o4⟩ := so
  have cp : ∀ (f g : Int → Int) (m i : Int), 0 ≤ i → i < m → cpy f g 0 0 m i = f i := fun f g m i a b => by
    unfold cpy
    rw [if_pos (by omega), show (0 : Int) + (i - 0) = i by omega]
  have p5 : ∀ (f g : Int → Int) (i : Int), 0 ≤ i → i < 5 → pf f g 5 i = f i := fun f g i a b => if_pos ⟨a, b⟩
  refine ⟨⟨?_, ?_, fun i a b => ?_, fun c a b => ⟨?_, ?_, ?_⟩⟩, ⟨?_, ?_, fun i a b => ?_, fun c a b => ?_, fun c a b => ?_⟩, ?_, ⟨⟨fun c a b => ⟨?_, ?_, ?_, ?_⟩, ?_⟩, ⟨⟨fun c a b => ?_, ?_⟩, fun c a b => ?_, ?_, ?_⟩, fun c a b => ?_⟩, ⟨?_, ?_, fun k a b => ?_⟩, ⟨⟨?_, Or.inl s10, fun c a b => ?_, fun w => ?_⟩, ⟨?_, Or.inl s11, fun c a b => ?_, fun w => ?_⟩⟩, ⟨?_, ?_, ?_, fun i a b => ?_⟩, ⟨⟨?_, fun k a b => ?_⟩, ?_, fun k a b => ?_⟩, ?_⟩
  · show H 3 5 = h'' 0 2
    rw [t3, s2]
  · show H 3 4 = h'' 0 0
    rw [t1, s1]
  · show h'' 1 i = cpy (H 17) (H 13) 0 0 16 i
    rw [s1] at b
    rw [s7 i a b, cp _ _ 16 i a (by omega), t2 i a b]
  · show cpy (H 18) (H 14) 0 0 5 c = h'' 2 (2 * c)
    rw [s2] at b
    rw [cp _ _ 5 c a (by omega), (s8 c a b).1, (t4 c a b).1]
  · show cpy (H 19) (H 15) 0 0 5 c = h'' 2 (2 * c + 1)
    rw [s2] at b
    rw [cp _ _ 5 c a (by omega), (s8 c a b).2.1, (t4 c a b).2.1]
  · show cpy (H 20) (H 16) 0 0 5 c = h'' 3 c
    rw [s2] at b
    rw [cp _ _ 5 c a (by omega), (s8 c a b).2.2, (t4 c a b).2.2]
  · rw [s2]; exact o3
  · rw [s1]; exact o1
  · rw [s1] at b
    rw [s7 i a b]
    exact o2 i a b
  · rw [s2] at b
    rw [(s8 c a b).1, (s8 c a b).2.2]
    have := o4 c a b
    omega
  · rw [s2] at b
    rw [(s8 c a b).2.1]
    exact (o4 c a b).2.1
  · show H 3 6 = sumZ (cpy (H 17) (H 13) 0 0 16) (H 3 4).toNat
    rw [t5, t1]
    exact sumZ_congr (fun i a b => by rw [cp _ _ 16 i a (by omega), t2 i a (by omega)])
  · show pf (fun i => i) _ 5 c = h'' 4 c
    rw [s2] at b
    rw [p5 _ _ c a (by omega), s9 c a (by omega), if_pos (by omega)]
  · show pf (fun _ => 0) _ 5 c = h'' 4 (5 + c)
    rw [s2] at b
    rw [p5 _ _ c a (by omega), s9 (5 + c) (by omega) (by omega), if_neg (by omega)]
  · show pf (fun _ => 0) _ 5 c = bit (h'' 4 10) c
    rw [s2] at b
    rw [p5 _ _ c a (by omega), s9 10 (by omega) (by omega), if_neg (by omega), bit_0]
  · show pf (fun _ => 0) _ 5 c = h'' 4 (12 + c)
    rw [s2] at b
    rw [p5 _ _ c a (by omega), s9 (12 + c) (by omega) (by omega), if_neg (by omega)]
  · show (0 : Int) = h'' 4 11
    rw [s9 11 (by omega) (by omega), if_neg (by omega)]
  · rw [s2] at b ⊢
    rw [s9 c a (by omega), if_pos (by omega), s9 (5 + c) (by omega) (by omega), if_neg (by omega)]
    omega
  · rw [s9 10 (by omega) (by omega), if_neg (by omega)]
    omega
  · rw [s2] at b
    rw [s9 (12 + c) (by omega) (by omega), if_neg (by omega)]
    omega
  · rw [s9 11 (by omega) (by omega), if_neg (by omega), s2]
    have z : ∀ k : Nat, sumZ (fun _ => (0 : Int)) k = 0 := fun k => by
      induction k with
      | zero => rfl
      | succ k ih => show sumZ (fun _ => (0 : Int)) k + 0 = 0; omega
    rw [sumZ_congr (g := fun _ => (0 : Int)) (fun c a b => by rw [s9 (12 + c) (by omega) (by omega), if_neg (by omega)]), z]
  · rw [s9 11 (by omega) (by omega), if_neg (by omega)]
    omega
  · left
    show pf (fun _ => 0) _ 5 c = 0
    rw [p5 _ _ c a b]
  · show (0 : Int) = h'' 0 7
    exact s3.symm
  · rw [s3]; omega
  · rw [s3] at b; omega
  · show (0 : Int) = h'' 7 0
    exact s10.symm
  · show H 27 c = 0 ∨ H 27 c = 1
    rw [pd.1 27 (by decide) (by decide) (by decide)]
    exact r.im.1.2.2.1 c a b
  · rw [s10] at w; exact absurd w (by decide)
  · show (0 : Int) = h'' 7 1
    exact s11.symm
  · show H 31 c = 0 ∨ H 31 c = 1
    rw [pd.1 31 (by decide) (by decide) (by decide)]
    exact r.im.2.2.2.1 c a b
  · rw [s11] at w; exact absurd w (by decide)
  · show (0 : Int) = h'' 0 14
    exact s6.symm
  · show H 12 = h'' 9
    rw [pd.1 12 (by decide) (by decide) (by decide), s12]
    exact r.tx.2.1
  · rw [s6]; omega
  · rw [s6] at b; omega
  · show (0 : Int) = h'' 0 10
    exact s4.symm
  · rw [s4] at b; omega
  · rw [s4]; omega
  · rw [s4] at b; omega
  · show H 10 0 = h'' 0 12
    rw [pd.1 10 (by decide) (by decide) (by decide), s5]
    exact r.tr
theorem a_spa (r : Rel hC hM) : Agr hC hM mX8_spa mX9_spa [] := by
  obtain ⟨e1, e2, e3⟩ := r.tx
  refine ⟨_, _, c_spa (by rw [e1, e2]; exact e3), m_spa e3, ?_⟩
  rintro x h' y h'' px py
  rcases px with ⟨f, p1, rfl, p3⟩ | ⟨q, H, p1, rfl, p3, p4, p5, rfl⟩
  · rw [e1, e2] at p1
    rcases py with ⟨f2, q1, rfl, q3⟩ | ⟨q2, q1, rfl, q3, q4⟩
    · have e : f = f2 := Sum.inl.inj (p1.symm.trans q1)
      subst e
      exact ⟨rfl, r.ps p3.ps q3⟩
    · exact absurd (p1.symm.trans q1) (by intro w; cases w)
  · rw [e1, e2] at p1
    rcases py with ⟨f2, q1, rfl, q3⟩ | ⟨q2, q1, rfl, q3, q4⟩
    · exact absurd (p1.symm.trans q1) (by intro w; cases w)
    · have e : q = q2 := Sum.inr.inj (p1.symm.trans q1)
      subst e
      exact ⟨rfl, spa_rel r p3 p4 p5 q3⟩
end AG5
