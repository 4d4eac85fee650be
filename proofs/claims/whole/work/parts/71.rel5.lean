/-- timed alike -/
def TM (hC hM : Hp) : Prop := hC 8 2 = hM 0 10 ∧ ∀ k, 0 ≤ k → k < hM 0 10 → hC 36 k = hM 8 (2 * k) ∧ hC 37 k = hM 8 (2 * k + 1)
theorem bit_pw {c : Int} (hc : 0 ≤ c ∧ c < 5) : bit (2 ^ c.toNat) c = 1 := by
  have : c = 0 ∨ c = 1 ∨ c = 2 ∨ c = 3 ∨ c = 4 := by omega
  rcases this with rfl | rfl | rfl | rfl | rfl <;> decide
section RL5
variable {hC hM : Hp}
theorem so_eq (hW : MW hM) (t : TD hC hM) (hs : NW (hM 0 2) (hM 4)) (d : DY (hM 0 2) hC 21 (hM 4)) (hl : hC 2 6 = sumZ (hC 13) (hC 2 4).toNat) (m : TM hC hM) {c g : Int} (hc : 0 ≤ c ∧ c < hM 0 2) (hg : g = 0 ∨ g = 1) : soC hC c g = soB hM c g := by
  have hn5 := hW.1.2.1
  have hcl := hW.1.2.2.1
  have hsc := hs.1 c hc.1 hc.2
  have hz : g = bit (up (hM 4) 10 (if g = 0 then 0 else 2 ^ c.toNat) 10) c := by
    rw [up_s]
    rcases hg with rfl | rfl
    · rw [if_pos rfl, bit_0]
    · rw [if_neg (by decide), bit_pw ⟨hc.1, by omega⟩]
  have ea : cAl hC c g = aloneS hM (up (hM 4) 10 (if g = 0 then 0 else 2 ^ c.toNat)) c := cAl_eq t hn5 hc hl (by omega) (by rw [up_n (by omega)]; exact (d c hc.1 hc.2).1) (by rw [up_n (by omega)]; exact (d c hc.1 hc.2).2.1) (by rw [up_n (by omega)]; exact ⟨hsc.1, hsc.2.1⟩) hz
  unfold soC soB
  rw [ea, m.1]
  congr 1
  refine anyB_congr (fun k a b => ?_)
  unfold cBd bdB
  rw [(m.2 k a (by omega)).1, (m.2 k a (by omega)).2]
theorem sus_eq (hW : MW hM) (t : TD hC hM) (hs : NW (hM 0 2) (hM 4)) (d : DY (hM 0 2) hC 21 (hM 4)) (hl : hC 2 6 = sumZ (hC 13) (hC 2 4).toNat) (m : TM hC hM) (ht : ∀ k, 0 ≤ k → k < hM 0 10 → 0 ≤ hM 8 (2 * k) ∧ hM 8 (2 * k) < hM 0 2) (hm : 0 ≤ hM 0 10) {gu e : Int} (he : 0 ≤ e) : (decide (e < hC 2 5) && susC hC gu e) = anyB (tmB hM gu e) (hM 0 10).toNat := by
  rw [t.1]
  by_cases q : e < hM 0 2
  · have e0 := so_eq hW t hs d hl m (c := e) (g := 0) ⟨he, q⟩ (Or.inl rfl)
    have e1 := so_eq hW t hs d hl m (c := e) (g := 1) ⟨he, q⟩ (Or.inr rfl)
    have es : susC hC gu e = susB hM gu e := by unfold susC susB; rw [e0, e1]
    rw [decide_eq_true q, Bool.true_and, es]
    cases z : susB hM gu e with
    | true =>
      symm
      have z2 : soB hM e 0 = false := by
        unfold susB at z
        cases y : soB hM e 0 with
        | false => rfl
        | true => rw [y] at z; exact absurd z (by simp)
      unfold soB at z2
      rw [Bool.not_eq_false'] at z2
      obtain ⟨k, a, b, w⟩ := anyB_iff.mp z2
      refine anyB_iff.mpr ⟨k, a, b, ?_⟩
      unfold tmB
      unfold bdB at w
      rw [Bool.and_eq_true] at w
      rw [w.1, z]
      rfl
    | false =>
      symm
      cases y : anyB (tmB hM gu e) (hM 0 10).toNat with
      | false => rfl
      | true =>
        obtain ⟨k, a, b, w⟩ := anyB_iff.mp y
        unfold tmB at w
        rw [z, Bool.and_false] at w
        exact absurd w (by decide)
  · rw [decide_eq_false q, Bool.false_and]
    symm
    cases y : anyB (tmB hM gu e) (hM 0 10).toNat with
    | false => rfl
    | true =>
      obtain ⟨k, a, b, w⟩ := anyB_iff.mp y
      unfold tmB at w
      rw [Bool.and_eq_true, decide_eq_true_iff] at w
      have := ht k a (by omega)
      omega
end RL5
