section RL3
variable {hC hM : Hp}
theorem race_eq2 (hW : MW hM) (t : TD hC hM) {s hand' g' : Int → Int} {ill : Int} (hh : ag (hM 0 2) (fun c => s (5 + c)) hand') (hg : ag (hM 0 2) (sGain (hM 3) (fun c => hM 2 (2 * c)) s ill) g') (hgr : ∀ c, 0 ≤ c → c < hM 0 2 → 1 ≤ g' c ∧ g' c ≤ 20) (h5 : ∀ c, 0 ≤ c → c < hM 0 2 → s (5 + c) ≤ 5) : ∀ k, 0 ≤ k → k < hM 0 2 → (raceC (hC 13) (hC 2 4) (hC 2 5) hand' g' (hC 2 5)).2.2.1 k = (raceS hM s ill).2.2.1 k ∧ (raceC (hC 13) (hC 2 4) (hC 2 5) hand' g' (hC 2 5)).2.2.2.1 k = (raceS hM s ill).2.2.2.1 k := by
  have h1 := race_eq hW t hh hg hgr
  have h2 := raceC_full hW.1 (hand := fun c => s (5 + c)) (g := sGain (hM 3) (fun c => hM 2 (2 * c)) s ill) (fun c a b => by rw [hg c a b]; exact hgr c a b) h5 (Int.le_refl (hM 0 2))
  have h3 : hM 0 2 ≤ (raceS hM s ill).2.2.2.2 := h2.2
  exact fun k a b => ⟨(h1.2.2.1 k a b).symm, (h1.2.2.2.1 k a (by omega)).symm⟩
/-- today of the class and of the model -/
theorem race_day (hW : MW hM) (t : TD hC hM) (hs : NW (hM 0 2) (hM 4)) (hCw : CCh hC) (d : DY (hM 0 2) hC 21 (hM 4)) (ill : Int) : ∀ k, 0 ≤ k → k < hM 0 2 → (raceK hC 21 ill (hC 2 5)).2.2.1 k = (raceS hM (hM 4) ill).2.2.1 k ∧ (raceK hC 21 ill (hC 2 5)).2.2.2.1 k = (raceS hM (hM 4) ill).2.2.2.1 k := by
  have hwy : WY hC 21 := fun c a b => by
    rw [t.1] at b ⊢
    rw [(d c a b).1]
    exact ⟨(hs.1 c a b).1, (hs.1 c a b).2.1⟩
  refine race_eq2 hW t (fun c a b => (d c a b).2.1.symm) (fun c a b => ?_) (fun c a b => cGain_r hCw hwy ill ⟨a, by rw [t.1]; exact b⟩) (fun c a b => (hs.1 c a b).2.2.2)
  exact (gain_eq t (w := hC 21) ⟨a, b⟩ (d c a b).1 ⟨(hs.1 c a b).1, (hs.1 c a b).2.1⟩ (d c a b).2.2.1).symm
theorem win_day (hW : MW hM) (t : TD hC hM) (hs : NW (hM 0 2) (hM 4)) (hCw : CCh hC) (d : DY (hM 0 2) hC 21 (hM 4)) (ill : Int) : winK hC 21 ill = winI hM ill := (race_day hW t hs hCw d ill 0 (Int.le_refl _) hW.1.1).2
theorem win_way (hW : MW hM) (t : TD hC hM) (hs : NW (hM 0 2) (hM 4)) (hCw : CW hC) (d : DY (hM 0 2) hC 21 (hM 4)) (a : Nat) : winV hC (dgt (hC 2 5) a) = winW hM (dgt (hM 0 2) a) := by
  have hn := hW.1.1
  have hn5 := hW.1.2.1
  have hd := dgt_r hn (a : Int)
  rw [t.1]
  have ho : ∀ c, 0 ≤ c → c < hM 0 2 → ovr (dgt (hM 0 2) a) (hM 4) (hM 0 2) c = dgt (hM 0 2) a c := fun c x y => if_pos ⟨x, y⟩
  have ho5 : ∀ c, 0 ≤ c → c < hM 0 2 → ovr (dgt (hM 0 2) a) (hM 4) (hM 0 2) (5 + c) = hM 4 (5 + c) := fun c x y => if_neg (by omega)
  have ho10 : ovr (dgt (hM 0 2) a) (hM 4) (hM 0 2) 10 = hM 4 10 := if_neg (by omega)
  refine (race_eq2 hW t (s := ovr (dgt (hM 0 2) a) (hM 4) (hM 0 2)) (ill := 0) (hand' := hC 22) (g' := gainW hC (dgt (hM 0 2) a) 0) (fun c x y => ?_) (fun c x y => ?_) (fun c x y => ?_) (fun c x y => ?_) 0 (Int.le_refl _) hn).2
  · show ovr (dgt (hM 0 2) a) (hM 4) (hM 0 2) (5 + c) = _
    rw [ho5 c x y]; exact (d c x y).2.1.symm
  · exact (gain_eq t ⟨x, y⟩ (ho c x y).symm (by rw [ho c x y]; exact hd c x y) (by rw [ho10]; exact (d c x y).2.2.1)).symm
  · exact cGain_r (h := hput hC 38 (dgt (hM 0 2) a)) (a := 38) hCw.2 (fun e p q => by
      have q : e < hC 2 5 := q
      rw [t.1] at q
      show 0 ≤ dgt (hM 0 2) a e ∧ dgt (hM 0 2) a e < hC 2 5
      rw [t.1]
      exact hd e p q) 0 ⟨x, by show c < hC 2 5; rw [t.1]; exact y⟩
  · rw [ho5 c x y]; exact (hs.1 c x y).2.2.2
end RL3
