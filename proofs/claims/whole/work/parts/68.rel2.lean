theorem zf_zz {n : Int} : zf (fun _ => 0) n = fun _ => 0 := by
  funext i
  unfold zf
  split <;> rfl
theorem rOK_0 {cost : Int → Int} {cl n : Int} (hC : CP cost cl n) : rOK cost cl n ((fun _ => 0, fun _ => 0, fun _ => 0, fun _ => 0, 0) : RS) := by
  have h := rZ_ok hC (f1 := fun _ => 0) (f2 := fun _ => 0) (f3 := fun _ => 0) (f4 := fun _ => 0)
  unfold rZ at h
  rw [zf_zz] at h
  exact h
section RL2
variable {hC hM : Hp}
theorem race_eq (hW : MW hM) (t : TD hC hM) {s hand' g' : Int → Int} {ill : Int} (hh : ag (hM 0 2) (fun c => s (5 + c)) hand') (hg : ag (hM 0 2) (sGain (hM 3) (fun c => hM 2 (2 * c)) s ill) g') (hgr : ∀ c, 0 ≤ c → c < hM 0 2 → 1 ≤ g' c ∧ g' c ≤ 20) : rAg (hM 0 2) (raceS hM s ill) (raceC (hC 13) (hC 2 4) (hC 2 5) hand' g' (hC 2 5)) := by
  have hn := hW.1.1
  rw [t.1, t.2.1]
  unfold raceS raceC
  rw [← race_cg hW.1 t.2.2.1 hgr 1000 1 _ (by omega) (by omega) (rOK_0 hW.1)]
  exact race_ag (by omega) hh hg 1000 1 _ _ ⟨ag_rf, ag_rf, ag_rf, fun _ _ _ => rfl, rfl⟩
end RL2
