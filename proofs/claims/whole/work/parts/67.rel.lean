/-! what the class holds and what the model holds: told and today -/
def TD (hC hM : Hp) : Prop := hC 2 5 = hM 0 2 ∧ hC 2 4 = hM 0 0 ∧ ag (hM 0 0) (hM 1) (hC 13) ∧ ∀ c, 0 ≤ c → c < hM 0 2 → hC 14 c = hM 2 (2 * c) ∧ hC 15 c = hM 2 (2 * c + 1) ∧ hC 16 c = hM 3 c
/-- a day: the class's rows from a on, and a block of the model's -/
def DY (n : Int) (hC : Hp) (a : Nat) (s : Int → Int) : Prop := ∀ c, 0 ≤ c → c < n → hC a c = s c ∧ hC (a + 1) c = s (5 + c) ∧ hC (a + 2) c = bit (s 10) c ∧ hC (a + 3) c = s (12 + c)
section RL
variable {hC hM : Hp}
theorem gain_eq (t : TD hC hM) {w s : Int → Int} {ill c : Int} (hc : 0 ≤ c ∧ c < hM 0 2) (hw : w c = s c) (hr : 0 ≤ s c ∧ s c < hM 0 2) (hz : hC 23 c = bit (s 10) c) : gainW hC w ill c = sGain (hM 3) (fun c => hM 2 (2 * c)) s ill c := by
  unfold gainW sGain
  rw [hw, hz, (t.2.2.2 c hc.1 hc.2).1, (t.2.2.2 (s c) hr.1 hr.2).2.2]
theorem cAl_eq (t : TD hC hM) (hn : hM 0 2 ≤ 5) {s : Int → Int} {c b : Int} (hc : 0 ≤ c ∧ c < hM 0 2) (hl : hC 2 6 = sumZ (hC 13) (hC 2 4).toNat) (hcl : 0 ≤ hM 0 0) (h1 : hC 21 c = s c) (h2 : hC 22 c = s (5 + c)) (hr : 0 ≤ s c ∧ s c < hM 0 2) (hz : b = bit (s 10) c) : cAl hC c b = aloneS hM s c := by
  unfold cAl cG aloneS sGain
  rw [h1, h2, hz, (t.2.2.2 c hc.1 hc.2).1, (t.2.2.2 (s c) hr.1 hr.2).2.2, hl, t.2.1, bit_0, if_pos rfl]
  congr 2
  exact sumZ_congr (fun i a q => (t.2.2.1 i a (by omega)).symm)
end RL
