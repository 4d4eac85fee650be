/-! the text read, as values: cells and costs, chairs, weights, policies, strengths -/
abbrev PS : Type := Int × (Int → Int) × Int × (Int → Int) × (Int → Int) × (Int → Int)
def cellsF (t : Int → Int) (L : Int) : Nat → Int → (Int → Int) → Int → Int ⊕ ((Int × (Int → Int)) × Int)
  | 0, _, _, q => .inl (tS t L q)
  | k + 1, nc, cost, q => if tK t L q = 59 ∧ 0 < nc then .inr ((nc, cost), q) else if costZ (tK t L q) = 0 ∨ nc = 16 then .inl (tS t L q) else cellsF t L k (nc + 1) (up cost nc (costZ (tK t L q))) (tE t L q)
def numB (t : Int → Int) (L p lo hi : Int) : Bool := decide (tK t L p = -2) && (decide (lo ≤ tV t L p) && decide (tV t L p ≤ hi))
theorem numB_t {t : Int → Int} {L p lo hi : Int} : numB t L p lo hi = true ↔ tK t L p = -2 ∧ lo ≤ tV t L p ∧ tV t L p ≤ hi := by
  unfold numB
  rw [Bool.and_eq_true, Bool.and_eq_true, decide_eq_true_iff, decide_eq_true_iff, decide_eq_true_iff]
def itemF (t : Int → Int) (L : Int) (S : PS) (p : Int) : Int ⊕ (PS × Int) :=
  if tK t L p = 108 then
    (if S.1 = 0 then (match cellsF t L 17 0 S.2.1 (tE t L p) with
      | .inl f => .inl f
      | .inr r => .inr ((r.1.1, r.1.2, S.2.2), tE t L r.2)) else .inl (tS t L p))
  else if tK t L p = 99 then
    (if S.2.2.1 < 5 then
      (if numB t L (tE t L p) 1 9 = true then
        (if numB t L (tE t L (tE t L p)) 0 3 = true then
          (if tK t L (tE t L (tE t L (tE t L p))) = 59 then .inr ((S.1, S.2.1, S.2.2.1 + 1, up S.2.2.2.1 S.2.2.1 (tV t L (tE t L p)), up S.2.2.2.2.1 S.2.2.1 (tV t L (tE t L (tE t L p))), up S.2.2.2.2.2 S.2.2.1 5), tE t L (tE t L (tE t L (tE t L p)))) else .inl (tS t L (tE t L (tE t L (tE t L p)))))
        else .inl (tS t L (tE t L (tE t L p))))
      else .inl (tS t L (tE t L p)))
    else .inl (tS t L p))
  else if tK t L p = 112 then
    (if numB t L (tE t L p) 0 (S.2.2.1 - 1) = true then
      (if numB t L (tE t L (tE t L p)) 1 9 = true then
        (if tK t L (tE t L (tE t L (tE t L p))) = 59 then .inr ((S.1, S.2.1, S.2.2.1, S.2.2.2.1, S.2.2.2.2.1, up S.2.2.2.2.2 (tV t L (tE t L p)) (tV t L (tE t L (tE t L p)))), tE t L (tE t L (tE t L (tE t L p)))) else .inl (tS t L (tE t L (tE t L (tE t L p)))))
      else .inl (tS t L (tE t L (tE t L p))))
    else .inl (tS t L (tE t L p)))
  else .inl (tS t L p)
def parseF (t : Int → Int) (L : Int) : Nat → PS → Int → Int → Int ⊕ (PS × Int)
  | 0, _, _, _ => .inl 0
  | k + 1, S, p, it => if tK t L p = -1 then .inr (S, it) else (match itemF t L S p with
      | .inl f => .inl f
      | .inr r => parseF t L k r.1 r.2 (it + 1))
def PS0 : PS := (0, fun _ => 0, 0, fun _ => 0, fun _ => 0, fun _ => 0)
/-- what is read is in order -/
def PSok (S : PS) : Prop := (0 ≤ S.1 ∧ S.1 ≤ 16) ∧ (∀ i, 0 ≤ i → i < S.1 → 2 ≤ S.2.1 i ∧ S.2.1 i ≤ 8) ∧ (0 ≤ S.2.2.1 ∧ S.2.2.1 ≤ 5) ∧ ∀ c, 0 ≤ c → c < S.2.2.1 → (1 ≤ S.2.2.2.1 c ∧ S.2.2.2.1 c ≤ 9) ∧ (0 ≤ S.2.2.2.2.1 c ∧ S.2.2.2.2.1 c ≤ 3) ∧ 1 ≤ S.2.2.2.2.2 c ∧ S.2.2.2.2.2 c ≤ 9
theorem costZ_v {c : Int} (h : ¬ costZ c = 0) : 2 ≤ costZ c ∧ costZ c ≤ 8 := by
  unfold costZ at h ⊢
  repeat' split at h <;> simp_all
theorem tK_lt {t : Int → Int} {L p : Int} (hp : p ≤ L) (h : ¬ tK t L p = -1) : tS t L p < L ∧ p < tE t L p := by
  have h1 := tS_r (t := t) hp
  have h2 := eE_r (t := t) h1.2
  have h3 : tS t L p < L := by
    apply Classical.byContradiction
    intro q
    apply h
    unfold tK eK
    rw [if_neg q]
  have := h2.2.2 h3
  unfold tE
  exact ⟨h3, by omega⟩
theorem cells_ok {t : Int → Int} {L : Int} : ∀ (k : Nat) (nc : Int) (cost : Int → Int) (q : Int) (r : (Int × (Int → Int)) × Int), 0 ≤ nc → nc + k = 17 → q ≤ L → 0 ≤ q → (∀ i, 0 ≤ i → i < nc → 2 ≤ cost i ∧ cost i ≤ 8) → cellsF t L k nc cost q = .inr r → (0 < r.1.1 ∧ r.1.1 ≤ 16) ∧ (∀ i, 0 ≤ i → i < r.1.1 → 2 ≤ r.1.2 i ∧ r.1.2 i ≤ 8) ∧ q ≤ r.2 ∧ r.2 ≤ L ∧ tK t L r.2 = 59 := by
  intro k
  induction k with
  | zero => intro nc cost q r _ _ _ _ _ h; cases h
  | succ k ih =>
    intro nc cost q r h0 h1 hq hq0 hc h
    unfold cellsF at h
    by_cases c1 : tK t L q = 59 ∧ 0 < nc
    · rw [if_pos c1] at h
      cases h
      exact ⟨⟨c1.2, by show nc ≤ 16; omega⟩, hc, Int.le_refl _, hq, c1.1⟩
    · rw [if_neg c1] at h
      by_cases c2 : costZ (tK t L q) = 0 ∨ nc = 16
      · rw [if_pos c2] at h; cases h
      · rw [if_neg c2] at h
        have hE := tE_r (t := t) hq
        have := ih (nc + 1) _ (tE t L q) r (by omega) (by omega) hE.2 (by omega) (fun i a b => by
          by_cases e : i = nc
          · subst e; rw [up_s]; exact costZ_v (fun w => c2 (Or.inl w))
          · rw [up_n e]; exact hc i a (by omega)) h
        exact ⟨this.1, this.2.1, by omega, this.2.2.2⟩
theorem item_ok {t : Int → Int} {L : Int} {S : PS} {p : Int} {r : PS × Int} (hp : 0 ≤ p ∧ p ≤ L) (hS : PSok S) (h : itemF t L S p = .inr r) : PSok r.1 ∧ p < r.2 ∧ r.2 ≤ L := by
  have e1 := tE_r (t := t) hp.2
  have e2 := tE_r (t := t) e1.2
  have e3 := tE_r (t := t) e2.2
  have e4 := tE_r (t := t) e3.2
  obtain ⟨s1, s2, s3, s4⟩ := hS
  unfold itemF at h
  by_cases k1 : tK t L p = 108
  · rw [if_pos k1] at h
    have hl := tK_lt hp.2 (by rw [k1]; decide)
    by_cases z : S.1 = 0
    · rw [if_pos z] at h
      cases hc : cellsF t L 17 0 S.2.1 (tE t L p) with
      | inl f => rw [hc] at h; cases h
      | inr q =>
        rw [hc] at h
        have hk := cells_ok 17 0 _ _ q (by omega) (by omega) e1.2 (by omega) (fun i a b => by omega) hc
        have h := Sum.inr.inj h
        subst h
        have hq := tE_r (t := t) hk.2.2.2.1
        exact ⟨⟨⟨by show 0 ≤ q.1.1; omega, hk.1.2⟩, hk.2.1, s3, s4⟩, by show p < tE t L q.2; omega, hq.2⟩
    · rw [if_neg z] at h; cases h
  · rw [if_neg k1] at h
    by_cases k2 : tK t L p = 99
    · rw [if_pos k2] at h
      have hl := tK_lt hp.2 (by rw [k2]; decide)
      by_cases z : S.2.2.1 < 5
      · rw [if_pos z] at h
        by_cases n1 : numB t L (tE t L p) 1 9 = true
        · rw [if_pos n1] at h
          by_cases n2 : numB t L (tE t L (tE t L p)) 0 3 = true
          · rw [if_pos n2] at h
            by_cases n3 : tK t L (tE t L (tE t L (tE t L p))) = 59
            · rw [if_pos n3] at h
              have h := Sum.inr.inj h
              subst h
              have v1 := numB_t.mp n1
              have v2 := numB_t.mp n2
              refine ⟨⟨s1, s2, ⟨by show 0 ≤ S.2.2.1 + 1; omega, by show S.2.2.1 + 1 ≤ 5; omega⟩, fun c a b => ?_⟩, by dsimp only; omega, e4.2⟩
              dsimp only at b ⊢
              by_cases q : c = S.2.2.1
              · subst q; rw [up_s, up_s, up_s]; omega
              · rw [up_n q, up_n q, up_n q]; exact s4 c a (by omega)
            · rw [if_neg n3] at h; cases h
          · rw [if_neg n2] at h; cases h
        · rw [if_neg n1] at h; cases h
      · rw [if_neg z] at h; cases h
    · rw [if_neg k2] at h
      by_cases k3 : tK t L p = 112
      · rw [if_pos k3] at h
        have hl := tK_lt hp.2 (by rw [k3]; decide)
        by_cases n1 : numB t L (tE t L p) 0 (S.2.2.1 - 1) = true
        · rw [if_pos n1] at h
          by_cases n2 : numB t L (tE t L (tE t L p)) 1 9 = true
          · rw [if_pos n2] at h
            by_cases n3 : tK t L (tE t L (tE t L (tE t L p))) = 59
            · rw [if_pos n3] at h
              have h := Sum.inr.inj h
              subst h
              have v1 := numB_t.mp n1
              have v2 := numB_t.mp n2
              refine ⟨⟨s1, s2, s3, fun c a b => ?_⟩, by dsimp only; omega, e4.2⟩
              dsimp only at b ⊢
              have := s4 c a b
              by_cases q : c = tV t L (tE t L p)
              · subst q; rw [up_s]; omega
              · rw [up_n q]; exact this
            · rw [if_neg n3] at h; cases h
          · rw [if_neg n2] at h; cases h
        · rw [if_neg n1] at h; cases h
      · rw [if_neg k3] at h; cases h
