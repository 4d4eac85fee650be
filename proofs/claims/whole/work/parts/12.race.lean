/-! THE RACE, as numbers: cell, points, time, places, how many are in -/
abbrev RS : Type := (Int → Int) × (Int → Int) × (Int → Int) × (Int → Int) × Int
def anyB (p : Int → Bool) : Nat → Bool
  | 0 => false
  | k + 1 => anyB p k || p k
theorem anyB_iff {p : Int → Bool} {k : Nat} : anyB p k = true ↔ ∃ e : Int, 0 ≤ e ∧ e < k ∧ p e = true := by
  induction k with
  | zero => exact ⟨fun h => (by cases h), fun ⟨e, h1, h2, _⟩ => (by omega)⟩
  | succ k ih =>
    unfold anyB
    rw [Bool.or_eq_true, ih]
    constructor
    · rintro (⟨e, h1, h2, h3⟩ | h)
      · exact ⟨e, h1, by omega, h3⟩
      · exact ⟨k, by omega, by omega, h⟩
    · rintro ⟨e, h1, h2, h3⟩
      by_cases q : e = k
      · subst q; exact Or.inr h3
      · exact Or.inl ⟨e, h1, by omega, h3⟩
def cntB (p : Int → Bool) : Nat → Int
  | 0 => 0
  | k + 1 => cntB p k + (if p k = true then 1 else 0)
theorem cntB_rng (p : Int → Bool) : ∀ k : Nat, 0 ≤ cntB p k ∧ cntB p k ≤ k
  | 0 => ⟨Int.le_refl _, Int.le_refl _⟩
  | k + 1 => by
    have h := cntB_rng p k
    unfold cntB
    constructor
    · split <;> omega
    · split <;> omega
theorem cntB_lt {p : Int → Bool} : ∀ {k : Nat} (c : Int), 0 ≤ c → c < k → p c = false → cntB p k < k
  | 0, c, h0, h1, _ => by omega
  | k + 1, c, h0, h1, h2 => by
    unfold cntB
    by_cases q : c = k
    · subst q
      have := cntB_rng p k
      rw [if_neg (by rw [h2]; decide)]
      omega
    · have := cntB_lt (k := k) c h0 (by omega) h2
      split <;> omega
theorem cntB_all {p : Int → Bool} : ∀ {k : Nat}, (∀ c : Int, 0 ≤ c → c < k → p c = true) → cntB p k = k
  | 0, _ => rfl
  | k + 1, h => by
    unfold cntB
    rw [cntB_all (fun c h0 h1 => h c h0 (by omega)), if_pos (h k (by omega) (by omega))]
    omega
theorem cntB_full {p : Int → Bool} {k : Nat} (h : cntB p k = k) : ∀ c : Int, 0 ≤ c → c < k → p c = true := by
  intro c h0 h1
  cases hp : p c with
  | true => rfl
  | false => have := cntB_lt c h0 h1 hp; omega
theorem cntB_congr {p q : Int → Bool} : ∀ {k : Nat}, (∀ c : Int, 0 ≤ c → c < k → p c = q c) → cntB p k = cntB q k
  | 0, _ => rfl
  | k + 1, h => by
    unfold cntB
    rw [cntB_congr (fun c h0 h1 => h c h0 (by omega)), h k (by omega) (by omega)]
theorem cntB_set {p q : Int → Bool} : ∀ {k : Nat} (c : Int), 0 ≤ c → c < k → p c = false → q c = true → (∀ e : Int, 0 ≤ e → e < k → e ≠ c → p e = q e) → cntB q k = cntB p k + 1
  | 0, c, h0, h1, _, _, _ => by omega
  | k + 1, c, h0, h1, h2, h3, h4 => by
    unfold cntB
    by_cases e : c = k
    · subst e
      rw [cntB_congr (p := p) (q := q) (fun e a b => h4 e a (by omega) (by omega)), if_pos h3, if_neg (by rw [h2]; decide)]
      omega
    · rw [cntB_set c h0 (by omega) h2 h3 (fun e a b d => h4 e a (by omega) d), h4 k (by omega) (by omega) (by omega)]
      omega
def sumZ (f : Int → Int) : Nat → Int
  | 0 => 0
  | k + 1 => sumZ f k + f k
theorem sumZ_congr {f g : Int → Int} : ∀ {k : Nat}, (∀ c : Int, 0 ≤ c → c < k → f c = g c) → sumZ f k = sumZ g k
  | 0, _ => rfl
  | k + 1, h => by
    unfold sumZ
    rw [sumZ_congr (fun c h0 h1 => h c h0 (by omega)), h k (by omega) (by omega)]
theorem sumZ_le {f g : Int → Int} : ∀ {k : Nat}, (∀ c : Int, 0 ≤ c → c < k → f c ≤ g c) → sumZ f k ≤ sumZ g k
  | 0, _ => Int.le_refl _
  | k + 1, h => by
    unfold sumZ
    have h1 := sumZ_le (fun c h0 h1 => h c h0 (by omega)) (k := k)
    have h2 := h k (by omega) (by omega)
    omega
theorem sumZ_lt {f g : Int → Int} : ∀ {k : Nat} (c : Int), 0 ≤ c → c < k → (∀ c : Int, 0 ≤ c → c < k → f c ≤ g c) → f c < g c → sumZ f k < sumZ g k
  | 0, c, h0, h1, _, _ => by omega
  | k + 1, c, h0, h1, h2, h3 => by
    unfold sumZ
    by_cases e : c = k
    · subst e
      have h1 := sumZ_le (fun c h0 h1 => h2 c h0 (by omega)) (k := k)
      omega
    · have h1 := sumZ_lt (k := k) c h0 (by omega) (fun c h0 h1 => h2 c h0 (by omega)) h3
      have h2 := h2 k (by omega) (by omega)
      omega
theorem sumZ_bd {f : Int → Int} {b : Int} : ∀ {k : Nat}, (∀ c : Int, 0 ≤ c → c < k → f c ≤ b) → sumZ f k ≤ k * b
  | 0, _ => by simp [sumZ]
  | k + 1, h => by
    unfold sumZ
    have h1 := sumZ_bd (fun c h0 h1 => h c h0 (by omega)) (k := k)
    have h2 := h k (by omega) (by omega)
    rw [Int.natCast_add, Int.add_mul]
    omega
theorem sumZ_nn {f : Int → Int} : ∀ {k : Nat}, (∀ c : Int, 0 ≤ c → c < k → 0 ≤ f c) → 0 ≤ sumZ f k
  | 0, _ => Int.le_refl _
  | k + 1, h => by
    unfold sumZ
    have h1 := sumZ_nn (fun c h0 h1 => h c h0 (by omega)) (k := k)
    have h2 := h k (by omega) (by omega)
    omega
/-- what a promenade and chairs are -/
def CP (cost : Int → Int) (cl n : Int) : Prop := 0 < n ∧ n ≤ 5 ∧ 0 < cl ∧ cl ≤ 16 ∧ ∀ i, 0 ≤ i → i < cl → 2 ≤ cost i ∧ cost i ≤ 8
section RC
variable (cost : Int → Int) (cl n : Int)
def blk (cell : Int → Int) (c to : Int) : Bool := decide (to < cl) && (decide (cost to = 6) && anyB (fun e => decide (e ≠ c) && decide (cell e = to)) n.toNat)
def mvF : Nat → Int → Int → Int → RS → RS
  | 0, c, m, _, r => (r.1, r.2.1, up r.2.2.1 c m, up r.2.2.2.1 r.2.2.2.2 c, r.2.2.2.2 + 1)
  | k + 1, c, m, here, r => if r.2.1 c < cost here then r else if blk cost cl n r.1 c (here + 1) = true then (r.1, up r.2.1 c (cost here), r.2.2) else mvF k c m (here + 1) (up r.1 c (here + 1), up r.2.1 c (r.2.1 c - cost here), r.2.2)
def moveF (c m g : Int) (r : RS) : RS := mvF cost cl n (cl - r.1 c).toNat c m (r.1 c) (r.1, up r.2.1 c (r.2.1 c + g), r.2.2)
variable (hand g : Int → Int)
def minF : Nat → Int → Int → RS → RS
  | 0, _, _, r => r
  | k + 1, c, m, r => minF k (c + 1) m (if r.1 c < cl ∧ hand c < m then moveF cost cl n c m (g c) r else r)
def raceF : Nat → Int → Int → RS → RS
  | 0, _, _, r => r
  | k + 1, m, w, r => if r.2.2.2.2 < w then raceF k (m + 1) w (minF cost cl n hand g n.toNat 0 m r) else r
def okC (r : RS) (c : Int) : Prop := 0 ≤ r.1 c ∧ r.1 c ≤ cl ∧ 0 ≤ r.2.1 c ∧ r.2.1 c ≤ 40 ∧ (r.1 c < cl → r.2.1 c ≤ cost (r.1 c)) ∧ (r.2.2.1 c = 0 ↔ r.1 c < cl) ∧ 0 ≤ r.2.2.1 c ∧ r.2.2.1 c < 2147483648
def inB (r : RS) : Int → Bool := fun c => decide (r.1 c = cl)
def rOK (r : RS) : Prop := (∀ c, 0 ≤ c → c < n → okC cost cl r c) ∧ r.2.2.2.2 = cntB (inB cl r) n.toNat ∧ ∀ k, 0 ≤ k → k < r.2.2.2.2 → 0 ≤ r.2.2.2.1 k ∧ r.2.2.2.1 k < n
end RC
theorem inB_c {cl : Int} {r s : RS} {e : Int} (h : s.1 e = r.1 e) : inB cl s e = inB cl r e := by
  show decide (s.1 e = cl) = decide (r.1 e = cl)
  rw [h]
theorem inB_t {cl : Int} {r : RS} {e : Int} (h : r.1 e = cl) : inB cl r e = true := decide_eq_true h
theorem inB_f {cl : Int} {r : RS} {e : Int} (h : ¬ r.1 e = cl) : inB cl r e = false := decide_eq_false h
theorem blk_iff {cost cell : Int → Int} {cl n c to : Int} (hn : 0 ≤ n) : blk cost cl n cell c to = true ↔ to < cl ∧ cost to = 6 ∧ ∃ e, 0 ≤ e ∧ e < n ∧ e ≠ c ∧ cell e = to := by
  unfold blk
  rw [Bool.and_eq_true, Bool.and_eq_true, anyB_iff, decide_eq_true_iff, decide_eq_true_iff]
  constructor
  · rintro ⟨h1, h2, e, h3, h4, h5⟩
    rw [Bool.and_eq_true, decide_eq_true_iff, decide_eq_true_iff] at h5
    exact ⟨h1, h2, e, h3, by omega, h5.1, h5.2⟩
  · rintro ⟨h1, h2, e, h3, h4, h5, h6⟩
    exact ⟨h1, h2, e, h3, by omega, by rw [Bool.and_eq_true, decide_eq_true_iff, decide_eq_true_iff]; exact ⟨h5, h6⟩⟩
/-- a chair on its way: all else is in order -/
def rPre (cost : Int → Int) (cl n : Int) (r : RS) (c here : Int) : Prop := (∀ e, 0 ≤ e → e < n → e ≠ c → okC cost cl r e) ∧ r.1 c = here ∧ 0 ≤ here ∧ here ≤ cl ∧ 0 ≤ r.2.1 c ∧ r.2.1 c ≤ 40 ∧ r.2.2.1 c = 0 ∧ r.2.2.2.2 + (if here = cl then 1 else 0) = cntB (inB cl r) n.toNat ∧ ∀ k, 0 ≤ k → k < r.2.2.2.2 → 0 ≤ r.2.2.2.1 k ∧ r.2.2.2.1 k < n
theorem okC_up {cost : Int → Int} {cl : Int} {r s : RS} {e : Int} (h : okC cost cl r e) (h1 : s.1 e = r.1 e) (h2 : s.2.1 e = r.2.1 e) (h3 : s.2.2.1 e = r.2.2.1 e) : okC cost cl s e := by
  unfold okC at h ⊢
  rw [h1, h2, h3]
  exact h
theorem mv_ok {cost : Int → Int} {cl n : Int} (hC : CP cost cl n) {c m : Int} (hc : 0 ≤ c ∧ c < n) (hm : 1 ≤ m ∧ m < 2147483648) : ∀ (k : Nat) (here : Int) (r : RS), cl - here = k → rPre cost cl n r c here → rOK cost cl n (mvF cost cl n k c m here r) := by
  intro k
  induction k with
  | zero =>
    intro here r hk hp
    obtain ⟨h1, h2, h3, h4, h5, h6, h7, h8, h9⟩ := hp
    have he : here = cl := by omega
    subst he
    rw [if_pos rfl] at h8
    show rOK cost here n (r.1, r.2.1, up r.2.2.1 c m, up r.2.2.2.1 r.2.2.2.2 c, r.2.2.2.2 + 1)
    refine ⟨fun e a b => ?_, h8, fun k a b => ?_⟩
    · by_cases q : e = c
      · subst q
        unfold okC
        dsimp only
        rw [up_s]
        omega
      · exact okC_up (h1 e a b q) rfl rfl (up_n q)
    · dsimp only at b ⊢
      by_cases q : k = r.2.2.2.2
      · subst q
        rw [up_s]
        exact hc
      · rw [up_n q]
        exact h9 k a (by omega)
  | succ k ih =>
    intro here r hk hp
    obtain ⟨h1, h2, h3, h4, h5, h6, h7, h8, h9⟩ := hp
    have hlt : here < cl := by omega
    have hcs := hC.2.2.2.2 here h3 hlt
    unfold mvF
    rw [if_neg (by omega : ¬ here = cl)] at h8
    by_cases c1 : r.2.1 c < cost here
    · rw [if_pos c1]
      refine ⟨fun e a b => ?_, by omega, h9⟩
      by_cases q : e = c
      · subst q
        unfold okC
        rw [h2, h7]
        omega
      · exact h1 e a b q
    · rw [if_neg c1]
      by_cases c2 : blk cost cl n r.1 c (here + 1) = true
      · rw [if_pos c2]
        refine ⟨fun e a b => ?_, ?_, h9⟩
        · by_cases q : e = c
          · subst q
            unfold okC
            dsimp only
            rw [up_s, h2, h7]
            omega
          · exact okC_up (h1 e a b q) rfl (up_n q) rfl
        · show r.2.2.2.2 = cntB (inB cl r) n.toNat
          omega
      · rw [if_neg c2]
        refine ih (here + 1) _ (by omega) ⟨fun e a b q => okC_up (h1 e a b q) (up_n q) (up_n q) rfl, up_s, by omega, by omega, ?_, ?_, h7, ?_, h9⟩
        · dsimp only; rw [up_s]; omega
        · dsimp only; rw [up_s]; omega
        · dsimp only
          by_cases q : here + 1 = cl
          · rw [if_pos q, cntB_set (p := inB cl r) c hc.1 (by omega) (inB_f (by rw [h2]; omega)) (inB_t (up_s.trans q)) (fun e a b d => (inB_c (up_n d)).symm)]
            omega
          · rw [if_neg q, cntB_congr (p := inB cl (up r.1 c (here + 1), _)) (q := inB cl r) (fun e a b => ?_)]
            · omega
            · by_cases d : e = c
              · subst d
                rw [inB_f (r := r) (by rw [h2]; omega)]
                exact inB_f (fun w => q (up_s.symm.trans w))
              · exact inB_c (up_n d)
theorem move_ok {cost : Int → Int} {cl n : Int} (hC : CP cost cl n) {c m g : Int} (hc : 0 ≤ c ∧ c < n) (hm : 1 ≤ m ∧ m < 2147483648) (hg : 1 ≤ g ∧ g ≤ 20) {r : RS} (hr : rOK cost cl n r) (hin : r.1 c < cl) : rPre cost cl n (r.1, up r.2.1 c (r.2.1 c + g), r.2.2) c (r.1 c) ∧ rOK cost cl n (moveF cost cl n c m g r) := by
  have h := hr.1 c hc.1 hc.2
  unfold okC at h
  have hcs := hC.2.2.2.2 (r.1 c) h.1 hin
  have hp : rPre cost cl n (r.1, up r.2.1 c (r.2.1 c + g), r.2.2) c (r.1 c) := by
    refine ⟨fun e a b q => okC_up (hr.1 e a b) rfl (up_n q) rfl, rfl, h.1, h.2.1, ?_, ?_, h.2.2.2.2.2.1.mpr hin, ?_, hr.2.2⟩
    · dsimp only; rw [up_s]; omega
    · dsimp only; rw [up_s]; omega
    · rw [if_neg (by omega)]
      have := hr.2.1
      show r.2.2.2.2 + 0 = cntB (inB cl r) n.toNat
      omega
  exact ⟨hp, mv_ok hC hc hm _ _ _ (by omega) hp⟩
theorem min_ok {cost : Int → Int} {cl n : Int} (hC : CP cost cl n) {hand g : Int → Int} {m : Int} (hm : 1 ≤ m ∧ m < 2147483648) (hg : ∀ c, 0 ≤ c → c < n → 1 ≤ g c ∧ g c ≤ 20) : ∀ (k : Nat) (c : Int) (r : RS), 0 ≤ c → c + k ≤ n → rOK cost cl n r → rOK cost cl n (minF cost cl n hand g k c m r) := by
  intro k
  induction k with
  | zero => intro c r _ _ h; exact h
  | succ k ih =>
    intro c r h0 h1 h
    unfold minF
    refine ih (c + 1) _ (by omega) (by omega) ?_
    by_cases q : r.1 c < cl ∧ hand c < m
    · rw [if_pos q]
      exact (move_ok hC ⟨h0, by omega⟩ hm (hg c h0 (by omega)) h q.1).2
    · rw [if_neg q]
      exact h
theorem mv_fr {cost : Int → Int} {cl n c m : Int} : ∀ (k : Nat) (here : Int) (r : RS), (∀ e, e ≠ c → (mvF cost cl n k c m here r).1 e = r.1 e ∧ (mvF cost cl n k c m here r).2.1 e = r.2.1 e ∧ (mvF cost cl n k c m here r).2.2.1 e = r.2.2.1 e) ∧ (∀ j, j < r.2.2.2.2 → (mvF cost cl n k c m here r).2.2.2.1 j = r.2.2.2.1 j) ∧ r.2.2.2.2 ≤ (mvF cost cl n k c m here r).2.2.2.2 := by
  intro k
  induction k with
  | zero =>
    intro here r
    exact ⟨fun e q => ⟨rfl, rfl, up_n q⟩, fun j hj => up_n (by omega), by show r.2.2.2.2 ≤ r.2.2.2.2 + 1; omega⟩
  | succ k ih =>
    intro here r
    unfold mvF
    by_cases c1 : r.2.1 c < cost here
    · rw [if_pos c1]
      exact ⟨fun _ _ => ⟨rfl, rfl, rfl⟩, fun _ _ => rfl, Int.le_refl _⟩
    · rw [if_neg c1]
      by_cases c2 : blk cost cl n r.1 c (here + 1) = true
      · rw [if_pos c2]
        exact ⟨fun _ q => ⟨rfl, up_n q, rfl⟩, fun _ _ => rfl, Int.le_refl _⟩
      · rw [if_neg c2]
        obtain ⟨h1, h2, h3⟩ := ih (here + 1) (up r.1 c (here + 1), up r.2.1 c (r.2.1 c - cost here), r.2.2)
        exact ⟨fun e q => ⟨(h1 e q).1.trans (up_n q), (h1 e q).2.1.trans (up_n q), (h1 e q).2.2⟩, h2, h3⟩
theorem move_fr {cost : Int → Int} {cl n c m g : Int} (r : RS) : (∀ e, e ≠ c → (moveF cost cl n c m g r).1 e = r.1 e ∧ (moveF cost cl n c m g r).2.1 e = r.2.1 e ∧ (moveF cost cl n c m g r).2.2.1 e = r.2.2.1 e) ∧ (∀ j, j < r.2.2.2.2 → (moveF cost cl n c m g r).2.2.2.1 j = r.2.2.2.1 j) ∧ r.2.2.2.2 ≤ (moveF cost cl n c m g r).2.2.2.2 := by
  obtain ⟨h1, h2, h3⟩ := mv_fr (cost := cost) (cl := cl) (n := n) (c := c) (m := m) (cl - r.1 c).toNat (r.1 c) (r.1, up r.2.1 c (r.2.1 c + g), r.2.2)
  exact ⟨fun e q => ⟨(h1 e q).1, (h1 e q).2.1.trans (up_n q), (h1 e q).2.2⟩, h2, h3⟩
theorem min_fr {cost : Int → Int} {cl n m : Int} {hand g : Int → Int} : ∀ (k : Nat) (c : Int) (r : RS), (∀ j, j < r.2.2.2.2 → (minF cost cl n hand g k c m r).2.2.2.1 j = r.2.2.2.1 j) ∧ r.2.2.2.2 ≤ (minF cost cl n hand g k c m r).2.2.2.2 := by
  intro k
  induction k with
  | zero => intro c r; exact ⟨fun _ _ => rfl, Int.le_refl _⟩
  | succ k ih =>
    intro c r
    unfold minF
    by_cases q : r.1 c < cl ∧ hand c < m
    · rw [if_pos q]
      obtain ⟨h1, h2⟩ := ih (c + 1) (moveF cost cl n c m (g c) r)
      obtain ⟨-, h3, h4⟩ := move_fr (cost := cost) (cl := cl) (n := n) (c := c) (m := m) (g := g c) r
      exact ⟨fun j hj => (h1 j (by omega)).trans (h3 j hj), by omega⟩
    · rw [if_neg q]
      exact ih (c + 1) r
/-- how far a chair is -/
def prg (cost : Int → Int) (cl : Int) (r : RS) (c : Int) : Int := if r.1 c < cl then sumZ cost (r.1 c).toNat + r.2.1 c else sumZ cost cl.toNat + 1
theorem sumZ_1 {f : Int → Int} {i : Int} (h : 0 ≤ i) : sumZ f (i + 1).toNat = sumZ f i.toNat + f i := by
  have e : (i + 1).toNat = i.toNat + 1 := by omega
  rw [e]
  show sumZ f i.toNat + f (i.toNat : Int) = _
  rw [Int.toNat_of_nonneg h]
theorem sumZ_mono {f : Int → Int} {cl : Int} (h : ∀ i, 0 ≤ i → i < cl → 0 ≤ f i) : ∀ (d : Nat) (a : Int), 0 ≤ a → a + d ≤ cl → sumZ f a.toNat ≤ sumZ f (a + d).toNat := by
  intro d
  induction d with
  | zero => intro a _ _; rw [show a + ((0 : Nat) : Int) = a by omega]; exact Int.le_refl _
  | succ d ih =>
    intro a h0 h1
    have h2 := ih a h0 (by omega)
    have h3 := h (a + d) (by omega) (by omega)
    rw [show a + ((d + 1 : Nat) : Int) = (a + d) + 1 by omega, sumZ_1 (by omega)]
    omega
theorem sumZ_mo {f : Int → Int} {cl a b : Int} (h : ∀ i, 0 ≤ i → i < cl → 0 ≤ f i) (h0 : 0 ≤ a) (h1 : a ≤ b) (h2 : b ≤ cl) : sumZ f a.toNat ≤ sumZ f b.toNat := by
  have := sumZ_mono h (b - a).toNat a h0 (by omega)
  rwa [show a + ((b - a).toNat : Int) = b by omega] at this
theorem mv_lb {cost : Int → Int} {cl n : Int} (hC : CP cost cl n) {c m : Int} (hm : 1 ≤ m) : ∀ (k : Nat) (here : Int) (r : RS), cl - here = k → 0 ≤ here → r.1 c = here → 0 ≤ r.2.1 c → (if here < cl then (if r.2.1 c < cost here then sumZ cost here.toNat + r.2.1 c else sumZ cost here.toNat + cost here) else sumZ cost cl.toNat + 1) ≤ prg cost cl (mvF cost cl n k c m here r) c := by
  intro k
  induction k with
  | zero =>
    intro here r hk h0 hc hp
    rw [if_neg (by omega)]
    unfold prg mvF
    dsimp only
    rw [if_neg (by omega)]
    exact Int.le_refl _
  | succ k ih =>
    intro here r hk h0 hc hp
    have hlt : here < cl := by omega
    have hcs := hC.2.2.2.2 here h0 hlt
    rw [if_pos hlt]
    unfold mvF
    by_cases c1 : r.2.1 c < cost here
    · rw [if_pos c1, if_pos c1]
      unfold prg
      rw [hc, if_pos hlt]
      exact Int.le_refl _
    · rw [if_neg c1, if_neg c1]
      by_cases c2 : blk cost cl n r.1 c (here + 1) = true
      · rw [if_pos c2]
        unfold prg
        dsimp only
        rw [hc, if_pos hlt, up_s]
        exact Int.le_refl _
      · rw [if_neg c2]
        have hh := ih (here + 1) (up r.1 c (here + 1), up r.2.1 c (r.2.1 c - cost here), r.2.2) (by omega) (by omega) up_s (by dsimp only; rw [up_s]; omega)
        refine Int.le_trans ?_ hh
        simp only [up_s]
        have e1 := sumZ_1 (f := cost) h0
        by_cases q : here + 1 < cl
        · rw [if_pos q]
          have := hC.2.2.2.2 (here + 1) (by omega) q
          split <;> omega
        · rw [if_neg q, show cl = here + 1 by omega]
          omega
theorem move_lb {cost : Int → Int} {cl n : Int} (hC : CP cost cl n) {c m g : Int} (hc : 0 ≤ c ∧ c < n) (hm : 1 ≤ m) (hg : 1 ≤ g) {r : RS} (hr : rOK cost cl n r) (hin : r.1 c < cl) : prg cost cl r c < prg cost cl (moveF cost cl n c m g r) c ∨ (prg cost cl r c ≤ prg cost cl (moveF cost cl n c m g r) c ∧ (moveF cost cl n c m g r).1 c = r.1 c ∧ blk cost cl n r.1 c (r.1 c + 1) = true) := by
  have h := hr.1 c hc.1 hc.2
  unfold okC at h
  have hcs := hC.2.2.2.2 (r.1 c) h.1 hin
  have hp : prg cost cl r c = sumZ cost (r.1 c).toNat + r.2.1 c := if_pos hin
  unfold moveF
  obtain ⟨k, hk⟩ : ∃ k : Nat, (cl - r.1 c).toNat = k + 1 := ⟨(cl - r.1 c).toNat - 1, by omega⟩
  rw [hk]
  unfold mvF
  simp only [up_s]
  by_cases c1 : r.2.1 c + g < cost (r.1 c)
  · left
    rw [if_pos c1, hp]
    unfold prg
    dsimp only
    rw [if_pos hin, up_s]
    omega
  · rw [if_neg c1]
    by_cases c2 : blk cost cl n r.1 c (r.1 c + 1) = true
    · right
      rw [if_pos c2]
      refine ⟨?_, rfl, c2⟩
      rw [hp]
      unfold prg
      dsimp only
      rw [if_pos hin, up_s]
      omega
    · left
      rw [if_neg c2]
      have hh := mv_lb (n := n) hC (c := c) hm k (r.1 c + 1) (up r.1 c (r.1 c + 1), up (up r.2.1 c (r.2.1 c + g)) c (r.2.1 c + g - cost (r.1 c)), r.2.2) (by omega) (by omega) up_s (by dsimp only; rw [up_s]; omega)
      refine Int.lt_of_lt_of_le ?_ hh
      simp only [hp, up_s]
      have e1 := sumZ_1 (f := cost) h.1
      by_cases q : r.1 c + 1 < cl
      · rw [if_pos q]
        have := hC.2.2.2.2 (r.1 c + 1) (by omega) q
        split <;> omega
      · rw [if_neg q, show cl = r.1 c + 1 by omega]
        omega
/-- all chairs' ways together -/
def tot (cost : Int → Int) (cl n : Int) (r : RS) : Int := sumZ (prg cost cl r) n.toNat
theorem prg_c {cost : Int → Int} {cl : Int} {r s : RS} {e : Int} (h1 : s.1 e = r.1 e) (h2 : s.2.1 e = r.2.1 e) : prg cost cl s e = prg cost cl r e := by
  unfold prg
  rw [h1, h2]
theorem tot_move {cost : Int → Int} {cl n : Int} (hC : CP cost cl n) {c m g : Int} (hc : 0 ≤ c ∧ c < n) (hm : 1 ≤ m) (hg : 1 ≤ g) {r : RS} (hr : rOK cost cl n r) (hin : r.1 c < cl) : tot cost cl n r < tot cost cl n (moveF cost cl n c m g r) ∨ (tot cost cl n r ≤ tot cost cl n (moveF cost cl n c m g r) ∧ (∀ e, (moveF cost cl n c m g r).1 e = r.1 e) ∧ blk cost cl n r.1 c (r.1 c + 1) = true) := by
  obtain ⟨h1, -, -⟩ := move_fr (cost := cost) (cl := cl) (n := n) (c := c) (m := m) (g := g) r
  have ho : ∀ e, e ≠ c → prg cost cl (moveF cost cl n c m g r) e = prg cost cl r e := fun e q => prg_c (h1 e q).1 (h1 e q).2.1
  rcases move_lb hC hc hm hg hr hin with h | ⟨h, h2, h3⟩
  · left
    refine sumZ_lt c hc.1 (by omega) (fun e a b => ?_) h
    by_cases q : e = c
    · subst q; exact Int.le_of_lt h
    · rw [ho e q]; exact Int.le_refl _
  · right
    refine ⟨sumZ_le (fun e a b => ?_), fun e => ?_, h3⟩
    · by_cases q : e = c
      · subst q; exact h
      · rw [ho e q]; exact Int.le_refl _
    · by_cases q : e = c
      · subst q; exact h2
      · exact (h1 e q).1
/-- in a minute in which all have started, from a state in which not all are in, somebody comes further -/
theorem tot_min {cost : Int → Int} {cl n : Int} (hC : CP cost cl n) {hand g : Int → Int} {m : Int} (hm : 1 ≤ m ∧ m < 2147483648) (hg : ∀ c, 0 ≤ c → c < n → 1 ≤ g c ∧ g c ≤ 20) (hh : ∀ c, 0 ≤ c → c < n → hand c < m) (r0 : RS) (f : Int) (hf : 0 ≤ f ∧ f < n) (hfi : r0.1 f < cl) (hmax : ∀ e, 0 ≤ e → e < n → r0.1 e < cl → r0.1 e ≤ r0.1 f) : ∀ (k : Nat) (c : Int) (r : RS), 0 ≤ c → c + k = n → rOK cost cl n r → (tot cost cl n r0 < tot cost cl n r ∨ (tot cost cl n r0 ≤ tot cost cl n r ∧ (∀ e, r.1 e = r0.1 e) ∧ c ≤ f)) → tot cost cl n r0 < tot cost cl n (minF cost cl n hand g k c m r) := by
  intro k
  induction k with
  | zero =>
    intro c r h0 h1 hr h
    rcases h with h | h
    · exact h
    · omega
  | succ k ih =>
    intro c r h0 h1 hr h
    have hgc := hg c h0 (by omega)
    have hhc := hh c h0 (by omega)
    unfold minF
    by_cases q : r.1 c < cl ∧ hand c < m
    · rw [if_pos q]
      refine ih (c + 1) _ (by omega) (by omega) (move_ok hC ⟨h0, by omega⟩ hm hgc hr q.1).2 ?_
      rcases tot_move hC ⟨h0, by omega⟩ hm.1 hgc.1 hr q.1 with t | ⟨t, t2, t3⟩
      · left
        rcases h with h | h <;> omega
      · rcases h with h | ⟨h, h2, h3⟩
        · left; omega
        · right
          refine ⟨by omega, fun e => (t2 e).trans (h2 e), ?_⟩
          by_cases e : c = f
          · subst e
            obtain ⟨b1, b2, e, b3, b4, b5, b6⟩ := (blk_iff (by omega)).mp t3
            have b7 := hmax e b3 b4 (by rw [← h2 e]; omega)
            rw [h2] at b6 b1
            rw [h2 c] at b6
            omega
          · omega
    · rw [if_neg q]
      refine ih (c + 1) r (by omega) (by omega) hr ?_
      rcases h with h | ⟨h, h2, h3⟩
      · left; exact h
      · right
        refine ⟨h, h2, ?_⟩
        by_cases e : c = f
        · subst e
          exact absurd ⟨by rw [h2]; exact hfi, hhc⟩ q
        · omega
theorem max_ex (p : Int → Prop) (v : Int → Int) : ∀ k : Nat, (∃ e : Int, 0 ≤ e ∧ e < k ∧ p e) → ∃ f : Int, 0 ≤ f ∧ f < k ∧ p f ∧ ∀ e : Int, 0 ≤ e → e < k → p e → v e ≤ v f := by
  intro k
  induction k with
  | zero => rintro ⟨e, h1, h2, -⟩; omega
  | succ k ih =>
    rintro ⟨e, h1, h2, h3⟩
    by_cases hk : p k
    · by_cases hx : ∃ e : Int, 0 ≤ e ∧ e < k ∧ p e
      · obtain ⟨f, f1, f2, f3, f4⟩ := ih hx
        by_cases q : v f ≤ v k
        · refine ⟨k, by omega, by omega, hk, fun e a b d => ?_⟩
          by_cases w : e = k
          · subst w; exact Int.le_refl _
          · exact Int.le_trans (f4 e a (by omega) d) q
        · refine ⟨f, f1, by omega, f3, fun e a b d => ?_⟩
          by_cases w : e = k
          · subst w; omega
          · exact f4 e a (by omega) d
      · refine ⟨k, by omega, by omega, hk, fun e a b d => ?_⟩
        by_cases w : e = k
        · subst w; exact Int.le_refl _
        · exact absurd ⟨e, a, by omega, d⟩ hx
    · have hx : ∃ e : Int, 0 ≤ e ∧ e < k ∧ p e := ⟨e, h1, by
        by_cases w : e = k
        · subst w; exact absurd h3 hk
        · omega, h3⟩
      obtain ⟨f, f1, f2, f3, f4⟩ := ih hx
      refine ⟨f, f1, by omega, f3, fun e a b d => ?_⟩
      by_cases w : e = k
      · subst w; exact absurd d hk
      · exact f4 e a (by omega) d
theorem tot_bd {cost : Int → Int} {cl n : Int} (hC : CP cost cl n) {r : RS} (hr : rOK cost cl n r) : 0 ≤ tot cost cl n r ∧ tot cost cl n r ≤ 645 := by
  have hpos : ∀ i, 0 ≤ i → i < cl → 0 ≤ cost i := fun i a b => by have := hC.2.2.2.2 i a b; omega
  have hL : sumZ cost cl.toNat ≤ 128 := by
    have := sumZ_bd (f := cost) (b := 8) (k := cl.toNat) (fun c a b => (hC.2.2.2.2 c a (by omega)).2)
    have := hC.2.2.2.1
    omega
  have hL0 : 0 ≤ sumZ cost cl.toNat := sumZ_nn (fun c a b => hpos c a (by omega))
  have hp : ∀ c, 0 ≤ c → c < n → 0 ≤ prg cost cl r c ∧ prg cost cl r c ≤ 129 := by
    intro c a b
    have h := hr.1 c a b
    unfold okC at h
    unfold prg
    by_cases q : r.1 c < cl
    · rw [if_pos q]
      have h1 := sumZ_mo hpos (a := r.1 c + 1) (b := cl) (by omega) (by omega) (Int.le_refl _)
      have h0 := sumZ_mo hpos (a := 0) (b := r.1 c) (by omega) h.1 (by omega)
      rw [sumZ_1 h.1] at h1
      have : sumZ cost (0 : Int).toNat = 0 := rfl
      omega
    · rw [if_neg q]
      omega
  constructor
  · exact sumZ_nn (fun c a b => (hp c a (by omega)).1)
  · have := sumZ_bd (f := prg cost cl r) (b := 129) (k := n.toNat) (fun c a b => (hp c a (by omega)).2)
    have h5 := hC.2.1
    unfold tot
    omega
/-- THE RACE ENDS: from minute m on, in fuel enough for what is left of the way -/
theorem race_end {cost : Int → Int} {cl n : Int} (hC : CP cost cl n) {hand g : Int → Int} (hg : ∀ c, 0 ≤ c → c < n → 1 ≤ g c ∧ g c ≤ 20) (hh : ∀ c, 0 ≤ c → c < n → hand c ≤ 5) {w : Int} (hw : w ≤ n) : ∀ (k : Nat) (m : Int) (r : RS), 1 ≤ m → m + k < 2147483648 → rOK cost cl n r → (6 ≤ m → 646 ≤ tot cost cl n r + k) → (m < 6 → 652 - m ≤ k) → rOK cost cl n (raceF cost cl n hand g k m w r) ∧ w ≤ (raceF cost cl n hand g k m w r).2.2.2.2 := by
  intro k
  induction k with
  | zero =>
    intro m r h1 h2 hr h3 h4
    have := tot_bd hC hr
    omega
  | succ k ih =>
    intro m r h1 h2 hr h3 h4
    unfold raceF
    by_cases q : r.2.2.2.2 < w
    · rw [if_pos q]
      have hr' := min_ok hC (hand := hand) (m := m) ⟨h1, by omega⟩ hg n.toNat 0 r (Int.le_refl _) (by have := hC.1; omega) hr
      have ht := tot_bd hC hr
      have ht' := tot_bd hC hr'
      refine ih (m + 1) _ (by omega) (by omega) hr' (fun h6 => ?_) (fun h6 => by omega)
      by_cases m6 : 6 ≤ m
      · have hin : ∃ e : Int, 0 ≤ e ∧ e < (n.toNat : Int) ∧ r.1 e < cl := by
          apply Classical.byContradiction
          intro hn
          have := cntB_all (p := inB cl r) (k := n.toNat) (fun c a b => inB_t (by
            have hk := hr.1 c a (by omega)
            unfold okC at hk
            by_cases z : r.1 c < cl
            · exact absurd ⟨c, a, b, z⟩ hn
            · omega))
          have := hr.2.1
          have := hC.1
          omega
        obtain ⟨f, f1, f2, f3, f4⟩ := max_ex (fun e => r.1 e < cl) r.1 n.toNat hin
        have := tot_min (hand := hand) (m := m) hC ⟨h1, by omega⟩ hg (fun c a b => by have := hh c a b; omega) r f ⟨f1, by omega⟩ f3 (fun e a b d => f4 e a (by omega) d) n.toNat 0 r (Int.le_refl _) (by have := hC.1; omega) hr (Or.inr ⟨Int.le_refl _, fun _ => rfl, f1⟩)
        have := h3 m6
        omega
      · have := h4 (by omega)
        omega
    · rw [if_neg q]
      exact ⟨hr, by omega⟩
/-- the first one stays the first one: a race to the first, and to the last -/
theorem race_fr {cost : Int → Int} {cl n w : Int} {hand g : Int → Int} : ∀ (k : Nat) (m : Int) (r : RS), (∀ j, j < r.2.2.2.2 → (raceF cost cl n hand g k m w r).2.2.2.1 j = r.2.2.2.1 j) ∧ r.2.2.2.2 ≤ (raceF cost cl n hand g k m w r).2.2.2.2 := by
  intro k
  induction k with
  | zero => intro m r; exact ⟨fun _ _ => rfl, Int.le_refl _⟩
  | succ k ih =>
    intro m r
    unfold raceF
    by_cases q : r.2.2.2.2 < w
    · rw [if_pos q]
      obtain ⟨h1, h2⟩ := ih (m + 1) (minF cost cl n hand g n.toNat 0 m r)
      obtain ⟨h3, h4⟩ := min_fr (cost := cost) (cl := cl) (n := n) (m := m) (hand := hand) (g := g) n.toNat 0 r
      exact ⟨fun j hj => (h1 j (by omega)).trans (h3 j hj), by omega⟩
    · rw [if_neg q]
      exact ⟨fun _ _ => rfl, Int.le_refl _⟩
theorem race_1 {cost : Int → Int} {cl n : Int} (hn : 1 ≤ n) {hand g : Int → Int} : ∀ (k : Nat) (m : Int) (r : RS), 1 ≤ (raceF cost cl n hand g k m 1 r).2.2.2.2 → (raceF cost cl n hand g k m n r).2.2.2.1 0 = (raceF cost cl n hand g k m 1 r).2.2.2.1 0 := by
  intro k
  induction k with
  | zero => intro m r _; rfl
  | succ k ih =>
    intro m r h
    unfold raceF at h ⊢
    by_cases q : r.2.2.2.2 < 1
    · rw [if_pos q] at h ⊢
      rw [if_pos (by omega)]
      exact ih (m + 1) _ h
    · rw [if_neg q]
      by_cases q2 : r.2.2.2.2 < n
      · rw [if_pos q2]
        obtain ⟨h1, h2⟩ := race_fr (cost := cost) (cl := cl) (n := n) (w := n) (hand := hand) (g := g) k (m + 1) (minF cost cl n hand g n.toNat 0 m r)
        obtain ⟨h3, h4⟩ := min_fr (cost := cost) (cl := cl) (n := n) (m := m) (hand := hand) (g := g) n.toNat 0 r
        rw [h1 0 (by omega), h3 0 (by omega)]
      · rw [if_neg q2]
/-- two states alike where it matters -/
def ag (n : Int) (f g : Int → Int) : Prop := ∀ e, 0 ≤ e → e < n → f e = g e
theorem ag_rf {n : Int} {f : Int → Int} : ag n f f := fun _ _ _ => rfl
theorem ag_up {n : Int} {f g : Int → Int} (h : ag n f g) (i v : Int) : ag n (up f i v) (up g i v) := fun e a b => by
  unfold up
  split
  · rfl
  · exact h e a b
def rAg (n : Int) (r s : RS) : Prop := ag n r.1 s.1 ∧ ag n r.2.1 s.2.1 ∧ ag n r.2.2.1 s.2.2.1 ∧ (∀ k, 0 ≤ k → k < r.2.2.2.2 → r.2.2.2.1 k = s.2.2.2.1 k) ∧ r.2.2.2.2 = s.2.2.2.2
theorem anyB_congr {p q : Int → Bool} : ∀ {k : Nat}, (∀ c : Int, 0 ≤ c → c < k → p c = q c) → anyB p k = anyB q k
  | 0, _ => rfl
  | k + 1, h => by
    unfold anyB
    rw [anyB_congr (fun c h0 h1 => h c h0 (by omega)), h k (by omega) (by omega)]
theorem blk_ag {cost cell cell' : Int → Int} {cl n c to : Int} (h : ag n cell cell') : blk cost cl n cell c to = blk cost cl n cell' c to := by
  unfold blk
  rw [anyB_congr (fun e a b => by rw [h e a (by omega)])]
theorem mv_ag {cost : Int → Int} {cl n : Int} {c m : Int} (hc : 0 ≤ c ∧ c < n) : ∀ (k : Nat) (here : Int) (r s : RS), rAg n r s → rAg n (mvF cost cl n k c m here r) (mvF cost cl n k c m here s) := by
  intro k
  induction k with
  | zero =>
    intro here r s h
    obtain ⟨h1, h2, h3, h4, h5⟩ := h
    refine ⟨h1, h2, ag_up h3 c m, fun k a b => ?_, ?_⟩
    · show up r.2.2.2.1 r.2.2.2.2 c k = up s.2.2.2.1 s.2.2.2.2 c k
      rw [h5]
      by_cases q : k = s.2.2.2.2
      · subst q; rw [up_s, up_s]
      · rw [up_n q, up_n q]
        have b : k < r.2.2.2.2 + 1 := b
        exact h4 k a (by omega)
    · show r.2.2.2.2 + 1 = s.2.2.2.2 + 1
      rw [h5]
  | succ k ih =>
    intro here r s h
    have h0 := h
    obtain ⟨h1, h2, h3, h4, h5⟩ := h
    unfold mvF
    rw [h2 c hc.1 hc.2, blk_ag h1]
    by_cases c1 : s.2.1 c < cost here
    · rw [if_pos c1, if_pos c1]; exact h0
    · rw [if_neg c1, if_neg c1]
      by_cases c2 : blk cost cl n s.1 c (here + 1) = true
      · rw [if_pos c2, if_pos c2]
        exact ⟨h1, ag_up h2 _ _, h3, h4, h5⟩
      · rw [if_neg c2, if_neg c2]
        exact ih _ _ _ ⟨ag_up h1 _ _, ag_up h2 _ _, h3, h4, h5⟩
theorem min_ag {cost : Int → Int} {cl n : Int} {hand hand' g g' : Int → Int} {m : Int} (hh : ag n hand hand') (hg : ag n g g') : ∀ (k : Nat) (c : Int) (r s : RS), 0 ≤ c → c + k ≤ n → rAg n r s → rAg n (minF cost cl n hand g k c m r) (minF cost cl n hand' g' k c m s) := by
  intro k
  induction k with
  | zero => intro c r s _ _ h; exact h
  | succ k ih =>
    intro c r s h0 h1 h
    unfold minF
    refine ih (c + 1) _ _ (by omega) (by omega) ?_
    rw [h.1 c h0 (by omega), hh c h0 (by omega), hg c h0 (by omega)]
    by_cases q : s.1 c < cl ∧ hand' c < m
    · rw [if_pos q, if_pos q]
      unfold moveF
      rw [h.1 c h0 (by omega), h.2.1 c h0 (by omega)]
      exact mv_ag ⟨h0, by omega⟩ _ _ _ _ ⟨h.1, ag_up h.2.1 _ _, h.2.2⟩
    · rw [if_neg q, if_neg q]; exact h
theorem race_ag {cost : Int → Int} {cl n w : Int} (hn : 0 ≤ n) {hand hand' g g' : Int → Int} (hh : ag n hand hand') (hg : ag n g g') : ∀ (k : Nat) (m : Int) (r s : RS), rAg n r s → rAg n (raceF cost cl n hand g k m w r) (raceF cost cl n hand' g' k m w s) := by
  intro k
  induction k with
  | zero => intro m r s h; exact h
  | succ k ih =>
    intro m r s h
    unfold raceF
    rw [h.2.2.2.2]
    by_cases q : s.2.2.2.2 < w
    · rw [if_pos q, if_pos q]
      exact ih _ _ _ (min_ag hh hg _ _ _ _ (Int.le_refl _) (by omega) h)
    · rw [if_neg q, if_neg q]; exact h
theorem blk_cg {cost cost' cell : Int → Int} {cl n c to : Int} (h0 : 0 ≤ to) (h : ag cl cost cost') : blk cost cl n cell c to = blk cost' cl n cell c to := by
  unfold blk
  by_cases q : to < cl
  · rw [h to h0 q]
  · rw [decide_eq_false q]; rfl
theorem mv_cg {cost cost' : Int → Int} {cl n c m : Int} (h : ag cl cost cost') : ∀ (k : Nat) (here : Int) (r : RS), 0 ≤ here → here + k ≤ cl → mvF cost cl n k c m here r = mvF cost' cl n k c m here r := by
  intro k
  induction k with
  | zero => intro here r _ _; rfl
  | succ k ih =>
    intro here r h0 h1
    unfold mvF
    rw [h here h0 (by omega), blk_cg (by omega) h, ih _ _ (by omega) (by omega)]
theorem min_cg {cost cost' : Int → Int} {cl n : Int} (hC : CP cost cl n) (h : ag cl cost cost') {hand g : Int → Int} {m : Int} (hm : 1 ≤ m ∧ m < 2147483648) (hg : ∀ c, 0 ≤ c → c < n → 1 ≤ g c ∧ g c ≤ 20) : ∀ (k : Nat) (c : Int) (r : RS), 0 ≤ c → c + k ≤ n → rOK cost cl n r → minF cost cl n hand g k c m r = minF cost' cl n hand g k c m r := by
  intro k
  induction k with
  | zero => intro c r _ _ _; rfl
  | succ k ih =>
    intro c r h0 h1 hr
    unfold minF
    by_cases q : r.1 c < cl ∧ hand c < m
    · have hk := hr.1 c h0 (by omega)
      unfold okC at hk
      have e1 : moveF cost' cl n c m (g c) r = moveF cost cl n c m (g c) r := by
        unfold moveF
        rw [mv_cg h _ _ _ hk.1 (by omega)]
      rw [if_pos q, if_pos q, e1]
      exact ih _ _ (by omega) (by omega) (move_ok hC ⟨h0, by omega⟩ hm (hg c h0 (by omega)) hr q.1).2
    · rw [if_neg q, if_neg q]
      exact ih _ _ (by omega) (by omega) hr
theorem race_cg {cost cost' : Int → Int} {cl n w : Int} (hC : CP cost cl n) (h : ag cl cost cost') {hand g : Int → Int} (hg : ∀ c, 0 ≤ c → c < n → 1 ≤ g c ∧ g c ≤ 20) : ∀ (k : Nat) (m : Int) (r : RS), 1 ≤ m → m + k < 2147483648 → rOK cost cl n r → raceF cost cl n hand g k m w r = raceF cost' cl n hand g k m w r := by
  intro k
  induction k with
  | zero => intro m r _ _ _; rfl
  | succ k ih =>
    intro m r h1 h2 hr
    have h3 := hC.1
    unfold raceF
    by_cases q : r.2.2.2.2 < w
    · rw [if_pos q, if_pos q, min_cg hC h ⟨h1, by omega⟩ hg _ _ _ (Int.le_refl _) (by omega) hr]
      refine ih _ _ (by omega) (by omega) ?_
      rw [← min_cg hC h ⟨h1, by omega⟩ hg _ _ _ (Int.le_refl _) (by omega) hr]
      exact min_ok hC ⟨h1, by omega⟩ hg _ _ _ (Int.le_refl _) (by omega) hr
    · rw [if_neg q, if_neg q]
