def enc (z : Int → Int) : Nat → Int
  | 0 => 0
  | k + 1 => z k + 6 * enc z k
theorem enc_ok {z : Int → Int} : ∀ (k : Nat) (f : Int → Int), (∀ c : Int, 0 ≤ c → c < k → 0 ≤ z c ∧ z c ≤ 5) → 0 ≤ enc z k ∧ enc z k < pw 6 k ∧ ∀ c : Int, 0 ≤ c → c < k → fill5 k (enc z k) f (5 + c) = z c := by
  intro k
  induction k with
  | zero => intro f _; exact ⟨Int.le_refl _, by show (0 : Int) < 1; decide, fun c a b => by omega⟩
  | succ k ih =>
    intro f hz
    have hk := hz k (by omega) (by omega)
    have h := ih (up f (5 + k) (z k)) (fun c a b => hz c a (by omega))
    have e1 : enc z (k + 1) % 6 = z k := by show (z k + 6 * enc z k) % 6 = z k; omega
    have e2 : enc z (k + 1) / 6 = enc z k := by show (z k + 6 * enc z k) / 6 = enc z k; omega
    have e3 : pw 6 (k + 1) = pw 6 k * 6 := rfl
    refine ⟨by show 0 ≤ z k + 6 * enc z k; omega, by rw [e3]; show z k + 6 * enc z k < _; omega, fun c a b => ?_⟩
    show fill5 k (enc z (k + 1) / 6) (up f (5 + k) (enc z (k + 1) % 6)) (5 + c) = z c
    rw [e1, e2]
    by_cases w : c = k
    · subst w; rw [f5_out k _ _ _ (Or.inl (Int.le_refl _)), up_s]
    · exact h.2.2 c a (by omega)
theorem f5_r : ∀ (k : Nat) (l : Int) (f : Int → Int) (c : Int), 0 ≤ c → c < k → 0 ≤ fill5 k l f (5 + c) ∧ fill5 k l f (5 + c) ≤ 5 := by
  intro k
  induction k with
  | zero => intro l f c a b; omega
  | succ k ih =>
    intro l f c a b
    show 0 ≤ fill5 k (l / 6) (up f (5 + k) (l % 6)) (5 + c) ∧ fill5 k (l / 6) (up f (5 + k) (l % 6)) (5 + c) ≤ 5
    by_cases w : c = k
    · subst w; rw [f5_out k _ _ _ (Or.inl (Int.le_refl _)), up_s]; omega
    · exact ih _ _ c a (by omega)
/-- s is how far the values of a row lie apart -/
def SP (n : Int) (v : Int → Int) (s : Int) : Prop := ∃ lo hi, s = hi - lo ∧ (∀ c, 0 ≤ c → c < n → lo ≤ v c ∧ v c ≤ hi) ∧ (∃ c, 0 ≤ c ∧ c < n ∧ v c = lo) ∧ ∃ c, 0 ≤ c ∧ c < n ∧ v c = hi
theorem spr_SP {b : Int → Int} {n : Int} (hn : 0 < n ∧ n ≤ 5) (hb : ∀ c, 0 ≤ c → c < 5 → 0 ≤ b c ∧ b c ≤ 128) (j : Int) : SP n (fun c => b c + D6 n j c) (sprF b n j) := by
  have l := lo_ch (b := b) n.toNat j 10000 (fun _ => 0)
  have h := hi_ch (b := b) n.toNat j 0 (fun _ => 0)
  have d := fun c a q => f5_r n.toNat j (fun _ => 0) c a q
  have d0 := d 0 (by omega) (by omega)
  have b0 := hb 0 (by omega) (by omega)
  have l0 := l.1 0 (by omega) (by omega)
  have h0 := h.1 0 (by omega) (by omega)
  refine ⟨loF b n.toNat j 10000, hiF b n.toNat j 0, rfl, fun c a q => ⟨l.1 c a (by omega), h.1 c a (by omega)⟩, ?_, ?_⟩
  · rcases l.2.2 with e | ⟨c, a, q, e⟩
    · omega
    · exact ⟨c, a, by omega, e.symm⟩
  · rcases h.2.2 with e | ⟨c, a, q, e⟩
    · refine ⟨0, by omega, by omega, ?_⟩
      show b 0 + fill5 n.toNat j (fun _ => 0) (5 + 0) = hiF b n.toNat j 0
      omega
    · exact ⟨c, a, by omega, e.symm⟩
theorem spU_SP {u : Int → Int} {n g : Int} (hn : 0 < n ∧ n ≤ 5) (hu : ∀ c, 0 ≤ c → c < n → 0 ≤ u c ∧ u c ≤ 128) : SP n (vG u g) (spU u n g) := by
  have l := loU_ch (v := vG u g) n.toNat
  have h := hiU_ch (v := vG u g) n.toNat
  have hv : ∀ c, 0 ≤ c → c < n → 0 ≤ vG u g c ∧ vG u g c ≤ 133 := fun c a q => by
    have := hu c a q
    have := clZ_r (g - u c)
    unfold vG
    omega
  have v0 := hv 0 (by omega) (by omega)
  have l0 := l.1 0 (by omega) (by omega)
  have h0 := h.1 0 (by omega) (by omega)
  refine ⟨loU (vG u g) n.toNat, hiU (vG u g) n.toNat, rfl, fun c a q => ⟨l.1 c a (by omega), h.1 c a (by omega)⟩, ?_, ?_⟩
  · rcases l.2 with e | ⟨c, a, q, e⟩
    · exact ⟨0, by omega, by omega, by omega⟩
    · exact ⟨c, a, by omega, e.symm⟩
  · rcases h.2 with e | ⟨c, a, q, e⟩
    · exact ⟨0, by omega, by omega, by omega⟩
    · exact ⟨c, a, by omega, e.symm⟩
theorem SP_eq {n : Int} {v w : Int → Int} {s r : Int} (h : ∀ c, 0 ≤ c → c < n → v c = w c) (a : SP n v s) (b : SP n w r) : s = r := by
  obtain ⟨l1, h1, e1, f1, ⟨c1, p1, q1, r1⟩, d1, t1, u1, w1⟩ := a
  obtain ⟨l2, h2, e2, f2, ⟨c2, p2, q2, r2⟩, d2, t2, u2, w2⟩ := b
  have x1 := f1 c2 p2 q2
  have x2 := f2 c1 p1 q1
  have x3 := f1 d2 t2 u2
  have x4 := f2 d1 t1 u1
  have y1 := h c1 p1 q1
  have y2 := h c2 p2 q2
  have y3 := h d1 t1 u1
  have y4 := h d2 t2 u2
  omega
theorem fg_min {sp : Int → Int} : ∀ i : Nat, (fgF sp i).2 = sp (fgF sp i).1 ∧ (∀ g : Int, 0 ≤ g → g ≤ (i : Int) → (fgF sp i).2 ≤ sp g) ∧ (0 ≤ (fgF sp i).1 ∧ (fgF sp i).1 ≤ i) ∧ ∀ g, 0 ≤ g → g < (fgF sp i).1 → (fgF sp i).2 < sp g := by
  intro i
  induction i with
  | zero =>
    refine ⟨rfl, fun g a b => ?_, ⟨Int.le_refl _, Int.le_refl _⟩, fun g a b => ?_⟩
    · have e : g = 0 := by omega
      subst e
      exact Int.le_refl _
    · have b : g < 0 := b
      omega
  | succ i ih =>
    obtain ⟨h1, h2, h3, h4⟩ := ih
    by_cases q : sp ((i : Int) + 1) < (fgF sp i).2
    · have e : fgF sp (i + 1) = ((i : Int) + 1, sp ((i : Int) + 1)) := if_pos q
      rw [e]
      refine ⟨rfl, fun g a b => ?_, ⟨by show (0 : Int) ≤ (i : Int) + 1; omega, by show (i : Int) + 1 ≤ _; omega⟩, fun g a b => ?_⟩
      · show sp ((i : Int) + 1) ≤ sp g
        by_cases w : g = (i : Int) + 1
        · subst w; exact Int.le_refl _
        · have := h2 g a (by omega)
          omega
      · show sp ((i : Int) + 1) < sp g
        have b : g < (i : Int) + 1 := b
        have := h2 g a (by omega)
        omega
    · have e : fgF sp (i + 1) = fgF sp i := if_neg q
      rw [e]
      refine ⟨h1, fun g a b => ?_, by omega, h4⟩
      by_cases w : g = (i : Int) + 1
      · subst w; omega
      · exact h2 g a (by omega)
theorem clZ_mono {a b : Int} (h : a ≤ b) : clZ a ≤ clZ b := by unfold clZ; repeat' split <;> omega
/-- the model's fair handicaps are the class's -/
theorem fair_eq {b u : Int → Int} {n : Int} (hn : 0 < n ∧ n ≤ 5) (hb : ∀ c, 0 ≤ c → c < 5 → 0 ≤ b c ∧ b c ≤ 128) (hu : ∀ c, 0 ≤ c → c < n → u c = b c) : (ffold b n (pw 6 n.toNat).toNat).1 = spU u n (fgF (spU u n) 133).1 ∧ ∀ c, 0 ≤ c → c < n → (ffold b n (pw 6 n.toNat).toNat).2.2 c = clZ ((fgF (spU u n) 133).1 - u c) := by
  have hur : ∀ c, 0 ≤ c → c < n → 0 ≤ u c ∧ u c ≤ 128 := fun c a q => by rw [hu c a q]; exact hb c a (by omega)
  have hS := fun j : Int => spr_SP (n := n) hn hb j
  have hpos : ∀ i : Nat, 0 ≤ sprF b n i := fun i => by
    obtain ⟨lo, hi, e, f, ⟨c, a, q, r⟩, _⟩ := hS i
    have := f c a q
    omega
  have hU := fun g : Int => spU_SP (u := u) (g := g) hn hur
  obtain ⟨g1, g2, g3, g4⟩ := fg_min (sp := spU u n) 133
  generalize hg : (fgF (spU u n) 133).1 = g at *
  rw [g1] at g2 g4
  -- the code of the goal's handicaps
  have hz : ∀ c : Int, 0 ≤ c → c < n.toNat → 0 ≤ clZ (g - u c) ∧ clZ (g - u c) ≤ 5 := fun c _ _ => clZ_r _
  have hE := enc_ok (z := fun c => clZ (g - u c)) n.toNat (fun _ => 0) hz
  generalize hJ : enc (fun c => clZ (g - u c)) n.toNat = J at *
  obtain ⟨j, hj, e, hm⟩ := ffold_min (b := b) (n := n) hpos (pw 6 n.toNat).toNat (by omega)
  have hmJ := hm J.toNat (by omega)
  rw [Int.toNat_of_nonneg hE.1] at hmJ
  have hdJ : ∀ c, 0 ≤ c → c < n → D6 n J c = clZ (g - u c) := fun c a q => hE.2.2 c a (by omega)
  have sJ : sprF b n J = spU u n g := SP_eq (fun c a q => by show b c + D6 n J c = u c + clZ (g - u c); rw [hdJ c a q, hu c a q]) (hS J) (hU g)
  -- the best code's least time is a goal
  have hd := fun c a q => f5_r n.toNat (j : Int) (fun _ => 0) c a q
  obtain ⟨lo, hi, e1, f1, ⟨c1, p1, q1, r1⟩, d1, t1, u1, w1⟩ := hS (j : Int)
  have hd1 := hd c1 p1 (by omega)
  have hb1 := hb c1 p1 (by omega)
  have r1 : b c1 + fill5 n.toNat (j : Int) (fun _ => 0) (5 + c1) = lo := r1
  have hle : ∀ c, 0 ≤ c → c < n → clZ (lo - u c) ≤ D6 n j c ∧ lo ≤ u c + clZ (lo - u c) ∧ u c + clZ (lo - u c) ≤ hi := fun c a q => by
    have x := f1 c a q
    have y := hd c a (by omega)
    have x : lo ≤ b c + fill5 n.toNat (j : Int) (fun _ => 0) (5 + c) ∧ b c + fill5 n.toNat (j : Int) (fun _ => 0) (5 + c) ≤ hi := x
    have x1 := f1 c1 p1 q1
    have x1 : lo ≤ b c1 + fill5 n.toNat (j : Int) (fun _ => 0) (5 + c1) ∧ b c1 + fill5 n.toNat (j : Int) (fun _ => 0) (5 + c1) ≤ hi := x1
    rw [hu c a q]
    show clZ (lo - b c) ≤ fill5 n.toNat (j : Int) (fun _ => 0) (5 + c) ∧ _
    unfold clZ
    repeat' split
    all_goals omega
  have sm : spU u n lo ≤ sprF b n j := by
    obtain ⟨l2, h2, e2, f2, ⟨c2, p2, q2, r2⟩, d2, t2, u2, w2⟩ := hU lo
    have y1 := (hle c2 p2 q2).2.1
    have y2 := (hle d2 t2 u2).2.2
    have r2 : u c2 + clZ (lo - u c2) = l2 := r2
    have w2 : u d2 + clZ (lo - u d2) = h2 := w2
    omega
  have gl := g2 lo (by omega) (by omega)
  have hs : sprF b n j = spU u n g := by omega
  have hgl : g ≤ lo := by
    apply Classical.byContradiction
    intro y
    have := g4 lo (by omega) (by omega)
    omega
  have hpt : ∀ c, 0 ≤ c → c < n → D6 n J c ≤ D6 n j c := fun c a q => by
    rw [hdJ c a q]
    exact Int.le_trans (clZ_mono (by omega)) (hle c a q).1
  have sj1 : sumF n j = 0 + sumZ (fun c => D6 n j c) n.toNat := su_ch n.toNat (j : Int) 0 (fun _ => 0)
  have sj2 : sumF n J = 0 + sumZ (fun c => D6 n J c) n.toNat := su_ch n.toNat J 0 (fun _ => 0)
  rw [e]
  refine ⟨hs, fun c a q => ?_⟩
  rw [← hdJ c a q]
  show D6 n j c = D6 n J c
  apply Classical.byContradiction
  intro y
  have := hpt c a q
  have := sumZ_lt (f := fun c => D6 n J c) (g := fun c => D6 n j c) (k := n.toNat) c a (by omega) (fun c a q => hpt c a (by omega)) (by show D6 n J c < D6 n j c; omega)
  omega
