/-! a day as the class holds it and as the model does; deeds and snapshots -/
def DV (n : Int) (p h g r : Int → Int) (wk : Int) (s : Int → Int) : Prop := (∀ c, 0 ≤ c → c < n → p c = s c ∧ h c = s (5 + c) ∧ g c = bit (s 10) c ∧ r c = s (12 + c)) ∧ wk = s 11
/-- what holds of a day of the model's -/
def DI (n : Int) (s : Int → Int) : Prop := NW n s ∧ (∀ c, 0 ≤ c → c < n → 0 ≤ s (12 + c)) ∧ s 11 = sumZ (fun c => s (12 + c)) n.toNat ∧ s 11 ≤ 999
def a17 (s t : Int → Int) : Prop := ∀ i, 0 ≤ i → i < 17 → s i = t i
theorem a17.sy {s t : Int → Int} (h : a17 s t) : a17 t s := fun i a b => (h i a b).symm
theorem DV_cg {n : Int} {p h g r s t : Int → Int} {wk : Int} (hn : n ≤ 5) (e : a17 s t) (d : DV n p h g r wk s) : DV n p h g r wk t := by
  refine ⟨fun c a b => ?_, ?_⟩
  · rw [← e c a (by omega), ← e (5 + c) (by omega) (by omega), ← e 10 (by omega) (by omega), ← e (12 + c) (by omega) (by omega)]
    exact d.1 c a b
  · rw [← e 11 (by omega) (by omega)]
    exact d.2
theorem DI_cg {n : Int} {s t : Int → Int} (hn : 0 ≤ n ∧ n ≤ 5) (e : a17 s t) (d : DI n s) : DI n t := by
  obtain ⟨⟨n1, n2⟩, d2, d3, d4⟩ := d
  refine ⟨⟨fun c a b => ?_, ?_⟩, fun c a b => ?_, ?_, ?_⟩
  · rw [← e c a (by omega), ← e (5 + c) (by omega) (by omega)]
    exact n1 c a b
  · rw [← e 10 (by omega) (by omega)]
    exact n2
  · rw [← e (12 + c) (by omega) (by omega)]
    exact d2 c a b
  · rw [← e 11 (by omega) (by omega), d3]
    exact sumZ_congr (fun c a b => e (12 + c) (by omega) (by omega))
  · rw [← e 11 (by omega) (by omega)]
    exact d4
/-- the deed (w, c, o) led from the day s' to the day s -/
def UN (n w c o : Int) (s s' : Int → Int) : Prop := (0 ≤ w ∧ w ≤ 3) ∧ (0 ≤ c ∧ c < n) ∧ (w = 1 → 0 ≤ o ∧ o < n) ∧ ∀ (p h g r : Int → Int) (wk : Int), DV n p h g r wk s → DV n (if w = 1 then exD p c o else p) (if w = 2 then up h c o else h) (if w = 3 then up g c (1 - g c) else g) (if w = 0 then up r c (r c - 1) else r) (if w = 0 then wk - 1 else wk) s'
theorem UN_cg {n w c o : Int} {s t s' t' : Int → Int} (hn : n ≤ 5) (e : a17 s t) (e' : a17 s' t') (u : UN n w c o s s') : UN n w c o t t' := ⟨u.1, u.2.1, u.2.2.1, fun p h g r wk d => DV_cg hn e' (u.2.2.2 p h g r wk (DV_cg hn e.sy d))⟩
def Bk (kn : Int) (m4 m5 : Int → Int) (k : Int) : Int → Int := if k = kn then m4 else fun i => m5 (17 * k + i)
/-- the deeds known, and the days behind them -/
def DE (n ks kn : Int) (c33 c34 c35 m4 m5 : Int → Int) : Prop := ks = kn ∧ (0 ≤ kn ∧ kn ≤ 10) ∧ ∀ k, 0 ≤ k → k < kn → UN n (c33 k) (c34 k) (c35 k) (Bk kn m4 m5 (k + 1)) (Bk kn m4 m5 k) ∧ DI n (Bk kn m4 m5 k)
theorem bk1 {kn : Int} {m4 m5 m4' : Int → Int} : ∀ k, 0 ≤ k → k ≤ kn → a17 (Bk kn m4 m5 k) (Bk (kn + 1) m4' (cpy m4 m5 0 (17 * kn) 17) k) := by
  intro k h0 h1 i a b
  unfold Bk
  rw [if_neg (show ¬ k = kn + 1 by omega)]
  show _ = cpy m4 m5 0 (17 * kn) 17 (17 * k + i)
  unfold cpy
  by_cases q : k = kn
  · subst q
    rw [if_pos rfl, if_pos (by omega), show (0 : Int) + (17 * k + i - 17 * k) = i by omega]
  · rw [if_neg q, if_neg (by omega)]
theorem bk2 {m4 m5 m4' : Int → Int} : ∀ k, 0 ≤ k → k ≤ 9 → a17 (Bk 10 m4 m5 (k + 1)) (Bk 10 m4' (cpy m4 (sft m5 153) 0 153 17) k) := by
  intro k h0 h1 i a b
  unfold Bk
  rw [if_neg (show ¬ k = 10 by omega)]
  show _ = cpy m4 (sft m5 153) 0 153 17 (17 * k + i)
  unfold cpy sft
  by_cases q : k = 9
  · subst q
    rw [if_pos (by omega), if_pos (by omega)]
    congr 1
    omega
  · rw [if_neg (by omega), if_neg (by omega), if_pos (by omega)]
    congr 1
    omega
theorem DE_a1 {n kn w c o : Int} {c33 c34 c35 m4 m5 m4' : Int → Int} (hn : 0 ≤ n ∧ n ≤ 5) (d : DE n kn kn c33 c34 c35 m4 m5) (hk : kn < 10) (i4 : DI n m4) (u : UN n w c o m4' m4) : DE n (kn + 1) (kn + 1) (up c33 kn w) (up c34 kn c) (up c35 kn o) m4' (cpy m4 m5 0 (17 * kn) 17) := by
  obtain ⟨-, d1, d2⟩ := d
  refine ⟨rfl, by omega, fun k h0 h1 => ?_⟩
  by_cases q : k = kn
  · subst q
    have e1 : Bk (k + 1) m4' (cpy m4 m5 0 (17 * k) 17) (k + 1) = m4' := if_pos rfl
    have e2 : a17 m4 (Bk (k + 1) m4' (cpy m4 m5 0 (17 * k) 17) k) := by
      have := bk1 (kn := k) (m4 := m4) (m5 := m5) (m4' := m4') k h0 (Int.le_refl _)
      rw [show Bk k m4 m5 k = m4 from if_pos rfl] at this
      exact this
    rw [up_s, up_s, up_s, e1]
    exact ⟨UN_cg hn.2 (fun _ _ _ => rfl) e2 u, DI_cg hn e2 i4⟩
  · obtain ⟨x1, x2⟩ := d2 k h0 (by omega)
    rw [up_n q, up_n q, up_n q]
    exact ⟨UN_cg hn.2 (bk1 (k + 1) (by omega) (by omega)) (bk1 k h0 (by omega)) x1, DI_cg hn (bk1 k h0 (by omega)) x2⟩
theorem DE_a2 {n w c o : Int} {c33 c34 c35 m4 m5 m4' : Int → Int} (hn : 0 ≤ n ∧ n ≤ 5) (d : DE n 10 10 c33 c34 c35 m4 m5) (i4 : DI n m4) (u : UN n w c o m4' m4) : DE n 10 10 (up (cpy c33 c33 1 0 9) 9 w) (up (cpy c34 c34 1 0 9) 9 c) (up (cpy c35 c35 1 0 9) 9 o) m4' (cpy m4 (sft m5 153) 0 153 17) := by
  obtain ⟨-, d1, d2⟩ := d
  refine ⟨rfl, by omega, fun k h0 h1 => ?_⟩
  by_cases q : k = 9
  · subst q
    have e1 : Bk 10 m4' (cpy m4 (sft m5 153) 0 153 17) (9 + 1) = m4' := if_pos rfl
    have e2 : a17 m4 (Bk 10 m4' (cpy m4 (sft m5 153) 0 153 17) 9) := by
      have := bk2 (m4 := m4) (m5 := m5) (m4' := m4') 9 h0 (Int.le_refl _)
      rw [show Bk 10 m4 m5 (9 + 1) = m4 from if_pos rfl] at this
      exact this
    rw [up_s, up_s, up_s, e1]
    exact ⟨UN_cg hn.2 (fun _ _ _ => rfl) e2 u, DI_cg hn e2 i4⟩
  · obtain ⟨x1, x2⟩ := d2 (k + 1) (by omega) (by omega)
    have cc : ∀ f : Int → Int, cpy f f 1 0 9 k = f (k + 1) := fun f => by
      unfold cpy
      rw [if_pos (by omega)]
      congr 1
      omega
    rw [up_n q, up_n q, up_n q, cc, cc, cc]
    exact ⟨UN_cg hn.2 (bk2 (k + 1) (by omega) (by omega)) (bk2 k h0 (by omega)) x1, DI_cg hn (bk2 k h0 (by omega)) x2⟩
theorem DE_add {hC hM : Hp} {n w c o : Int} {m4' : Int → Int} (hn : 0 ≤ n ∧ n ≤ 5) (d : DE n (hC 7 3) (hM 0 7) (hC 33) (hC 34) (hC 35) (hM 4) (hM 5)) (i4 : DI n (hM 4)) (u : UN n w c o m4' (hM 4)) : DE n (dAdd hC w c o 7 3) (rmb hM 0 7) (dAdd hC w c o 33) (dAdd hC w c o 34) (dAdd hC w c o 35) m4' (rmb hM 5) := by
  have e := d.1
  have r := d.2.1
  by_cases q : hM 0 7 = 10
  · have e1 : dAdd hC w c o = dPut (dDrop hC) w c o := if_neg (by omega)
    have e2 : rmb hM = hq hM [(5, cpy (hM 4) (sft (hM 5) 153) 0 153 17), (0, up (hM 0) 7 10)] := if_pos q
    rw [e1, e2]
    rw [e, q] at d
    exact DE_a2 hn d i4 u
  · have e1 : dAdd hC w c o = dPut hC w c o := if_pos (by omega)
    have e2 : rmb hM = hq hM [(5, cpy (hM 4) (hM 5) 0 (17 * hM 0 7) 17), (0, up (hM 0) 7 (hM 0 7 + 1))] := if_neg q
    rw [e1, e2]
    rw [e] at d
    have := DE_a1 hn d (by omega) i4 u
    rw [← e] at this
    show DE n (hC 7 3 + 1) (hM 0 7 + 1) (up (hC 33) (hC 7 3) w) (up (hC 34) (hC 7 3) c) (up (hC 35) (hC 7 3) o) m4' (cpy (hM 4) (hM 5) 0 (17 * hM 0 7) 17)
    rw [e] at this ⊢
    exact this
/-- what else lies there stays -/
theorem rmb_o {h : Hp} {k : Nat} (h1 : k ≠ 5) (h2 : k ≠ 0) : rmb h k = h k := by
  have e : ∀ f g : Int → Int, hq h [(5, f), (0, g)] k = h k := fun f g => by
    show cond (Nat.beq k 5) f (cond (Nat.beq k 0) g (h k)) = h k
    rw [nbf h1, nbf h2]
    rfl
  unfold rmb
  split
  · exact e _ _
  · exact e _ _
theorem rmb_z {h : Hp} {i : Int} (hi : i ≠ 7) : rmb h 0 i = h 0 i := by
  unfold rmb
  split
  · exact up_n hi
  · exact up_n hi
theorem dAdd_7 {h : Hp} {w c o i : Int} (hi : i ≠ 3) : dAdd h w c o 7 i = h 7 i := by
  unfold dAdd
  split
  · exact up_n hi
  · show up (up (h 7) 3 9) 3 _ i = h 7 i
    rw [up_n hi, up_n hi]
