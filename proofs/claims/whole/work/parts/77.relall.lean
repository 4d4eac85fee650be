/-- an image: kept or not; if kept, its day -/
def IM (n kc km : Int) (p h g r : Int → Int) (wk : Int) (s : Int → Int) : Prop := kc = km ∧ (km = 0 ∨ km = 1) ∧ (∀ c, 0 ≤ c → c < 5 → g c = 0 ∨ g c = 1) ∧ (km = 1 → DV n p h g r wk s ∧ DI n s)
def RG (hM : Hp) : Prop := (0 ≤ hM 0 2 ∧ hM 0 2 ≤ 5) ∧ (0 ≤ hM 0 0 ∧ hM 0 0 ≤ 16) ∧ (∀ i, 0 ≤ i → i < hM 0 0 → 2 ≤ hM 1 i ∧ hM 1 i ≤ 8) ∧ MCh hM ∧ (∀ c, 0 ≤ c → c < hM 0 2 → 0 ≤ hM 2 (2 * c + 1) ∧ hM 2 (2 * c + 1) ≤ 3)
def RD (hC hM : Hp) : Prop := DV (hM 0 2) (hC 21) (hC 22) (hC 23) (hC 24) (hC 4 4) (hM 4) ∧ DI (hM 0 2) (hM 4) ∧ ∀ c, 0 ≤ c → c < 5 → hC 23 c = 0 ∨ hC 23 c = 1
def RE (hC hM : Hp) : Prop := DE (hM 0 2) (hC 7 3) (hM 0 7) (hC 33) (hC 34) (hC 35) (hM 4) (hM 5)
def RIm (hC hM : Hp) : Prop := IM (hM 0 2) (hC 5 5) (hM 7 0) (hC 25) (hC 26) (hC 27) (hC 28) (hC 5 4) (fun i => hM 6 i) ∧ IM (hM 0 2) (hC 6 5) (hM 7 1) (hC 29) (hC 30) (hC 31) (hC 32) (hC 6 4) (fun i => hM 6 (17 + i))
def RTx (hC hM : Hp) : Prop := hC 1 1 = hM 0 14 ∧ hC 12 = hM 9 ∧ TX hM
def RTm (hC hM : Hp) : Prop := TM hC hM ∧ (0 ≤ hM 0 10 ∧ hM 0 10 ≤ 6) ∧ ∀ k, 0 ≤ k → k < hM 0 10 → (0 ≤ hM 8 (2 * k) ∧ hM 8 (2 * k) < hM 0 2) ∧ (1 ≤ hM 8 (2 * k + 1) ∧ hM 8 (2 * k + 1) ≤ 200)
/-- what holds between the two objects at all times -/
def Rel (hC hM : Hp) : Prop := TD hC hM ∧ RG hM ∧ hC 2 6 = sumZ (hC 13) (hC 2 4).toNat ∧ RD hC hM ∧ RE hC hM ∧ RIm hC hM ∧ RTx hC hM ∧ RTm hC hM ∧ hC 10 0 = hM 0 12
theorem Rel_0 : Rel hz hz := by
  refine ⟨⟨rfl, rfl, fun i _ _ => rfl, fun c _ _ => ⟨rfl, rfl, rfl⟩⟩, ⟨⟨by decide, by decide⟩, ⟨by decide, by decide⟩, ?_, ?_, ?_⟩, rfl, ⟨⟨fun c _ _ => ⟨rfl, rfl, ?_, rfl⟩, rfl⟩, ⟨⟨?_, by decide, by decide⟩, ?_, rfl, by decide⟩, fun c _ _ => Or.inl rfl⟩, ⟨rfl, ⟨by decide, by decide⟩, ?_⟩, ⟨⟨rfl, Or.inl rfl, fun c _ _ => Or.inl rfl, ?_⟩, ⟨rfl, Or.inl rfl, fun c _ _ => Or.inl rfl, ?_⟩⟩, ⟨rfl, rfl, ⟨by decide, by decide⟩, ?_⟩, ⟨⟨rfl, fun k _ _ => ⟨rfl, rfl⟩⟩, ⟨by decide, by decide⟩, ?_⟩, rfl⟩
  · intro i a b; have b : i < 0 := b; omega
  · intro i a b; have b : i < 0 := b; omega
  · intro i a b; have b : i < 0 := b; omega
  · exact (bit_0 _).symm
  · intro i a b; have b : i < 0 := b; omega
  · intro i a b; have b : i < 0 := b; omega
  · intro i a b; have b : i < 0 := b; omega
  · intro w; exact absurd w (by decide)
  · intro w; exact absurd w (by decide)
  · intro i a b; have b : i < 0 := b; omega
  · intro i a b; have b : i < 0 := b; omega
section RA
variable {hC hM : Hp}
theorem Rel.td (r : Rel hC hM) : TD hC hM := r.1
theorem Rel.n (r : Rel hC hM) : 0 ≤ hM 0 2 ∧ hM 0 2 ≤ 5 := r.2.1.1
theorem Rel.cl (r : Rel hC hM) : 0 ≤ hM 0 0 ∧ hM 0 0 ≤ 16 := r.2.1.2.1
theorem Rel.nC (r : Rel hC hM) : 0 ≤ hC 2 5 ∧ hC 2 5 ≤ 5 := by rw [r.1.1]; exact r.n
theorem Rel.clC (r : Rel hC hM) : 0 ≤ hC 2 4 ∧ hC 2 4 ≤ 16 := by rw [r.1.2.1]; exact r.cl
theorem Rel.mch (r : Rel hC hM) : MCh hM := r.2.1.2.2.2.1
theorem Rel.di (r : Rel hC hM) : DI (hM 0 2) (hM 4) := r.2.2.2.1.2.1
theorem Rel.nw (r : Rel hC hM) : NW (hM 0 2) (hM 4) := r.di.1
theorem Rel.dv (r : Rel hC hM) : DV (hM 0 2) (hC 21) (hC 22) (hC 23) (hC 24) (hC 4 4) (hM 4) := r.2.2.2.1.1
theorem Rel.dy (r : Rel hC hM) : DY (hM 0 2) hC 21 (hM 4) := r.dv.1
theorem Rel.bz (r : Rel hC hM) : ∀ c, 0 ≤ c → c < 5 → hC 23 c = 0 ∨ hC 23 c = 1 := r.2.2.2.1.2.2
theorem Rel.de (r : Rel hC hM) : RE hC hM := r.2.2.2.2.1
theorem Rel.im (r : Rel hC hM) : RIm hC hM := r.2.2.2.2.2.1
theorem Rel.tx (r : Rel hC hM) : RTx hC hM := r.2.2.2.2.2.2.1
theorem Rel.tm (r : Rel hC hM) : RTm hC hM := r.2.2.2.2.2.2.2.1
theorem Rel.tr (r : Rel hC hM) : hC 10 0 = hM 0 12 := r.2.2.2.2.2.2.2.2
theorem Rel.len (r : Rel hC hM) : hC 2 6 = sumZ (hC 13) (hC 2 4).toNat := r.2.2.1
theorem Rel.wk (r : Rel hC hM) : hC 4 4 = hM 4 11 := r.dv.2
theorem Rel.reg (r : Rel hC hM) : ∀ c, 0 ≤ c → c < hM 0 2 → 0 ≤ hM 4 (12 + c) ∧ hM 4 (12 + c) ≤ 999 := fun c a b => by
  obtain ⟨-, d2, d3, d4⟩ := r.di
  refine ⟨d2 c a b, ?_⟩
  have hn := r.n
  have h1 : hM 4 (12 + c) ≤ sumZ (fun c => hM 4 (12 + c)) (hM 0 2).toNat := by
    have e1 := sumZ_mo (f := fun c => hM 4 (12 + c)) (cl := hM 0 2) (a := c + 1) (b := hM 0 2) d2 (by omega) (by omega) (Int.le_refl _)
    have e2 := sumZ_1 (f := fun c => hM 4 (12 + c)) a
    have e3 := sumZ_nn (f := fun c => hM 4 (12 + c)) (k := c.toNat) (fun e x y => d2 e x (by omega))
    omega
  omega
theorem Rel.wr (r : Rel hC hM) : 0 ≤ hM 4 11 ∧ hM 4 11 ≤ 999 := by
  obtain ⟨-, d2, d3, d4⟩ := r.di
  have hn := r.n
  have e3 := sumZ_nn (f := fun c => hM 4 (12 + c)) (k := (hM 0 2).toNat) (fun e x y => d2 e x (by omega))
  omega
theorem Rel.mw (r : Rel hC hM) (q : 0 < hM 0 0 ∧ 0 < hM 0 2) : MW hM := ⟨⟨q.2, r.n.2, q.1, r.cl.2, r.2.1.2.2.1⟩, r.mch⟩
theorem Rel.cch (r : Rel hC hM) : CCh hC := fun c a b => by
  rw [r.1.1] at b
  obtain ⟨t1, t2, t3⟩ := r.td.2.2.2 c a b
  obtain ⟨m1, m2, m3, m4⟩ := r.mch c a b
  obtain ⟨d1, d2, d3, d4⟩ := r.dy c a b
  obtain ⟨n1, n2, n3, n4⟩ := r.nw.1 c a b
  have e1 : hC 22 c = hM 4 (5 + c) := d2
  refine ⟨by omega, by omega, by omega, r.bz c a (by have := r.n; omega)⟩
theorem Rel.chp (r : Rel hC hM) : CHp hC := by
  refine ⟨r.nC, r.clC, fun i a b => ?_, r.cch, fun c a b => ?_, r.len⟩
  · rw [r.1.2.1] at b
    rw [← r.1.2.2.1 i a b]
    exact r.2.1.2.2.1 i a b
  · rw [r.1.1] at b ⊢
    obtain ⟨d1, d2, d3, d4⟩ := r.dy c a b
    obtain ⟨n1, n2, n3, n4⟩ := r.nw.1 c a b
    have e1 : hC 21 c = hM 4 c := d1
    omega
theorem Rel.race (r : Rel hC hM) : (0 < hC 2 4 ∧ 0 < hC 2 5) ↔ (0 < hM 0 0 ∧ 0 < hM 0 2) := by rw [r.1.1, r.1.2.1]
theorem Rel.cw (r : Rel hC hM) (q : 0 < hM 0 0 ∧ 0 < hM 0 2) : CW hC := r.chp.W (r.race.mpr q)
theorem Rel.knr (r : Rel hC hM) : 0 ≤ hM 0 7 ∧ hM 0 7 ≤ 10 := r.de.2.1
theorem Rel.kn (r : Rel hC hM) : hC 7 3 = hM 0 7 := r.de.1
/-- what nobody sees may change -/
theorem Rel.ps {hC' hM' : Hp} (r : Rel hC hM) (pc : PsC hC hC') (pm : PsM hM hM') : Rel hC' hM' := by
  have c2 := pc.1 2 rfl
  have c4 := pc.1 4 rfl
  have c5 := pc.1 5 rfl
  have c6 := pc.1 6 rfl
  have c7 := pc.1 7 rfl
  have c8 := pc.1 8 rfl
  have c10 := pc.1 10 rfl
  have c12 := pc.1 12 rfl
  have c13 := pc.1 13 rfl
  have c14 := pc.1 14 rfl
  have c15 := pc.1 15 rfl
  have c16 := pc.1 16 rfl
  have c21 := pc.1 21 rfl
  have c22 := pc.1 22 rfl
  have c23 := pc.1 23 rfl
  have c24 := pc.1 24 rfl
  have c25 := pc.1 25 rfl
  have c26 := pc.1 26 rfl
  have c27 := pc.1 27 rfl
  have c28 := pc.1 28 rfl
  have c29 := pc.1 29 rfl
  have c30 := pc.1 30 rfl
  have c31 := pc.1 31 rfl
  have c32 := pc.1 32 rfl
  have c33 := pc.1 33 rfl
  have c34 := pc.1 34 rfl
  have c35 := pc.1 35 rfl
  have c36 := pc.1 36 rfl
  have c37 := pc.1 37 rfl
  have c1 := pc.2
  have m1 := pm.1 1 (by decide) (by decide)
  have m2 := pm.1 2 (by decide) (by decide)
  have m3 := pm.1 3 (by decide) (by decide)
  have m4 := pm.1 4 (by decide) (by decide)
  have m5 := pm.1 5 (by decide) (by decide)
  have m6 := pm.1 6 (by decide) (by decide)
  have m7 := pm.1 7 (by decide) (by decide)
  have m8 := pm.1 8 (by decide) (by decide)
  have m9 := pm.1 9 (by decide) (by decide)
  have z0 := pm.2 0 (by omega)
  have z2 := pm.2 2 (by omega)
  have z7 := pm.2 7 (by omega)
  have z10 := pm.2 10 (by omega)
  have z12 := pm.2 12 (by omega)
  have z14 := pm.2 14 (by omega)
  unfold Rel TD RG MCh RD RE RIm RTx TX RTm TM at r ⊢
  simp only [c1, c2, c4, c5, c6, c7, c8, c10, c12, c13, c14, c15, c16, c21, c22, c23, c24, c25, c26, c27, c28, c29, c30, c31, c32, c33, c34, c35, c36, c37, m1, m2, m3, m4, m5, m6, m7, m8, m9, z0, z2, z7, z10, z12, z14]
  exact r
end RA
