theorem sumZ_inc {f g : Int → Int} {c : Int} (h0 : 0 ≤ c) (hc : g c = f c + 1) (ho : ∀ e, 0 ≤ e → e ≠ c → g e = f e) : ∀ k : Nat, c < k → sumZ g k = sumZ f k + 1 := by
  intro k
  induction k with
  | zero => intro h; omega
  | succ k ih =>
    intro h
    show sumZ g k + g k = sumZ f k + f k + 1
    by_cases q : c = (k : Int)
    · rw [← q, hc, sumZ_congr (f := g) (g := f) (k := k) (fun e a b => ho e a (by omega))]
      omega
    · rw [ih (by omega), ho k (by omega) (fun w => q w.symm)]
      omega
theorem DV_pf {n : Int} {p h g r p' h' g' r' s : Int → Int} {wk : Int} (hn : n ≤ 5) (d : DV n p h g r wk s) : DV n (pf p p' 5) (pf h h' 5) (pf g g' 5) (pf r r' 5) wk s := by
  refine ⟨fun c a b => ?_, d.2⟩
  have e : ∀ f f' : Int → Int, pf f f' 5 c = f c := fun f f' => if_pos ⟨a, by omega⟩
  rw [e, e, e, e]
  exact d.1 c a b
theorem pf_z {g g' : Int → Int} (h : ∀ c, 0 ≤ c → c < 5 → g c = 0 ∨ g c = 1) : ∀ c, 0 ≤ c → c < 5 → pf g g' 5 c = 0 ∨ pf g g' 5 c = 1 := fun c a b => by
  rw [show pf g g' 5 c = g c from if_pos ⟨a, b⟩]
  exact h c a b
theorem IM_cg {n kc km : Int} {p h g r s t : Int → Int} {wk : Int} (hn : 0 ≤ n ∧ n ≤ 5) (e : a17 s t) (i : IM n kc km p h g r wk s) : IM n kc km p h g r wk t := ⟨i.1, i.2.1, i.2.2.1, fun w => ⟨DV_cg hn.2 e (i.2.2.2 w).1, DI_cg hn e (i.2.2.2 w).2⟩⟩
section AG3
variable {hC hM : Hp} {c : Int}
theorem a_tuesday (r : Rel hC hM) : Agr hC hM mX8_tuesday mX9_tuesday [] := by
  have en := r.1.1
  have el := r.1.2.1
  have hn := r.n
  have ew := r.wk
  have hw := r.wr
  refine ⟨_, _, c_tuesday r.chp (by rw [ew]; exact hw) (by rw [r.kn]; exact r.knr), m_tuesday r.cl r.n r.mw r.nw r.knr hw, ?_⟩
  rintro x h' y h'' (⟨p1, rfl, rfl⟩ | ⟨p1, rfl, H, pc, rfl⟩) (⟨q1, rfl, rfl⟩ | ⟨q1, rfl, pm⟩)
  · exact ⟨rfl, r⟩
  · omega
  · omega
  · have wd : winK hC 21 0 = (raceS hM (hM 4) 0).2.2.2.1 0 := win_day (r.mw q1.1) r.td r.nw r.cch r.dy 0
    have wr := winK_r (r.cw q1.1) r.chp.2.2.2.2.1 0
    refine ⟨wd, ?_⟩
    rw [← wd] at pm
    clear wd
    have r1 : Rel H hM := r.ps pc PsM.rf
    rw [← pc.1 24 rfl, ← pc.1 4 rfl]
    generalize winK hC 21 0 = w at pm wr ⊢
    rw [en] at wr
    have em : ∀ x, up (up (hM 4) 11 (hM 4 11 + 1)) (12 + w) (hM 4 (12 + w) + 1) x = if x = 12 + w then hM 4 (12 + w) + 1 else if x = 11 then hM 4 11 + 1 else hM 4 x := fun x => rfl
    refine Rel.ps (Rel_deed (w := 0) (o := 0) (m4' := up (up (hM 4) 11 (hM 4 11 + 1)) (12 + w) (hM 4 (12 + w) + 1)) (h1 := hq H [(24, up (H 24) w (H 24 w + 1)), (4, up (H 4) 4 (H 4 4 + 1))]) r1 (fun k a b => ?_) ⟨fun e a b => ?_, ?_⟩ ⟨⟨fun e a b => ?_, ?_⟩, fun e a b => ?_, ?_, ?_⟩ r1.bz ⟨⟨by decide, by decide⟩, wr, fun w => absurd w (by decide), fun p h g rr wk dv => ⟨fun e a b => ?_, ?_⟩⟩) PsC.rf pm
    · show cond (Nat.beq k 24) _ (cond (Nat.beq k 4) _ (H k)) = H k
      rw [nbf (by omega), nbf a]
      rfl
    · obtain ⟨d1, d2, d3, d4⟩ := r1.dv.1 e a b
      rw [em, em, em, em]
      rw [if_neg (show ¬ e = 12 + w by omega), if_neg (show ¬ e = 11 by omega), if_neg (show ¬ 5 + e = 12 + w by omega), if_neg (show ¬ 5 + e = 11 by omega), if_neg (show ¬ (10 : Int) = 12 + w by omega), if_neg (show ¬ (10 : Int) = 11 by omega)]
      refine ⟨d1, d2, d3, ?_⟩
      show up (H 24) w (H 24 w + 1) e = _
      by_cases q : e = w
      · subst q; rw [up_s, if_pos rfl, d4]
      · rw [up_n q, if_neg (by omega), if_neg (by omega)]; exact d4
    · show H 4 4 + 1 = _
      rw [em, if_neg (by omega), if_pos rfl, r1.wk]
    · rw [em, em, if_neg (show ¬ e = 12 + w by omega), if_neg (show ¬ e = 11 by omega), if_neg (show ¬ 5 + e = 12 + w by omega), if_neg (show ¬ 5 + e = 11 by omega)]
      exact r.nw.1 e a b
    · rw [em, if_neg (by omega), if_neg (by omega)]; exact r.nw.2
    · have := r.di.2.1 e a b
      have := r.di.2.1 w wr.1 wr.2
      rw [em]
      by_cases q : e = w
      · rw [if_pos (by omega)]; omega
      · rw [if_neg (by omega), if_neg (by omega)]; omega
    · rw [em, if_neg (by omega), if_pos rfl]
      refine (congrArg (· + 1) r.di.2.2.1).trans (sumZ_inc (c := w) wr.1 ?_ (fun e a0 a => ?_) (hM 0 2).toNat (by omega)).symm
      · show up (up (hM 4) 11 (hM 4 11 + 1)) (12 + w) (hM 4 (12 + w) + 1) (12 + w) = hM 4 (12 + w) + 1
        rw [up_s]
      · show up (up (hM 4) 11 (hM 4 11 + 1)) (12 + w) (hM 4 (12 + w) + 1) (12 + e) = hM 4 (12 + e)
        rw [up_n (by omega), up_n (by omega)]
    · rw [em, if_neg (by omega), if_pos rfl]; omega
    · obtain ⟨d1, d2, d3, d4⟩ := dv.1 e a b
      rw [em] at d1 d2 d3 d4
      rw [if_neg (show ¬ e = 12 + w by omega), if_neg (show ¬ e = 11 by omega)] at d1
      rw [if_neg (show ¬ 5 + e = 12 + w by omega), if_neg (show ¬ 5 + e = 11 by omega)] at d2
      rw [if_neg (show ¬ (10 : Int) = 12 + w by omega), if_neg (show ¬ (10 : Int) = 11 by omega)] at d3
      refine ⟨d1, d2, d3, ?_⟩
      show up rr w (rr w - 1) e = hM 4 (12 + e)
      by_cases q : e = w
      · subst q; rw [up_s, d4, if_pos rfl]; omega
      · rw [up_n q, d4, if_neg (by omega), if_neg (by omega)]
    · have := dv.2
      rw [em, if_neg (by omega), if_pos rfl] at this
      show wk - 1 = hM 4 11
      omega
theorem a_undo (r : Rel hC hM) : Agr hC hM mX8_undo mX9_undo [] := by
  have hn := r.n
  have kn := r.kn
  have kr := r.knr
  have U : 0 < hM 0 7 → _ := fun q => r.de.2.2 (hM 0 7 - 1) (by omega) (by omega)
  refine ⟨_, _, c_undo (w := hC 33 (hM 0 7 - 1)) (c := hC 34 (hM 0 7 - 1)) (o := hC 35 (hM 0 7 - 1)) (by rw [kn]; exact kr) (fun q => ?_), m_undo kr, ?_⟩
  · rw [kn] at q ⊢
    obtain ⟨u1, u2, u3, u4⟩ := (U q).1
    exact ⟨rfl, rfl, rfl, by omega, by omega, fun w => by have := u3 w; omega, r.bz _ u2.1 (by omega)⟩
  · rintro x h' y h'' (⟨p1, rfl, rfl⟩ | ⟨p1, rfl, rfl⟩) (⟨q1, rfl, rfl⟩ | ⟨q1, rfl, rfl⟩)
    · exact ⟨rfl, r⟩
    · omega
    · omega
    · obtain ⟨U1, U2⟩ := U q1
      rw [show hM 0 7 - 1 + 1 = hM 0 7 by omega, show Bk (hM 0 7) (hM 4) (hM 5) (hM 0 7) = hM 4 from if_pos rfl] at U1
      have ea : a17 (Bk (hM 0 7) (hM 4) (hM 5) (hM 0 7 - 1)) (cpy (hM 5) (hM 4) (17 * (hM 0 7 - 1)) 0 17) := fun i a b => by
        unfold Bk cpy
        rw [if_neg (by omega), if_pos (by omega)]
        congr 1
        omega
      have I := DI_cg hn ea U2
      have E : DE (hM 0 2) (hC 7 3 - 1) (hM 0 7 - 1) (hC 33) (hC 34) (hC 35) (cpy (hM 5) (hM 4) (17 * (hM 0 7 - 1)) 0 17) (hM 5) := by
        refine ⟨by omega, by omega, fun k a b => ?_⟩
        obtain ⟨x1, x2⟩ := r.de.2.2 k a (by omega)
        have e0 : ∀ j, 0 ≤ j → j ≤ hM 0 7 - 1 → a17 (Bk (hM 0 7) (hM 4) (hM 5) j) (Bk (hM 0 7 - 1) (cpy (hM 5) (hM 4) (17 * (hM 0 7 - 1)) 0 17) (hM 5) j) := by
          intro j j0 j1
          by_cases q : j = hM 0 7 - 1
          · rw [q, show Bk (hM 0 7 - 1) (cpy (hM 5) (hM 4) (17 * (hM 0 7 - 1)) 0 17) (hM 5) (hM 0 7 - 1) = cpy (hM 5) (hM 4) (17 * (hM 0 7 - 1)) 0 17 from if_pos rfl]
            exact ea
          · intro i _ _
            unfold Bk
            rw [if_neg (by omega), if_neg q]
        exact ⟨UN_cg hn.2 (e0 (k + 1) (by omega) (by omega)) (e0 k a (by omega)) x1, DI_cg hn (e0 k a (by omega)) x2⟩
      refine ⟨by omega, ?_⟩
      generalize hC 33 (hM 0 7 - 1) = w at U1 ⊢
      generalize hC 34 (hM 0 7 - 1) = c at U1 ⊢
      generalize hC 35 (hM 0 7 - 1) = o at U1 ⊢
      obtain ⟨u1, u2, u3, u4⟩ := U1
      have D := DV_cg hn.2 ea (u4 _ _ _ _ _ r.dv)
      have hw : w = 0 ∨ w = 1 ∨ w = 2 ∨ w = 3 := by omega
      rcases hw with rfl | rfl | rfl | rfl
      · exact ⟨r.td, r.2.1, r.len, ⟨D, I, r.bz⟩, E, r.im, r.tx, r.tm, r.tr⟩
      · exact ⟨r.td, r.2.1, r.len, ⟨D, I, r.bz⟩, E, r.im, r.tx, r.tm, r.tr⟩
      · exact ⟨r.td, r.2.1, r.len, ⟨D, I, r.bz⟩, E, r.im, r.tx, r.tm, r.tr⟩
      · refine ⟨r.td, r.2.1, r.len, ⟨D, I, fun e a b => ?_⟩, E, r.im, r.tx, r.tm, r.tr⟩
        show up (hC 23) c (1 - hC 23 c) e = 0 ∨ up (hC 23) c (1 - hC 23 c) e = 1
        by_cases q : e = c
        · have := r.bz c u2.1 (by omega)
          rw [q, up_s]
          omega
        · rw [up_n q]; exact r.bz e a b
theorem a_keep (r : Rel hC hM) (hc : R32 c) : Agr hC hM mX8_keep mX9_keep [vi c] := by
  have hn := r.n
  obtain ⟨i0, i1⟩ := r.im
  refine ⟨_, _, c_keep hc r.bz, m_keep hc, ?_⟩
  rintro x h' y h'' (⟨p1, rfl, rfl⟩ | ⟨p1, rfl, rfl⟩ | ⟨p1, rfl, rfl⟩) (⟨q1, rfl, rfl⟩ | ⟨q1, rfl, rfl⟩)
  · exact ⟨rfl, r⟩
  · omega
  · omega
  · subst p1
    refine ⟨r.wk, r.td, r.2.1, r.len, r.2.2.2.1, r.de, ⟨⟨rfl, Or.inr rfl, pf_z r.bz, fun _ => ?_⟩, ?_⟩, r.tx, r.tm, r.tr⟩
    · have ea : a17 (hM 4) (fun i => cpy (hM 4) (hM 6) 0 (17 * 0) 17 i) := fun i a b => by
        show _ = cpy (hM 4) (hM 6) 0 (17 * 0) 17 i
        unfold cpy
        rw [if_pos (by omega)]
        congr 1
        omega
      exact ⟨DV_cg hn.2 ea (DV_pf hn.2 r.dv), DI_cg hn ea r.di⟩
    · refine IM_cg hn (fun i a b => ?_) i1
      show hM 6 (17 + i) = cpy (hM 4) (hM 6) 0 (17 * 0) 17 (17 + i)
      unfold cpy
      rw [if_neg (by omega)]
  · omega
  · subst p1
    refine ⟨r.wk, r.td, r.2.1, r.len, r.2.2.2.1, r.de, ⟨?_, ⟨rfl, Or.inr rfl, pf_z r.bz, fun _ => ?_⟩⟩, r.tx, r.tm, r.tr⟩
    · refine IM_cg hn (fun i a b => ?_) i0
      show hM 6 i = cpy (hM 4) (hM 6) 0 (17 * 1) 17 i
      unfold cpy
      rw [if_neg (by omega)]
    · have ea : a17 (hM 4) (fun i => cpy (hM 4) (hM 6) 0 (17 * 1) 17 (17 + i)) := fun i a b => by
        show _ = cpy (hM 4) (hM 6) 0 (17 * 1) 17 (17 + i)
        unfold cpy
        rw [if_pos (by omega)]
        congr 1
        omega
      exact ⟨DV_cg hn.2 ea (DV_pf hn.2 r.dv), DI_cg hn ea r.di⟩
theorem a_back (r : Rel hC hM) (hc : R32 c) : Agr hC hM mX8_back mX9_back [vi c] := by
  have hn := r.n
  obtain ⟨⟨i1, i2, i3, i4⟩, ⟨j1, j2, j3, j4⟩⟩ := r.im
  refine ⟨_, _, c_back hc i3 j3 (by rw [i1]; exact i2) (by rw [j1]; exact j2), m_back hc (fun i a b => ?_), ?_⟩
  · have : i = 0 ∨ i = 1 := by omega
    rcases this with rfl | rfl
    · omega
    · omega
  · have vac : ∀ (f g k : Int → Int) (m4 m5 : Int → Int), DE (hM 0 2) 0 0 f g k m4 m5 := fun f g k m4 m5 => ⟨rfl, by omega, fun k a b => by omega⟩
    rintro x h' y h'' (⟨p1, rfl, rfl⟩ | ⟨p1, p2, rfl, rfl⟩ | ⟨p1, p2, rfl, rfl⟩ | ⟨p1, p2, rfl, rfl⟩ | ⟨p1, p2, rfl, rfl⟩) (⟨q1, rfl, rfl⟩ | ⟨q1, q2, rfl, rfl⟩ | ⟨q1, q2, rfl, rfl⟩)
    · exact ⟨rfl, r⟩
    · omega
    · omega
    · omega
    · exact ⟨rfl, r⟩
    · subst p1; omega
    · omega
    · subst p1; omega
    · subst p1
      obtain ⟨dv, di⟩ := i4 (by omega)
      have ea : a17 (fun i => hM 6 i) (cpy (hM 6) (hM 4) (17 * 0) 0 17) := fun i a b => by
        unfold cpy
        rw [if_pos (by omega)]
        congr 1
        omega
      refine ⟨dv.2, r.td, r.2.1, r.len, ⟨DV_cg hn.2 ea (DV_pf hn.2 dv), DI_cg hn ea di, pf_z i3⟩, vac _ _ _ _ _, r.im, r.tx, r.tm, r.tr⟩
    · omega
    · exact ⟨rfl, r⟩
    · subst p1; omega
    · omega
    · subst p1; omega
    · subst p1
      obtain ⟨dv, di⟩ := j4 (by omega)
      have ea : a17 (fun i => hM 6 (17 + i)) (cpy (hM 6) (hM 4) (17 * 1) 0 17) := fun i a b => by
        unfold cpy
        rw [if_pos (by omega)]
        show hM 6 (17 + i) = _
        congr 1
        omega
      refine ⟨dv.2, r.td, r.2.1, r.len, ⟨DV_cg hn.2 ea (DV_pf hn.2 dv), DI_cg hn ea di, pf_z j3⟩, vac _ _ _ _ _, r.im, r.tx, r.tm, r.tr⟩
end AG3
