section AG2
variable {hC hM : Hp} {c : Int}
/-- a deed is done: today changes, and what is known of it -/
theorem Rel_deed (r : Rel hC hM) {h1 : Hp} {w o : Int} {m4' : Int → Int} (hk : ∀ k, k ≠ 4 → (k < 21 ∨ 24 < k) → h1 k = hC k) (dv : DV (hM 0 2) (h1 21) (h1 22) (h1 23) (h1 24) (h1 4 4) m4') (di : DI (hM 0 2) m4') (bz : ∀ c, 0 ≤ c → c < 5 → h1 23 c = 0 ∨ h1 23 c = 1) (u : UN (hM 0 2) w c o m4' (hM 4)) : Rel (dAdd h1 w c o) (hput (rmb hM) 4 m4') := by
  have o4 := dAdd_o (h := h1) (w := w) (c := c) (o := o)
  have c1 : dAdd h1 w c o 1 = hC 1 := by rw [o4 1 (by decide) (by decide), hk 1 (by decide) (by decide)]
  have c2 : dAdd h1 w c o 2 = hC 2 := by rw [o4 2 (by decide) (by decide), hk 2 (by decide) (by decide)]
  have c4 : dAdd h1 w c o 4 = h1 4 := o4 4 (by decide) (by decide)
  have c5 : dAdd h1 w c o 5 = hC 5 := by rw [o4 5 (by decide) (by decide), hk 5 (by decide) (by decide)]
  have c6 : dAdd h1 w c o 6 = hC 6 := by rw [o4 6 (by decide) (by decide), hk 6 (by decide) (by decide)]
  have c8 : dAdd h1 w c o 8 = hC 8 := by rw [o4 8 (by decide) (by decide), hk 8 (by decide) (by decide)]
  have c10 : dAdd h1 w c o 10 = hC 10 := by rw [o4 10 (by decide) (by decide), hk 10 (by decide) (by decide)]
  have c12 : dAdd h1 w c o 12 = hC 12 := by rw [o4 12 (by decide) (by decide), hk 12 (by decide) (by decide)]
  have c13 : dAdd h1 w c o 13 = hC 13 := by rw [o4 13 (by decide) (by decide), hk 13 (by decide) (by decide)]
  have c14 : dAdd h1 w c o 14 = hC 14 := by rw [o4 14 (by decide) (by decide), hk 14 (by decide) (by decide)]
  have c15 : dAdd h1 w c o 15 = hC 15 := by rw [o4 15 (by decide) (by decide), hk 15 (by decide) (by decide)]
  have c16 : dAdd h1 w c o 16 = hC 16 := by rw [o4 16 (by decide) (by decide), hk 16 (by decide) (by decide)]
  have c21 : dAdd h1 w c o 21 = h1 21 := o4 21 (by decide) (by decide)
  have c22 : dAdd h1 w c o 22 = h1 22 := o4 22 (by decide) (by decide)
  have c23 : dAdd h1 w c o 23 = h1 23 := o4 23 (by decide) (by decide)
  have c24 : dAdd h1 w c o 24 = h1 24 := o4 24 (by decide) (by decide)
  have c25 : dAdd h1 w c o 25 = hC 25 := by rw [o4 25 (by decide) (by decide), hk 25 (by decide) (by decide)]
  have c26 : dAdd h1 w c o 26 = hC 26 := by rw [o4 26 (by decide) (by decide), hk 26 (by decide) (by decide)]
  have c27 : dAdd h1 w c o 27 = hC 27 := by rw [o4 27 (by decide) (by decide), hk 27 (by decide) (by decide)]
  have c28 : dAdd h1 w c o 28 = hC 28 := by rw [o4 28 (by decide) (by decide), hk 28 (by decide) (by decide)]
  have c29 : dAdd h1 w c o 29 = hC 29 := by rw [o4 29 (by decide) (by decide), hk 29 (by decide) (by decide)]
  have c30 : dAdd h1 w c o 30 = hC 30 := by rw [o4 30 (by decide) (by decide), hk 30 (by decide) (by decide)]
  have c31 : dAdd h1 w c o 31 = hC 31 := by rw [o4 31 (by decide) (by decide), hk 31 (by decide) (by decide)]
  have c32 : dAdd h1 w c o 32 = hC 32 := by rw [o4 32 (by decide) (by decide), hk 32 (by decide) (by decide)]
  have c36 : dAdd h1 w c o 36 = hC 36 := by rw [o4 36 (by decide) (by decide), hk 36 (by decide) (by decide)]
  have c37 : dAdd h1 w c o 37 = hC 37 := by rw [o4 37 (by decide) (by decide), hk 37 (by decide) (by decide)]
  have m1 : hput (rmb hM) 4 m4' 1 = hM 1 := by rw [hput_n (by decide), rmb_o (by decide) (by decide)]
  have m2 : hput (rmb hM) 4 m4' 2 = hM 2 := by rw [hput_n (by decide), rmb_o (by decide) (by decide)]
  have m3 : hput (rmb hM) 4 m4' 3 = hM 3 := by rw [hput_n (by decide), rmb_o (by decide) (by decide)]
  have m4 : hput (rmb hM) 4 m4' 4 = m4' := hput_s
  have m5 : hput (rmb hM) 4 m4' 5 = rmb hM 5 := hput_n (by decide)
  have m6 : hput (rmb hM) 4 m4' 6 = hM 6 := by rw [hput_n (by decide), rmb_o (by decide) (by decide)]
  have m7 : hput (rmb hM) 4 m4' 7 = hM 7 := by rw [hput_n (by decide), rmb_o (by decide) (by decide)]
  have m8 : hput (rmb hM) 4 m4' 8 = hM 8 := by rw [hput_n (by decide), rmb_o (by decide) (by decide)]
  have m9 : hput (rmb hM) 4 m4' 9 = hM 9 := by rw [hput_n (by decide), rmb_o (by decide) (by decide)]
  have z : ∀ i, i ≠ 7 → hput (rmb hM) 4 m4' 0 i = hM 0 i := fun i hi => by rw [hput_n (by decide), rmb_z hi]
  have z0 := z 0 (by decide)
  have z2 := z 2 (by decide)
  have z10 := z 10 (by decide)
  have z12 := z 12 (by decide)
  have z14 := z 14 (by decide)
  have z7 : hput (rmb hM) 4 m4' 0 7 = rmb hM 0 7 := by rw [hput_n (by decide)]
  have de : DE (hM 0 2) (dAdd h1 w c o 7 3) (rmb hM 0 7) (dAdd h1 w c o 33) (dAdd h1 w c o 34) (dAdd h1 w c o 35) m4' (rmb hM 5) := by
    refine DE_add r.n ?_ r.di u
    rw [hk 7 (by decide) (by decide), hk 33 (by decide) (by decide), hk 34 (by decide) (by decide), hk 35 (by decide) (by decide)]
    exact r.de
  unfold Rel TD RG MCh RD RE RIm RTx TX RTm TM at r ⊢
  simp only [c1, c2, c4, c5, c6, c8, c10, c12, c13, c14, c15, c16, c21, c22, c23, c24, c25, c26, c27, c28, c29, c30, c31, c32, c36, c37, m1, m2, m3, m4, m5, m6, m7, m8, m9, z0, z2, z7, z10, z12, z14]
  exact ⟨r.1, r.2.1, r.2.2.1, ⟨dv, di, bz⟩, de, r.2.2.2.2.2⟩
theorem a_sets {d : Int} (r : Rel hC hM) (hc : R32 c) (hd : R32 d) : Agr hC hM mX8_sets mX9_sets [vi c, vi d] := by
  have en := r.1.1
  have hn := r.n
  refine ⟨_, _, c_sets hc hd r.chp (by rw [r.kn]; exact r.knr), m_sets hc hd r.n r.nw r.knr, ?_⟩
  rintro x h' y h'' (⟨p1, rfl, rfl⟩ | ⟨p1, p2, rfl, rfl⟩ | ⟨p1, p2, rfl, rfl⟩) (⟨q1, rfl, rfl⟩ | ⟨q1, q2, rfl, rfl⟩ | ⟨q1, q2, rfl, rfl⟩)
  · exact ⟨rfl, r⟩
  · omega
  · omega
  · omega
  · exact ⟨rfl, r⟩
  · exact absurd ((r.dv.1 c q1.1.1 q1.1.2).2.1.symm.trans p2) q2
  · omega
  · exact absurd ((r.dv.1 c q1.1.1 q1.1.2).2.1.trans q2) p2
  · have dc := (r.dv.1 c q1.1.1 q1.1.2).2.1
    refine ⟨dc, Rel_deed r (fun k a b => hput_n (by omega)) ⟨fun e a b => ?_, ?_⟩ ⟨⟨fun e a b => ?_, ?_⟩, fun e a b => ?_, ?_, ?_⟩ r.bz ⟨⟨by decide, by decide⟩, q1.1, fun w => absurd w (by decide), fun p h g rr wk dv => ⟨fun e a b => ?_, ?_⟩⟩⟩
    · obtain ⟨d1, d2, d3, d4⟩ := r.dv.1 e a b
      rw [up_n (j := e) (by omega), up_n (j := 10) (by omega), up_n (j := 12 + e) (by omega)]
      refine ⟨d1, ?_, d3, d4⟩
      show up (hC 22) c d e = up (hM 4) (5 + c) d (5 + e)
      by_cases q : e = c
      · subst q; rw [up_s, up_s]
      · rw [up_n q, up_n (by omega)]; exact d2
    · rw [up_n (by omega)]; exact r.wk
    · obtain ⟨n1, n2, n3, n4⟩ := r.nw.1 e a b
      rw [up_n (by omega)]
      by_cases q : e = c
      · subst q; rw [up_s]; omega
      · rw [up_n (by omega)]; omega
    · rw [up_n (by omega)]; exact r.nw.2
    · rw [up_n (by omega)]; exact r.di.2.1 e a b
    · rw [up_n (by omega), r.di.2.2.1]
      exact sumZ_congr (fun e a b => (up_n (by omega)).symm)
    · rw [up_n (by omega)]; exact r.di.2.2.2
    · obtain ⟨d1, d2, d3, d4⟩ := dv.1 e a b
      rw [up_n (by omega)] at d1 d3 d4
      refine ⟨d1, ?_, d3, d4⟩
      show up h c (hC 22 c) e = hM 4 (5 + e)
      by_cases q : e = c
      · subst q; rw [up_s]; exact dc
      · rw [up_n q, d2, up_n (by omega)]
    · have := dv.2
      rw [up_n (by omega)] at this
      exact this
theorem a_changes {e : Int} (r : Rel hC hM) (hc : R32 c) (he : R32 e) : Agr hC hM mX8_changes mX9_changes [vi c, vi e] := by
  have en := r.1.1
  have hn := r.n
  refine ⟨_, _, c_changes hc he r.chp (by rw [r.kn]; exact r.knr), m_changes hc he r.n r.knr, ?_⟩
  rintro x h' y h'' (⟨p1, rfl, rfl⟩ | ⟨p1, rfl, rfl⟩) (⟨q1, rfl, rfl⟩ | ⟨q1, rfl, rfl⟩)
  · exact ⟨rfl, r⟩
  · omega
  · omega
  · obtain ⟨qc, qe, qn⟩ := q1
    have ex : ∀ f : Int → Int, ∀ x, exD f c e x = if x = e then f c else if x = c then f e else f x := fun f x => by
      unfold exD up
      rfl
    have em : ∀ x, up (up (hM 4) c (hM 4 e)) e (hM 4 c) x = if x = e then hM 4 c else if x = c then hM 4 e else hM 4 x := fun x => rfl
    refine ⟨(r.dv.1 e qe.1 qe.2).1, Rel_deed r (fun k a b => hput_n (by omega)) ⟨fun x a b => ?_, ?_⟩ ⟨⟨fun x a b => ?_, ?_⟩, fun x a b => ?_, ?_, ?_⟩ r.bz ⟨⟨by decide, by decide⟩, qc, fun _ => qe, fun p h g rr wk dv => ⟨fun x a b => ?_, ?_⟩⟩⟩
    · obtain ⟨d1, d2, d3, d4⟩ := r.dv.1 x a b
      rw [em, em, em, em]
      rw [if_neg (show ¬ 5 + x = e by omega), if_neg (show ¬ 5 + x = c by omega), if_neg (show ¬ (10 : Int) = e by omega), if_neg (show ¬ (10 : Int) = c by omega), if_neg (show ¬ 12 + x = e by omega), if_neg (show ¬ 12 + x = c by omega)]
      refine ⟨?_, d2, d3, d4⟩
      show exD (hC 21) c e x = _
      rw [ex, d1, (r.dv.1 c qc.1 qc.2).1, (r.dv.1 e qe.1 qe.2).1]
    · rw [em, if_neg (by omega), if_neg (by omega)]; exact r.wk
    · obtain ⟨n1, n2, n3, n4⟩ := r.nw.1 x a b
      have nc := r.nw.1 c qc.1 qc.2
      have ne := r.nw.1 e qe.1 qe.2
      rw [em, em, if_neg (show ¬ 5 + x = e by omega), if_neg (show ¬ 5 + x = c by omega)]
      by_cases q : x = e
      · rw [if_pos q]; omega
      · rw [if_neg q]
        by_cases q2 : x = c
        · rw [if_pos q2]; omega
        · rw [if_neg q2]; omega
    · rw [em, if_neg (by omega), if_neg (by omega)]; exact r.nw.2
    · rw [em, if_neg (by omega), if_neg (by omega)]; exact r.di.2.1 x a b
    · rw [em, if_neg (by omega), if_neg (by omega), r.di.2.2.1]
      exact sumZ_congr (fun x a b => by rw [em, if_neg (by omega), if_neg (by omega)])
    · rw [em, if_neg (by omega), if_neg (by omega)]; exact r.di.2.2.2
    · obtain ⟨d1, d2, d3, d4⟩ := dv.1 x a b
      rw [em, if_neg (by omega), if_neg (by omega)] at d2 d3 d4
      refine ⟨?_, d2, d3, d4⟩
      show exD p c e x = hM 4 x
      rw [ex]
      by_cases q : x = e
      · rw [if_pos q, (dv.1 c qc.1 qc.2).1, em, if_neg qn, if_pos rfl, q]
      · rw [if_neg q]
        by_cases q2 : x = c
        · rw [if_pos q2, (dv.1 e qe.1 qe.2).1, em, if_pos rfl, q2]
        · rw [if_neg q2, d1, em, if_neg q, if_neg q2]
    · have := dv.2
      rw [em, if_neg (by omega), if_neg (by omega)] at this
      exact this
theorem a_greases {i : Int} (r : Rel hC hM) (hc : R32 c) (hi : R32 i) : Agr hC hM mX8_greases mX9_greases [vi c, vi i] := by
  have en := r.1.1
  have hn := r.n
  refine ⟨_, _, c_greases hc hi r.chp (by rw [r.kn]; exact r.knr), m_greases hc hi r.n r.nw.2 r.knr, ?_⟩
  rintro x h' y h'' (⟨p1, rfl, rfl⟩ | ⟨p1, p2, rfl, rfl⟩ | ⟨p1, p2, rfl, rfl⟩) (⟨q1, rfl, rfl⟩ | ⟨q1, q2, rfl, rfl⟩ | ⟨q1, q2, rfl, rfl⟩)
  · exact ⟨rfl, r⟩
  · omega
  · omega
  · omega
  · exact ⟨rfl, r⟩
  · exact absurd ((r.dv.1 c q1.1.1 q1.1.2).2.2.1.symm.trans p2) q2
  · omega
  · exact absurd ((r.dv.1 c q1.1.1 q1.1.2).2.2.1.trans q2) p2
  · have h5 : 0 ≤ c ∧ c < 5 := by omega
    have gb : ∀ e, 0 ≤ e → e < 5 → bit (gx (hM 4 10) c) e = if e = c then 1 - bit (hM 4 10) c else bit (hM 4 10) e := fun e a b => gx_b r.nw.2 h5 ⟨a, b⟩
    have gu := grease_up (s := hM 4) (n := hM 0 2) (c := c) (i := i) (f := hC 23) hn.2 q1.1 r.nw.2 (fun e a b => (r.dv.1 e a b).2.2.1) q1.2 q2 gb
    have gr : 0 ≤ gx (hM 4 10) c ∧ gx (hM 4 10) c < 32 := by
      have := (gx_fin ⟨(hM 4 10).toNat, by have := r.nw.2; omega⟩ ⟨c.toNat, by omega⟩).1
      dsimp only at this
      rw [Int.toNat_of_nonneg r.nw.2.1, Int.toNat_of_nonneg h5.1] at this
      exact this
    refine ⟨?_, Rel_deed r (fun k a b => hput_n (by omega)) ⟨fun e a b => ?_, ?_⟩ ⟨⟨fun e a b => ?_, ?_⟩, fun e a b => ?_, ?_, ?_⟩ (fun e a b => ?_) ⟨⟨by decide, by decide⟩, q1.1, fun w => absurd w (by decide), fun p h g rr wk dv => ⟨fun e a b => ?_, ?_⟩⟩⟩
    · unfold cntG
      rw [en, up_s]
      exact sumZ_congr (fun e a b => gu e a (by omega))
    · obtain ⟨d1, d2, d3, d4⟩ := r.dv.1 e a b
      rw [up_s, up_n (by omega), up_n (by omega), up_n (by omega)]
      exact ⟨d1, d2, gu e a b, d4⟩
    · rw [up_n (by omega)]; exact r.wk
    · rw [up_n (by omega), up_n (by omega)]; exact r.nw.1 e a b
    · rw [up_s]; exact gr
    · rw [up_n (by omega)]; exact r.di.2.1 e a b
    · rw [up_n (by omega), r.di.2.2.1]
      exact sumZ_congr (fun e a b => (up_n (by omega)).symm)
    · rw [up_n (by omega)]; exact r.di.2.2.2
    · show up (hC 23) c i e = 0 ∨ up (hC 23) c i e = 1
      by_cases q : e = c
      · rw [q, up_s]; omega
      · rw [up_n q]; exact r.bz e a b
    · obtain ⟨d1, d2, d3, d4⟩ := dv.1 e a b
      rw [up_n (by omega)] at d1 d2 d4
      rw [up_s] at d3
      refine ⟨d1, d2, ?_, d4⟩
      show up g c (1 - g c) e = bit (hM 4 10) e
      have dc := (dv.1 c q1.1.1 q1.1.2).2.2.1
      rw [up_s, gb c h5.1 h5.2, if_pos rfl] at dc
      by_cases q : e = c
      · rw [q, up_s]; omega
      · rw [up_n q, d3, gb e a (by omega), if_neg q]
    · have := dv.2
      rw [up_n (by omega)] at this
      exact this
end AG2
