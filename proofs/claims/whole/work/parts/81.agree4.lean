section AG4
variable {hC hM : Hp} {c : Int}
theorem fk_r {h : Hp} (hn : 0 ≤ h 2 5 ∧ h 2 5 ≤ 5) : ∀ (L : List Nat) (q : Int × (Int → Int)), 0 ≤ q.1 ∧ q.1 ≤ 6 → 0 ≤ (L.foldl (fkS h c) q).1 ∧ (L.foldl (fkS h c) q).1 ≤ 6 := by
  intro L
  induction L with
  | nil => intro q hq; exact hq
  | cons a L ih =>
    intro q hq
    refine ih _ ?_
    unfold fkS
    split
    · have := cntB_rng (fun e => decide (dgt (h 2 5) a e ≠ h 21 e)) (h 2 5).toNat
      show 0 ≤ chgN (h 2 5) (dgt (h 2 5) a) (h 21) ∧ chgN (h 2 5) (dgt (h 2 5) a) (h 21) ≤ 6
      unfold chgN
      omega
    · exact hq
theorem len_eq (r : Rel hC hM) : hC 2 6 = sumZ (hM 1) (hM 0 0).toNat := by
  have hcl := r.cl
  rw [r.len, r.1.2.1]
  exact sumZ_congr (fun i a b => (r.1.2.2.1 i a (by omega)).symm)
theorem king_all (r : Rel hC hM) (z : 0 < hM 0 0 ∧ 0 < hM 0 2) (c : Int) : (((kingM hM c).1 < 0 ∧ fkR hC c = (6, fun _ => 0)) ∨ ((0 ≤ (kingM hM c).1 ∧ (kingM hM c).1 ≤ 5) ∧ fkR hC c = kingM hM c)) ∧ (wonB hC (CL (hC 2 5)) c = true ↔ 0 ≤ (kingM hM c).1) :=
  king_eq r.1.1 r.n (fun a => win_way (r.mw z) r.td r.nw (r.cw z) r.dy a) (fun a => by rw [r.1.1]; exact (oth_chg r.n.1 (fun c x y => (r.dv.1 c x y).1.symm) a).symm)
theorem a_king {k : Int} (r : Rel hC hM) (hc : R32 c) (hk : R32 k) : Agr hC hM mX8_king mX9_king [vi c, vi k] := by
  refine ⟨_, _, c_king hc hk r.chp (fk_r r.nC _ _ ⟨by decide, by decide⟩), m_king hc hk r.cl r.n r.mw r.nw, ?_⟩
  rintro x h' y h'' ⟨pc, rfl⟩ ⟨pm, rfl⟩
  refine ⟨?_, r.ps pc pm⟩
  rw [r.1.1, r.1.2.1]
  by_cases q : (0 ≤ c ∧ c < hM 0 2) ∧ (k = -1 ∨ (0 ≤ k ∧ k < hM 0 2))
  · rw [if_pos q, if_pos (show (0 ≤ c ∧ c < hM 0 2) ∧ -1 ≤ k ∧ k < hM 0 2 by omega)]
    by_cases z : 0 < hM 0 0 ∧ 0 < hM 0 2
    · rw [if_pos z, if_pos z]
      rcases (king_all r z c).1 with ⟨k1, k2⟩ | ⟨k1, k2⟩
      · rw [k2, if_pos (show (5 : Int) < 6 by decide), if_pos k1]
      · rw [k2, if_neg (show ¬ 5 < (kingM hM c).1 by omega), if_neg (show ¬ (kingM hM c).1 < 0 by omega)]
        by_cases w : k = -1
        · rw [if_pos w, if_pos (by omega)]
        · rw [if_neg w, if_neg (by omega)]
    · rw [if_neg z, if_neg z]
  · rw [if_neg q, if_neg (by omega)]
theorem a_fair (r : Rel hC hM) (hc : R32 c) : Agr hC hM mX8_fair mX9_fair [vi c] := by
  have en := r.1.1
  have el := r.1.2.1
  have hn := r.n
  refine ⟨_, _, c_fair hc r.chp, m_fair hc r.cl r.n r.mw r.nw, ?_⟩
  rintro x h' y h'' ⟨pc, px⟩ ⟨pm, rfl⟩
  refine ⟨?_, r.ps pc pm⟩
  rcases px with ⟨p1, rfl⟩ | ⟨p1, p2, rfl⟩ | ⟨p1, p2, u, hu, rfl⟩
  · rw [if_neg (by omega)]
  · rw [if_pos (by omega), if_neg (by omega)]
  · have z : 0 < hM 0 0 ∧ 0 < hM 0 2 := by omega
    rw [if_pos (show -1 ≤ c ∧ c < hM 0 2 by omega), if_pos z]
    have hub : ∀ e, 0 ≤ e → e < hM 0 2 → u e = bM hM e := fun e a b => by
      rw [hu e a (by omega)]
      unfold unh bM baseM
      rw [if_pos ⟨a, b⟩, cG_eq r ⟨a, b⟩, len_eq r]
    have F := fair_eq (b := bM hM) (u := u) (n := hM 0 2) ⟨z.2, hn.2⟩ (bM_r (r.mw z) r.nw) hub
    rw [en]
    by_cases q : c = -1
    · rw [if_pos q, if_pos (by omega)]
      exact F.1.symm
    · rw [if_neg q, if_neg (by omega)]
      exact (F.2 c (by omega) (by omega)).symm
theorem a_odds {x w : Int} (r : Rel hC hM) (hc : R32 c) (hx : R32 x) (hw : R32 w) : Agr hC hM mX8_odds mX9_odds [vi c, vi x, vi w] := by
  have en := r.1.1
  have el := r.1.2.1
  refine ⟨_, _, c_odds hc hx hw r.chp, m_odds hc hx hw r.cl r.n r.mw r.nw, ?_⟩
  rintro x1 h' y h'' ⟨pc, px⟩ ⟨pm, rfl⟩
  refine ⟨?_, r.ps pc pm⟩
  rcases px with ⟨p1, rfl⟩ | ⟨p1, p2, rfl⟩ | ⟨p1, p2, rfl⟩
  · rw [if_neg (show ¬ ((0 ≤ c ∧ c < hM 0 2) ∧ (0 ≤ x ∧ x ≤ 10) ∧ 0 ≤ w ∧ w ≤ 1) by omega)]
  · rw [if_pos (show (0 ≤ c ∧ c < hM 0 2) ∧ (0 ≤ x ∧ x ≤ 10) ∧ 0 ≤ w ∧ w ≤ 1 by omega), if_neg (show ¬ (0 < hM 0 0 ∧ 0 < hM 0 2) by omega)]
  · have z : 0 < hM 0 0 ∧ 0 < hM 0 2 := by omega
    rw [if_pos (show (0 ≤ c ∧ c < hM 0 2) ∧ (0 ≤ x ∧ x ≤ 10) ∧ 0 ≤ w ∧ w ≤ 1 by omega), if_pos z, odds_eq (r.mw z) r.td r.nw r.cch r.dy, en]
    unfold oddsM
    rw [Nat.gcd_comm]
theorem won_out (r : Rel hC hM) (z : 0 < hM 0 0 ∧ 0 < hM 0 2) {d : Int} (hd : ¬ d < hM 0 2) : wonB hC (CL (hC 2 5)) d = false := by
  cases e : wonB hC (CL (hC 2 5)) d with
  | false => rfl
  | true =>
    unfold wonB at e
    obtain ⟨a, -, ha⟩ := List.any_eq_true.mp e
    have ha := of_decide_eq_true ha
    have h1 := winV_r (r.cw z) (w := dgt (hC 2 5) a) (fun c x y => dgt_r (r.race.mpr z).2 (a : Int) c x y)
    rw [ha, r.1.1] at h1
    omega
theorem a_now {w : Int} (r : Rel hC hM) (hw : R32 w) : Agr hC hM mX8_now mX9_now [vi w] := by
  have en := r.1.1
  have el := r.1.2.1
  have hn := r.n
  obtain ⟨⟨e1, e2⟩, e3, e4⟩ := r.tm
  have wr := r.wr
  have wk := r.wk
  have hreg : ∀ c, 0 ≤ c → c < hM 0 2 → 0 ≤ hM 4 (12 + c) ∧ hM 4 (12 + c) ≤ 1000 := fun c a b => by have := r.reg c a b; omega
  have hpol := r.2.1.2.2.2.2
  refine ⟨_, _, c_now hw r.chp (by rw [e1]; exact e3) (fun k a b => ?_) (fun c a b => ?_) (fun c a b => ?_) (by omega), m_now hw r.cl r.n r.mw r.nw (fun c a b => by have := hpol c a b; omega) hreg e3 (fun k a b => ⟨(e4 k a b).1, by have := e4 k a b; omega⟩), ?_⟩
  · have := e2 k a (by omega)
    have := e4 k a (by omega)
    omega
  · have := (r.td.2.2.2 c a (by omega)).2.1
    have := hpol c a (by omega)
    omega
  · have := (r.dv.1 c a (by omega)).2.2.2
    have := hreg c a (by omega)
    omega
  · rintro x h' y h'' ⟨pc, px⟩ ⟨pm, py⟩
    refine ⟨?_, r.ps pc pm⟩
    unfold nowQ at px
    rcases py with ⟨rfl, rfl⟩ | ⟨rfl, rfl⟩ | ⟨rfl, py⟩ | ⟨rfl, rfl⟩ | ⟨w1, py⟩ | ⟨rfl, rfl⟩ | ⟨w1, rfl⟩
    · rw [if_pos rfl] at px
      rw [px, wk]
    · rw [if_neg (by decide), if_pos rfl] at px
      rw [px, en, el]
      by_cases z : 0 < hM 0 0 ∧ 0 < hM 0 2
      · rw [if_pos z, if_pos z]
        exact win_day (r.mw z) r.td r.nw r.cch r.dy 0
      · rw [if_neg z, if_neg z]
    · rw [if_neg (by decide), if_neg (by decide), if_pos rfl] at px
      rcases py with ⟨z, rfl⟩ | ⟨z, y1, y2⟩
      · exact px.2 (fun q => z (r.race.mp q))
      · obtain ⟨x1, x2⟩ := px.1 (r.race.mpr z)
        refine bits_eq x1 y1 (fun d a b => ?_)
        rw [x2 d a b, y2 d a b]
        by_cases q : d < hM 0 2
        · have K := (king_all r z d).2
          cases e : wonB hC (CL (hC 2 5)) d with
          | true => rw [if_pos ⟨q, K.mp e⟩]; rfl
          | false => rw [if_neg (fun w => by rw [K.mpr w.2] at e; exact absurd e (by decide))]; rfl
        · rw [won_out r z q, if_neg (fun w => q w.1)]
          rfl
    · rw [if_neg (by decide), if_neg (by decide), if_neg (by decide), if_pos rfl] at px
      rw [px]
      refine (ruled_eq (n := hM 0 2) (wk := hC 4 4) (pol := hC 15) (reg := hC 24) hn (fun c a b => ?_) (fun c a b => ?_) (fun c a b => ?_) (fun c a b => ?_) ?_).symm ▸ ?_
      · have := (r.td.2.2.2 c a b).2.1
        have := hpol c a b
        omega
      · have := (r.dv.1 c a b).2.2.2
        have := hreg c a b
        omega
      · exact (r.td.2.2.2 c a b).2.1.symm
      · exact (r.dv.1 c a b).2.2.2.symm
      · rw [wk, r.di.2.2.1]
        exact sumZ_congr (fun c a b => (r.dv.1 c a (by omega)).2.2.2.symm)
      · rw [en]
    · rw [if_neg (by omega), if_neg (by omega), if_neg (by omega), if_neg (by omega), if_pos w1] at px
      rcases py with ⟨z, rfl⟩ | ⟨z, y1, y2⟩
      · exact px.2 (fun q => z (r.race.mp q))
      · obtain ⟨x1, x2⟩ := px.1 (r.race.mpr z)
        refine bits_eq x1 y1 (fun d a b => ?_)
        rw [x2 d a b, y2 d a b, sus_eq (r.mw z) r.td r.nw r.dy r.len r.tm.1 (fun k a b => (e4 k a b).1) e3.1 a, show 5 - w = if w = 4 then 1 else 0 by split <;> omega]
    · rw [if_neg (by decide), if_neg (by decide), if_neg (by decide), if_neg (by decide), if_neg (by decide), if_pos rfl] at px
      rw [px, r.kn]
    · rw [if_neg (by omega), if_neg (by omega), if_neg (by omega), if_neg (by omega), if_neg (by omega), if_neg (by omega)] at px
      exact px
end AG4
