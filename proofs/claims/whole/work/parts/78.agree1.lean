/-! each call: both answer alike, and the relation holds behind it -/
abbrev AL (M : MI) (as : List AV) : List (Option AV) := (vr 0 :: as).map some ++ List.replicate (M.2.2.1 - (vr 0 :: as).length) none
def Agr (hC hM : Hp) (MC MM : MI) (as : List AV) : Prop := ∃ PC PM : Int → Hp → Prop, Ev shC MC 0 (AL MC as) [] hC (RI PC) ∧ Ev shM MM 0 (AL MM as) [] hM (RI PM) ∧ ∀ x h' y h'', PC x h' → PM y h'' → x = y ∧ Rel h' h''
section AG
variable {hC hM : Hp} {c : Int}
theorem a_type (r : Rel hC hM) (hc : R32 c) : Agr hC hM mX8_type mX9_type [vi c] := by
  obtain ⟨e1, e2, e3⟩ := r.tx
  have hl := e3.1
  refine ⟨_, _, c_type hc (by rw [e1]; exact hl), m_type hc hl, ?_⟩
  rintro x h' y h'' (⟨p1, rfl, rfl⟩ | ⟨p1, p2, rfl, rfl⟩ | ⟨p1, p2, rfl, rfl⟩) (⟨q1, rfl, rfl⟩ | ⟨q1, q2, rfl, rfl⟩ | ⟨q1, q2, rfl, rfl⟩)
  all_goals first | (exfalso; omega) | exact ⟨rfl, r⟩ | skip
  refine ⟨by omega, r.td, r.2.1, r.len, r.2.2.2.1, r.de, r.im, ⟨?_, ?_, ⟨?_, ?_⟩, ?_⟩, r.tm, r.tr⟩
  · show hC 1 1 + 1 = hM 0 14 + 1
    omega
  · show up (hC 12) (hC 1 1) c = up (hM 9) (hM 0 14) c
    rw [e1, e2]
  · show 0 ≤ hM 0 14 + 1
    omega
  · show hM 0 14 + 1 ≤ 120
    omega
  · intro i a b
    have b : i < hM 0 14 + 1 := b
    show 0 ≤ up (hM 9) (hM 0 14) c i ∧ up (hM 9) (hM 0 14) c i ≤ 255
    by_cases q : i = hM 0 14
    · rw [q, up_s]; exact p1
    · rw [up_n q]; exact e3.2 i a (by omega)
theorem a_clear (r : Rel hC hM) : Agr hC hM mX8_clear mX9_clear [] := by
  obtain ⟨e1, e2, e3⟩ := r.tx
  refine ⟨_, _, c_clear, m_clear, ?_⟩
  rintro x h' y h'' ⟨rfl, rfl⟩ ⟨rfl, rfl⟩
  refine ⟨e1, r.td, r.2.1, r.len, r.2.2.2.1, r.de, r.im, ⟨rfl, e2, ⟨(by decide : (0 : Int) ≤ 0), (by decide : (0 : Int) ≤ 120)⟩, ?_⟩, r.tm, r.tr⟩
  intro i a b
  have b : i < 0 := b
  omega
theorem a_forget (r : Rel hC hM) : Agr hC hM mX8_forget mX9_forget [] := by
  refine ⟨_, _, c_forget, m_forget, ?_⟩
  rintro x h' y h'' ⟨rfl, rfl⟩ ⟨rfl, rfl⟩
  refine ⟨r.tm.1.1, r.td, r.2.1, r.len, r.2.2.2.1, r.de, r.im, r.tx, ⟨⟨rfl, ?_⟩, ⟨(by decide : (0 : Int) ≤ 0), (by decide : (0 : Int) ≤ 6)⟩, ?_⟩, r.tr⟩
  · intro k a b
    have b : k < 0 := b
    omega
  · intro k a b
    have b : k < 0 := b
    omega
theorem a_pusher (r : Rel hC hM) (hc : R32 c) : Agr hC hM mX8_pusher mX9_pusher [vi c] := by
  refine ⟨_, _, c_pusher hc r.nC, m_pusher hc r.n, ?_⟩
  rintro x h' y h'' ⟨rfl, rfl⟩ ⟨rfl, rfl⟩
  refine ⟨?_, r⟩
  rw [r.1.1]
  by_cases q : 0 ≤ c ∧ c < hM 0 2
  · rw [if_pos q, if_pos q]; exact (r.td.2.2.2 c q.1 q.2).2.2
  · rw [if_neg q, if_neg q]
theorem a_cell (r : Rel hC hM) (hc : R32 c) : Agr hC hM mX8_cell mX9_cell [vi c] := by
  refine ⟨_, _, c_cell hc r.clC, m_cell hc r.cl, ?_⟩
  rintro x h' y h'' ⟨rfl, rfl⟩ ⟨rfl, rfl⟩
  refine ⟨?_, r⟩
  rw [r.1.2.1]
  by_cases q : 0 ≤ c ∧ c < hM 0 0
  · rw [if_pos q, if_pos q]; exact (r.td.2.2.1 c q.1 q.2).symm
  · rw [if_neg q, if_neg q]
theorem a_count (r : Rel hC hM) (hc : R32 c) : Agr hC hM mX8_count mX9_count [vi c] := by
  refine ⟨_, _, c_count hc, m_count hc, ?_⟩
  rintro x h' y h'' ⟨rfl, rfl⟩ ⟨rfl, rfl⟩
  exact ⟨by rw [r.1.2.1, r.1.1, r.tm.1.1, r.tx.1], r⟩
theorem cG_eq (r : Rel hC hM) (hc : 0 ≤ c ∧ c < hM 0 2) : cG hC c (hC 23 c) = sGain (hM 3) (fun c => hM 2 (2 * c)) (hM 4) 0 c := by
  obtain ⟨d1, d2, d3, d4⟩ := r.dv.1 c hc.1 hc.2
  obtain ⟨n1, n2, n3, n4⟩ := r.nw.1 c hc.1 hc.2
  unfold cG sGain
  rw [d1, d3, (r.td.2.2.2 c hc.1 hc.2).1, (r.td.2.2.2 (hM 4 c) n1 n2).2.2, bit_0, if_pos rfl]
theorem a_chair {w : Int} (r : Rel hC hM) (hc : R32 c) (hw : R32 w) : Agr hC hM mX8_chair mX9_chair [vi c, vi w] := by
  refine ⟨_, _, c_chair hc hw r.chp, m_chair hc hw r.n r.mch r.nw, ?_⟩
  rintro x h' y h'' ⟨rfl, rfl⟩ ⟨rfl, pm⟩
  refine ⟨?_, r.ps PsC.rf pm⟩
  rw [r.1.1]
  by_cases q : 0 ≤ c ∧ c < hM 0 2
  · rw [if_pos q, if_pos q]
    obtain ⟨d1, d2, d3, d4⟩ := r.dv.1 c q.1 q.2
    obtain ⟨t1, t2, t3⟩ := r.td.2.2.2 c q.1 q.2
    unfold chairM
    by_cases w0 : w = 0
    · subst w0; rw [if_pos rfl, if_pos (Or.inl rfl), t1, show 2 * c + 0 = 2 * c by omega]
    · rw [if_neg w0]
      by_cases w1 : w = 1
      · subst w1; rw [if_pos rfl, if_pos (Or.inr rfl), t2]
      · rw [if_neg w1, if_neg (show ¬ (w = 0 ∨ w = 1) by omega), d1, d2, d3, d4, ← d3, cG_eq r q]
  · rw [if_neg q, if_neg q]
theorem a_time (r : Rel hC hM) (hc : R32 c) : Agr hC hM mX8_time mX9_time [vi c] := by
  refine ⟨_, _, c_time hc r.chp, m_time hc r.cl r.n r.mw r.nw, ?_⟩
  rintro x h' y h'' ⟨rfl, pc⟩ ⟨rfl, pm⟩
  refine ⟨?_, r.ps pc pm⟩
  rw [r.1.1, r.1.2.1]
  by_cases q : 0 ≤ c ∧ c < hM 0 2
  · rw [if_pos q, if_pos q]
    by_cases z : 0 < hM 0 0 ∧ 0 < hM 0 2
    · rw [if_pos z, if_pos z, ← r.1.1]
      exact (race_day (r.mw z) r.td r.nw r.cch r.dy 0 c q.1 q.2).1
    · rw [if_neg z, if_neg z]
  · rw [if_neg q, if_neg q]
theorem a_place (r : Rel hC hM) (hc : R32 c) : Agr hC hM mX8_place mX9_place [vi c] := by
  refine ⟨_, _, c_place hc r.chp, m_place hc r.cl r.n r.mw r.nw, ?_⟩
  rintro x h' y h'' ⟨rfl, pc⟩ ⟨rfl, pm⟩
  refine ⟨?_, r.ps pc pm⟩
  rw [r.1.1, r.1.2.1]
  by_cases q : 0 ≤ c ∧ c < hM 0 2
  · rw [if_pos q, if_pos q]
    by_cases z : 0 < hM 0 0 ∧ 0 < hM 0 2
    · rw [if_pos z, if_pos z, ← r.1.1]
      exact (race_day (r.mw z) r.td r.nw r.cch r.dy 0 c q.1 q.2).2
    · rw [if_neg z, if_neg z]
  · rw [if_neg q, if_neg q]
theorem a_alone (r : Rel hC hM) (hc : R32 c) : Agr hC hM mX8_alone mX9_alone [vi c] := by
  refine ⟨_, _, c_alone hc r.chp, m_alone hc r.cl r.n r.mw r.nw, ?_⟩
  rintro x h' y h'' ⟨rfl, rfl⟩ ⟨rfl, pm⟩
  refine ⟨?_, r.ps PsC.rf pm⟩
  rw [r.1.1, r.1.2.1]
  by_cases q : 0 ≤ c ∧ c < hM 0 2
  · rw [if_pos q, if_pos q]
    by_cases z : 0 < hM 0 0 ∧ 0 < hM 0 2
    · rw [if_pos z, if_pos z]
      obtain ⟨d1, d2, d3, d4⟩ := r.dv.1 c q.1 q.2
      obtain ⟨n1, n2, n3, n4⟩ := r.nw.1 c q.1 q.2
      exact cAl_eq r.td r.n.2 q r.len r.cl.1 d1 d2 ⟨n1, n2⟩ d3
    · rw [if_neg z, if_neg z]
  · rw [if_neg q, if_neg q]
theorem a_times {t : Int} (r : Rel hC hM) (hc : R32 c) (ht : R32 t) : Agr hC hM mX8_times mX9_times [vi c, vi t] := by
  obtain ⟨⟨e1, e2⟩, e3, e4⟩ := r.tm
  have en := r.1.1
  have el := r.1.2.1
  refine ⟨_, _, c_times hc ht r.chp (by rw [e1]; exact e3), m_times hc ht r.cl r.n e3, ?_⟩
  rintro x h' y h'' (⟨p1, rfl, rfl⟩ | ⟨p1, p2, rfl, rfl⟩ | ⟨p1, p2, p3, rfl, rfl⟩ | ⟨p1, p2, p3, rfl, rfl⟩) (⟨q1, rfl, rfl⟩ | ⟨q1, q2, rfl, rfl⟩ | ⟨q1, q2, q3, rfl, rfl⟩ | ⟨q1, q2, q3, rfl, rfl⟩)
  all_goals first | (exfalso; omega) | exact ⟨rfl, r⟩ | skip
  refine ⟨by omega, r.td, r.2.1, r.len, r.2.2.2.1, r.de, r.im, r.tx, ⟨⟨?_, ?_⟩, ⟨?_, ?_⟩, ?_⟩, r.tr⟩
  · show hC 8 2 + 1 = hM 0 10 + 1
    omega
  · intro k a b
    have b : k < hM 0 10 + 1 := b
    show up (hC 36) (hC 8 2) c k = up (up (hM 8) (2 * hM 0 10) c) (2 * hM 0 10 + 1) t (2 * k) ∧ up (hC 37) (hC 8 2) t k = up (up (hM 8) (2 * hM 0 10) c) (2 * hM 0 10 + 1) t (2 * k + 1)
    rw [e1]
    by_cases q : k = hM 0 10
    · rw [q, up_s, up_s, up_n (by omega), up_s, up_s]
      exact ⟨rfl, rfl⟩
    · rw [up_n q, up_n q, up_n (by omega), up_n (by omega), up_n (by omega), up_n (by omega)]
      exact e2 k a (by omega)
  · show 0 ≤ hM 0 10 + 1
    omega
  · show hM 0 10 + 1 ≤ 6
    omega
  · intro k a b
    have b : k < hM 0 10 + 1 := b
    show (0 ≤ up (up (hM 8) (2 * hM 0 10) c) (2 * hM 0 10 + 1) t (2 * k) ∧ up (up (hM 8) (2 * hM 0 10) c) (2 * hM 0 10 + 1) t (2 * k) < hM 0 2) ∧ (1 ≤ up (up (hM 8) (2 * hM 0 10) c) (2 * hM 0 10 + 1) t (2 * k + 1) ∧ up (up (hM 8) (2 * hM 0 10) c) (2 * hM 0 10 + 1) t (2 * k + 1) ≤ 200)
    by_cases q : k = hM 0 10
    · rw [q, up_s, up_n (by omega), up_s]
      omega
    · rw [up_n (by omega), up_n (by omega), up_n (by omega), up_n (by omega)]
      exact e4 k a (by omega)
theorem a_rate {k : Int} (r : Rel hC hM) (hk : R32 k) (hc : R32 c) : Agr hC hM mX8_rate mX9_rate [vi k, vi c] := by
  have en := r.1.1
  refine ⟨_, _, c_rate hk hc r.chp, m_rate hk hc r.n r.mch r.nw, ?_⟩
  rintro x h' y h'' (⟨p1, rfl, rfl⟩ | ⟨p1, rfl, rfl⟩) (⟨q1, rfl, rfl⟩ | ⟨q1, rfl, pm⟩)
  all_goals first | (exfalso; omega) | exact ⟨rfl, r⟩ | skip
  refine ⟨?_, Rel.ps (hC := mk hC (trM k)) (hM := hput hM 0 (up (hM 0) 12 (hM 0 12 + trM k))) ⟨r.td, r.2.1, r.len, r.2.2.2.1, r.de, r.im, r.tx, r.tm, ?_⟩ PsC.rf pm⟩
  · obtain ⟨d1, d2, d3, d4⟩ := r.dv.1 c q1.2.1 q1.2.2
    unfold rateM
    rw [cG_eq r q1.2, (r.td.2.2.2 c q1.2.1 q1.2.2).1, d2, r.wk]
  · show hC 10 0 + trM k = hM 0 12 + trM k
    rw [r.tr]
theorem a_trace (r : Rel hC hM) : ∃ PC PM : Int → Hp → Prop, Ev shC mX8_trace 0 (AL mX8_trace []) [] hC (RJ PC) ∧ Ev shM mX9_trace 0 (AL mX9_trace []) [] hM (RJ PM) ∧ ∀ x h' y h'', PC x h' → PM y h'' → x = y ∧ Rel h' h'' := by
  refine ⟨_, _, c_trace, m_trace, ?_⟩
  rintro x h' y h'' ⟨rfl, rfl⟩ ⟨rfl, rfl⟩
  exact ⟨r.tr, r⟩
end AG
