/-! the class's race over the machine -/
section CS1
variable {h : Hp}
theorem c_hasRace (h1 : R32 (h 2 4)) (h2 : R32 (h 2 5)) : Ev shC mX6_hasRace 0 [some (vr 2)] [] h (RI fun x h' => x = (if 0 < h 2 4 ∧ 0 < h 2 5 then 1 else 0) ∧ h = h') := by
  refine ev_aload_n 1 dX6_hasRace_0 rfl rfl ?_
  refine ev_getI 4 4 fX6_24 rfl dX6_hasRace_1 rfl rfl rfl (by decide) rfl ?_
  refine ev_if_le 7 18 dX6_hasRace_4 rfl rfl (by omega) (fun c4 => ?_) (fun c4 => ?_)
  · refine ev_iconst 19 dX6_hasRace_18 rfl ?_
    exact ev_zret rfl dX6_hasRace_19 (by omega) (⟨by split <;> omega, rfl⟩)
  · refine ev_aload_n 8 dX6_hasRace_7 rfl rfl ?_
    refine ev_getI 11 5 fX6_28 rfl dX6_hasRace_8 rfl rfl rfl (by decide) rfl ?_
    refine ev_if_le 14 18 dX6_hasRace_11 rfl rfl (by omega) (fun c11 => ?_) (fun c11 => ?_)
    · refine ev_iconst 19 dX6_hasRace_18 rfl ?_
      exact ev_zret rfl dX6_hasRace_19 (by omega) (⟨by split <;> omega, rfl⟩)
    · refine ev_iconst 15 dX6_hasRace_14 rfl ?_
      refine ev_goto 19 dX6_hasRace_15 rfl ?_
      exact ev_zret rfl dX6_hasRace_19 (by omega) (⟨by split <;> omega, rfl⟩)
theorem c_strengthOf {p : Int} (hp : R32 p) (hn : 0 ≤ h 2 5 ∧ h 2 5 ≤ 5) : Ev shC mX6_strengthOf 0 [some (vr 2), some (vi p)] [] h (RI fun x h' => x = (if 0 ≤ p ∧ p < h 2 5 then h 16 p else 5) ∧ h = h') := by
  refine ev_iload_n 1 dX6_strengthOf_0 rfl rfl ?_
  refine ev_if_lt 4 21 dX6_strengthOf_1 rfl rfl (by omega) (fun c1 => ?_) (fun c1 => ?_)
  · refine ev_iconst 22 dX6_strengthOf_21 rfl ?_
    exact ev_iret rfl dX6_strengthOf_22 (⟨by first | rw [if_pos (by omega)] | rw [if_neg (by omega)], rfl⟩)
  · refine ev_iload_n 5 dX6_strengthOf_4 rfl rfl ?_
    refine ev_aload_n 6 dX6_strengthOf_5 rfl rfl ?_
    refine ev_getI 9 5 fX6_28 rfl dX6_strengthOf_6 rfl rfl rfl (by decide) rfl ?_
    refine ev_icmp_ge 12 21 dX6_strengthOf_9 rfl rfl (by omega) (by omega) (fun c9 => ?_) (fun c9 => ?_)
    · refine ev_iconst 22 dX6_strengthOf_21 rfl ?_
      exact ev_iret rfl dX6_strengthOf_22 (⟨by first | rw [if_pos (by omega)] | rw [if_neg (by omega)], rfl⟩)
    · refine ev_aload_n 13 dX6_strengthOf_12 rfl rfl ?_
      refine ev_getR 16 fX6_21 rfl dX6_strengthOf_13 rfl rfl rfl ?_
      refine ev_iload_n 17 dX6_strengthOf_16 rfl rfl ?_
      refine ev_iald 18 dX6_strengthOf_17 rfl rfl (by decide) (by omega) ?_
      refine ev_goto 22 dX6_strengthOf_18 rfl ?_
      exact ev_iret rfl dX6_strengthOf_22 (⟨by first | rw [if_pos (by omega)] | rw [if_neg (by omega)], rfl⟩)
theorem c_gainBy {c s b : Int} (hc : 0 ≤ c ∧ c < 5) (hs : 0 ≤ s ∧ s ≤ 9) (hw : 0 ≤ h 14 c ∧ h 14 c ≤ 9) (hb : R32 b) : Ev shC mX6_gainBy 0 [some (vr 2), some (vi c), some (vi s), some (vi b), none] [] h (RI fun x h' => x = gainZ s (h 14 c) b ∧ h = h') := by
  unfold gainZ
  refine ev_iconst 1 dX6_gainBy_0 rfl ?_
  refine ev_iconst 2 dX6_gainBy_1 rfl ?_
  refine ev_iload_n 3 dX6_gainBy_2 rfl rfl ?_
  refine ev_imul 4 dX6_gainBy_3 rfl ?_
  refine ev_aload_n 5 dX6_gainBy_4 rfl rfl ?_
  refine ev_getR 8 fX6_15 rfl dX6_gainBy_5 rfl rfl rfl ?_
  refine ev_iload_n 9 dX6_gainBy_8 rfl rfl ?_
  refine ev_iald 10 dX6_gainBy_9 rfl rfl (by decide) (by omega) ?_
  refine ev_isub 11 dX6_gainBy_10 rfl ?_
  refine ev_max 14 kX6_gainBy_40 dX6_gainBy_11 rfl (by omega) (by omega) (Nat.le_of_ble_eq_true rfl) ?_
  refine ev_istore 16 dX6_gainBy_14 rfl (Nat.le_of_ble_eq_true rfl) ?_
  refine ev_iload_n 17 dX6_gainBy_16 rfl rfl ?_
  refine ev_if_eq 20 27 dX6_gainBy_17 rfl rfl (by omega) (fun c17 => ?_) (fun c17 => ?_)
  · rw [if_pos c17]
    refine ev_iload 29 dX6_gainBy_27 rfl rfl ?_
    exact ev_iret rfl dX6_gainBy_29 (⟨by split <;> split <;> omega, rfl⟩)
  · rw [if_neg c17]
    refine ev_iload 22 dX6_gainBy_20 rfl rfl ?_
    refine ev_iconst 23 dX6_gainBy_22 rfl ?_
    refine ev_iadd 24 dX6_gainBy_23 rfl ?_
    refine ev_goto 29 dX6_gainBy_24 rfl ?_
    exact ev_iret rfl dX6_gainBy_29 (⟨by split <;> split <;> omega, rfl⟩)
theorem c_minutesBy {g : Int} (hg : R32 g) (hg2 : g < 1000) (hl : 0 ≤ h 2 6 ∧ h 2 6 ≤ 1000) : Ev shC mX6_minutesBy 0 [some (vr 2), some (vi g)] [] h (RI fun x h' => x = (if g < 1 then 0 else ceilD (h 2 6) g) ∧ h = h') := by
  refine ev_iload_n 1 dX6_minutesBy_0 rfl rfl ?_
  refine ev_iconst 2 dX6_minutesBy_1 rfl ?_
  refine ev_icmp_ge 5 9 dX6_minutesBy_2 rfl rfl (by omega) (by omega) (fun c2 => ?_) (fun c2 => ?_)
  · rw [if_neg (by omega)]
    refine ev_aload_n 10 dX6_minutesBy_9 rfl rfl ?_
    refine ev_getI 13 6 fX6_31 rfl dX6_minutesBy_10 rfl rfl rfl (by decide) rfl ?_
    refine ev_iload_n 14 dX6_minutesBy_13 rfl rfl ?_
    refine ev_iadd 15 dX6_minutesBy_14 rfl ?_
    refine ev_iconst 16 dX6_minutesBy_15 rfl ?_
    refine ev_isub 17 dX6_minutesBy_16 rfl ?_
    refine ev_iload_n 18 dX6_minutesBy_17 rfl rfl ?_
    refine ev_idiv 19 dX6_minutesBy_18 rfl (by omega) (by omega) ?_
    exact ev_iret rfl dX6_minutesBy_19 (⟨rfl, rfl⟩)
  · rw [if_pos (by omega)]
    refine ev_iconst 6 dX6_minutesBy_5 rfl ?_
    refine ev_goto 19 dX6_minutesBy_6 rfl ?_
    exact ev_iret rfl dX6_minutesBy_19 (⟨rfl, rfl⟩)
end CS1
def cR (h : Hp) (cell pts tm plc : Int → Int) (many : Int) : Hp := hq h [(11, up (h 11) 5 many), (42, tm), (43, cell), (44, pts), (45, plc)]
section CR
variable {h : Hp} {cell pts tm plc f : Int → Int} {many v : Int}
theorem cR_42 : hput (cR h cell pts tm plc many) 42 f = cR h cell pts f plc many := hq_put
theorem cR_43 : hput (cR h cell pts tm plc many) 43 f = cR h f pts tm plc many := hq_put
theorem cR_44 : hput (cR h cell pts tm plc many) 44 f = cR h cell f tm plc many := hq_put
theorem cR_45 : hput (cR h cell pts tm plc many) 45 f = cR h cell pts tm f many := hq_put
theorem cR_0 : hput (cR h cell pts tm plc many) 11 (up ((cR h cell pts tm plc many) 11) 5 v) = cR h cell pts tm plc v := by
  refine hq_put.trans ?_
  show hq h [(11, up (up (h 11) 5 many) 5 v), (42, tm), (43, cell), (44, pts), (45, plc)] = _
  rw [up_up]
  rfl
theorem cR_e : cR h (h 43) (h 44) (h 42) (h 45) (h 11 5) = h := by
  refine hq_id (fun p hp => ?_)
  simp only [List.mem_cons, List.not_mem_nil, or_false] at hp
  rcases hp with rfl | rfl | rfl | rfl | rfl
  · exact up_id
  · rfl
  · rfl
  · rfl
  · rfl
end CR
theorem rPre_1 {cost : Int → Int} {cl n : Int} {cell pts tm plc : Int → Int} {many c here : Int} (hC : CP cost cl n) (hp : rPre cost cl n (cell, pts, tm, plc, many) c here) (hc : 0 ≤ c ∧ c < n) (hlt : here < cl) (hge : cost here ≤ pts c) : rPre cost cl n (up cell c (here + 1), up pts c (pts c - cost here), tm, plc, many) c (here + 1) := by
  obtain ⟨h1, h2, h3, h4, h5, h6, h7, h8, h9⟩ := hp
  dsimp only at h1 h2 h3 h4 h5 h6 h7 h8 h9
  have hcs := hC.2.2.2.2 here h3 hlt
  rw [if_neg (by omega)] at h8
  refine ⟨fun e a b q => okC_up (h1 e a b q) (up_n q) (up_n q) rfl, up_s, by omega, by omega, ?_, ?_, h7, ?_, h9⟩
  · dsimp only; rw [up_s]; omega
  · dsimp only; rw [up_s]; omega
  · dsimp only
    by_cases q : here + 1 = cl
    · rw [if_pos q, cntB_set (p := inB cl (cell, pts, tm, plc, many)) c hc.1 (by omega) (inB_f (by dsimp only; omega)) (inB_t (up_s.trans q)) (fun e a b d => (inB_c (up_n d)).symm)]
      omega
    · rw [if_neg q, cntB_congr (q := inB cl (cell, pts, tm, plc, many)) (fun e a b => ?_)]
      · omega
      · by_cases d : e = c
        · subst d
          rw [inB_f (r := (cell, pts, tm, plc, many)) (by dsimp only; omega)]
          exact inB_f (fun w => by have w : up cell e (here + 1) e = cl := w; rw [up_s] at w; omega)
        · exact inB_c (up_n d)
section CR2
variable {h : Hp}
theorem c_blk_loop {c to : Int} (hn : 0 ≤ h 2 5 ∧ h 2 5 ≤ 5) (hc : R32 c) (hto : R32 to) (hr : ∀ e, 0 ≤ e → e < h 2 5 → R32 (h 43 e)) : ∀ (k : Nat) (e : Int), 0 ≤ e → e + k = h 2 5 → anyB (fun e => decide (e ≠ c) && decide (h 43 e = to)) e.toNat = false → Ev shC mX4_isBlocked 24 [some (vr 11), some (vr 2), some (vi c), some (vi to), some (vi e)] [] h (RI fun x h' => x = b2i (anyB (fun e => decide (e ≠ c) && decide (h 43 e = to)) (h 2 5).toNat) ∧ h = h') := by
  intro k
  induction k with
  | zero =>
    intro e h0 h1 hf
    have he : e = h 2 5 := by omega
    subst he
    rw [hf]
    refine ev_iload 26 dX4_isBlocked_24 rfl rfl ?_
    refine ev_aload_n 27 dX4_isBlocked_26 rfl rfl ?_
    refine ev_getI 30 5 fX4_31 rfl dX4_isBlocked_27 rfl rfl rfl (by decide) rfl ?_
    refine ev_icmp_ge 33 58 dX4_isBlocked_30 rfl rfl (by omega) (by omega) (fun c30 => ?_) (fun c30 => ?_)
    · refine ev_iconst 59 dX4_isBlocked_58 rfl ?_
      exact ev_zret rfl dX4_isBlocked_59 (by omega) (⟨rfl, rfl⟩)
    · omega --done
  | succ k ih =>
    intro e h0 h1 hf
    have hre := hr e h0 (by omega)
    have nx : (e = c ∨ ¬ h 43 e = to) → Ev shC mX4_isBlocked 52 [some (vr 11), some (vr 2), some (vi c), some (vi to), some (vi e)] [] h (RI fun x h' => x = b2i (anyB (fun e => decide (e ≠ c) && decide (h 43 e = to)) (h 2 5).toNat) ∧ h = h') := by
      intro hq
      refine ev_iinc 55 dX4_isBlocked_52 rfl rfl ?_
      refine ev_goto 24 dX4_isBlocked_55 rfl ?_
      refine ih (e + 1) (by omega) (by omega) ?_
      rw [anyB_1 h0, hf, Bool.false_or]
      rcases hq with q | q
      · simp [q]
      · simp [q]
    refine ev_iload 26 dX4_isBlocked_24 rfl rfl ?_
    refine ev_aload_n 27 dX4_isBlocked_26 rfl rfl ?_
    refine ev_getI 30 5 fX4_31 rfl dX4_isBlocked_27 rfl rfl rfl (by decide) rfl ?_
    refine ev_icmp_ge 33 58 dX4_isBlocked_30 rfl rfl (by omega) (by omega) (fun c30 => ?_) (fun c30 => ?_)
    · omega --done
    · refine ev_iload 35 dX4_isBlocked_33 rfl rfl ?_
      refine ev_iload_n 36 dX4_isBlocked_35 rfl rfl ?_
      refine ev_icmp_eq 39 52 dX4_isBlocked_36 rfl rfl (by omega) (by omega) (fun c36 => ?_) (fun c36 => ?_)
      · exact nx (Or.inl c36) --done
      · refine ev_aload_n 40 dX4_isBlocked_39 rfl rfl ?_
        refine ev_getR 43 fX4_18 rfl dX4_isBlocked_40 rfl rfl rfl ?_
        refine ev_iload 45 dX4_isBlocked_43 rfl rfl ?_
        refine ev_iald 46 dX4_isBlocked_45 rfl rfl (by decide) (by omega) ?_
        refine ev_iload_n 47 dX4_isBlocked_46 rfl rfl ?_
        refine ev_icmp_ne 50 52 dX4_isBlocked_47 rfl rfl (by omega) (by omega) (fun c47 => ?_) (fun c47 => ?_)
        · exact nx (Or.inr c47) --done
        · have hb : anyB (fun e => decide (e ≠ c) && decide (h 43 e = to)) (h 2 5).toNat = true := anyB_iff.mpr ⟨e, h0, by omega, by simp [c36, c47]⟩
          rw [hb]
          refine ev_iconst 51 dX4_isBlocked_50 rfl ?_
          exact ev_zret rfl dX4_isBlocked_51 (by omega) (⟨rfl, rfl⟩)
theorem c_isBlocked {c to : Int} (hn : 0 ≤ h 2 5 ∧ h 2 5 ≤ 5) (hl : 0 ≤ h 2 4 ∧ h 2 4 ≤ 16) (hcs : ∀ i, 0 ≤ i → i < h 2 4 → R32 (h 13 i)) (hc : R32 c) (hto : 0 ≤ to ∧ to ≤ 16) (hr : ∀ e, 0 ≤ e → e < h 2 5 → R32 (h 43 e)) : Ev shC mX4_isBlocked 0 [some (vr 11), some (vr 2), some (vi c), some (vi to), none] [] h (RI fun x h' => x = b2i (blk (h 13) (h 2 4) (h 2 5) (h 43) c to) ∧ h = h') := by
  unfold blk
  refine ev_iload_n 1 dX4_isBlocked_0 rfl rfl ?_
  refine ev_aload_n 2 dX4_isBlocked_1 rfl rfl ?_
  refine ev_getI 5 4 fX4_36 rfl dX4_isBlocked_2 rfl rfl rfl (by decide) rfl ?_
  refine ev_icmp_ge 8 19 dX4_isBlocked_5 rfl rfl (by omega) (by omega) (fun c5 => ?_) (fun c5 => ?_)
  · rw [decide_eq_false (by omega), Bool.false_and]
    refine ev_iconst 20 dX4_isBlocked_19 rfl ?_
    exact ev_zret rfl dX4_isBlocked_20 (by omega) (⟨rfl, rfl⟩)
  · have hct := hcs to hto.1 (by omega)
    rw [decide_eq_true (by omega), Bool.true_and]
    refine ev_aload_n 9 dX4_isBlocked_8 rfl rfl ?_
    refine ev_getR 12 fX4_43 rfl dX4_isBlocked_9 rfl rfl rfl ?_
    refine ev_iload_n 13 dX4_isBlocked_12 rfl rfl ?_
    refine ev_iald 14 dX4_isBlocked_13 rfl rfl (by decide) (by omega) ?_
    refine ev_bipush 16 dX4_isBlocked_14 rfl (by decide +kernel) ?_
    refine ev_icmp_eq 19 21 dX4_isBlocked_16 rfl rfl (by omega) (by omega) (fun c16 => ?_) (fun c16 => ?_)
    · rw [decide_eq_true c16, Bool.true_and]
      refine ev_iconst 22 dX4_isBlocked_21 rfl ?_
      refine ev_istore 24 dX4_isBlocked_22 rfl (Nat.le_of_ble_eq_true rfl) ?_
      exact c_blk_loop hn hc (by omega) hr (h 2 5).toNat 0 (by omega) (by omega) rfl
    · rw [decide_eq_false c16, Bool.false_and]
      refine ev_iconst 20 dX4_isBlocked_19 rfl ?_
      exact ev_zret rfl dX4_isBlocked_20 (by omega) (⟨rfl, rfl⟩)
theorem c_arrive {cell pts tm plc : Int → Int} {many c m : Int} (hc : 0 ≤ c ∧ c < 5) (hm : 0 ≤ many ∧ many < 5) : Ev shC mX4_arrive 0 [some (vr 11), some (vi c), some (vi m)] [] (cR h cell pts tm plc many) (RV fun h' => h' = cR h cell pts (up tm c m) (up plc many c) (many + 1)) := by
  refine ev_aload_n 1 dX4_arrive_0 rfl rfl ?_
  refine ev_getI' 4 5 (many) fX4_27 rfl dX4_arrive_1 rfl rfl rfl (by decide) rfl rfl ?_
  refine ev_iconst 5 dX4_arrive_4 rfl ?_
  refine ev_icmp_lt 8 9 dX4_arrive_5 rfl rfl (by omega) (by omega) (fun c5 => ?_) (fun c5 => ?_)
  · refine ev_aload_n 10 dX4_arrive_9 rfl rfl ?_
    refine ev_getR 13 fX4_15 rfl dX4_arrive_10 rfl rfl rfl ?_
    refine ev_iload_n 14 dX4_arrive_13 rfl rfl ?_
    refine ev_iload_n 15 dX4_arrive_14 rfl rfl ?_
    refine ev_iast' 16 (cR h cell pts (up tm c m) plc many) dX4_arrive_15 rfl rfl (by decide) (by omega) cR_42 ?_
    refine ev_aload_n 17 dX4_arrive_16 rfl rfl ?_
    refine ev_getR 20 fX4_24 rfl dX4_arrive_17 rfl rfl rfl ?_
    refine ev_aload_n 21 dX4_arrive_20 rfl rfl ?_
    refine ev_getI' 24 5 (many) fX4_27 rfl dX4_arrive_21 rfl rfl rfl (by decide) rfl rfl ?_
    refine ev_iload_n 25 dX4_arrive_24 rfl rfl ?_
    refine ev_iast' 26 (cR h cell pts (up tm c m) (up plc many c) many) dX4_arrive_25 rfl rfl (by decide) (by omega) cR_45 ?_
    refine ev_aload_n 27 dX4_arrive_26 rfl rfl ?_
    refine ev_dup_r 28 dX4_arrive_27 rfl ?_
    refine ev_getI' 31 5 (many) fX4_27 rfl dX4_arrive_28 rfl rfl rfl (by decide) rfl rfl ?_
    refine ev_iconst 32 dX4_arrive_31 rfl ?_
    refine ev_iadd 33 dX4_arrive_32 rfl ?_
    refine ev_putI' 36 5 (cR h cell pts (up tm c m) (up plc many c) (many + 1)) pX4_27 rfl dX4_arrive_33 rfl rfl rfl rfl cR_0 ?_
    exact ev_vret rfl dX4_arrive_36 (rfl)
  · omega --done
theorem c_move_loop (hC : CP (h 13) (h 2 4) (h 2 5)) {c m : Int} (hc : 0 ≤ c ∧ c < h 2 5) (hm : 1 ≤ m ∧ m < 2147483648) : ∀ (k : Nat) (here : Int) (r : RS) (o : Option AV), h 2 4 - here = k → rPre (h 13) (h 2 4) (h 2 5) r c here → Ev shC mX4_move 23 [some (vr 11), some (vr 2), some (vi c), some (vi m), some (vi here), o] [] (cR h r.1 r.2.1 r.2.2.1 r.2.2.2.1 r.2.2.2.2) (RV fun h' => h' = cR h (mvF (h 13) (h 2 4) (h 2 5) k c m here r).1 (mvF (h 13) (h 2 4) (h 2 5) k c m here r).2.1 (mvF (h 13) (h 2 4) (h 2 5) k c m here r).2.2.1 (mvF (h 13) (h 2 4) (h 2 5) k c m here r).2.2.2.1 (mvF (h 13) (h 2 4) (h 2 5) k c m here r).2.2.2.2) := by
  have hC1 := hC.2.1
  have hC2 := hC.2.2.2.1
  intro k
  induction k with
  | zero =>
    intro here r o hk hp
    obtain ⟨h1, h2, h3, h4, h5, h6, h7, h8, h9⟩ := hp
    rw [if_pos (by omega)] at h8
    have hcr := cntB_rng (inB (h 2 4) r) (h 2 5).toNat
    have hm0 : 0 ≤ r.2.2.2.2 := by
      apply Classical.byContradiction
      intro w
      have hz := cntB_set (p := fun _ => false) (q := fun e => decide (e = c)) (k := (h 2 5).toNat) c hc.1 (by omega) rfl (decide_eq_true rfl) (fun e _ _ d => (decide_eq_false d).symm)
      have hle : ∀ j : Nat, cntB (fun e => decide (e = c)) j ≤ cntB (inB (h 2 4) r) j := by
        intro j
        induction j with
        | zero => exact Int.le_refl _
        | succ j ihj =>
          unfold cntB
          by_cases q : (j : Int) = c
          · rw [if_pos (decide_eq_true q), if_pos (inB_t (by rw [q, h2]; omega))]; omega
          · rw [if_neg (by rw [decide_eq_false q]; decide)]; split <;> omega
      have hz0 : ∀ j : Nat, cntB (fun _ => false) j = 0 := by
        intro j
        induction j with
        | zero => rfl
        | succ j ihj => unfold cntB; rw [ihj]; rfl
      have := hle (h 2 5).toNat
      rw [hz, hz0] at this
      omega
    refine ev_iload 25 dX4_move_23 rfl rfl ?_
    refine ev_aload_n 26 dX4_move_25 rfl rfl ?_
    refine ev_getI' 29 4 (h 2 4) fX4_36 rfl dX4_move_26 rfl rfl rfl (by decide) rfl rfl ?_
    refine ev_icmp_ge 32 102 dX4_move_29 rfl rfl (by omega) (by omega) (fun c29 => ?_) (fun c29 => ?_)
    · refine ev_aload_n 103 dX4_move_102 rfl rfl ?_
      refine ev_iload_n 104 dX4_move_103 rfl rfl ?_
      refine ev_iload_n 105 dX4_move_104 rfl rfl ?_
      refine cVv2 108 kX4_move_50 dX4_move_105 rfl rfl rfl rfl rfl (by decide) rfl (Nat.le_of_ble_eq_true rfl) (c_arrive ⟨hc.1, by omega⟩ ⟨hm0, by omega⟩) ?_
      rintro _ rfl
      exact ev_vret rfl dX4_move_108 (rfl)
    · omega --done
  | succ k ih =>
    intro here r o hk hp
    have hp0 := hp
    obtain ⟨cell, pts, tm, plc, many⟩ := r
    obtain ⟨h1, h2, h3, h4, h5, h6, h7, h8, h9⟩ := hp
    dsimp only at h1 h2 h3 h4 h5 h6 h7 h8 h9 ⊢
    have hcs := hC.2.2.2.2 here h3 (by omega)
    have hr43 : ∀ e, 0 ≤ e → e < h 2 5 → R32 (cell e) := fun e a b => by
      by_cases q : e = c
      · subst q; omega
      · have := h1 e a b q; unfold okC at this; dsimp only at this; omega
    unfold mvF
    dsimp only
    refine ev_iload 25 dX4_move_23 rfl rfl ?_
    refine ev_aload_n 26 dX4_move_25 rfl rfl ?_
    refine ev_getI' 29 4 (h 2 4) fX4_36 rfl dX4_move_26 rfl rfl rfl (by decide) rfl rfl ?_
    refine ev_icmp_ge 32 102 dX4_move_29 rfl rfl (by omega) (by omega) (fun c29 => ?_) (fun c29 => ?_)
    · omega --done
    · refine ev_aload_n 33 dX4_move_32 rfl rfl ?_
      refine ev_getR 36 fX4_43 rfl dX4_move_33 rfl rfl rfl ?_
      refine ev_iload 38 dX4_move_36 rfl rfl ?_
      refine ev_iald' 39 (h 13 here) dX4_move_38 rfl rfl (by decide) (by omega) rfl ?_
      refine ev_istore 41 dX4_move_39 rfl (Nat.le_of_ble_eq_true rfl) ?_
      refine ev_aload_n 42 dX4_move_41 rfl rfl ?_
      refine ev_getR 45 fX4_21 rfl dX4_move_42 rfl rfl rfl ?_
      refine ev_iload_n 46 dX4_move_45 rfl rfl ?_
      refine ev_iald' 47 (pts c) dX4_move_46 rfl rfl (by decide) (by omega) rfl ?_
      refine ev_iload 49 dX4_move_47 rfl rfl ?_
      refine ev_icmp_ge 52 53 dX4_move_49 rfl rfl (by omega) (by omega) (fun c49 => ?_) (fun c49 => ?_)
      · rw [if_neg (by omega)]
        refine ev_aload_n 54 dX4_move_53 rfl rfl ?_
        refine ev_aload_n 55 dX4_move_54 rfl rfl ?_
        refine ev_iload_n 56 dX4_move_55 rfl rfl ?_
        refine ev_iload 58 dX4_move_56 rfl rfl ?_
        refine ev_iconst 59 dX4_move_58 rfl ?_
        refine ev_iadd 60 dX4_move_59 rfl ?_
        refine cVi3 63 kX4_move_46 dX4_move_60 rfl rfl rfl rfl rfl (by decide) rfl (Nat.le_of_ble_eq_true rfl) (c_isBlocked (h := cR h cell pts tm plc many) ⟨by show 0 ≤ h 2 5; omega, hC1⟩ ⟨by show 0 ≤ h 2 4; omega, hC2⟩ (fun i a b => by have := hC.2.2.2.2 i a b; show R32 (h 13 i); omega) (by omega) (by omega) hr43) ?_
        rintro x _ ⟨e60, rfl⟩
        rw [show x = b2i (blk (h 13) (h 2 4) (h 2 5) cell c (here + 1)) from e60]
        refine ev_if_eq 66 75 dX4_move_63 rfl rfl (b2i_r _) (fun c63 => ?_) (fun c63 => ?_)
        · rw [b2i_0.mp c63, if_neg (show ¬ (false = true) by decide)]
          refine ev_aload_n 76 dX4_move_75 rfl rfl ?_
          refine ev_getR 79 fX4_21 rfl dX4_move_76 rfl rfl rfl ?_
          refine ev_iload_n 80 dX4_move_79 rfl rfl ?_
          refine ev_dup2 81 dX4_move_80 rfl ?_
          refine ev_iald' 82 (pts c) dX4_move_81 rfl rfl (by decide) (by omega) rfl ?_
          refine ev_iload 84 dX4_move_82 rfl rfl ?_
          refine ev_isub 85 dX4_move_84 rfl ?_
          refine ev_iast' 86 (cR h cell (up pts c (pts c - h 13 here)) tm plc many) dX4_move_85 rfl rfl (by decide) (by omega) cR_44 ?_
          refine ev_aload_n 87 dX4_move_86 rfl rfl ?_
          refine ev_getR 90 fX4_18 rfl dX4_move_87 rfl rfl rfl ?_
          refine ev_iload_n 91 dX4_move_90 rfl rfl ?_
          refine ev_iload 93 dX4_move_91 rfl rfl ?_
          refine ev_iconst 94 dX4_move_93 rfl ?_
          refine ev_iadd 95 dX4_move_94 rfl ?_
          refine ev_iast' 96 (cR h (up cell c (here + 1)) (up pts c (pts c - h 13 here)) tm plc many) dX4_move_95 rfl rfl (by decide) (by omega) cR_43 ?_
          refine ev_iinc 99 dX4_move_96 rfl rfl ?_
          refine ev_goto 23 dX4_move_99 rfl ?_
          exact ih (here + 1) (up cell c (here + 1), up pts c (pts c - h 13 here), tm, plc, many) _ (by omega) (rPre_1 hC hp0 hc (by omega) (by omega))
        · rw [b2i_n.mp c63, if_pos rfl]
          refine ev_aload_n 67 dX4_move_66 rfl rfl ?_
          refine ev_getR 70 fX4_21 rfl dX4_move_67 rfl rfl rfl ?_
          refine ev_iload_n 71 dX4_move_70 rfl rfl ?_
          refine ev_iload 73 dX4_move_71 rfl rfl ?_
          refine ev_iast' 74 (cR h cell (up pts c (h 13 here)) tm plc many) dX4_move_73 rfl rfl (by decide) (by omega) cR_44 ?_
          exact ev_vret rfl dX4_move_74 (rfl)
      · rw [if_pos (by omega)]
        exact ev_vret rfl dX4_move_52 (rfl)
theorem c_move (hC : CP (h 13) (h 2 4) (h 2 5)) {c m : Int} (hc : 0 ≤ c ∧ c < h 2 5) (hm : 1 ≤ m ∧ m < 2147483648) (hg : 1 ≤ h 41 c ∧ h 41 c ≤ 20) {r : RS} (hr : rOK (h 13) (h 2 4) (h 2 5) r) (hin : r.1 c < h 2 4) : Ev shC mX4_move 0 [some (vr 11), some (vr 2), some (vi c), some (vi m), none, none] [] (cR h r.1 r.2.1 r.2.2.1 r.2.2.2.1 r.2.2.2.2) (RV fun h' => h' = cR h (moveF (h 13) (h 2 4) (h 2 5) c m (h 41 c) r).1 (moveF (h 13) (h 2 4) (h 2 5) c m (h 41 c) r).2.1 (moveF (h 13) (h 2 4) (h 2 5) c m (h 41 c) r).2.2.1 (moveF (h 13) (h 2 4) (h 2 5) c m (h 41 c) r).2.2.2.1 (moveF (h 13) (h 2 4) (h 2 5) c m (h 41 c) r).2.2.2.2) := by
  obtain ⟨hp, -⟩ := move_ok hC hc hm hg hr hin
  have hC1 := hC.2.1
  have hk := hr.1 c hc.1 hc.2
  unfold okC at hk
  have K := c_move_loop hC hc hm (h 2 4 - r.1 c).toNat (r.1 c) (r.1, up r.2.1 c (r.2.1 c + h 41 c), r.2.2) none (by omega) hp
  unfold moveF
  refine ev_aload_n 1 dX4_move_0 rfl rfl ?_
  refine ev_getR 4 fX4_21 rfl dX4_move_1 rfl rfl rfl ?_
  refine ev_iload_n 5 dX4_move_4 rfl rfl ?_
  refine ev_dup2 6 dX4_move_5 rfl ?_
  refine ev_iald' 7 (r.2.1 c) dX4_move_6 rfl rfl (by decide) (by omega) rfl ?_
  refine ev_aload_n 8 dX4_move_7 rfl rfl ?_
  refine ev_getR 11 fX4_9 rfl dX4_move_8 rfl rfl rfl ?_
  refine ev_iload_n 12 dX4_move_11 rfl rfl ?_
  refine ev_iald' 13 (h 41 c) dX4_move_12 rfl rfl (by decide) (by omega) rfl ?_
  refine ev_iadd 14 dX4_move_13 rfl ?_
  refine ev_iast' 15 (cR h r.1 (up r.2.1 c (r.2.1 c + h 41 c)) r.2.2.1 r.2.2.2.1 r.2.2.2.2) dX4_move_14 rfl rfl (by decide) (by omega) cR_44 ?_
  refine ev_aload_n 16 dX4_move_15 rfl rfl ?_
  refine ev_getR 19 fX4_18 rfl dX4_move_16 rfl rfl rfl ?_
  refine ev_iload_n 20 dX4_move_19 rfl rfl ?_
  refine ev_iald' 21 (r.1 c) dX4_move_20 rfl rfl (by decide) (by omega) rfl ?_
  refine ev_istore 23 dX4_move_21 rfl (Nat.le_of_ble_eq_true rfl) ?_
  exact K
end CR2
