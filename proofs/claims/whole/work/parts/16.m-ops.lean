theorem it_r {P : Prop} [Decidable P] : R32 (if P then 1 else 0) := by split <;> exact ⟨by decide, by decide⟩
theorem it_0 {P : Prop} [Decidable P] : (if P then (1 : Int) else 0) = 0 ↔ ¬ P := by
  by_cases h : P
  · rw [if_pos h]; exact ⟨fun w => (by omega), fun w => absurd h w⟩
  · rw [if_neg h]; exact ⟨fun _ => h, fun _ => rfl⟩
theorem it_1 {P : Prop} [Decidable P] : (¬ (if P then (1 : Int) else 0) = 0) ↔ P := by
  by_cases h : P
  · rw [if_pos h]; exact ⟨fun _ => h, fun _ => (by omega)⟩
  · rw [if_neg h]; exact ⟨fun w => absurd rfl w, fun w => absurd w h⟩
/-- the answers' words: refusals -/
def Bd (P : Prop) (x : Int) (h h' : Hp) : Prop := P ∧ x = -1 ∧ h = h'
theorem m_type {h : Hp} {l : Int} (hl : R32 l) (ht : 0 ≤ h 0 14 ∧ h 0 14 ≤ 120) : Ev shM mX9_type 0 [some (vr 0), some (vi l)] [] h (RI fun x h' => (¬ (0 ≤ l ∧ l ≤ 255) ∧ x = -1 ∧ h = h') ∨ ((0 ≤ l ∧ l ≤ 255) ∧ h 0 14 = 120 ∧ x = -3 ∧ h = h') ∨ ((0 ≤ l ∧ l ≤ 255) ∧ h 0 14 < 120 ∧ x = h 0 14 + 1 ∧ h' = hq h [(9, up (h 9) (h 0 14) l), (0, up (h 0) 14 (h 0 14 + 1))])) := by
  refine ev_iload_n 1 dX9_type_0 rfl rfl ?_
  refine ev_iconst 2 dX9_type_1 rfl ?_
  refine ev_sipush 5 dX9_type_2 rfl (by decide +kernel) ?_
  refine cSi3 8 kX9_type_78 dX9_type_5 rfl rfl (by decide) rfl (Nat.le_of_ble_eq_true rfl) (m_in hl ⟨by decide, by decide⟩ ⟨by decide, by decide⟩) ?_
  rintro x _ ⟨rfl, rfl⟩
  refine ev_if_ne 11 13 dX9_type_8 rfl rfl it_r (fun c8 => ?_) (fun c8 => ?_)
  · refine ev_aload_n 14 dX9_type_13 rfl rfl ?_
    refine ev_getI 17 14 fX9_84 rfl dX9_type_14 rfl rfl rfl (by decide) rfl ?_
    refine ev_bipush 19 dX9_type_17 rfl (by decide +kernel) ?_
    refine ev_icmp_ne 22 25 dX9_type_19 rfl rfl (by omega) (by omega) (fun c19 => ?_) (fun c19 => ?_)
    · refine ev_aload_n 26 dX9_type_25 rfl rfl ?_
      refine ev_getR 29 fX9_35 rfl dX9_type_26 rfl rfl rfl ?_
      refine ev_aload_n 30 dX9_type_29 rfl rfl ?_
      refine ev_getI 33 14 fX9_84 rfl dX9_type_30 rfl rfl rfl (by decide) rfl ?_
      refine ev_iload_n 34 dX9_type_33 rfl rfl ?_
      refine ev_iast' 35 (hq h [(9, up (h 9) (h 0 14) l)]) dX9_type_34 rfl rfl (by decide) (by omega) (hq_put (L := [])) ?_
      refine ev_aload_n 36 dX9_type_35 rfl rfl ?_
      refine ev_dup_r 37 dX9_type_36 rfl ?_
      refine ev_getI' 40 14 (h 0 14) fX9_84 rfl dX9_type_37 rfl rfl rfl (by decide) rfl rfl ?_
      refine ev_iconst 41 dX9_type_40 rfl ?_
      refine ev_iadd 42 dX9_type_41 rfl ?_
      refine ev_putI' 45 14 (hq h [(9, up (h 9) (h 0 14) l), (0, up (h 0) 14 (h 0 14 + 1))]) pX9_84 rfl dX9_type_42 rfl rfl rfl rfl hq_put ?_
      refine ev_aload_n 46 dX9_type_45 rfl rfl ?_
      refine ev_getI' 49 14 (h 0 14 + 1) fX9_84 rfl dX9_type_46 rfl rfl rfl (by decide) rfl rfl ?_
      exact ev_iret rfl dX9_type_49 (Or.inr (Or.inr ⟨it_1.mp c8, by omega, rfl, rfl⟩))
    · refine ev_bipush 24 dX9_type_22 rfl (by decide +kernel) ?_
      exact ev_iret rfl dX9_type_24 (Or.inr (Or.inl ⟨it_1.mp c8, by omega, rfl, rfl⟩))
  · refine ev_iconst 12 dX9_type_11 rfl ?_
    exact ev_iret rfl dX9_type_12 (Or.inl ⟨it_0.mp c8, rfl, rfl⟩)
theorem m_clear {h : Hp} : Ev shM mX9_clear 0 [some (vr 0), none] [] h (RI fun x h' => x = h 0 14 ∧ h' = hput h 0 (up (h 0) 14 0)) := by
  refine ev_aload_n 1 dX9_clear_0 rfl rfl ?_
  refine ev_getI 4 14 fX9_84 rfl dX9_clear_1 rfl rfl rfl (by decide) rfl ?_
  refine ev_istore_n 5 dX9_clear_4 rfl (Nat.le_of_ble_eq_true rfl) ?_
  refine ev_aload_n 6 dX9_clear_5 rfl rfl ?_
  refine ev_iconst 7 dX9_clear_6 rfl ?_
  refine ev_putI 10 14 pX9_84 rfl dX9_clear_7 rfl rfl rfl rfl ?_
  refine ev_iload_n 11 dX9_clear_10 rfl rfl ?_
  exact ev_iret rfl dX9_clear_11 (⟨rfl, rfl⟩)
theorem m_forget {h : Hp} : Ev shM mX9_forget 0 [some (vr 0), none] [] h (RI fun x h' => x = h 0 10 ∧ h' = hput h 0 (up (h 0) 10 0)) := by
  refine ev_aload_n 1 dX9_forget_0 rfl rfl ?_
  refine ev_getI 4 10 fX9_151 rfl dX9_forget_1 rfl rfl rfl (by decide) rfl ?_
  refine ev_istore_n 5 dX9_forget_4 rfl (Nat.le_of_ble_eq_true rfl) ?_
  refine ev_aload_n 6 dX9_forget_5 rfl rfl ?_
  refine ev_iconst 7 dX9_forget_6 rfl ?_
  refine ev_putI 10 10 pX9_151 rfl dX9_forget_7 rfl rfl rfl rfl ?_
  refine ev_iload_n 11 dX9_forget_10 rfl rfl ?_
  exact ev_iret rfl dX9_forget_11 (⟨rfl, rfl⟩)
theorem m_trace {h : Hp} : Ev shM mX9_trace 0 [some (vr 0)] [] h (RJ fun x h' => x = h 0 12 ∧ h = h') := by
  refine ev_aload_n 1 dX9_trace_0 rfl rfl ?_
  refine ev_getL 4 12 fX9_220 rfl dX9_trace_1 rfl rfl rfl rfl ?_
  exact ev_lret rfl dX9_trace_4 (⟨rfl, rfl⟩)
theorem m_count {h : Hp} {w : Int} (hw : R32 w) : Ev shM mX9_count 0 [some (vr 0), some (vi w)] [] h (RI fun x h' => x = (if w = 0 then h 0 0 else if w = 1 then h 0 2 else if w = 2 then h 0 10 else if w = 3 then h 0 14 else -1) ∧ h = h') := by
  refine ev_iload_n 1 dX9_count_0 rfl rfl ?_
  by_cases w1 : w < 0 ∨ 3 < w
  · refine ev_tswOut 52 dX9_count_1 (by omega) w1 rfl ?_
    refine ev_iconst 53 dX9_count_52 rfl ?_
    exact ev_iret rfl dX9_count_53 (⟨by first | rfl | (rw [if_neg (by omega), if_neg (by omega), if_neg (by omega), if_neg (by omega)]), rfl⟩)
  have w1 : w = 0 ∨ w = 1 ∨ w = 2 ∨ w = 3 := by omega
  rcases w1 with w1 | w1 | w1 | w1
  · rw [w1]
    refine ev_tswIn 32 dX9_count_1 ⟨by decide, by decide⟩ (by decide) (by decide) rfl rfl ?_
    refine ev_aload_n 33 dX9_count_32 rfl rfl ?_
    refine ev_getI 36 0 fX9_81 rfl dX9_count_33 rfl rfl rfl (by decide) rfl ?_
    exact ev_iret rfl dX9_count_36 (⟨by first | rfl | (rw [if_neg (by omega), if_neg (by omega), if_neg (by omega), if_neg (by omega)]), rfl⟩)
  · rw [w1]
    refine ev_tswIn 37 dX9_count_1 ⟨by decide, by decide⟩ (by decide) (by decide) rfl rfl ?_
    refine ev_aload_n 38 dX9_count_37 rfl rfl ?_
    refine ev_getI 41 2 fX9_74 rfl dX9_count_38 rfl rfl rfl (by decide) rfl ?_
    exact ev_iret rfl dX9_count_41 (⟨by first | rfl | (rw [if_neg (by omega), if_neg (by omega), if_neg (by omega), if_neg (by omega)]), rfl⟩)
  · rw [w1]
    refine ev_tswIn 42 dX9_count_1 ⟨by decide, by decide⟩ (by decide) (by decide) rfl rfl ?_
    refine ev_aload_n 43 dX9_count_42 rfl rfl ?_
    refine ev_getI 46 10 fX9_151 rfl dX9_count_43 rfl rfl rfl (by decide) rfl ?_
    exact ev_iret rfl dX9_count_46 (⟨by first | rfl | (rw [if_neg (by omega), if_neg (by omega), if_neg (by omega), if_neg (by omega)]), rfl⟩)
  · rw [w1]
    refine ev_tswIn 47 dX9_count_1 ⟨by decide, by decide⟩ (by decide) (by decide) rfl rfl ?_
    refine ev_aload_n 48 dX9_count_47 rfl rfl ?_
    refine ev_getI 51 14 fX9_84 rfl dX9_count_48 rfl rfl rfl (by decide) rfl ?_
    exact ev_iret rfl dX9_count_51 (⟨by first | rfl | (rw [if_neg (by omega), if_neg (by omega), if_neg (by omega), if_neg (by omega)]), rfl⟩)
theorem m_pusher {h : Hp} {c : Int} (hc : R32 c) (hn : 0 ≤ h 0 2 ∧ h 0 2 ≤ 5) : Ev shM mX9_pusher 0 [some (vr 0), some (vi c)] [] h (RI fun x h' => x = (if 0 ≤ c ∧ c < h 0 2 then h 3 c else -1) ∧ h = h') := by
  refine ev_aload_n 1 dX9_pusher_0 rfl rfl ?_
  refine ev_iload_n 2 dX9_pusher_1 rfl rfl ?_
  refine cVi1 5 kX9_pusher_175 dX9_pusher_2 rfl rfl rfl rfl rfl (by decide) rfl (Nat.le_of_ble_eq_true rfl) (m_isChair hc hn) ?_
  rintro x _ ⟨rfl, rfl⟩
  refine ev_if_eq 8 17 dX9_pusher_5 rfl rfl it_r (fun c5 => ?_) (fun c5 => ?_)
  · have d5 := it_0.mp c5
    refine ev_iconst 18 dX9_pusher_17 rfl ?_
    exact ev_iret rfl dX9_pusher_18 (⟨by first | rw [if_pos d5] | rw [if_neg d5], rfl⟩)
  · have d5 := it_1.mp c5
    refine ev_aload_n 9 dX9_pusher_8 rfl rfl ?_
    refine ev_getR 12 fX9_16 rfl dX9_pusher_9 rfl rfl rfl ?_
    refine ev_iload_n 13 dX9_pusher_12 rfl rfl ?_
    refine ev_iald 14 dX9_pusher_13 rfl rfl (by decide) (by omega) ?_
    refine ev_goto 18 dX9_pusher_14 rfl ?_
    exact ev_iret rfl dX9_pusher_18 (⟨by first | rw [if_pos d5] | rw [if_neg d5], rfl⟩)
theorem m_cell {h : Hp} {c : Int} (hc : R32 c) (hn : 0 ≤ h 0 0 ∧ h 0 0 ≤ 16) : Ev shM mX9_cell 0 [some (vr 0), some (vi c)] [] h (RI fun x h' => x = (if 0 ≤ c ∧ c < h 0 0 then h 1 c else -1) ∧ h = h') := by
  refine ev_iload_n 1 dX9_cell_0 rfl rfl ?_
  refine ev_iconst 2 dX9_cell_1 rfl ?_
  refine ev_aload_n 3 dX9_cell_2 rfl rfl ?_
  refine ev_getI 6 0 fX9_81 rfl dX9_cell_3 rfl rfl rfl (by decide) rfl ?_
  refine ev_iconst 7 dX9_cell_6 rfl ?_
  refine ev_isub 8 dX9_cell_7 rfl ?_
  refine cSi3 11 kX9_cell_78 dX9_cell_8 rfl rfl (by decide) rfl (Nat.le_of_ble_eq_true rfl) (m_in hc ⟨by decide, by decide⟩ (by omega)) ?_
  rintro x _ ⟨rfl, rfl⟩
  refine ev_if_eq 14 23 dX9_cell_11 rfl rfl it_r (fun c11 => ?_) (fun c11 => ?_)
  · have d5 := it_0.mp c11
    refine ev_iconst 24 dX9_cell_23 rfl ?_
    exact ev_iret rfl dX9_cell_24 (⟨by first | rw [if_pos (by omega)] | rw [if_neg (by omega)], rfl⟩)
  · have d5 := it_1.mp c11
    refine ev_aload_n 15 dX9_cell_14 rfl rfl ?_
    refine ev_getR 18 fX9_7 rfl dX9_cell_15 rfl rfl rfl ?_
    refine ev_iload_n 19 dX9_cell_18 rfl rfl ?_
    refine ev_iald 20 dX9_cell_19 rfl rfl (by decide) (by omega) ?_
    refine ev_goto 24 dX9_cell_20 rfl ?_
    exact ev_iret rfl dX9_cell_24 (⟨by first | rw [if_pos (by omega)] | rw [if_neg (by omega)], rfl⟩)
def chairM (h : Hp) (c w : Int) : Int := if w = 0 ∨ w = 1 then h 2 (2 * c + w) else if w = 2 then h 4 c else if w = 3 then h 4 (5 + c) else if w = 4 then bit (h 4 10) c else if w = 5 then sGain (h 3) (fun c => h 2 (2 * c)) (h 4) 0 c else if w = 6 then h 4 (12 + c) else -1
theorem hN_C {h : Hp} (hn : 0 ≤ h 0 2 ∧ h 0 2 ≤ 5) (hC : MCh h) (hs : NW (h 0 2) (h 4)) : MCh (hN h) ∧ NW (hN h 0 2) (hN h 13) := ⟨hC, NW_ag hn.2 hs (fun i a b => hN_at a b)⟩
theorem mGain_N {h : Hp} (hn : 0 ≤ h 0 2 ∧ h 0 2 ≤ 5) {ill c : Int} (hc : 0 ≤ c ∧ c < h 0 2) : mGain (hN h) ill c = sGain (h 3) (fun c => h 2 (2 * c)) (h 4) ill c := sGain_ag (str := h 3) (wt := fun c => h 2 (2 * c)) (s := h 4) (s' := hN h 13) hn.2 (fun i a b => hN_at a b) c hc.1 hc.2
theorem m_chair {h : Hp} {c w : Int} (hc : R32 c) (hw : R32 w) (hn : 0 ≤ h 0 2 ∧ h 0 2 ≤ 5) (hC : MCh h) (hs : NW (h 0 2) (h 4)) : Ev shM mX9_chair 0 [some (vr 0), some (vi c), some (vi w)] [] h (RI fun x h' => x = (if 0 ≤ c ∧ c < h 0 2 then chairM h c w else -1) ∧ PsM h h') := by
  have hs2 := hs.2
  have hz := bit_z (h 4 10) c
  unfold chairM
  refine ev_aload_n 1 dX9_chair_0 rfl rfl ?_
  refine ev_iload_n 2 dX9_chair_1 rfl rfl ?_
  refine cVi1 5 kX9_chair_175 dX9_chair_2 rfl rfl rfl rfl rfl (by decide) rfl (Nat.le_of_ble_eq_true rfl) (m_isChair hc hn) ?_
  rintro x _ ⟨rfl, rfl⟩
  refine ev_if_ne 8 10 dX9_chair_5 rfl rfl it_r (fun c5 => ?_) (fun c5 => ?_)
  · have d5 := it_1.mp c5
    rw [if_pos d5]
    refine ev_aload_n 11 dX9_chair_10 rfl rfl ?_
    refine cVv0 14 kX9_chair_178 dX9_chair_11 rfl rfl rfl rfl rfl (by decide) rfl (Nat.le_of_ble_eq_true rfl) (m_asItIs) ?_
    rintro _ rfl
    refine ev_iload_n 15 dX9_chair_14 rfl rfl ?_
    by_cases w15 : w < 0 ∨ 6 < w
    · refine ev_tswOut 122 dX9_chair_15 (by omega) w15 rfl ?_
      refine ev_iconst 123 dX9_chair_122 rfl ?_
      exact ev_iret rfl dX9_chair_123 (⟨by rw [if_neg (by omega), if_neg (by omega), if_neg (by omega), if_neg (by omega), if_neg (by omega), if_neg (by omega)], PsM.N⟩)
    have w15 : w = 0 ∨ w = 1 ∨ w = 2 ∨ w = 3 ∨ w = 4 ∨ w = 5 ∨ w = 6 := by omega
    rcases w15 with w15 | w15 | w15 | w15 | w15 | w15 | w15
    · rw [w15]
      refine ev_tswIn 56 dX9_chair_15 ⟨by decide, by decide⟩ (by decide) (by decide) rfl rfl ?_
      refine ev_aload_n 57 dX9_chair_56 rfl rfl ?_
      refine ev_getR 60 fX9_13 rfl dX9_chair_57 rfl rfl rfl ?_
      refine ev_iconst 61 dX9_chair_60 rfl ?_
      refine ev_iload_n 62 dX9_chair_61 rfl rfl ?_
      refine ev_imul 63 dX9_chair_62 rfl ?_
      refine ev_iload_n 64 dX9_chair_63 rfl rfl ?_
      refine ev_iadd 65 dX9_chair_64 rfl ?_
      refine ev_iald 66 dX9_chair_65 rfl rfl (by decide) (by omega) ?_
      exact ev_iret rfl dX9_chair_66 (⟨by rw [if_pos (by omega)]; rfl, PsM.N⟩)
    · rw [w15]
      refine ev_tswIn 56 dX9_chair_15 ⟨by decide, by decide⟩ (by decide) (by decide) rfl rfl ?_
      refine ev_aload_n 57 dX9_chair_56 rfl rfl ?_
      refine ev_getR 60 fX9_13 rfl dX9_chair_57 rfl rfl rfl ?_
      refine ev_iconst 61 dX9_chair_60 rfl ?_
      refine ev_iload_n 62 dX9_chair_61 rfl rfl ?_
      refine ev_imul 63 dX9_chair_62 rfl ?_
      refine ev_iload_n 64 dX9_chair_63 rfl rfl ?_
      refine ev_iadd 65 dX9_chair_64 rfl ?_
      refine ev_iald 66 dX9_chair_65 rfl rfl (by decide) (by omega) ?_
      exact ev_iret rfl dX9_chair_66 (⟨by rw [if_pos (by omega)]; rfl, PsM.N⟩)
    · rw [w15]
      refine ev_tswIn 67 dX9_chair_15 ⟨by decide, by decide⟩ (by decide) (by decide) rfl rfl ?_
      refine ev_aload_n 68 dX9_chair_67 rfl rfl ?_
      refine ev_getR 71 fX9_19 rfl dX9_chair_68 rfl rfl rfl ?_
      refine ev_iconst 72 dX9_chair_71 rfl ?_
      refine ev_iload_n 73 dX9_chair_72 rfl rfl ?_
      refine ev_iadd 74 dX9_chair_73 rfl ?_
      refine ev_iald' 75 (h 4 c) dX9_chair_74 rfl rfl (by decide) (by omega) (by rw [Int.zero_add]; rfl) ?_
      exact ev_iret rfl dX9_chair_75 (⟨rfl, PsM.N⟩)
    · rw [w15]
      refine ev_tswIn 76 dX9_chair_15 ⟨by decide, by decide⟩ (by decide) (by decide) rfl rfl ?_
      refine ev_aload_n 77 dX9_chair_76 rfl rfl ?_
      refine ev_getR 80 fX9_19 rfl dX9_chair_77 rfl rfl rfl ?_
      refine ev_iconst 81 dX9_chair_80 rfl ?_
      refine ev_iload_n 82 dX9_chair_81 rfl rfl ?_
      refine ev_iadd 83 dX9_chair_82 rfl ?_
      refine ev_iald 84 dX9_chair_83 rfl rfl (by decide) (by omega) ?_
      exact ev_iret rfl dX9_chair_84 (⟨rfl, PsM.N⟩)
    · rw [w15]
      refine ev_tswIn 85 dX9_chair_15 ⟨by decide, by decide⟩ (by decide) (by decide) rfl rfl ?_
      refine ev_aload_n 86 dX9_chair_85 rfl rfl ?_
      refine ev_getR 89 fX9_19 rfl dX9_chair_86 rfl rfl rfl ?_
      refine ev_bipush 91 dX9_chair_89 rfl (by decide +kernel) ?_
      refine ev_iald' 92 (h 4 10) dX9_chair_91 rfl rfl (by decide) (by omega) rfl ?_
      refine ev_iload_n 93 dX9_chair_92 rfl rfl ?_
      refine cSi2 96 kX9_chair_158 dX9_chair_93 rfl rfl (by decide) rfl (Nat.le_of_ble_eq_true rfl) (m_has (by omega) (by omega)) ?_
      rintro x _ ⟨e93, rfl⟩
      rw [show x = bit (h 4 10) c from e93]
      refine ev_if_eq 99 103 dX9_chair_96 rfl rfl (by omega) (fun c96 => ?_) (fun c96 => ?_)
      · refine ev_iconst 104 dX9_chair_103 rfl ?_
        exact ev_iret rfl dX9_chair_104 (⟨by show _ = bit (h 4 10) c; omega, PsM.N⟩)
      · refine ev_iconst 100 dX9_chair_99 rfl ?_
        refine ev_goto 104 dX9_chair_100 rfl ?_
        exact ev_iret rfl dX9_chair_104 (⟨by show _ = bit (h 4 10) c; omega, PsM.N⟩)
    · rw [w15]
      refine ev_tswIn 105 dX9_chair_15 ⟨by decide, by decide⟩ (by decide) (by decide) rfl rfl ?_
      refine ev_aload_n 106 dX9_chair_105 rfl rfl ?_
      refine ev_iload_n 107 dX9_chair_106 rfl rfl ?_
      refine ev_iconst 108 dX9_chair_107 rfl ?_
      refine cVi2 111 kX9_chair_168 dX9_chair_108 rfl rfl rfl rfl rfl (by decide) rfl (Nat.le_of_ble_eq_true rfl) (m_gainOf (h := hN h) hn.2 (hN_C hn hC hs).1 (hN_C hn hC hs).2 (by omega) d5) ?_
      rintro x _ ⟨rfl, rfl⟩
      exact ev_iret rfl dX9_chair_111 (⟨mGain_N hn d5, PsM.N⟩)
    · rw [w15]
      refine ev_tswIn 112 dX9_chair_15 ⟨by decide, by decide⟩ (by decide) (by decide) rfl rfl ?_
      refine ev_aload_n 113 dX9_chair_112 rfl rfl ?_
      refine ev_getR 116 fX9_19 rfl dX9_chair_113 rfl rfl rfl ?_
      refine ev_bipush 118 dX9_chair_116 rfl (by decide +kernel) ?_
      refine ev_iload_n 119 dX9_chair_118 rfl rfl ?_
      refine ev_iadd 120 dX9_chair_119 rfl ?_
      refine ev_iald 121 dX9_chair_120 rfl rfl (by decide) (by omega) ?_
      exact ev_iret rfl dX9_chair_121 (⟨rfl, PsM.N⟩)
  · have d5 := it_0.mp c5
    rw [if_neg d5]
    refine ev_iconst 9 dX9_chair_8 rfl ?_
    exact ev_iret rfl dX9_chair_9 (⟨rfl, PsM.rf⟩)
