/-- what holds of the class's heap at all times, of told and today -/
def CHp (h : Hp) : Prop := (0 ≤ h 2 5 ∧ h 2 5 ≤ 5) ∧ (0 ≤ h 2 4 ∧ h 2 4 ≤ 16) ∧ (∀ i, 0 ≤ i → i < h 2 4 → 2 ≤ h 13 i ∧ h 13 i ≤ 8) ∧ CCh h ∧ WY h 21 ∧ h 2 6 = sumZ (h 13) (h 2 4).toNat
theorem CHp.W {h : Hp} (b : CHp h) (r : 0 < h 2 4 ∧ 0 < h 2 5) : CW h := ⟨⟨r.2, b.1.2, r.1, b.2.1.2, b.2.2.1⟩, b.2.2.2.1⟩
theorem CHp.L {h : Hp} (b : CHp h) : 0 ≤ h 2 6 ∧ h 2 6 ≤ 128 := by
  rw [b.2.2.2.2.2]
  have h1 := sumZ_nn (f := h 13) (k := (h 2 4).toNat) (fun c a e => by have := b.2.2.1 c a (by omega); omega)
  have h2 := sumZ_bd (f := h 13) (b := 8) (k := (h 2 4).toNat) (fun c a e => (b.2.2.1 c a (by omega)).2)
  have := b.2.1
  omega
section CP1
variable {h : Hp} {c : Int}
theorem c_isChair (hc : R32 c) (hn : 0 ≤ h 2 5 ∧ h 2 5 ≤ 5) : Ev shC mX8_isChair 0 [some (vr 0), some (vi c)] [] h (RI fun x h' => x = (if 0 ≤ c ∧ c < h 2 5 then 1 else 0) ∧ h = h') := by
  refine ev_iload_n 1 dX8_isChair_0 rfl rfl ?_
  refine ev_if_lt 4 19 dX8_isChair_1 rfl rfl (by omega) (fun c1 => ?_) (fun c1 => ?_)
  · refine ev_iconst 20 dX8_isChair_19 rfl ?_
    exact ev_zret rfl dX8_isChair_20 (by omega) (⟨by first | rw [if_pos (by omega)] | rw [if_neg (by omega)], rfl⟩)
  · refine ev_iload_n 5 dX8_isChair_4 rfl rfl ?_
    refine ev_aload_n 6 dX8_isChair_5 rfl rfl ?_
    refine ev_getR 9 fX8_64 rfl dX8_isChair_6 rfl rfl rfl ?_
    refine ev_getI 12 5 fX8_162 rfl dX8_isChair_9 rfl rfl rfl (by decide) rfl ?_
    refine ev_icmp_ge 15 19 dX8_isChair_12 rfl rfl (by omega) (by omega) (fun c12 => ?_) (fun c12 => ?_)
    · refine ev_iconst 20 dX8_isChair_19 rfl ?_
      exact ev_zret rfl dX8_isChair_20 (by omega) (⟨by first | rw [if_pos (by omega)] | rw [if_neg (by omega)], rfl⟩)
    · refine ev_iconst 16 dX8_isChair_15 rfl ?_
      refine ev_goto 20 dX8_isChair_16 rfl ?_
      exact ev_zret rfl dX8_isChair_20 (by omega) (⟨by first | rw [if_pos (by omega)] | rw [if_neg (by omega)], rfl⟩)
theorem c_type (hc : R32 c) (hl : 0 ≤ h 1 1 ∧ h 1 1 ≤ 120) : Ev shC mX8_type 0 [some (vr 0), some (vi c)] [] h (RI fun x h' => (¬ (0 ≤ c ∧ c ≤ 255) ∧ x = -1 ∧ h = h') ∨ ((0 ≤ c ∧ c ≤ 255) ∧ ¬ h 1 1 < 120 ∧ x = -3 ∧ h = h') ∨ ((0 ≤ c ∧ c ≤ 255) ∧ h 1 1 < 120 ∧ x = h 1 1 + 1 ∧ h' = scW h c)) := by
  refine ev_iload_n 1 dX8_type_0 rfl rfl ?_
  refine ev_if_lt 4 11 dX8_type_1 rfl rfl (by omega) (fun c1 => ?_) (fun c1 => ?_)
  · refine ev_iconst 12 dX8_type_11 rfl ?_
    exact ev_iret rfl dX8_type_12 (Or.inl ⟨by omega, rfl, rfl⟩)
  · refine ev_iload_n 5 dX8_type_4 rfl rfl ?_
    refine ev_sipush 8 dX8_type_5 rfl (by decide +kernel) ?_
    refine ev_icmp_le 11 13 dX8_type_8 rfl rfl (by omega) (by omega) (fun c8 => ?_) (fun c8 => ?_)
    · refine ev_aload_n 14 dX8_type_13 rfl rfl ?_
      refine ev_getR 17 fX8_10 rfl dX8_type_14 rfl rfl rfl ?_
      refine ev_getI 20 1 fX8_69 rfl dX8_type_17 rfl rfl rfl (by decide) rfl ?_
      refine ev_bipush 22 dX8_type_20 rfl (by decide +kernel) ?_
      refine ev_icmp_lt 25 28 dX8_type_22 rfl rfl (by omega) (by omega) (fun c22 => ?_) (fun c22 => ?_)
      · refine ev_aload_n 29 dX8_type_28 rfl rfl ?_
        refine ev_getR 32 fX8_10 rfl dX8_type_29 rfl rfl rfl ?_
        refine ev_iload_n 33 dX8_type_32 rfl rfl ?_
        refine cVv1 36 kX8_type_73 dX8_type_33 rfl rfl rfl rfl rfl (by decide) rfl (Nat.le_of_ble_eq_true rfl) (c_write (by omega)) ?_
        rintro _ rfl
        refine ev_aload_n 37 dX8_type_36 rfl rfl ?_
        refine ev_getR 40 fX8_10 rfl dX8_type_37 rfl rfl rfl ?_
        refine ev_getI' 43 1 (h 1 1 + 1) fX8_69 rfl dX8_type_40 rfl rfl rfl (by decide) rfl rfl ?_
        exact ev_iret rfl dX8_type_43 (Or.inr (Or.inr ⟨by omega, by omega, rfl, rfl⟩))
      · refine ev_bipush 27 dX8_type_25 rfl (by decide +kernel) ?_
        exact ev_iret rfl dX8_type_27 (Or.inr (Or.inl ⟨by omega, by omega, rfl, rfl⟩))
    · refine ev_iconst 12 dX8_type_11 rfl ?_
      exact ev_iret rfl dX8_type_12 (Or.inl ⟨by omega, rfl, rfl⟩)
theorem c_clear : Ev shC mX8_clear 0 [some (vr 0), none] [] h (RI fun x h' => x = h 1 1 ∧ h' = hput h 1 (up (h 1) 1 0)) := by
  refine ev_aload_n 1 dX8_clear_0 rfl rfl ?_
  refine ev_getR 4 fX8_10 rfl dX8_clear_1 rfl rfl rfl ?_
  refine ev_getI 7 1 fX8_69 rfl dX8_clear_4 rfl rfl rfl (by decide) rfl ?_
  refine ev_istore_n 8 dX8_clear_7 rfl (Nat.le_of_ble_eq_true rfl) ?_
  refine ev_aload_n 9 dX8_clear_8 rfl rfl ?_
  refine ev_getR 12 fX8_10 rfl dX8_clear_9 rfl rfl rfl ?_
  refine ev_iconst 13 dX8_clear_12 rfl ?_
  refine ev_putI 16 1 pX8_69 rfl dX8_clear_13 rfl rfl rfl rfl ?_
  refine ev_iload_n 17 dX8_clear_16 rfl rfl ?_
  exact ev_iret rfl dX8_clear_17 (⟨rfl, rfl⟩)
theorem c_forget : Ev shC mX8_forget 0 [some (vr 0), none] [] h (RI fun x h' => x = h 8 2 ∧ h' = hput h 8 (up (h 8) 2 0)) := by
  refine ev_aload_n 1 dX8_forget_0 rfl rfl ?_
  refine ev_getR 4 fX8_43 rfl dX8_forget_1 rfl rfl rfl ?_
  refine ev_getI 7 2 fX8_91 rfl dX8_forget_4 rfl rfl rfl (by decide) rfl ?_
  refine ev_istore_n 8 dX8_forget_7 rfl (Nat.le_of_ble_eq_true rfl) ?_
  refine ev_aload_n 9 dX8_forget_8 rfl rfl ?_
  refine ev_getR 12 fX8_43 rfl dX8_forget_9 rfl rfl rfl ?_
  refine ev_iconst 13 dX8_forget_12 rfl ?_
  refine ev_putI 16 2 pX8_91 rfl dX8_forget_13 rfl rfl rfl rfl ?_
  refine ev_iload_n 17 dX8_forget_16 rfl rfl ?_
  exact ev_iret rfl dX8_forget_17 (⟨rfl, rfl⟩)
theorem c_trace : Ev shC mX8_trace 0 [some (vr 0)] [] h (RJ fun x h' => x = h 10 0 ∧ h = h') := by
  refine ev_aload_n 1 dX8_trace_0 rfl rfl ?_
  refine ev_getR 4 fX8_50 rfl dX8_trace_1 rfl rfl rfl ?_
  refine ev_getL 7 0 fX8_237 rfl dX8_trace_4 rfl rfl rfl rfl ?_
  exact ev_lret rfl dX8_trace_7 (⟨rfl, rfl⟩)
theorem c_pusher (hc : R32 c) (hn : 0 ≤ h 2 5 ∧ h 2 5 ≤ 5) : Ev shC mX8_pusher 0 [some (vr 0), some (vi c)] [] h (RI fun x h' => x = (if 0 ≤ c ∧ c < h 2 5 then h 16 c else -1) ∧ h = h') := by
  refine ev_aload_n 1 dX8_pusher_0 rfl rfl ?_
  refine ev_iload_n 2 dX8_pusher_1 rfl rfl ?_
  refine cVi1 5 kX8_pusher_96 dX8_pusher_2 rfl rfl rfl rfl rfl (by decide) rfl (Nat.le_of_ble_eq_true rfl) (c_isChair hc hn) ?_
  rintro x _ ⟨rfl, rfl⟩
  refine ev_if_eq 8 20 dX8_pusher_5 rfl rfl it_r (fun c5 => ?_) (fun c5 => ?_)
  · have d5 := it_0.mp c5
    rw [if_neg d5]
    refine ev_iconst 21 dX8_pusher_20 rfl ?_
    exact ev_iret rfl dX8_pusher_21 (⟨rfl, rfl⟩)
  · have d5 := it_1.mp c5
    rw [if_pos d5]
    refine ev_aload_n 9 dX8_pusher_8 rfl rfl ?_
    refine ev_getR 12 fX8_64 rfl dX8_pusher_9 rfl rfl rfl ?_
    refine ev_getR 15 fX8_124 rfl dX8_pusher_12 rfl rfl rfl ?_
    refine ev_iload_n 16 dX8_pusher_15 rfl rfl ?_
    refine ev_iald 17 dX8_pusher_16 rfl rfl (by decide) (by omega) ?_
    refine ev_goto 21 dX8_pusher_17 rfl ?_
    exact ev_iret rfl dX8_pusher_21 (⟨rfl, rfl⟩)
theorem c_cell (hc : R32 c) (hl : 0 ≤ h 2 4 ∧ h 2 4 ≤ 16) : Ev shC mX8_cell 0 [some (vr 0), some (vi c)] [] h (RI fun x h' => x = (if 0 ≤ c ∧ c < h 2 4 then h 13 c else -1) ∧ h = h') := by
  refine ev_iload_n 1 dX8_cell_0 rfl rfl ?_
  refine ev_if_lt 4 27 dX8_cell_1 rfl rfl (by omega) (fun c1 => ?_) (fun c1 => ?_)
  · refine ev_iconst 28 dX8_cell_27 rfl ?_
    exact ev_iret rfl dX8_cell_28 (⟨by first | rw [if_pos (by omega)] | rw [if_neg (by omega)], rfl⟩)
  · refine ev_iload_n 5 dX8_cell_4 rfl rfl ?_
    refine ev_aload_n 6 dX8_cell_5 rfl rfl ?_
    refine ev_getR 9 fX8_64 rfl dX8_cell_6 rfl rfl rfl ?_
    refine ev_getI 12 4 fX8_127 rfl dX8_cell_9 rfl rfl rfl (by decide) rfl ?_
    refine ev_icmp_ge 15 27 dX8_cell_12 rfl rfl (by omega) (by omega) (fun c12 => ?_) (fun c12 => ?_)
    · refine ev_iconst 28 dX8_cell_27 rfl ?_
      exact ev_iret rfl dX8_cell_28 (⟨by first | rw [if_pos (by omega)] | rw [if_neg (by omega)], rfl⟩)
    · refine ev_aload_n 16 dX8_cell_15 rfl rfl ?_
      refine ev_getR 19 fX8_64 rfl dX8_cell_16 rfl rfl rfl ?_
      refine ev_getR 22 fX8_130 rfl dX8_cell_19 rfl rfl rfl ?_
      refine ev_iload_n 23 dX8_cell_22 rfl rfl ?_
      refine ev_iald 24 dX8_cell_23 rfl rfl (by decide) (by omega) ?_
      refine ev_goto 28 dX8_cell_24 rfl ?_
      exact ev_iret rfl dX8_cell_28 (⟨by first | rw [if_pos (by omega)] | rw [if_neg (by omega)], rfl⟩)
theorem c_count (hc : R32 c) : Ev shC mX8_count 0 [some (vr 0), some (vi c)] [] h (RI fun x h' => x = (if c = 0 then h 2 4 else if c = 1 then h 2 5 else if c = 2 then h 8 2 else if c = 3 then h 1 1 else -1) ∧ h = h') := by
  refine ev_iload_n 1 dX8_count_0 rfl rfl ?_
  by_cases w1 : c < 0 ∨ 3 < c
  · refine ev_tswOut 64 dX8_count_1 (by omega) w1 rfl ?_
    refine ev_iconst 65 dX8_count_64 rfl ?_
    exact ev_iret rfl dX8_count_65 (⟨by first | rfl | (rw [if_neg (by omega), if_neg (by omega), if_neg (by omega), if_neg (by omega)]), rfl⟩)
  have w1 : c = 0 ∨ c = 1 ∨ c = 2 ∨ c = 3 := by omega
  rcases w1 with w1 | w1 | w1 | w1
  · rw [w1]
    refine ev_tswIn 32 dX8_count_1 ⟨by decide, by decide⟩ (by decide) (by decide) rfl rfl ?_
    refine ev_aload_n 33 dX8_count_32 rfl rfl ?_
    refine ev_getR 36 fX8_64 rfl dX8_count_33 rfl rfl rfl ?_
    refine ev_getI 39 4 fX8_127 rfl dX8_count_36 rfl rfl rfl (by decide) rfl ?_
    exact ev_iret rfl dX8_count_39 (⟨by first | rfl | (rw [if_neg (by omega), if_neg (by omega), if_neg (by omega), if_neg (by omega)]), rfl⟩)
  · rw [w1]
    refine ev_tswIn 40 dX8_count_1 ⟨by decide, by decide⟩ (by decide) (by decide) rfl rfl ?_
    refine ev_aload_n 41 dX8_count_40 rfl rfl ?_
    refine ev_getR 44 fX8_64 rfl dX8_count_41 rfl rfl rfl ?_
    refine ev_getI 47 5 fX8_162 rfl dX8_count_44 rfl rfl rfl (by decide) rfl ?_
    exact ev_iret rfl dX8_count_47 (⟨by first | rfl | (rw [if_neg (by omega), if_neg (by omega), if_neg (by omega), if_neg (by omega)]), rfl⟩)
  · rw [w1]
    refine ev_tswIn 48 dX8_count_1 ⟨by decide, by decide⟩ (by decide) (by decide) rfl rfl ?_
    refine ev_aload_n 49 dX8_count_48 rfl rfl ?_
    refine ev_getR 52 fX8_43 rfl dX8_count_49 rfl rfl rfl ?_
    refine ev_getI 55 2 fX8_91 rfl dX8_count_52 rfl rfl rfl (by decide) rfl ?_
    exact ev_iret rfl dX8_count_55 (⟨by first | rfl | (rw [if_neg (by omega), if_neg (by omega), if_neg (by omega), if_neg (by omega)]), rfl⟩)
  · rw [w1]
    refine ev_tswIn 56 dX8_count_1 ⟨by decide, by decide⟩ (by decide) (by decide) rfl rfl ?_
    refine ev_aload_n 57 dX8_count_56 rfl rfl ?_
    refine ev_getR 60 fX8_10 rfl dX8_count_57 rfl rfl rfl ?_
    refine ev_getI 63 1 fX8_69 rfl dX8_count_60 rfl rfl rfl (by decide) rfl ?_
    exact ev_iret rfl dX8_count_63 (⟨by first | rfl | (rw [if_neg (by omega), if_neg (by omega), if_neg (by omega), if_neg (by omega)]), rfl⟩)
theorem c_chair {w : Int} (hc : R32 c) (hw : R32 w) (hb : CHp h) : Ev shC mX8_chair 0 [some (vr 0), some (vi c), some (vi w)] [] h (RI fun x h' => x = (if 0 ≤ c ∧ c < h 2 5 then (if w = 0 then h 14 c else if w = 1 then h 15 c else if w = 2 then h 21 c else if w = 3 then h 22 c else if w = 4 then h 23 c else if w = 5 then cG h c (h 23 c) else if w = 6 then h 24 c else -1) else -1) ∧ h = h') := by
  have hn := hb.1
  refine ev_aload_n 1 dX8_chair_0 rfl rfl ?_
  refine ev_iload_n 2 dX8_chair_1 rfl rfl ?_
  refine cVi1 5 kX8_chair_96 dX8_chair_2 rfl rfl rfl rfl rfl (by decide) rfl (Nat.le_of_ble_eq_true rfl) (c_isChair hc hn) ?_
  rintro x _ ⟨rfl, rfl⟩
  refine ev_if_ne 8 10 dX8_chair_5 rfl rfl it_r (fun c5 => ?_) (fun c5 => ?_)
  · have d5 := it_1.mp c5
    rw [if_pos d5]
    have hz := (hb.2.2.2.1 c d5.1 d5.2).2.2.2
    refine ev_iload_n 11 dX8_chair_10 rfl rfl ?_
    by_cases w11 : w < 0 ∨ 6 < w
    · refine ev_tswOut 133 dX8_chair_11 (by omega) w11 rfl ?_
      refine ev_iconst 134 dX8_chair_133 rfl ?_
      exact ev_iret rfl dX8_chair_134 (⟨by first | rfl | (rw [if_neg (by omega), if_neg (by omega), if_neg (by omega), if_neg (by omega), if_neg (by omega), if_neg (by omega), if_neg (by omega)]), rfl⟩)
    have w11 : w = 0 ∨ w = 1 ∨ w = 2 ∨ w = 3 ∨ w = 4 ∨ w = 5 ∨ w = 6 := by omega
    rcases w11 with w11 | w11 | w11 | w11 | w11 | w11 | w11
    · rw [w11]
      refine ev_tswIn 52 dX8_chair_11 ⟨by decide, by decide⟩ (by decide) (by decide) rfl rfl ?_
      refine ev_aload_n 53 dX8_chair_52 rfl rfl ?_
      refine ev_getR 56 fX8_64 rfl dX8_chair_53 rfl rfl rfl ?_
      refine ev_getR 59 fX8_100 rfl dX8_chair_56 rfl rfl rfl ?_
      refine ev_iload_n 60 dX8_chair_59 rfl rfl ?_
      refine ev_iald 61 dX8_chair_60 rfl rfl (by decide) (by omega) ?_
      exact ev_iret rfl dX8_chair_61 (⟨by first | rfl | (rw [if_neg (by omega), if_neg (by omega), if_neg (by omega), if_neg (by omega), if_neg (by omega), if_neg (by omega), if_neg (by omega)]), rfl⟩)
    · rw [w11]
      refine ev_tswIn 62 dX8_chair_11 ⟨by decide, by decide⟩ (by decide) (by decide) rfl rfl ?_
      refine ev_aload_n 63 dX8_chair_62 rfl rfl ?_
      refine ev_getR 66 fX8_64 rfl dX8_chair_63 rfl rfl rfl ?_
      refine ev_getR 69 fX8_104 rfl dX8_chair_66 rfl rfl rfl ?_
      refine ev_iload_n 70 dX8_chair_69 rfl rfl ?_
      refine ev_iald 71 dX8_chair_70 rfl rfl (by decide) (by omega) ?_
      exact ev_iret rfl dX8_chair_71 (⟨by first | rfl | (rw [if_neg (by omega), if_neg (by omega), if_neg (by omega), if_neg (by omega), if_neg (by omega), if_neg (by omega), if_neg (by omega)]), rfl⟩)
    · rw [w11]
      refine ev_tswIn 72 dX8_chair_11 ⟨by decide, by decide⟩ (by decide) (by decide) rfl rfl ?_
      refine ev_aload_n 73 dX8_chair_72 rfl rfl ?_
      refine ev_getR 76 fX8_68 rfl dX8_chair_73 rfl rfl rfl ?_
      refine ev_getR 79 fX8_107 rfl dX8_chair_76 rfl rfl rfl ?_
      refine ev_iload_n 80 dX8_chair_79 rfl rfl ?_
      refine ev_iald 81 dX8_chair_80 rfl rfl (by decide) (by omega) ?_
      exact ev_iret rfl dX8_chair_81 (⟨by first | rfl | (rw [if_neg (by omega), if_neg (by omega), if_neg (by omega), if_neg (by omega), if_neg (by omega), if_neg (by omega), if_neg (by omega)]), rfl⟩)
    · rw [w11]
      refine ev_tswIn 82 dX8_chair_11 ⟨by decide, by decide⟩ (by decide) (by decide) rfl rfl ?_
      refine ev_aload_n 83 dX8_chair_82 rfl rfl ?_
      refine ev_getR 86 fX8_68 rfl dX8_chair_83 rfl rfl rfl ?_
      refine ev_getR 89 fX8_110 rfl dX8_chair_86 rfl rfl rfl ?_
      refine ev_iload_n 90 dX8_chair_89 rfl rfl ?_
      refine ev_iald 91 dX8_chair_90 rfl rfl (by decide) (by omega) ?_
      exact ev_iret rfl dX8_chair_91 (⟨by first | rfl | (rw [if_neg (by omega), if_neg (by omega), if_neg (by omega), if_neg (by omega), if_neg (by omega), if_neg (by omega), if_neg (by omega)]), rfl⟩)
    · rw [w11]
      refine ev_tswIn 92 dX8_chair_11 ⟨by decide, by decide⟩ (by decide) (by decide) rfl rfl ?_
      refine ev_aload_n 93 dX8_chair_92 rfl rfl ?_
      refine ev_getR 96 fX8_68 rfl dX8_chair_93 rfl rfl rfl ?_
      refine ev_getR 99 fX8_113 rfl dX8_chair_96 rfl rfl rfl ?_
      refine ev_iload_n 100 dX8_chair_99 rfl rfl ?_
      refine ev_zald 101 dX8_chair_100 rfl rfl (by decide) (by omega) ?_
      refine ev_if_eq 104 108 dX8_chair_101 rfl rfl (by omega) (fun c101 => ?_) (fun c101 => ?_)
      · refine ev_iconst 109 dX8_chair_108 rfl ?_
        exact ev_iret rfl dX8_chair_109 (⟨by show _ = h 23 c; omega, rfl⟩)
      · refine ev_iconst 105 dX8_chair_104 rfl ?_
        refine ev_goto 109 dX8_chair_105 rfl ?_
        exact ev_iret rfl dX8_chair_109 (⟨by show _ = h 23 c; omega, rfl⟩)
    · rw [w11]
      refine ev_tswIn 110 dX8_chair_11 ⟨by decide, by decide⟩ (by decide) (by decide) rfl rfl ?_
      refine ev_aload_n 111 dX8_chair_110 rfl rfl ?_
      refine ev_getR 114 fX8_68 rfl dX8_chair_111 rfl rfl rfl ?_
      refine ev_aload_n 115 dX8_chair_114 rfl rfl ?_
      refine ev_getR 118 fX8_64 rfl dX8_chair_115 rfl rfl rfl ?_
      refine ev_iload_n 119 dX8_chair_118 rfl rfl ?_
      refine cVi2 122 kX8_chair_117 dX8_chair_119 rfl rfl rfl rfl rfl (by decide) rfl (Nat.le_of_ble_eq_true rfl) (c_gainOf hn hb.2.2.2.1 hb.2.2.2.2.1 d5) ?_
      rintro x _ ⟨rfl, rfl⟩
      exact ev_iret rfl dX8_chair_122 (⟨by first | rfl | (rw [if_neg (by omega), if_neg (by omega), if_neg (by omega), if_neg (by omega), if_neg (by omega), if_neg (by omega), if_neg (by omega)]), rfl⟩)
    · rw [w11]
      refine ev_tswIn 123 dX8_chair_11 ⟨by decide, by decide⟩ (by decide) (by decide) rfl rfl ?_
      refine ev_aload_n 124 dX8_chair_123 rfl rfl ?_
      refine ev_getR 127 fX8_68 rfl dX8_chair_124 rfl rfl rfl ?_
      refine ev_getR 130 fX8_121 rfl dX8_chair_127 rfl rfl rfl ?_
      refine ev_iload_n 131 dX8_chair_130 rfl rfl ?_
      refine ev_iald 132 dX8_chair_131 rfl rfl (by decide) (by omega) ?_
      exact ev_iret rfl dX8_chair_132 (⟨by first | rfl | (rw [if_neg (by omega), if_neg (by omega), if_neg (by omega), if_neg (by omega), if_neg (by omega), if_neg (by omega), if_neg (by omega)]), rfl⟩)
  · have d5 := it_0.mp c5
    rw [if_neg d5]
    refine ev_iconst 9 dX8_chair_8 rfl ?_
    exact ev_iret rfl dX8_chair_9 (⟨by first | rfl | (rw [if_neg (by omega), if_neg (by omega), if_neg (by omega), if_neg (by omega), if_neg (by omega), if_neg (by omega), if_neg (by omega)]), rfl⟩)
theorem c_undo {w c o : Int} (hs : 0 ≤ h 7 3 ∧ h 7 3 ≤ 10) (hd : 0 < h 7 3 → h 33 (h 7 3 - 1) = w ∧ h 34 (h 7 3 - 1) = c ∧ h 35 (h 7 3 - 1) = o ∧ R32 w ∧ (0 ≤ c ∧ c < 5) ∧ (w = 1 → 0 ≤ o ∧ o < 5) ∧ (h 23 c = 0 ∨ h 23 c = 1)) : Ev shC mX8_undo 0 [some (vr 0)] [] h (RI fun x h' => (¬ 0 < h 7 3 ∧ x = -2 ∧ h = h') ∨ (0 < h 7 3 ∧ x = h 7 3 - 1 ∧ h' = dTak h w c o)) := by
  have e7 : dTak h w c o 7 3 = h 7 3 - 1 := by
    unfold dTak
    by_cases a : w = 0
    · rw [if_pos a]; rfl
    · rw [if_neg a]
      by_cases b : w = 1
      · rw [if_pos b]; rfl
      · rw [if_neg b]
        by_cases e : w = 2
        · rw [if_pos e]; rfl
        · rw [if_neg e]; rfl
  refine ev_aload_n 1 dX8_undo_0 rfl rfl ?_
  refine ev_getR 4 fX8_36 rfl dX8_undo_1 rfl rfl rfl ?_
  refine ev_getI 7 3 fX8_88 rfl dX8_undo_4 rfl rfl rfl (by decide) rfl ?_
  refine ev_iconst 8 dX8_undo_7 rfl ?_
  refine ev_icmp_ge 11 14 dX8_undo_8 rfl rfl (by omega) (by omega) (fun c8 => ?_) (fun c8 => ?_)
  · obtain ⟨d1, d2, d3, d4, d5, d6, d7⟩ := hd (by omega)
    refine ev_aload_n 15 dX8_undo_14 rfl rfl ?_
    refine ev_getR 18 fX8_36 rfl dX8_undo_15 rfl rfl rfl ?_
    refine ev_aload_n 19 dX8_undo_18 rfl rfl ?_
    refine ev_getR 22 fX8_68 rfl dX8_undo_19 rfl rfl rfl ?_
    refine cVv1 25 kX8_undo_169 dX8_undo_22 rfl rfl rfl rfl rfl (by decide) rfl (Nat.le_of_ble_eq_true rfl) (c_take (by omega) d1 d2 d3 d4 d5 d6 d7) ?_
    rintro _ rfl
    refine ev_aload_n 26 dX8_undo_25 rfl rfl ?_
    refine ev_getR 29 fX8_36 rfl dX8_undo_26 rfl rfl rfl ?_
    refine ev_getI' 32 3 (h 7 3 - 1) fX8_88 rfl dX8_undo_29 rfl rfl rfl (by decide) rfl e7 ?_
    exact ev_iret rfl dX8_undo_32 (Or.inr ⟨by omega, rfl, rfl⟩)
  · refine ev_bipush 13 dX8_undo_11 rfl (by decide +kernel) ?_
    exact ev_iret rfl dX8_undo_13 (Or.inl ⟨by omega, rfl, rfl⟩)
theorem dAdd_o {w c o : Int} (k : Nat) (hk : k ≠ 7) (hk2 : k < 33 ∨ 35 < k) : dAdd h w c o k = h k := by
  have e1 : ∀ H : Hp, dPut H w c o k = H k := fun H => by
    show cond (Nat.beq k 33) _ (cond (Nat.beq k 34) _ (cond (Nat.beq k 35) _ (cond (Nat.beq k 7) _ (H k)))) = H k
    rw [nbf (by omega), nbf (by omega), nbf (by omega), nbf (by omega)]
    rfl
  unfold dAdd
  split
  · exact e1 h
  · rw [e1]
    show cond (Nat.beq k 33) _ (cond (Nat.beq k 34) _ (cond (Nat.beq k 35) _ (cond (Nat.beq k 7) _ (h k)))) = h k
    rw [nbf (by omega), nbf (by omega), nbf (by omega), nbf (by omega)]
    rfl
theorem c_sets {d : Int} (hc : R32 c) (hd : R32 d) (hb : CHp h) (hs : 0 ≤ h 7 3 ∧ h 7 3 ≤ 10) : Ev shC mX8_sets 0 [some (vr 0), some (vi c), some (vi d), none] [] h (RI fun x h' => (¬ ((0 ≤ c ∧ c < h 2 5) ∧ 0 ≤ d ∧ d ≤ 5) ∧ x = -1 ∧ h = h') ∨ (((0 ≤ c ∧ c < h 2 5) ∧ 0 ≤ d ∧ d ≤ 5) ∧ h 22 c = d ∧ x = -2 ∧ h = h') ∨ (((0 ≤ c ∧ c < h 2 5) ∧ 0 ≤ d ∧ d ≤ 5) ∧ ¬ h 22 c = d ∧ x = h 22 c ∧ h' = dAdd (hput h 22 (up (h 22) c d)) 2 c (h 22 c))) := by
  have hn := hb.1
  refine ev_aload_n 1 dX8_sets_0 rfl rfl ?_
  refine ev_iload_n 2 dX8_sets_1 rfl rfl ?_
  refine cVi1 5 kX8_sets_96 dX8_sets_2 rfl rfl rfl rfl rfl (by decide) rfl (Nat.le_of_ble_eq_true rfl) (c_isChair hc hn) ?_
  rintro x _ ⟨rfl, rfl⟩
  refine ev_if_eq 8 17 dX8_sets_5 rfl rfl it_r (fun c5 => ?_) (fun c5 => ?_)
  · have d5 := it_0.mp c5
    refine ev_iconst 18 dX8_sets_17 rfl ?_
    exact ev_iret rfl dX8_sets_18 (Or.inl ⟨by omega, rfl, rfl⟩)
  · have d5 := it_1.mp c5
    have hz := (hb.2.2.2.1 c d5.1 d5.2).2.2.1
    refine ev_iload_n 9 dX8_sets_8 rfl rfl ?_
    refine ev_if_lt 12 17 dX8_sets_9 rfl rfl (by omega) (fun c9 => ?_) (fun c9 => ?_)
    · refine ev_iconst 18 dX8_sets_17 rfl ?_
      exact ev_iret rfl dX8_sets_18 (Or.inl ⟨by omega, rfl, rfl⟩)
    · refine ev_iload_n 13 dX8_sets_12 rfl rfl ?_
      refine ev_iconst 14 dX8_sets_13 rfl ?_
      refine ev_icmp_le 17 19 dX8_sets_14 rfl rfl (by omega) (by omega) (fun c14 => ?_) (fun c14 => ?_)
      · refine ev_aload_n 20 dX8_sets_19 rfl rfl ?_
        refine ev_getR 23 fX8_68 rfl dX8_sets_20 rfl rfl rfl ?_
        refine ev_getR 26 fX8_110 rfl dX8_sets_23 rfl rfl rfl ?_
        refine ev_iload_n 27 dX8_sets_26 rfl rfl ?_
        refine ev_iald 28 dX8_sets_27 rfl rfl (by decide) (by omega) ?_
        refine ev_istore_n 29 dX8_sets_28 rfl (Nat.le_of_ble_eq_true rfl) ?_
        refine ev_iload_n 30 dX8_sets_29 rfl rfl ?_
        refine ev_iload_n 31 dX8_sets_30 rfl rfl ?_
        refine ev_icmp_ne 34 37 dX8_sets_31 rfl rfl (by omega) (by omega) (fun c31 => ?_) (fun c31 => ?_)
        · refine ev_aload_n 38 dX8_sets_37 rfl rfl ?_
          refine ev_getR 41 fX8_68 rfl dX8_sets_38 rfl rfl rfl ?_
          refine ev_getR 44 fX8_110 rfl dX8_sets_41 rfl rfl rfl ?_
          refine ev_iload_n 45 dX8_sets_44 rfl rfl ?_
          refine ev_iload_n 46 dX8_sets_45 rfl rfl ?_
          refine ev_iast 47 dX8_sets_46 rfl rfl (by decide) (by omega) ?_
          refine ev_aload_n 48 dX8_sets_47 rfl rfl ?_
          refine ev_getR 51 fX8_36 rfl dX8_sets_48 rfl rfl rfl ?_
          refine ev_iconst 52 dX8_sets_51 rfl ?_
          refine ev_iload_n 53 dX8_sets_52 rfl rfl ?_
          refine ev_iload_n 54 dX8_sets_53 rfl rfl ?_
          refine cVv3 57 kX8_sets_154 dX8_sets_54 rfl rfl rfl rfl rfl (by decide) rfl (Nat.le_of_ble_eq_true rfl) (c_add (h := hput h 22 (up (h 22) c d)) hs) ?_
          rintro _ rfl
          refine ev_iload_n 58 dX8_sets_57 rfl rfl ?_
          exact ev_iret rfl dX8_sets_58 (Or.inr (Or.inr ⟨⟨d5, by omega⟩, by omega, rfl, rfl⟩))
        · refine ev_bipush 36 dX8_sets_34 rfl (by decide +kernel) ?_
          exact ev_iret rfl dX8_sets_36 (Or.inr (Or.inl ⟨⟨d5, by omega⟩, by omega, rfl, rfl⟩))
      · refine ev_iconst 18 dX8_sets_17 rfl ?_
        exact ev_iret rfl dX8_sets_18 (Or.inl ⟨by omega, rfl, rfl⟩)
theorem c_changes {e : Int} (hc : R32 c) (he : R32 e) (hb : CHp h) (hs : 0 ≤ h 7 3 ∧ h 7 3 ≤ 10) : Ev shC mX8_changes 0 [some (vr 0), some (vi c), some (vi e)] [] h (RI fun x h' => (¬ ((0 ≤ c ∧ c < h 2 5) ∧ (0 ≤ e ∧ e < h 2 5) ∧ ¬ c = e) ∧ x = -1 ∧ h = h') ∨ (((0 ≤ c ∧ c < h 2 5) ∧ (0 ≤ e ∧ e < h 2 5) ∧ ¬ c = e) ∧ x = h 21 e ∧ h' = dAdd (hput h 21 (exD (h 21) c e)) 1 c e)) := by
  have hn := hb.1
  have e21 : ∀ w c o, dAdd (hput h 21 (exD (h 21) c e)) w c o 21 = exD (h 21) c e := fun w c o => dAdd_o 21 (by decide) (Or.inl (by decide))
  refine ev_aload_n 1 dX8_changes_0 rfl rfl ?_
  refine ev_iload_n 2 dX8_changes_1 rfl rfl ?_
  refine cVi1 5 kX8_changes_96 dX8_changes_2 rfl rfl rfl rfl rfl (by decide) rfl (Nat.le_of_ble_eq_true rfl) (c_isChair hc hn) ?_
  rintro x _ ⟨rfl, rfl⟩
  refine ev_if_eq 8 21 dX8_changes_5 rfl rfl it_r (fun c5 => ?_) (fun c5 => ?_)
  · have d5 := it_0.mp c5
    refine ev_iconst 22 dX8_changes_21 rfl ?_
    exact ev_iret rfl dX8_changes_22 (Or.inl ⟨by omega, rfl, rfl⟩)
  · have d5 := it_1.mp c5
    refine ev_aload_n 9 dX8_changes_8 rfl rfl ?_
    refine ev_iload_n 10 dX8_changes_9 rfl rfl ?_
    refine cVi1 13 kX8_changes_96 dX8_changes_10 rfl rfl rfl rfl rfl (by decide) rfl (Nat.le_of_ble_eq_true rfl) (c_isChair he hn) ?_
    rintro x _ ⟨rfl, rfl⟩
    refine ev_if_eq 16 21 dX8_changes_13 rfl rfl it_r (fun c13 => ?_) (fun c13 => ?_)
    · have d13 := it_0.mp c13
      refine ev_iconst 22 dX8_changes_21 rfl ?_
      exact ev_iret rfl dX8_changes_22 (Or.inl ⟨by omega, rfl, rfl⟩)
    · have d13 := it_1.mp c13
      refine ev_iload_n 17 dX8_changes_16 rfl rfl ?_
      refine ev_iload_n 18 dX8_changes_17 rfl rfl ?_
      refine ev_icmp_ne 21 23 dX8_changes_18 rfl rfl (by omega) (by omega) (fun c18 => ?_) (fun c18 => ?_)
      · refine ev_aload_n 24 dX8_changes_23 rfl rfl ?_
        refine ev_getR 27 fX8_68 rfl dX8_changes_24 rfl rfl rfl ?_
        refine ev_iload_n 28 dX8_changes_27 rfl rfl ?_
        refine ev_iload_n 29 dX8_changes_28 rfl rfl ?_
        refine cVv2 32 kX8_changes_158 dX8_changes_29 rfl rfl rfl rfl rfl (by decide) rfl (Nat.le_of_ble_eq_true rfl) (c_exchange (by omega) (by omega)) ?_
        rintro _ rfl
        refine ev_aload_n 33 dX8_changes_32 rfl rfl ?_
        refine ev_getR 36 fX8_36 rfl dX8_changes_33 rfl rfl rfl ?_
        refine ev_iconst 37 dX8_changes_36 rfl ?_
        refine ev_iload_n 38 dX8_changes_37 rfl rfl ?_
        refine ev_iload_n 39 dX8_changes_38 rfl rfl ?_
        refine cVv3 42 kX8_changes_154 dX8_changes_39 rfl rfl rfl rfl rfl (by decide) rfl (Nat.le_of_ble_eq_true rfl) (c_add (h := hput h 21 (exD (h 21) c e)) hs) ?_
        rintro _ rfl
        refine ev_aload_n 43 dX8_changes_42 rfl rfl ?_
        refine ev_getR 46 fX8_68 rfl dX8_changes_43 rfl rfl rfl ?_
        refine ev_getR 49 fX8_107 rfl dX8_changes_46 rfl rfl rfl ?_
        refine ev_iload_n 50 dX8_changes_49 rfl rfl ?_
        refine ev_iald' 51 (h 21 e) dX8_changes_50 rfl rfl (by decide) (by omega) (by rw [e21]; unfold exD; rw [up_n (by omega), up_s]) ?_
        exact ev_iret rfl dX8_changes_51 (Or.inr ⟨⟨d5, d13, by omega⟩, rfl, rfl⟩)
      · refine ev_iconst 22 dX8_changes_21 rfl ?_
        exact ev_iret rfl dX8_changes_22 (Or.inl ⟨by omega, rfl, rfl⟩)
end CP1
