/-- a row's stretch moved down by seventeen -/
def sft (f : Int → Int) (k : Int) : Int → Int := fun i => if 0 ≤ i ∧ i < k then f (i + 17) else f i
theorem sft_0 {f : Int → Int} : sft f 0 = f := by
  funext i
  unfold sft
  rw [if_neg (by omega)]
theorem sft_1 {f : Int → Int} {k : Int} (h : 0 ≤ k) : up (sft f k) k (f (k + 17)) = sft f (k + 1) := by
  funext i
  unfold up
  by_cases q : i = k
  · subst q
    unfold sft
    rw [if_pos rfl, if_pos (by omega)]
  · rw [if_neg q]
    unfold sft
    by_cases q2 : 0 ≤ i ∧ i < k
    · rw [if_pos q2, if_pos (by omega)]
    · rw [if_neg q2, if_neg (by omega)]
/-- what is remembered: where there is no room the oldest goes -/
def rmb (h : Hp) : Hp := if h 0 7 = 10 then hq h [(5, cpy (h 4) (sft (h 5) 153) 0 153 17), (0, up (h 0) 7 10)] else hq h [(5, cpy (h 4) (h 5) 0 (17 * h 0 7) 17), (0, up (h 0) 7 (h 0 7 + 1))]
theorem m_rem_loop {h : Hp} {post : Option AV → Hp → Prop} : ∀ (n : Nat) (k : Int), 0 ≤ k → k + n = 153 → Ev shM mX9_remembers 39 [some (vr 0), some (vi 153)] [] (hq h [(5, sft (h 5) 153)]) post → Ev shM mX9_remembers 11 [some (vr 0), some (vi k)] [] (hq h [(5, sft (h 5) k)]) post := by
  intro n
  induction n with
  | zero =>
    intro k h0 h1 K
    have e : k = 153 := by omega
    subst e
    refine ev_iload_n 12 dX9_remembers_11 rfl rfl ?_
    refine ev_sipush 15 dX9_remembers_12 rfl (by decide +kernel) ?_
    refine ev_icmp_ge 18 39 dX9_remembers_15 rfl rfl (by omega) (by omega) (fun c15 => ?_) (fun c15 => ?_)
    · exact K
    · omega --done
  | succ n ih =>
    intro k h0 h1 K
    refine ev_iload_n 12 dX9_remembers_11 rfl rfl ?_
    refine ev_sipush 15 dX9_remembers_12 rfl (by decide +kernel) ?_
    refine ev_icmp_ge 18 39 dX9_remembers_15 rfl rfl (by omega) (by omega) (fun c15 => ?_) (fun c15 => ?_)
    · omega --done
    · refine ev_aload_n 19 dX9_remembers_18 rfl rfl ?_
      refine ev_getR 22 fX9_22 rfl dX9_remembers_19 rfl rfl rfl ?_
      refine ev_iload_n 23 dX9_remembers_22 rfl rfl ?_
      refine ev_aload_n 24 dX9_remembers_23 rfl rfl ?_
      refine ev_getR 27 fX9_22 rfl dX9_remembers_24 rfl rfl rfl ?_
      refine ev_iload_n 28 dX9_remembers_27 rfl rfl ?_
      refine ev_bipush 30 dX9_remembers_28 rfl (by decide +kernel) ?_
      refine ev_iadd 31 dX9_remembers_30 rfl ?_
      refine ev_iald' 32 (h 5 (k + 17)) dX9_remembers_31 rfl rfl (by decide) (by omega) (by show sft (h 5) k (k + 17) = _; unfold sft; rw [if_neg (by omega)]) ?_
      refine ev_iast' 33 (hq h [(5, sft (h 5) (k + 1))]) dX9_remembers_32 rfl rfl (by decide) (by omega) (hq_put.trans (by show hq h [(5, up (sft (h 5) k) k (h 5 (k + 17)))] = _; rw [sft_1 h0])) ?_
      refine ev_iinc 36 dX9_remembers_33 rfl rfl ?_
      refine ev_goto 11 dX9_remembers_36 rfl ?_
      exact ih (k + 1) (by omega) (by omega) K
theorem m_remembers {h : Hp} (hk : 0 ≤ h 0 7 ∧ h 0 7 ≤ 10) : Ev shM mX9_remembers 0 [some (vr 0), none] [] h (RV fun h' => h' = rmb h) := by
  unfold rmb
  refine ev_aload_n 1 dX9_remembers_0 rfl rfl ?_
  refine ev_getI 4 7 fX9_148 rfl dX9_remembers_1 rfl rfl rfl (by decide) rfl ?_
  refine ev_bipush 6 dX9_remembers_4 rfl (by decide +kernel) ?_
  refine ev_icmp_ne 9 49 dX9_remembers_6 rfl rfl (by omega) (by omega) (fun c6 => ?_) (fun c6 => ?_)
  · rw [if_neg c6]
    have e0 : h = hq h [] := rfl
    refine ev_aload_n 50 dX9_remembers_49 rfl rfl ?_
    refine ev_getR 53 fX9_22 rfl dX9_remembers_50 rfl rfl rfl ?_
    refine ev_bipush 55 dX9_remembers_53 rfl (by decide +kernel) ?_
    refine ev_aload_n 56 dX9_remembers_55 rfl rfl ?_
    refine ev_getI 59 7 fX9_148 rfl dX9_remembers_56 rfl rfl rfl (by decide) rfl ?_
    refine ev_imul 60 dX9_remembers_59 rfl ?_
    refine ev_aload_n 61 dX9_remembers_60 rfl rfl ?_
    refine ev_getR 64 fX9_19 rfl dX9_remembers_61 rfl rfl rfl ?_
    refine ev_iconst 65 dX9_remembers_64 rfl ?_
    refine cSv4 68 kX9_remembers_154 dX9_remembers_65 rfl rfl (by decide) rfl (Nat.le_of_ble_eq_true rfl) (m_copy (a := 5) (b := 4) rfl rfl (by decide) (by decide) (by decide) (by omega) (by omega)) ?_
    rintro _ rfl
    refine ev_aload_n 69 dX9_remembers_68 rfl rfl ?_
    refine ev_dup_r 70 dX9_remembers_69 rfl ?_
    refine ev_getI' 73 7 (h 0 7) fX9_148 rfl dX9_remembers_70 rfl rfl rfl (by decide) rfl rfl ?_
    refine ev_iconst 74 dX9_remembers_73 rfl ?_
    refine ev_iadd 75 dX9_remembers_74 rfl ?_
    refine ev_putI' 78 7 (hq h [(5, cpy (h 4) (h 5) 0 (17 * h 0 7) 17), (0, up (h 0) 7 (h 0 7 + 1))]) pX9_148 rfl dX9_remembers_75 rfl rfl rfl rfl ((congrArg (fun z => hput z 0 _) (hq_put (L := []))).trans hq_put) ?_
    exact ev_vret rfl dX9_remembers_78 (rfl)
  · rw [if_pos c6]
    have e0 : h = hq h [(5, sft (h 5) 0)] := by rw [sft_0]; exact (hq_id (fun p hp => by rw [List.mem_singleton.mp hp])).symm
    refine ev_iconst 10 dX9_remembers_9 rfl ?_
    refine ev_istore_n 11 dX9_remembers_10 rfl (Nat.le_of_ble_eq_true rfl) ?_
    refine ev_heap e0 (m_rem_loop 153 0 (by omega) (by omega) ?_)
    refine ev_aload_n 40 dX9_remembers_39 rfl rfl ?_
    refine ev_dup_r 41 dX9_remembers_40 rfl ?_
    refine ev_getI' 44 7 10 fX9_148 rfl dX9_remembers_41 rfl rfl rfl (by decide) rfl c6 ?_
    refine ev_iconst 45 dX9_remembers_44 rfl ?_
    refine ev_isub 46 dX9_remembers_45 rfl ?_
    refine ev_putI' 49 7 (hq h [(5, sft (h 5) 153), (0, up (h 0) 7 9)]) pX9_148 rfl dX9_remembers_46 rfl rfl rfl rfl hq_put ?_
    refine ev_aload_n 50 dX9_remembers_49 rfl rfl ?_
    refine ev_getR 53 fX9_22 rfl dX9_remembers_50 rfl rfl rfl ?_
    refine ev_bipush 55 dX9_remembers_53 rfl (by decide +kernel) ?_
    refine ev_aload_n 56 dX9_remembers_55 rfl rfl ?_
    refine ev_getI' 59 7 9 fX9_148 rfl dX9_remembers_56 rfl rfl rfl (by decide) rfl rfl ?_
    refine ev_imul 60 dX9_remembers_59 rfl ?_
    refine ev_aload_n 61 dX9_remembers_60 rfl rfl ?_
    refine ev_getR 64 fX9_19 rfl dX9_remembers_61 rfl rfl rfl ?_
    refine ev_iconst 65 dX9_remembers_64 rfl ?_
    refine cSv4 68 kX9_remembers_154 dX9_remembers_65 rfl rfl (by decide) rfl (Nat.le_of_ble_eq_true rfl) (m_copy (a := 5) (b := 4) rfl rfl (by decide) (by decide) (by decide) (by omega) (by omega)) ?_
    rintro _ rfl
    refine ev_aload_n 69 dX9_remembers_68 rfl rfl ?_
    refine ev_dup_r 70 dX9_remembers_69 rfl ?_
    refine ev_getI' 73 7 9 fX9_148 rfl dX9_remembers_70 rfl rfl rfl (by decide) rfl rfl ?_
    refine ev_iconst 74 dX9_remembers_73 rfl ?_
    refine ev_iadd 75 dX9_remembers_74 rfl ?_
    refine ev_putI' 78 7 (hq h [(5, cpy (h 4) (sft (h 5) 153) 0 153 17), (0, up (h 0) 7 10)]) pX9_148 rfl dX9_remembers_75 rfl rfl rfl rfl ((congrArg (fun z => hput z 0 _) hq_put).trans (hq_put.trans (by show hq h [(5, cpy (h 4) (sft (h 5) 153) 0 153 17), (0, up (up (h 0) 7 9) 7 10)] = _; rw [up_up]))) ?_
    exact ev_vret rfl dX9_remembers_78 rfl
theorem rmb_4 {h : Hp} : rmb h 4 = h 4 := by unfold rmb; split <;> rfl
theorem rmb_1 {h : Hp} (k : Nat) (hk : Nat.beq k 5 = false) (hk2 : Nat.beq k 0 = false) : rmb h k = h k := by
  unfold rmb
  split
  · exact hq_out (by simp only [List.all_cons, List.all_nil, Bool.and_true]; rw [hk, hk2]; rfl)
  · exact hq_out (by simp only [List.all_cons, List.all_nil, Bool.and_true]; rw [hk, hk2]; rfl)
theorem rmb_0 {h : Hp} {i : Int} (hi : i ≠ 7) : rmb h 0 i = h 0 i := by
  unfold rmb
  split
  · exact up_n hi
  · exact up_n hi
section DD
variable {h : Hp} {c : Int}
theorem m_sets {d : Int} (hc : R32 c) (hd : R32 d) (hn : 0 ≤ h 0 2 ∧ h 0 2 ≤ 5) (hs : NW (h 0 2) (h 4)) (hk : 0 ≤ h 0 7 ∧ h 0 7 ≤ 10) : Ev shM mX9_sets 0 [some (vr 0), some (vi c), some (vi d), none] [] h (RI fun x h' => (¬ ((0 ≤ c ∧ c < h 0 2) ∧ 0 ≤ d ∧ d ≤ 5) ∧ x = -1 ∧ h = h') ∨ (((0 ≤ c ∧ c < h 0 2) ∧ 0 ≤ d ∧ d ≤ 5) ∧ h 4 (5 + c) = d ∧ x = -2 ∧ h = h') ∨ (((0 ≤ c ∧ c < h 0 2) ∧ 0 ≤ d ∧ d ≤ 5) ∧ ¬ h 4 (5 + c) = d ∧ x = h 4 (5 + c) ∧ h' = hput (rmb h) 4 (up (h 4) (5 + c) d))) := by
  refine ev_aload_n 1 dX9_sets_0 rfl rfl ?_
  refine ev_iload_n 2 dX9_sets_1 rfl rfl ?_
  refine cVi1 5 kX9_sets_175 dX9_sets_2 rfl rfl rfl rfl rfl (by decide) rfl (Nat.le_of_ble_eq_true rfl) (m_isChair hc hn) ?_
  rintro x _ ⟨rfl, rfl⟩
  refine ev_if_eq 8 17 dX9_sets_5 rfl rfl it_r (fun c5 => ?_) (fun c5 => ?_)
  · have d5 := it_0.mp c5
    refine ev_iconst 18 dX9_sets_17 rfl ?_
    exact ev_iret rfl dX9_sets_18 (Or.inl ⟨by omega, rfl, rfl⟩)
  · have d5 := it_1.mp c5
    have hsc := hs.1 c d5.1 d5.2
    refine ev_iload_n 9 dX9_sets_8 rfl rfl ?_
    refine ev_iconst 10 dX9_sets_9 rfl ?_
    refine ev_iconst 11 dX9_sets_10 rfl ?_
    refine cSi3 14 kX9_sets_78 dX9_sets_11 rfl rfl (by decide) rfl (Nat.le_of_ble_eq_true rfl) (m_in hd ⟨by decide, by decide⟩ ⟨by decide, by decide⟩) ?_
    rintro x _ ⟨rfl, rfl⟩
    refine ev_if_ne 17 19 dX9_sets_14 rfl rfl it_r (fun c14 => ?_) (fun c14 => ?_)
    · have d14 := it_1.mp c14
      refine ev_aload_n 20 dX9_sets_19 rfl rfl ?_
      refine ev_getR 23 fX9_19 rfl dX9_sets_20 rfl rfl rfl ?_
      refine ev_iconst 24 dX9_sets_23 rfl ?_
      refine ev_iload_n 25 dX9_sets_24 rfl rfl ?_
      refine ev_iadd 26 dX9_sets_25 rfl ?_
      refine ev_iald 27 dX9_sets_26 rfl rfl (by decide) (by omega) ?_
      refine ev_istore_n 28 dX9_sets_27 rfl (Nat.le_of_ble_eq_true rfl) ?_
      refine ev_iload_n 29 dX9_sets_28 rfl rfl ?_
      refine ev_iload_n 30 dX9_sets_29 rfl rfl ?_
      refine ev_icmp_ne 33 36 dX9_sets_30 rfl rfl (by omega) (by omega) (fun c30 => ?_) (fun c30 => ?_)
      · refine ev_aload_n 37 dX9_sets_36 rfl rfl ?_
        refine cVv0 40 kX9_sets_210 dX9_sets_37 rfl rfl rfl rfl rfl (by decide) rfl (Nat.le_of_ble_eq_true rfl) (m_remembers hk) ?_
        rintro _ rfl
        refine ev_aload_n 41 dX9_sets_40 rfl rfl ?_
        refine ev_getR 44 fX9_19 rfl dX9_sets_41 rfl rfl rfl ?_
        refine ev_iconst 45 dX9_sets_44 rfl ?_
        refine ev_iload_n 46 dX9_sets_45 rfl rfl ?_
        refine ev_iadd 47 dX9_sets_46 rfl ?_
        refine ev_iload_n 48 dX9_sets_47 rfl rfl ?_
        refine ev_iast' 49 (hput (rmb h) 4 (up (h 4) (5 + c) d)) dX9_sets_48 rfl rfl (by decide) (by omega) (by rw [rmb_4]) ?_
        refine ev_iload_n 50 dX9_sets_49 rfl rfl ?_
        exact ev_iret rfl dX9_sets_50 (Or.inr (Or.inr ⟨⟨d5, d14⟩, c30, rfl, rfl⟩))
      · refine ev_bipush 35 dX9_sets_33 rfl (by decide +kernel) ?_
        exact ev_iret rfl dX9_sets_35 (Or.inr (Or.inl ⟨⟨d5, d14⟩, c30, rfl, rfl⟩))
    · have d14 := it_0.mp c14
      refine ev_iconst 18 dX9_sets_17 rfl ?_
      exact ev_iret rfl dX9_sets_18 (Or.inl ⟨by omega, rfl, rfl⟩)
theorem m_changes {e : Int} (hc : R32 c) (he : R32 e) (hn : 0 ≤ h 0 2 ∧ h 0 2 ≤ 5) (hk : 0 ≤ h 0 7 ∧ h 0 7 ≤ 10) : Ev shM mX9_changes 0 [some (vr 0), some (vi c), some (vi e), none] [] h (RI fun x h' => (¬ ((0 ≤ c ∧ c < h 0 2) ∧ (0 ≤ e ∧ e < h 0 2) ∧ ¬ c = e) ∧ x = -1 ∧ h = h') ∨ (((0 ≤ c ∧ c < h 0 2) ∧ (0 ≤ e ∧ e < h 0 2) ∧ ¬ c = e) ∧ x = h 4 e ∧ h' = hput (rmb h) 4 (up (up (h 4) c (h 4 e)) e (h 4 c)))) := by
  refine ev_aload_n 1 dX9_changes_0 rfl rfl ?_
  refine ev_iload_n 2 dX9_changes_1 rfl rfl ?_
  refine cVi1 5 kX9_changes_175 dX9_changes_2 rfl rfl rfl rfl rfl (by decide) rfl (Nat.le_of_ble_eq_true rfl) (m_isChair hc hn) ?_
  rintro x _ ⟨rfl, rfl⟩
  refine ev_if_eq 8 21 dX9_changes_5 rfl rfl it_r (fun c5 => ?_) (fun c5 => ?_)
  · have d5 := it_0.mp c5
    refine ev_iconst 22 dX9_changes_21 rfl ?_
    exact ev_iret rfl dX9_changes_22 (Or.inl ⟨by omega, rfl, rfl⟩)
  · have d5 := it_1.mp c5
    refine ev_aload_n 9 dX9_changes_8 rfl rfl ?_
    refine ev_iload_n 10 dX9_changes_9 rfl rfl ?_
    refine cVi1 13 kX9_changes_175 dX9_changes_10 rfl rfl rfl rfl rfl (by decide) rfl (Nat.le_of_ble_eq_true rfl) (m_isChair he hn) ?_
    rintro x _ ⟨rfl, rfl⟩
    refine ev_if_eq 16 21 dX9_changes_13 rfl rfl it_r (fun c13 => ?_) (fun c13 => ?_)
    · have d13 := it_0.mp c13
      refine ev_iconst 22 dX9_changes_21 rfl ?_
      exact ev_iret rfl dX9_changes_22 (Or.inl ⟨by omega, rfl, rfl⟩)
    · have d13 := it_1.mp c13
      refine ev_iload_n 17 dX9_changes_16 rfl rfl ?_
      refine ev_iload_n 18 dX9_changes_17 rfl rfl ?_
      refine ev_icmp_ne 21 23 dX9_changes_18 rfl rfl (by omega) (by omega) (fun c18 => ?_) (fun c18 => ?_)
      · refine ev_aload_n 24 dX9_changes_23 rfl rfl ?_
        refine cVv0 27 kX9_changes_210 dX9_changes_24 rfl rfl rfl rfl rfl (by decide) rfl (Nat.le_of_ble_eq_true rfl) (m_remembers hk) ?_
        rintro _ rfl
        refine ev_aload_n 28 dX9_changes_27 rfl rfl ?_
        refine ev_getR 31 fX9_19 rfl dX9_changes_28 rfl rfl rfl ?_
        refine ev_iconst 32 dX9_changes_31 rfl ?_
        refine ev_iload_n 33 dX9_changes_32 rfl rfl ?_
        refine ev_iadd 34 dX9_changes_33 rfl ?_
        refine ev_iald' 35 (h 4 c) dX9_changes_34 rfl rfl (by decide) (by omega) (by rw [rmb_4, Int.zero_add]) ?_
        refine ev_istore_n 36 dX9_changes_35 rfl (Nat.le_of_ble_eq_true rfl) ?_
        refine ev_aload_n 37 dX9_changes_36 rfl rfl ?_
        refine ev_getR 40 fX9_19 rfl dX9_changes_37 rfl rfl rfl ?_
        refine ev_iconst 41 dX9_changes_40 rfl ?_
        refine ev_iload_n 42 dX9_changes_41 rfl rfl ?_
        refine ev_iadd 43 dX9_changes_42 rfl ?_
        refine ev_aload_n 44 dX9_changes_43 rfl rfl ?_
        refine ev_getR 47 fX9_19 rfl dX9_changes_44 rfl rfl rfl ?_
        refine ev_iconst 48 dX9_changes_47 rfl ?_
        refine ev_iload_n 49 dX9_changes_48 rfl rfl ?_
        refine ev_iadd 50 dX9_changes_49 rfl ?_
        refine ev_iald' 51 (h 4 e) dX9_changes_50 rfl rfl (by decide) (by omega) (by rw [rmb_4, Int.zero_add]) ?_
        refine ev_iast' 52 (hput (rmb h) 4 (up (h 4) c (h 4 e))) dX9_changes_51 rfl rfl (by decide) (by omega) (by rw [rmb_4, Int.zero_add]) ?_
        refine ev_aload_n 53 dX9_changes_52 rfl rfl ?_
        refine ev_getR 56 fX9_19 rfl dX9_changes_53 rfl rfl rfl ?_
        refine ev_iconst 57 dX9_changes_56 rfl ?_
        refine ev_iload_n 58 dX9_changes_57 rfl rfl ?_
        refine ev_iadd 59 dX9_changes_58 rfl ?_
        refine ev_iload_n 60 dX9_changes_59 rfl rfl ?_
        refine ev_iast' 61 (hput (rmb h) 4 (up (up (h 4) c (h 4 e)) e (h 4 c))) dX9_changes_60 rfl rfl (by decide) (by omega) (by rw [hput_hput, hput_s, Int.zero_add]) ?_
        refine ev_aload_n 62 dX9_changes_61 rfl rfl ?_
        refine ev_getR 65 fX9_19 rfl dX9_changes_62 rfl rfl rfl ?_
        refine ev_iconst 66 dX9_changes_65 rfl ?_
        refine ev_iload_n 67 dX9_changes_66 rfl rfl ?_
        refine ev_iadd 68 dX9_changes_67 rfl ?_
        refine ev_iald' 69 (h 4 e) dX9_changes_68 rfl rfl (by decide) (by omega) (by rw [hput_s, Int.zero_add, up_n (by omega), up_s]) ?_
        exact ev_iret rfl dX9_changes_69 (Or.inr ⟨⟨d5, d13, c18⟩, rfl, rfl⟩)
      · refine ev_iconst 22 dX9_changes_21 rfl ?_
        exact ev_iret rfl dX9_changes_22 (Or.inl ⟨by omega, rfl, rfl⟩)
def cntG (s : Int → Int) (n : Int) : Int := sumZ (fun e => bit (s 10) e) n.toNat
theorem m_gr_loop {v : Int} {h : Hp} (hn : 0 ≤ h 0 2 ∧ h 0 2 ≤ 5) (hv : 0 ≤ h 4 10 ∧ h 4 10 < 32) {i2 : Int} : ∀ (k : Nat) (e : Int), 0 ≤ e → e + k = h 0 2 → Ev shM mX9_greases 68 [some (vr 0), some (vi c), some (vi i2), some (vi (sumZ (fun e => bit (h 4 10) e) e.toNat)), some (vi e)] [] h (RI fun x h' => x = cntG (h 4) (h 0 2) ∧ h = h') := by
  intro k
  induction k with
  | zero =>
    intro e h0 h1
    have he : e = h 0 2 := by omega
    subst he
    refine ev_iload 70 dX9_greases_68 rfl rfl ?_
    refine ev_aload_n 71 dX9_greases_70 rfl rfl ?_
    refine ev_getI 74 2 fX9_74 rfl dX9_greases_71 rfl rfl rfl (by decide) rfl ?_
    refine ev_icmp_ge 77 98 dX9_greases_74 rfl rfl (by omega) (by omega) (fun c74 => ?_) (fun c74 => ?_)
    · refine ev_iload_n 99 dX9_greases_98 rfl rfl ?_
      exact ev_iret rfl dX9_greases_99 (⟨rfl, rfl⟩)
    · omega --done
  | succ k ih =>
    intro e h0 h1
    have hb : ((((h 4 10 / 2 ^ e.toNat).toNat &&& (1 : Int).toNat : Nat)) : Int) = bit (h 4 10) e := by
      have h2 : 0 ≤ h 4 10 / 2 ^ e.toNat := Int.ediv_nonneg hv.1 (Int.le_of_lt (Int.pow_pos (by decide)))
      rw [show (1 : Int).toNat = 1 from rfl, Nat.and_one_is_mod, Int.natCast_emod, Int.toNat_of_nonneg h2]
      rfl
    have K := ih (e + 1) (by omega) (by omega)
    rw [sumZ_1 h0] at K
    refine ev_iload 70 dX9_greases_68 rfl rfl ?_
    refine ev_aload_n 71 dX9_greases_70 rfl rfl ?_
    refine ev_getI 74 2 fX9_74 rfl dX9_greases_71 rfl rfl rfl (by decide) rfl ?_
    refine ev_icmp_ge 77 98 dX9_greases_74 rfl rfl (by omega) (by omega) (fun c74 => ?_) (fun c74 => ?_)
    · omega --done
    · refine ev_iload_n 78 dX9_greases_77 rfl rfl ?_
      refine ev_aload_n 79 dX9_greases_78 rfl rfl ?_
      refine ev_getR 82 fX9_19 rfl dX9_greases_79 rfl rfl rfl ?_
      refine ev_bipush 84 dX9_greases_82 rfl (by decide +kernel) ?_
      refine ev_iald 85 dX9_greases_84 rfl rfl (by decide) (by omega) ?_
      refine ev_iload 87 dX9_greases_85 rfl rfl ?_
      refine ev_ishr 88 dX9_greases_87 rfl (by omega) (by omega) ?_
      refine ev_iconst 89 dX9_greases_88 rfl ?_
      refine ev_iand 90 dX9_greases_89 rfl (Int.ediv_nonneg hv.1 (Int.le_of_lt (Int.pow_pos (by decide)))) (by decide) ?_
      rw [hb]
      refine ev_iadd 91 dX9_greases_90 rfl ?_
      refine ev_istore_n 92 dX9_greases_91 rfl (Nat.le_of_ble_eq_true rfl) ?_
      refine ev_iinc 95 dX9_greases_92 rfl rfl ?_
      refine ev_goto 68 dX9_greases_95 rfl ?_
      exact K
theorem pw_r {c : Int} (hc : 0 ≤ c ∧ c ≤ 5) : (0 : Int) ≤ 1 * 2 ^ c.toNat ∧ (1 : Int) * 2 ^ c.toNat < 4294967296 := by
  have : c = 0 ∨ c = 1 ∨ c = 2 ∨ c = 3 ∨ c = 4 ∨ c = 5 := by omega
  rcases this with rfl | rfl | rfl | rfl | rfl | rfl <;> decide
theorem xor_r {a c : Int} (ha : 0 ≤ a ∧ a < 32) (hc : 0 ≤ c ∧ c < 5) : 0 ≤ ((a.toNat ^^^ (1 * 2 ^ c.toNat : Int).toNat : Nat) : Int) ∧ ((a.toNat ^^^ (1 * 2 ^ c.toNat : Int).toNat : Nat) : Int) < 32 := by
  refine ⟨by omega, ?_⟩
  have h1 : a.toNat < 2 ^ 5 := by omega
  have h2 : (1 * 2 ^ c.toNat : Int).toNat < 2 ^ 5 := by
    have : c = 0 ∨ c = 1 ∨ c = 2 ∨ c = 3 ∨ c = 4 := by omega
    rcases this with rfl | rfl | rfl | rfl | rfl <;> decide
  have := Nat.xor_lt_two_pow h1 h2
  omega
def gx (a c : Int) : Int := ((a.toNat ^^^ (1 * 2 ^ c.toNat : Int).toNat : Nat) : Int)
theorem m_greases {i : Int} (hc : R32 c) (hi : R32 i) (hn : 0 ≤ h 0 2 ∧ h 0 2 ≤ 5) (hs : 0 ≤ h 4 10 ∧ h 4 10 < 32) (hk : 0 ≤ h 0 7 ∧ h 0 7 ≤ 10) : Ev shM mX9_greases 0 [some (vr 0), some (vi c), some (vi i), none, none] [] h (RI fun x h' => (¬ ((0 ≤ c ∧ c < h 0 2) ∧ 0 ≤ i ∧ i ≤ 1) ∧ x = -1 ∧ h = h') ∨ (((0 ≤ c ∧ c < h 0 2) ∧ 0 ≤ i ∧ i ≤ 1) ∧ bit (h 4 10) c = i ∧ x = -2 ∧ h = h') ∨ (((0 ≤ c ∧ c < h 0 2) ∧ 0 ≤ i ∧ i ≤ 1) ∧ ¬ bit (h 4 10) c = i ∧ x = cntG (up (h 4) 10 (gx (h 4 10) c)) (h 0 2) ∧ h' = hput (rmb h) 4 (up (h 4) 10 (gx (h 4 10) c)))) := by
  have hz := bit_z (h 4 10) c
  refine ev_aload_n 1 dX9_greases_0 rfl rfl ?_
  refine ev_iload_n 2 dX9_greases_1 rfl rfl ?_
  refine cVi1 5 kX9_greases_175 dX9_greases_2 rfl rfl rfl rfl rfl (by decide) rfl (Nat.le_of_ble_eq_true rfl) (m_isChair hc hn) ?_
  rintro x _ ⟨rfl, rfl⟩
  refine ev_if_eq 8 17 dX9_greases_5 rfl rfl it_r (fun c5 => ?_) (fun c5 => ?_)
  · have d5 := it_0.mp c5
    refine ev_iconst 18 dX9_greases_17 rfl ?_
    exact ev_iret rfl dX9_greases_18 (Or.inl ⟨by omega, rfl, rfl⟩)
  · have d5 := it_1.mp c5
    have hx := xor_r hs ⟨d5.1, by omega⟩
    refine ev_iload_n 9 dX9_greases_8 rfl rfl ?_
    refine ev_iconst 10 dX9_greases_9 rfl ?_
    refine ev_iconst 11 dX9_greases_10 rfl ?_
    refine cSi3 14 kX9_greases_78 dX9_greases_11 rfl rfl (by decide) rfl (Nat.le_of_ble_eq_true rfl) (m_in hi ⟨by decide, by decide⟩ ⟨by decide, by decide⟩) ?_
    rintro x _ ⟨rfl, rfl⟩
    refine ev_if_ne 17 19 dX9_greases_14 rfl rfl it_r (fun c14 => ?_) (fun c14 => ?_)
    · have d14 := it_1.mp c14
      refine ev_aload_n 20 dX9_greases_19 rfl rfl ?_
      refine ev_getR 23 fX9_19 rfl dX9_greases_20 rfl rfl rfl ?_
      refine ev_bipush 25 dX9_greases_23 rfl (by decide +kernel) ?_
      refine ev_iald 26 dX9_greases_25 rfl rfl (by decide) (by omega) ?_
      refine ev_iload_n 27 dX9_greases_26 rfl rfl ?_
      refine cSi2 30 kX9_greases_158 dX9_greases_27 rfl rfl (by decide) rfl (Nat.le_of_ble_eq_true rfl) (m_has ⟨hs.1, by omega⟩ (by omega)) ?_
      rintro x _ ⟨e27, rfl⟩
      rw [show x = bit (h 4 10) c from e27]
      refine ev_iload_n 31 dX9_greases_30 rfl rfl ?_
      refine ev_iconst 32 dX9_greases_31 rfl ?_
      refine ev_icmp_ne 35 39 dX9_greases_32 rfl rfl (by omega) (by omega) (fun c32 => ?_) (fun c32 => ?_)
      · refine ev_iconst 40 dX9_greases_39 rfl ?_
        refine ev_icmp_ne 43 46 dX9_greases_40 rfl rfl (by omega) (by omega) (fun c40 => ?_) (fun c40 => ?_)
        · refine ev_aload_n 47 dX9_greases_46 rfl rfl ?_
          refine cVv0 50 kX9_greases_210 dX9_greases_47 rfl rfl rfl rfl rfl (by decide) rfl (Nat.le_of_ble_eq_true rfl) (m_remembers hk) ?_
          rintro _ rfl
          refine ev_aload_n 51 dX9_greases_50 rfl rfl ?_
          refine ev_getR 54 fX9_19 rfl dX9_greases_51 rfl rfl rfl ?_
          refine ev_bipush 56 dX9_greases_54 rfl (by decide +kernel) ?_
          refine ev_dup2 57 dX9_greases_56 rfl ?_
          refine ev_iald' 58 (h 4 10) dX9_greases_57 rfl rfl (by decide) (by omega) (by rw [rmb_4]) ?_
          refine ev_iconst 59 dX9_greases_58 rfl ?_
          refine ev_iload_n 60 dX9_greases_59 rfl rfl ?_
          refine ev_ishl 61 dX9_greases_60 rfl (by omega) (by omega) (pw_r (c := c) ⟨d5.1, by omega⟩).2 ?_
          refine ev_ixor 62 dX9_greases_61 rfl hs.1 (pw_r (c := c) ⟨d5.1, by omega⟩).1 ?_
          refine ev_iast' 63 (hput (rmb h) 4 (up (h 4) 10 (gx (h 4 10) c))) dX9_greases_62 rfl rfl (by decide) (by omega) (by rw [rmb_4]; rfl) ?_
          refine ev_iconst 64 dX9_greases_63 rfl ?_
          refine ev_istore_n 65 dX9_greases_64 rfl (Nat.le_of_ble_eq_true rfl) ?_
          refine ev_iconst 66 dX9_greases_65 rfl ?_
          refine ev_istore 68 dX9_greases_66 rfl (Nat.le_of_ble_eq_true rfl) ?_
          refine ev_wk (m_gr_loop (v := 0) (h := hput (rmb h) 4 (up (h 4) 10 (gx (h 4 10) c))) (by show 0 ≤ rmb h 0 2 ∧ rmb h 0 2 ≤ 5; rw [rmb_0 (by decide)]; exact hn) (by show 0 ≤ gx (h 4 10) c ∧ gx (h 4 10) c < 32; exact hx) (h 0 2).toNat 0 (by omega) (by show _ = rmb h 0 2; rw [rmb_0 (by decide)]; omega)) ?_
          rintro _ _ ⟨x, rfl, e1, rfl⟩
          refine ⟨x, rfl, Or.inr (Or.inr ⟨⟨d5, d14⟩, by omega, ?_, rfl⟩)⟩
          rw [e1]
          show cntG (up (h 4) 10 (gx (h 4 10) c)) (rmb h 0 2) = _
          rw [rmb_0 (by decide)]
        · refine ev_bipush 45 dX9_greases_43 rfl (by decide +kernel) ?_
          exact ev_iret rfl dX9_greases_45 (Or.inr (Or.inl ⟨⟨d5, d14⟩, by omega, rfl, rfl⟩))
      · refine ev_iconst 36 dX9_greases_35 rfl ?_
        refine ev_goto 40 dX9_greases_36 rfl ?_
        refine ev_icmp_ne 43 46 dX9_greases_40 rfl rfl (by omega) (by omega) (fun c40 => ?_) (fun c40 => ?_)
        · refine ev_aload_n 47 dX9_greases_46 rfl rfl ?_
          refine cVv0 50 kX9_greases_210 dX9_greases_47 rfl rfl rfl rfl rfl (by decide) rfl (Nat.le_of_ble_eq_true rfl) (m_remembers hk) ?_
          rintro _ rfl
          refine ev_aload_n 51 dX9_greases_50 rfl rfl ?_
          refine ev_getR 54 fX9_19 rfl dX9_greases_51 rfl rfl rfl ?_
          refine ev_bipush 56 dX9_greases_54 rfl (by decide +kernel) ?_
          refine ev_dup2 57 dX9_greases_56 rfl ?_
          refine ev_iald' 58 (h 4 10) dX9_greases_57 rfl rfl (by decide) (by omega) (by rw [rmb_4]) ?_
          refine ev_iconst 59 dX9_greases_58 rfl ?_
          refine ev_iload_n 60 dX9_greases_59 rfl rfl ?_
          refine ev_ishl 61 dX9_greases_60 rfl (by omega) (by omega) (pw_r (c := c) ⟨d5.1, by omega⟩).2 ?_
          refine ev_ixor 62 dX9_greases_61 rfl hs.1 (pw_r (c := c) ⟨d5.1, by omega⟩).1 ?_
          refine ev_iast' 63 (hput (rmb h) 4 (up (h 4) 10 (gx (h 4 10) c))) dX9_greases_62 rfl rfl (by decide) (by omega) (by rw [rmb_4]; rfl) ?_
          refine ev_iconst 64 dX9_greases_63 rfl ?_
          refine ev_istore_n 65 dX9_greases_64 rfl (Nat.le_of_ble_eq_true rfl) ?_
          refine ev_iconst 66 dX9_greases_65 rfl ?_
          refine ev_istore 68 dX9_greases_66 rfl (Nat.le_of_ble_eq_true rfl) ?_
          refine ev_wk (m_gr_loop (v := 0) (h := hput (rmb h) 4 (up (h 4) 10 (gx (h 4 10) c))) (by show 0 ≤ rmb h 0 2 ∧ rmb h 0 2 ≤ 5; rw [rmb_0 (by decide)]; exact hn) (by show 0 ≤ gx (h 4 10) c ∧ gx (h 4 10) c < 32; exact hx) (h 0 2).toNat 0 (by omega) (by show _ = rmb h 0 2; rw [rmb_0 (by decide)]; omega)) ?_
          rintro _ _ ⟨x, rfl, e1, rfl⟩
          refine ⟨x, rfl, Or.inr (Or.inr ⟨⟨d5, d14⟩, by omega, ?_, rfl⟩)⟩
          rw [e1]
          show cntG (up (h 4) 10 (gx (h 4 10) c)) (rmb h 0 2) = _
          rw [rmb_0 (by decide)]
        · refine ev_bipush 45 dX9_greases_43 rfl (by decide +kernel) ?_
          exact ev_iret rfl dX9_greases_45 (Or.inr (Or.inl ⟨⟨d5, d14⟩, by omega, rfl, rfl⟩))
    · have d14 := it_0.mp c14
      refine ev_iconst 18 dX9_greases_17 rfl ?_
      exact ev_iret rfl dX9_greases_18 (Or.inl ⟨by omega, rfl, rfl⟩)
theorem m_undo (hk : 0 ≤ h 0 7 ∧ h 0 7 ≤ 10) : Ev shM mX9_undo 0 [some (vr 0)] [] h (RI fun x h' => (h 0 7 = 0 ∧ x = -2 ∧ h = h') ∨ (0 < h 0 7 ∧ x = h 0 7 - 1 ∧ h' = hq h [(0, up (h 0) 7 (h 0 7 - 1)), (4, cpy (h 5) (h 4) (17 * (h 0 7 - 1)) 0 17)])) := by
  refine ev_aload_n 1 dX9_undo_0 rfl rfl ?_
  refine ev_getI 4 7 fX9_148 rfl dX9_undo_1 rfl rfl rfl (by decide) rfl ?_
  refine ev_if_ne 7 10 dX9_undo_4 rfl rfl (by omega) (fun c4 => ?_) (fun c4 => ?_)
  · refine ev_aload_n 11 dX9_undo_10 rfl rfl ?_
    refine ev_dup_r 12 dX9_undo_11 rfl ?_
    refine ev_getI 15 7 fX9_148 rfl dX9_undo_12 rfl rfl rfl (by decide) rfl ?_
    refine ev_iconst 16 dX9_undo_15 rfl ?_
    refine ev_isub 17 dX9_undo_16 rfl ?_
    refine ev_putI' 20 7 (hq h [(0, up (h 0) 7 (h 0 7 - 1))]) pX9_148 rfl dX9_undo_17 rfl rfl rfl rfl (hq_put (L := [])) ?_
    refine ev_aload_n 21 dX9_undo_20 rfl rfl ?_
    refine ev_getR 24 fX9_19 rfl dX9_undo_21 rfl rfl rfl ?_
    refine ev_iconst 25 dX9_undo_24 rfl ?_
    refine ev_aload_n 26 dX9_undo_25 rfl rfl ?_
    refine ev_getR 29 fX9_22 rfl dX9_undo_26 rfl rfl rfl ?_
    refine ev_bipush 31 dX9_undo_29 rfl (by decide +kernel) ?_
    refine ev_aload_n 32 dX9_undo_31 rfl rfl ?_
    refine ev_getI' 35 7 (h 0 7 - 1) fX9_148 rfl dX9_undo_32 rfl rfl rfl (by decide) rfl rfl ?_
    refine ev_imul 36 dX9_undo_35 rfl ?_
    refine cSv4 39 kX9_undo_154 dX9_undo_36 rfl rfl (by decide) rfl (Nat.le_of_ble_eq_true rfl) (m_copy (a := 4) (b := 5) rfl rfl (by decide) (by decide) (by decide) (by omega) (by omega)) ?_
    rintro _ rfl
    refine ev_heap hq_put ?_
    refine ev_aload_n 40 dX9_undo_39 rfl rfl ?_
    refine ev_getI' 43 7 (h 0 7 - 1) fX9_148 rfl dX9_undo_40 rfl rfl rfl (by decide) rfl rfl ?_
    exact ev_iret rfl dX9_undo_43 (Or.inr ⟨by omega, rfl, rfl⟩)
  · refine ev_bipush 9 dX9_undo_7 rfl (by decide +kernel) ?_
    exact ev_iret rfl dX9_undo_9 (Or.inl ⟨by omega, rfl, rfl⟩)
theorem m_tuesday (hl : 0 ≤ h 0 0 ∧ h 0 0 ≤ 16) (hn : 0 ≤ h 0 2 ∧ h 0 2 ≤ 5) (hW : 0 < h 0 0 ∧ 0 < h 0 2 → MW h) (hs : NW (h 0 2) (h 4)) (hk : 0 ≤ h 0 7 ∧ h 0 7 ≤ 10) (hw : 0 ≤ h 4 11 ∧ h 4 11 ≤ 999) : Ev shM mX9_tuesday 0 [some (vr 0), none] [] h (RI fun x h' => (¬ ((0 < h 0 0 ∧ 0 < h 0 2) ∧ ¬ h 4 11 = 999) ∧ x = -2 ∧ h = h') ∨ (((0 < h 0 0 ∧ 0 < h 0 2) ∧ ¬ h 4 11 = 999) ∧ x = (raceS h (h 4) 0).2.2.2.1 0 ∧ PsM (hput (rmb h) 4 (up (up (h 4) 11 (h 4 11 + 1)) (12 + x) (h 4 (12 + x) + 1))) h')) := by
  refine ev_aload_n 1 dX9_tuesday_0 rfl rfl ?_
  refine cVi0 4 kX9_tuesday_184 dX9_tuesday_1 rfl rfl rfl rfl rfl (by decide) rfl (Nat.le_of_ble_eq_true rfl) (m_isRace (by omega) (by omega)) ?_
  rintro x _ ⟨rfl, rfl⟩
  refine ev_if_eq 7 20 dX9_tuesday_4 rfl rfl it_r (fun c4 => ?_) (fun c4 => ?_)
  · have d4 := it_0.mp c4
    refine ev_bipush 22 dX9_tuesday_20 rfl (by decide +kernel) ?_
    exact ev_iret rfl dX9_tuesday_22 (Or.inl ⟨by omega, rfl, rfl⟩)
  · have d4 := it_1.mp c4
    refine ev_aload_n 8 dX9_tuesday_7 rfl rfl ?_
    refine ev_getR 11 fX9_19 rfl dX9_tuesday_8 rfl rfl rfl ?_
    refine ev_bipush 13 dX9_tuesday_11 rfl (by decide +kernel) ?_
    refine ev_iald 14 dX9_tuesday_13 rfl rfl (by decide) (by omega) ?_
    refine ev_sipush 17 dX9_tuesday_14 rfl (by decide +kernel) ?_
    refine ev_icmp_ne 20 23 dX9_tuesday_17 rfl rfl (by omega) (by omega) (fun c17 => ?_) (fun c17 => ?_)
    · refine ev_aload_n 24 dX9_tuesday_23 rfl rfl ?_
      refine cVv0 27 kX9_tuesday_210 dX9_tuesday_24 rfl rfl rfl rfl rfl (by decide) rfl (Nat.le_of_ble_eq_true rfl) (m_remembers hk) ?_
      rintro _ rfl
      have hWr : MW (rmb h) := by
        have := hW d4
        unfold MW MCh at this ⊢
        rw [rmb_1 1 rfl rfl, rmb_1 2 rfl rfl, rmb_1 3 rfl rfl, rmb_0 (by decide), rmb_0 (by decide)]
        exact this
      have hsr : NW (rmb h 0 2) (rmb h 4) := by rw [rmb_4, rmb_0 (by decide)]; exact hs
      have hRr : raceS (rmb h) (rmb h 4) 0 = raceS h (h 4) 0 := by
        unfold raceS
        rw [rmb_1 1 rfl rfl, rmb_1 2 rfl rfl, rmb_1 3 rfl rfl, rmb_0 (by decide), rmb_0 (by decide), rmb_4]
      have hO := raceS_ok (hW d4) hs 0
      have hx := hO.1.2.2 0 (by omega) (by omega)
      refine ev_aload_n 28 dX9_tuesday_27 rfl rfl ?_
      refine cVi0 31 kX9_tuesday_196 dX9_tuesday_28 rfl rfl rfl rfl rfl (by decide) rfl (Nat.le_of_ble_eq_true rfl) (m_first hWr hsr) ?_
      rintro x h1 ⟨e28, p1⟩
      rw [hRr] at e28
      rw [← e28] at hx
      have e4 : h1 4 = h 4 := (p1.1 4 (by decide) (by decide)).trans rmb_4
      refine ev_istore_n 32 dX9_tuesday_31 rfl (Nat.le_of_ble_eq_true rfl) ?_
      refine ev_aload_n 33 dX9_tuesday_32 rfl rfl ?_
      refine ev_getR 36 fX9_19 rfl dX9_tuesday_33 rfl rfl rfl ?_
      refine ev_bipush 38 dX9_tuesday_36 rfl (by decide +kernel) ?_
      refine ev_dup2 39 dX9_tuesday_38 rfl ?_
      refine ev_iald' 40 (h 4 11) dX9_tuesday_39 rfl rfl (by decide) (by omega) (by rw [e4]) ?_
      refine ev_iconst 41 dX9_tuesday_40 rfl ?_
      refine ev_iadd 42 dX9_tuesday_41 rfl ?_
      refine ev_iast' 43 (hput h1 4 (up (h 4) 11 (h 4 11 + 1))) dX9_tuesday_42 rfl rfl (by decide) (by omega) (by rw [e4]) ?_
      refine ev_aload_n 44 dX9_tuesday_43 rfl rfl ?_
      refine ev_getR 47 fX9_19 rfl dX9_tuesday_44 rfl rfl rfl ?_
      refine ev_bipush 49 dX9_tuesday_47 rfl (by decide +kernel) ?_
      refine ev_iload_n 50 dX9_tuesday_49 rfl rfl ?_
      refine ev_iadd 51 dX9_tuesday_50 rfl ?_
      refine ev_dup2 52 dX9_tuesday_51 rfl ?_
      refine ev_iald' 53 (h 4 (12 + x)) dX9_tuesday_52 rfl rfl (by decide) (by omega) (by rw [hput_s, up_n (by omega)]) ?_
      refine ev_iconst 54 dX9_tuesday_53 rfl ?_
      refine ev_iadd 55 dX9_tuesday_54 rfl ?_
      refine ev_iast' 56 (hput h1 4 (up (up (h 4) 11 (h 4 11 + 1)) (12 + x) (h 4 (12 + x) + 1))) dX9_tuesday_55 rfl rfl (by decide) (by omega) (by rw [hput_hput, hput_s]) ?_
      refine ev_iload_n 57 dX9_tuesday_56 rfl rfl ?_
      exact ev_iret rfl dX9_tuesday_57 (Or.inr ⟨⟨d4, c17⟩, e28, ⟨nine (p1.1 1 (by decide) (by decide)) (p1.1 2 (by decide) (by decide)) (p1.1 3 (by decide) (by decide)) rfl (p1.1 5 (by decide) (by decide)) (p1.1 6 (by decide) (by decide)) (p1.1 7 (by decide) (by decide)) (p1.1 8 (by decide) (by decide)) (p1.1 9 (by decide) (by decide)), p1.2⟩⟩)
    · refine ev_bipush 22 dX9_tuesday_20 rfl (by decide +kernel) ?_
      exact ev_iret rfl dX9_tuesday_22 (Or.inl ⟨by omega, rfl, rfl⟩)
end DD
