section CP2
variable {h : Hp} {c : Int}
theorem c_greases {i : Int} (hc : R32 c) (hi : R32 i) (hb : CHp h) (hs : 0 ≤ h 7 3 ∧ h 7 3 ≤ 10) : Ev shC mX8_greases 0 [some (vr 0), some (vi c), some (vi i), none] [] h (RI fun x h' => (¬ ((0 ≤ c ∧ c < h 2 5) ∧ 0 ≤ i ∧ i ≤ 1) ∧ x = -1 ∧ h = h') ∨ (((0 ≤ c ∧ c < h 2 5) ∧ 0 ≤ i ∧ i ≤ 1) ∧ h 23 c = i ∧ x = -2 ∧ h = h') ∨ (((0 ≤ c ∧ c < h 2 5) ∧ 0 ≤ i ∧ i ≤ 1) ∧ ¬ h 23 c = i ∧ x = sumZ (up (h 23) c i) (h 2 5).toNat ∧ h' = dAdd (hput h 23 (up (h 23) c i)) 3 c 0)) := by
  have hn := hb.1
  have e23 : dAdd (hput h 23 (up (h 23) c i)) 3 c 0 23 = up (h 23) c i := dAdd_o 23 (by decide) (Or.inl (by decide))
  have e2 : dAdd (hput h 23 (up (h 23) c i)) 3 c 0 2 = h 2 := dAdd_o 2 (by decide) (Or.inl (by decide))
  have hgc := c_greasedCount (h := dAdd (hput h 23 (up (h 23) c i)) 3 c 0) (n := h 2 5) hn
  rw [e23] at hgc
  refine ev_aload_n 1 dX8_greases_0 rfl rfl ?_
  refine ev_iload_n 2 dX8_greases_1 rfl rfl ?_
  refine cVi1 5 kX8_greases_96 dX8_greases_2 rfl rfl rfl rfl rfl (by decide) rfl (Nat.le_of_ble_eq_true rfl) (c_isChair hc hn) ?_
  rintro x _ ⟨rfl, rfl⟩
  refine ev_if_eq 8 17 dX8_greases_5 rfl rfl it_r (fun c5 => ?_) (fun c5 => ?_)
  · have d5 := it_0.mp c5
    refine ev_iconst 18 dX8_greases_17 rfl ?_
    exact ev_iret rfl dX8_greases_18 (Or.inl ⟨by omega, rfl, rfl⟩)
  · have d5 := it_1.mp c5
    have hz := (hb.2.2.2.1 c d5.1 d5.2).2.2.2
    refine ev_iload_n 9 dX8_greases_8 rfl rfl ?_
    refine ev_if_lt 12 17 dX8_greases_9 rfl rfl (by omega) (fun c9 => ?_) (fun c9 => ?_)
    · refine ev_iconst 18 dX8_greases_17 rfl ?_
      exact ev_iret rfl dX8_greases_18 (Or.inl ⟨by omega, rfl, rfl⟩)
    · refine ev_iload_n 13 dX8_greases_12 rfl rfl ?_
      refine ev_iconst 14 dX8_greases_13 rfl ?_
      refine ev_icmp_le 17 19 dX8_greases_14 rfl rfl (by omega) (by omega) (fun c14 => ?_) (fun c14 => ?_)
      · refine ev_iload_n 20 dX8_greases_19 rfl rfl ?_
        refine ev_iconst 21 dX8_greases_20 rfl ?_
        refine ev_icmp_ne 24 28 dX8_greases_21 rfl rfl (by omega) (by omega) (fun c21 => ?_) (fun c21 => ?_)
        · refine ev_iconst 29 dX8_greases_28 rfl ?_
          refine ev_topi (show _ = i by omega) ?_
          refine ev_istore_n 30 dX8_greases_29 rfl (Nat.le_of_ble_eq_true rfl) ?_
          refine ev_aload_n 31 dX8_greases_30 rfl rfl ?_
          refine ev_getR 34 fX8_68 rfl dX8_greases_31 rfl rfl rfl ?_
          refine ev_getR 37 fX8_113 rfl dX8_greases_34 rfl rfl rfl ?_
          refine ev_iload_n 38 dX8_greases_37 rfl rfl ?_
          refine ev_zald 39 dX8_greases_38 rfl rfl (by decide) (by omega) ?_
          refine ev_iload_n 40 dX8_greases_39 rfl rfl ?_
          refine ev_icmp_ne 43 46 dX8_greases_40 rfl rfl (by omega) (by omega) (fun c40 => ?_) (fun c40 => ?_)
          · refine ev_aload_n 47 dX8_greases_46 rfl rfl ?_
            refine ev_getR 50 fX8_68 rfl dX8_greases_47 rfl rfl rfl ?_
            refine ev_getR 53 fX8_113 rfl dX8_greases_50 rfl rfl rfl ?_
            refine ev_iload_n 54 dX8_greases_53 rfl rfl ?_
            refine ev_iload_n 55 dX8_greases_54 rfl rfl ?_
            refine ev_zast' 56 (hput h 23 (up (h 23) c i)) dX8_greases_55 rfl rfl (by decide) (by omega) (by omega) rfl ?_
            refine ev_aload_n 57 dX8_greases_56 rfl rfl ?_
            refine ev_getR 60 fX8_36 rfl dX8_greases_57 rfl rfl rfl ?_
            refine ev_iconst 61 dX8_greases_60 rfl ?_
            refine ev_iload_n 62 dX8_greases_61 rfl rfl ?_
            refine ev_iconst 63 dX8_greases_62 rfl ?_
            refine cVv3 66 kX8_greases_154 dX8_greases_63 rfl rfl rfl rfl rfl (by decide) rfl (Nat.le_of_ble_eq_true rfl) (c_add (h := hput h 23 (up (h 23) c i)) hs) ?_
            rintro _ rfl
            refine ev_aload_n 67 dX8_greases_66 rfl rfl ?_
            refine ev_getR 70 fX8_68 rfl dX8_greases_67 rfl rfl rfl ?_
            refine ev_aload_n 71 dX8_greases_70 rfl rfl ?_
            refine ev_getR 74 fX8_64 rfl dX8_greases_71 rfl rfl rfl ?_
            refine ev_getI' 77 5 (h 2 5) fX8_162 rfl dX8_greases_74 rfl rfl rfl (by decide) rfl (by rw [e2]) ?_
            refine cVi1 80 kX8_greases_165 dX8_greases_77 rfl rfl rfl rfl rfl (by decide) rfl (Nat.le_of_ble_eq_true rfl) (hgc (fun k a b => by by_cases q : k = c; (rw [q, up_s]; omega); (rw [up_n q]; exact (hb.2.2.2.1 k a b).2.2.2))) ?_
            rintro x _ ⟨rfl, rfl⟩
            exact ev_iret rfl dX8_greases_80 (Or.inr (Or.inr ⟨⟨d5, by omega⟩, by omega, rfl, rfl⟩))
          · refine ev_bipush 45 dX8_greases_43 rfl (by decide +kernel) ?_
            exact ev_iret rfl dX8_greases_45 (Or.inr (Or.inl ⟨⟨d5, by omega⟩, by omega, rfl, rfl⟩))
        · refine ev_iconst 25 dX8_greases_24 rfl ?_
          refine ev_goto 29 dX8_greases_25 rfl ?_
          refine ev_topi (show _ = i by omega) ?_
          refine ev_istore_n 30 dX8_greases_29 rfl (Nat.le_of_ble_eq_true rfl) ?_
          refine ev_aload_n 31 dX8_greases_30 rfl rfl ?_
          refine ev_getR 34 fX8_68 rfl dX8_greases_31 rfl rfl rfl ?_
          refine ev_getR 37 fX8_113 rfl dX8_greases_34 rfl rfl rfl ?_
          refine ev_iload_n 38 dX8_greases_37 rfl rfl ?_
          refine ev_zald 39 dX8_greases_38 rfl rfl (by decide) (by omega) ?_
          refine ev_iload_n 40 dX8_greases_39 rfl rfl ?_
          refine ev_icmp_ne 43 46 dX8_greases_40 rfl rfl (by omega) (by omega) (fun c40 => ?_) (fun c40 => ?_)
          · refine ev_aload_n 47 dX8_greases_46 rfl rfl ?_
            refine ev_getR 50 fX8_68 rfl dX8_greases_47 rfl rfl rfl ?_
            refine ev_getR 53 fX8_113 rfl dX8_greases_50 rfl rfl rfl ?_
            refine ev_iload_n 54 dX8_greases_53 rfl rfl ?_
            refine ev_iload_n 55 dX8_greases_54 rfl rfl ?_
            refine ev_zast' 56 (hput h 23 (up (h 23) c i)) dX8_greases_55 rfl rfl (by decide) (by omega) (by omega) rfl ?_
            refine ev_aload_n 57 dX8_greases_56 rfl rfl ?_
            refine ev_getR 60 fX8_36 rfl dX8_greases_57 rfl rfl rfl ?_
            refine ev_iconst 61 dX8_greases_60 rfl ?_
            refine ev_iload_n 62 dX8_greases_61 rfl rfl ?_
            refine ev_iconst 63 dX8_greases_62 rfl ?_
            refine cVv3 66 kX8_greases_154 dX8_greases_63 rfl rfl rfl rfl rfl (by decide) rfl (Nat.le_of_ble_eq_true rfl) (c_add (h := hput h 23 (up (h 23) c i)) hs) ?_
            rintro _ rfl
            refine ev_aload_n 67 dX8_greases_66 rfl rfl ?_
            refine ev_getR 70 fX8_68 rfl dX8_greases_67 rfl rfl rfl ?_
            refine ev_aload_n 71 dX8_greases_70 rfl rfl ?_
            refine ev_getR 74 fX8_64 rfl dX8_greases_71 rfl rfl rfl ?_
            refine ev_getI' 77 5 (h 2 5) fX8_162 rfl dX8_greases_74 rfl rfl rfl (by decide) rfl (by rw [e2]) ?_
            refine cVi1 80 kX8_greases_165 dX8_greases_77 rfl rfl rfl rfl rfl (by decide) rfl (Nat.le_of_ble_eq_true rfl) (hgc (fun k a b => by by_cases q : k = c; (rw [q, up_s]; omega); (rw [up_n q]; exact (hb.2.2.2.1 k a b).2.2.2))) ?_
            rintro x _ ⟨rfl, rfl⟩
            exact ev_iret rfl dX8_greases_80 (Or.inr (Or.inr ⟨⟨d5, by omega⟩, by omega, rfl, rfl⟩))
          · refine ev_bipush 45 dX8_greases_43 rfl (by decide +kernel) ?_
            exact ev_iret rfl dX8_greases_45 (Or.inr (Or.inl ⟨⟨d5, by omega⟩, by omega, rfl, rfl⟩))
      · refine ev_iconst 18 dX8_greases_17 rfl ?_
        exact ev_iret rfl dX8_greases_18 (Or.inl ⟨by omega, rfl, rfl⟩)
theorem c_times {t : Int} (hc : R32 c) (ht : R32 t) (hb : CHp h) (hm : 0 ≤ h 8 2 ∧ h 8 2 ≤ 6) : Ev shC mX8_times 0 [some (vr 0), some (vi c), some (vi t)] [] h (RI fun x h' => (¬ ((0 ≤ c ∧ c < h 2 5) ∧ 1 ≤ t ∧ t ≤ 200) ∧ x = -1 ∧ h = h') ∨ (((0 ≤ c ∧ c < h 2 5) ∧ 1 ≤ t ∧ t ≤ 200) ∧ ¬ (0 < h 2 4 ∧ 0 < h 2 5) ∧ x = -2 ∧ h = h') ∨ (((0 ≤ c ∧ c < h 2 5) ∧ 1 ≤ t ∧ t ≤ 200) ∧ (0 < h 2 4 ∧ 0 < h 2 5) ∧ ¬ h 8 2 < 6 ∧ x = -3 ∧ h = h') ∨ (((0 ≤ c ∧ c < h 2 5) ∧ 1 ≤ t ∧ t ≤ 200) ∧ (0 < h 2 4 ∧ 0 < h 2 5) ∧ h 8 2 < 6 ∧ x = h 8 2 + 1 ∧ h' = swN h c t)) := by
  have hn := hb.1
  have hl := hb.2.1
  refine ev_aload_n 1 dX8_times_0 rfl rfl ?_
  refine ev_iload_n 2 dX8_times_1 rfl rfl ?_
  refine cVi1 5 kX8_times_96 dX8_times_2 rfl rfl rfl rfl rfl (by decide) rfl (Nat.le_of_ble_eq_true rfl) (c_isChair hc hn) ?_
  rintro x _ ⟨rfl, rfl⟩
  refine ev_if_eq 8 20 dX8_times_5 rfl rfl it_r (fun c5 => ?_) (fun c5 => ?_)
  · have d5 := it_0.mp c5
    refine ev_iconst 21 dX8_times_20 rfl ?_
    exact ev_iret rfl dX8_times_21 (Or.inl ⟨by omega, rfl, rfl⟩)
  · have d5 := it_1.mp c5
    refine ev_iload_n 9 dX8_times_8 rfl rfl ?_
    refine ev_iconst 10 dX8_times_9 rfl ?_
    refine ev_icmp_lt 13 20 dX8_times_10 rfl rfl (by omega) (by omega) (fun c10 => ?_) (fun c10 => ?_)
    · refine ev_iconst 21 dX8_times_20 rfl ?_
      exact ev_iret rfl dX8_times_21 (Or.inl ⟨by omega, rfl, rfl⟩)
    · refine ev_iload_n 14 dX8_times_13 rfl rfl ?_
      refine ev_sipush 17 dX8_times_14 rfl (by decide +kernel) ?_
      refine ev_icmp_le 20 22 dX8_times_17 rfl rfl (by omega) (by omega) (fun c17 => ?_) (fun c17 => ?_)
      · refine ev_aload_n 23 dX8_times_22 rfl rfl ?_
        refine ev_getR 26 fX8_64 rfl dX8_times_23 rfl rfl rfl ?_
        refine cVi0 29 kX8_times_136 dX8_times_26 rfl rfl rfl rfl rfl (by decide) rfl (Nat.le_of_ble_eq_true rfl) (c_hasRace (by omega) (by omega)) ?_
        rintro x _ ⟨rfl, rfl⟩
        refine ev_if_ne 32 35 dX8_times_29 rfl rfl it_r (fun c29 => ?_) (fun c29 => ?_)
        · have d29 := it_1.mp c29
          refine ev_aload_n 36 dX8_times_35 rfl rfl ?_
          refine ev_getR 39 fX8_43 rfl dX8_times_36 rfl rfl rfl ?_
          refine ev_getI 42 2 fX8_91 rfl dX8_times_39 rfl rfl rfl (by decide) rfl ?_
          refine ev_bipush 44 dX8_times_42 rfl (by decide +kernel) ?_
          refine ev_icmp_lt 47 50 dX8_times_44 rfl rfl (by omega) (by omega) (fun c44 => ?_) (fun c44 => ?_)
          · refine ev_aload_n 51 dX8_times_50 rfl rfl ?_
            refine ev_getR 54 fX8_43 rfl dX8_times_51 rfl rfl rfl ?_
            refine ev_iload_n 55 dX8_times_54 rfl rfl ?_
            refine ev_iload_n 56 dX8_times_55 rfl rfl ?_
            refine cVv2 59 kX8_times_208 dX8_times_56 rfl rfl rfl rfl rfl (by decide) rfl (Nat.le_of_ble_eq_true rfl) (c_note (by omega)) ?_
            rintro _ rfl
            refine ev_aload_n 60 dX8_times_59 rfl rfl ?_
            refine ev_getR 63 fX8_43 rfl dX8_times_60 rfl rfl rfl ?_
            refine ev_getI' 66 2 (h 8 2 + 1) fX8_91 rfl dX8_times_63 rfl rfl rfl (by decide) rfl rfl ?_
            exact ev_iret rfl dX8_times_66 (Or.inr (Or.inr (Or.inr ⟨⟨d5, by omega⟩, d29, by omega, rfl, rfl⟩)))
          · refine ev_bipush 49 dX8_times_47 rfl (by decide +kernel) ?_
            exact ev_iret rfl dX8_times_49 (Or.inr (Or.inr (Or.inl ⟨⟨d5, by omega⟩, d29, by omega, rfl, rfl⟩)))
        · have d29 := it_0.mp c29
          refine ev_bipush 34 dX8_times_32 rfl (by decide +kernel) ?_
          exact ev_iret rfl dX8_times_34 (Or.inr (Or.inl ⟨⟨d5, by omega⟩, d29, rfl, rfl⟩))
      · refine ev_iconst 21 dX8_times_20 rfl ?_
        exact ev_iret rfl dX8_times_21 (Or.inl ⟨by omega, rfl, rfl⟩)
theorem c_time (hc : R32 c) (hb : CHp h) : Ev shC mX8_time 0 [some (vr 0), some (vi c)] [] h (RI fun x h' => x = (if 0 ≤ c ∧ c < h 2 5 then (if 0 < h 2 4 ∧ 0 < h 2 5 then (raceK h 21 0 (h 2 5)).2.2.1 c else -2) else -1) ∧ PsC h h') := by
  have hn := hb.1
  have hl := hb.2.1
  refine ev_aload_n 1 dX8_time_0 rfl rfl ?_
  refine ev_iload_n 2 dX8_time_1 rfl rfl ?_
  refine cVi1 5 kX8_time_96 dX8_time_2 rfl rfl rfl rfl rfl (by decide) rfl (Nat.le_of_ble_eq_true rfl) (c_isChair hc hn) ?_
  rintro x _ ⟨rfl, rfl⟩
  refine ev_if_ne 8 10 dX8_time_5 rfl rfl it_r (fun c5 => ?_) (fun c5 => ?_)
  · have d5 := it_1.mp c5
    rw [if_pos d5]
    refine ev_aload_n 11 dX8_time_10 rfl rfl ?_
    refine ev_getR 14 fX8_64 rfl dX8_time_11 rfl rfl rfl ?_
    refine cVi0 17 kX8_time_136 dX8_time_14 rfl rfl rfl rfl rfl (by decide) rfl (Nat.le_of_ble_eq_true rfl) (c_hasRace (by omega) (by omega)) ?_
    rintro x _ ⟨rfl, rfl⟩
    refine ev_if_ne 20 23 dX8_time_17 rfl rfl it_r (fun c17 => ?_) (fun c17 => ?_)
    · have d17 := it_1.mp c17
      rw [if_pos d17]
      refine ev_aload_n 24 dX8_time_23 rfl rfl ?_
      refine ev_getR 27 fX8_57 rfl dX8_time_24 rfl rfl rfl ?_
      refine ev_iload_n 28 dX8_time_27 rfl rfl ?_
      refine cVi1 31 kX8_time_173 dX8_time_28 rfl rfl rfl rfl rfl (by decide) rfl (Nat.le_of_ble_eq_true rfl) (c_timeOf (hb.W d17) hb.2.2.2.2.1 d5) ?_
      rintro x H ⟨rfl, p⟩
      exact ev_iret rfl dX8_time_31 (⟨rfl, p⟩)
    · have d17 := it_0.mp c17
      rw [if_neg d17]
      refine ev_bipush 22 dX8_time_20 rfl (by decide +kernel) ?_
      exact ev_iret rfl dX8_time_22 (⟨rfl, PsC.rf⟩)
  · have d5 := it_0.mp c5
    rw [if_neg d5]
    refine ev_iconst 9 dX8_time_8 rfl ?_
    exact ev_iret rfl dX8_time_9 (⟨rfl, PsC.rf⟩)
theorem c_place (hc : R32 c) (hb : CHp h) : Ev shC mX8_place 0 [some (vr 0), some (vi c)] [] h (RI fun x h' => x = (if 0 ≤ c ∧ c < h 2 5 then (if 0 < h 2 4 ∧ 0 < h 2 5 then (raceK h 21 0 (h 2 5)).2.2.2.1 c else -2) else -1) ∧ PsC h h') := by
  have hn := hb.1
  have hl := hb.2.1
  refine ev_aload_n 1 dX8_place_0 rfl rfl ?_
  refine ev_iload_n 2 dX8_place_1 rfl rfl ?_
  refine cVi1 5 kX8_place_96 dX8_place_2 rfl rfl rfl rfl rfl (by decide) rfl (Nat.le_of_ble_eq_true rfl) (c_isChair hc hn) ?_
  rintro x _ ⟨rfl, rfl⟩
  refine ev_if_ne 8 10 dX8_place_5 rfl rfl it_r (fun c5 => ?_) (fun c5 => ?_)
  · have d5 := it_1.mp c5
    rw [if_pos d5]
    refine ev_aload_n 11 dX8_place_10 rfl rfl ?_
    refine ev_getR 14 fX8_64 rfl dX8_place_11 rfl rfl rfl ?_
    refine cVi0 17 kX8_place_136 dX8_place_14 rfl rfl rfl rfl rfl (by decide) rfl (Nat.le_of_ble_eq_true rfl) (c_hasRace (by omega) (by omega)) ?_
    rintro x _ ⟨rfl, rfl⟩
    refine ev_if_ne 20 23 dX8_place_17 rfl rfl it_r (fun c17 => ?_) (fun c17 => ?_)
    · have d17 := it_1.mp c17
      rw [if_pos d17]
      refine ev_aload_n 24 dX8_place_23 rfl rfl ?_
      refine ev_getR 27 fX8_57 rfl dX8_place_24 rfl rfl rfl ?_
      refine ev_iload_n 28 dX8_place_27 rfl rfl ?_
      refine cVi1 31 kX8_place_176 dX8_place_28 rfl rfl rfl rfl rfl (by decide) rfl (Nat.le_of_ble_eq_true rfl) (c_placed (hb.W d17) hb.2.2.2.2.1 d5) ?_
      rintro x H ⟨rfl, p⟩
      exact ev_iret rfl dX8_place_31 (⟨rfl, p⟩)
    · have d17 := it_0.mp c17
      rw [if_neg d17]
      refine ev_bipush 22 dX8_place_20 rfl (by decide +kernel) ?_
      exact ev_iret rfl dX8_place_22 (⟨rfl, PsC.rf⟩)
  · have d5 := it_0.mp c5
    rw [if_neg d5]
    refine ev_iconst 9 dX8_place_8 rfl ?_
    exact ev_iret rfl dX8_place_9 (⟨rfl, PsC.rf⟩)
theorem c_alone (hc : R32 c) (hb : CHp h) : Ev shC mX8_alone 0 [some (vr 0), some (vi c)] [] h (RI fun x h' => x = (if 0 ≤ c ∧ c < h 2 5 then (if 0 < h 2 4 ∧ 0 < h 2 5 then cAl h c (h 23 c) else -2) else -1) ∧ h = h') := by
  have hn := hb.1
  have hl := hb.2.1
  have hL := hb.L
  refine ev_aload_n 1 dX8_alone_0 rfl rfl ?_
  refine ev_iload_n 2 dX8_alone_1 rfl rfl ?_
  refine cVi1 5 kX8_alone_96 dX8_alone_2 rfl rfl rfl rfl rfl (by decide) rfl (Nat.le_of_ble_eq_true rfl) (c_isChair hc hn) ?_
  rintro x _ ⟨rfl, rfl⟩
  refine ev_if_ne 8 10 dX8_alone_5 rfl rfl it_r (fun c5 => ?_) (fun c5 => ?_)
  · have d5 := it_1.mp c5
    rw [if_pos d5]
    have hz := (hb.2.2.2.1 c d5.1 d5.2).2.2.2
    refine ev_aload_n 11 dX8_alone_10 rfl rfl ?_
    refine ev_getR 14 fX8_64 rfl dX8_alone_11 rfl rfl rfl ?_
    refine cVi0 17 kX8_alone_136 dX8_alone_14 rfl rfl rfl rfl rfl (by decide) rfl (Nat.le_of_ble_eq_true rfl) (c_hasRace (by omega) (by omega)) ?_
    rintro x _ ⟨rfl, rfl⟩
    refine ev_if_ne 20 23 dX8_alone_17 rfl rfl it_r (fun c17 => ?_) (fun c17 => ?_)
    · have d17 := it_1.mp c17
      rw [if_pos d17]
      refine ev_aload_n 24 dX8_alone_23 rfl rfl ?_
      refine ev_getR 27 fX8_68 rfl dX8_alone_24 rfl rfl rfl ?_
      refine ev_aload_n 28 dX8_alone_27 rfl rfl ?_
      refine ev_getR 31 fX8_64 rfl dX8_alone_28 rfl rfl rfl ?_
      refine ev_iload_n 32 dX8_alone_31 rfl rfl ?_
      refine ev_aload_n 33 dX8_alone_32 rfl rfl ?_
      refine ev_getR 36 fX8_68 rfl dX8_alone_33 rfl rfl rfl ?_
      refine ev_getR 39 fX8_113 rfl dX8_alone_36 rfl rfl rfl ?_
      refine ev_iload_n 40 dX8_alone_39 rfl rfl ?_
      refine ev_zald 41 dX8_alone_40 rfl rfl (by decide) (by omega) ?_
      refine cVi3 44 kX8_alone_179 dX8_alone_41 rfl rfl rfl rfl rfl (by decide) rfl (Nat.le_of_ble_eq_true rfl) (c_aloneOf hn hb.2.2.2.1 hb.2.2.2.2.1 d5 (by omega) (by omega)) ?_
      rintro x _ ⟨rfl, rfl⟩
      exact ev_iret rfl dX8_alone_44 (⟨rfl, rfl⟩)
    · have d17 := it_0.mp c17
      rw [if_neg d17]
      refine ev_bipush 22 dX8_alone_20 rfl (by decide +kernel) ?_
      exact ev_iret rfl dX8_alone_22 (⟨rfl, rfl⟩)
  · have d5 := it_0.mp c5
    rw [if_neg d5]
    refine ev_iconst 9 dX8_alone_8 rfl ?_
    exact ev_iret rfl dX8_alone_9 (⟨rfl, rfl⟩)
theorem c_rate {k : Int} (hk : R32 k) (hc : R32 c) (hb : CHp h) : Ev shC mX8_rate 0 [some (vr 0), some (vi k), some (vi c)] [] h (RI fun x h' => (¬ ((0 ≤ k ∧ k ≤ 5) ∧ 0 ≤ c ∧ c < h 2 5) ∧ x = -1000000 ∧ h = h') ∨ (((0 ≤ k ∧ k ≤ 5) ∧ 0 ≤ c ∧ c < h 2 5) ∧ x = (if k = 1 then h 14 c + h 22 c else if k = 2 then h 14 c - cG h c (h 23 c) else if k = 3 then 2 * (h 14 c + h 22 c) else if k = 4 then h 14 c - cG h c (h 23 c) + c else if k = 5 then h 14 c + h 4 4 else h 14 c) ∧ h' = mk h (trM k))) := by
  have hn := hb.1
  refine ev_aload_n 1 dX8_rate_0 rfl rfl ?_
  refine ev_iload_n 2 dX8_rate_1 rfl rfl ?_
  refine cVi1 5 kX8_rate_96 dX8_rate_2 rfl rfl rfl rfl rfl (by decide) rfl (Nat.le_of_ble_eq_true rfl) (c_isChair hc hn) ?_
  rintro x _ ⟨rfl, rfl⟩
  refine ev_if_ne 8 11 dX8_rate_5 rfl rfl it_r (fun c5 => ?_) (fun c5 => ?_)
  · have d5 := it_1.mp c5
    refine ev_iload_n 12 dX8_rate_11 rfl rfl ?_
    by_cases w12 : k < 0 ∨ 5 < k
    · refine ev_tswOut 150 dX8_rate_12 (by omega) w12 rfl ?_
      refine ev_ldc 152 (-1000000) qX8_211 (by decide +kernel) dX8_rate_150 rfl ?_
      exact ev_iret rfl dX8_rate_152 (Or.inl ⟨by omega, rfl, rfl⟩)
    have w12 : k = 0 ∨ k = 1 ∨ k = 2 ∨ k = 3 ∨ k = 4 ∨ k = 5 := by omega
    rcases w12 with w12 | w12 | w12 | w12 | w12 | w12
    · rw [w12]
      refine ev_tswIn 52 dX8_rate_12 ⟨by decide, by decide⟩ (by decide) (by decide) rfl rfl ?_
      refine ev_aload_n 53 dX8_rate_52 rfl rfl ?_
      refine ev_getR 56 fX8_50 rfl dX8_rate_53 rfl rfl rfl ?_
      refine ev_aload_n 57 dX8_rate_56 rfl rfl ?_
      refine ev_getR 60 fX8_64 rfl dX8_rate_57 rfl rfl rfl ?_
      refine ev_iload_n 61 dX8_rate_60 rfl rfl ?_
      refine cVi2 64 kX8_rate_212 dX8_rate_61 rfl rfl rfl rfl rfl (by decide) rfl (Nat.le_of_ble_eq_true rfl) (c_asChair (by omega)) ?_
      rintro x _ ⟨rfl, rfl⟩
      exact ev_iret rfl dX8_rate_64 (Or.inr ⟨⟨by decide, d5⟩, rfl, rfl⟩)
    · rw [w12]
      refine ev_tswIn 65 dX8_rate_12 ⟨by decide, by decide⟩ (by decide) (by decide) rfl rfl ?_
      refine ev_aload_n 66 dX8_rate_65 rfl rfl ?_
      refine ev_getR 69 fX8_50 rfl dX8_rate_66 rfl rfl rfl ?_
      refine ev_aload_n 70 dX8_rate_69 rfl rfl ?_
      refine ev_getR 73 fX8_64 rfl dX8_rate_70 rfl rfl rfl ?_
      refine ev_aload_n 74 dX8_rate_73 rfl rfl ?_
      refine ev_getR 77 fX8_68 rfl dX8_rate_74 rfl rfl rfl ?_
      refine ev_iload_n 78 dX8_rate_77 rfl rfl ?_
      refine cVi3 81 kX8_rate_215 dX8_rate_78 rfl rfl rfl rfl rfl (by decide) rfl (Nat.le_of_ble_eq_true rfl) (c_asWidow (by omega)) ?_
      rintro x _ ⟨rfl, rfl⟩
      exact ev_iret rfl dX8_rate_81 (Or.inr ⟨⟨by decide, d5⟩, rfl, rfl⟩)
    · rw [w12]
      refine ev_tswIn 82 dX8_rate_12 ⟨by decide, by decide⟩ (by decide) (by decide) rfl rfl ?_
      refine ev_aload_n 83 dX8_rate_82 rfl rfl ?_
      refine ev_getR 86 fX8_50 rfl dX8_rate_83 rfl rfl rfl ?_
      refine ev_aload_n 87 dX8_rate_86 rfl rfl ?_
      refine ev_getR 90 fX8_64 rfl dX8_rate_87 rfl rfl rfl ?_
      refine ev_aload_n 91 dX8_rate_90 rfl rfl ?_
      refine ev_getR 94 fX8_68 rfl dX8_rate_91 rfl rfl rfl ?_
      refine ev_iload_n 95 dX8_rate_94 rfl rfl ?_
      refine cVi3 98 kX8_rate_219 dX8_rate_95 rfl rfl rfl rfl rfl (by decide) rfl (Nat.le_of_ble_eq_true rfl) (c_asAunt hn hb.2.2.2.1 hb.2.2.2.2.1 d5) ?_
      rintro x _ ⟨rfl, rfl⟩
      exact ev_iret rfl dX8_rate_98 (Or.inr ⟨⟨by decide, d5⟩, rfl, rfl⟩)
    · rw [w12]
      refine ev_tswIn 99 dX8_rate_12 ⟨by decide, by decide⟩ (by decide) (by decide) rfl rfl ?_
      refine ev_aload_n 100 dX8_rate_99 rfl rfl ?_
      refine ev_getR 103 fX8_50 rfl dX8_rate_100 rfl rfl rfl ?_
      refine ev_aload_n 104 dX8_rate_103 rfl rfl ?_
      refine ev_getR 107 fX8_64 rfl dX8_rate_104 rfl rfl rfl ?_
      refine ev_aload_n 108 dX8_rate_107 rfl rfl ?_
      refine ev_getR 111 fX8_68 rfl dX8_rate_108 rfl rfl rfl ?_
      refine ev_iload_n 112 dX8_rate_111 rfl rfl ?_
      refine cVi3 115 kX8_rate_222 dX8_rate_112 rfl rfl rfl rfl rfl (by decide) rfl (Nat.le_of_ble_eq_true rfl) (c_asPug (by omega)) ?_
      rintro x _ ⟨rfl, rfl⟩
      exact ev_iret rfl dX8_rate_115 (Or.inr ⟨⟨by decide, d5⟩, rfl, rfl⟩)
    · rw [w12]
      refine ev_tswIn 116 dX8_rate_12 ⟨by decide, by decide⟩ (by decide) (by decide) rfl rfl ?_
      refine ev_aload_n 117 dX8_rate_116 rfl rfl ?_
      refine ev_getR 120 fX8_50 rfl dX8_rate_117 rfl rfl rfl ?_
      refine ev_aload_n 121 dX8_rate_120 rfl rfl ?_
      refine ev_getR 124 fX8_64 rfl dX8_rate_121 rfl rfl rfl ?_
      refine ev_aload_n 125 dX8_rate_124 rfl rfl ?_
      refine ev_getR 128 fX8_68 rfl dX8_rate_125 rfl rfl rfl ?_
      refine ev_iload_n 129 dX8_rate_128 rfl rfl ?_
      refine cVi3 132 kX8_rate_225 dX8_rate_129 rfl rfl rfl rfl rfl (by decide) rfl (Nat.le_of_ble_eq_true rfl) (c_asVeil hn hb.2.2.2.1 hb.2.2.2.2.1 d5) ?_
      rintro x _ ⟨rfl, rfl⟩
      exact ev_iret rfl dX8_rate_132 (Or.inr ⟨⟨by decide, d5⟩, rfl, rfl⟩)
    · rw [w12]
      refine ev_tswIn 133 dX8_rate_12 ⟨by decide, by decide⟩ (by decide) (by decide) rfl rfl ?_
      refine ev_aload_n 134 dX8_rate_133 rfl rfl ?_
      refine ev_getR 137 fX8_50 rfl dX8_rate_134 rfl rfl rfl ?_
      refine ev_aload_n 138 dX8_rate_137 rfl rfl ?_
      refine ev_getR 141 fX8_64 rfl dX8_rate_138 rfl rfl rfl ?_
      refine ev_aload_n 142 dX8_rate_141 rfl rfl ?_
      refine ev_getR 145 fX8_68 rfl dX8_rate_142 rfl rfl rfl ?_
      refine ev_iload_n 146 dX8_rate_145 rfl rfl ?_
      refine cVi3 149 kX8_rate_228 dX8_rate_146 rfl rfl rfl rfl rfl (by decide) rfl (Nat.le_of_ble_eq_true rfl) (c_asInfant (by omega)) ?_
      rintro x _ ⟨rfl, rfl⟩
      exact ev_iret rfl dX8_rate_149 (Or.inr ⟨⟨by decide, d5⟩, rfl, rfl⟩)
  · have d5 := it_0.mp c5
    refine ev_ldc 10 (-1000000) qX8_211 (by decide +kernel) dX8_rate_8 rfl ?_
    exact ev_iret rfl dX8_rate_10 (Or.inl ⟨by omega, rfl, rfl⟩)
theorem c_odds {x w : Int} (hc : R32 c) (hx : R32 x) (hw : R32 w) (hb : CHp h) : Ev shC mX8_odds 0 [some (vr 0), some (vi c), some (vi x), some (vi w), none, none, none] [] h (RI fun r h' => PsC h h' ∧ ((¬ ((0 ≤ c ∧ c < h 2 5) ∧ (0 ≤ x ∧ x ≤ 10) ∧ 0 ≤ w ∧ w ≤ 1) ∧ r = -1) ∨ (((0 ≤ c ∧ c < h 2 5) ∧ (0 ≤ x ∧ x ≤ 10) ∧ 0 ≤ w ∧ w ≤ 1) ∧ ¬ (0 < h 2 4 ∧ 0 < h 2 5) ∧ r = -2) ∨ (((0 ≤ c ∧ c < h 2 5) ∧ (0 ≤ x ∧ x ≤ 10) ∧ 0 ≤ w ∧ w ≤ 1) ∧ (0 < h 2 4 ∧ 0 < h 2 5) ∧ r = (if w = 0 then oddF (h 2 5) (winK h 21) c x (2 ^ (h 2 5).toNat) else pw 10 (h 2 5).toNat) / ((Nat.gcd (pw 10 (h 2 5).toNat).toNat (oddF (h 2 5) (winK h 21) c x (2 ^ (h 2 5).toNat)).toNat : Nat) : Int)))) := by
  have hn := hb.1
  have hl := hb.2.1
  refine ev_aload_n 1 dX8_odds_0 rfl rfl ?_
  refine ev_iload_n 2 dX8_odds_1 rfl rfl ?_
  refine cVi1 5 kX8_odds_96 dX8_odds_2 rfl rfl rfl rfl rfl (by decide) rfl (Nat.le_of_ble_eq_true rfl) (c_isChair hc hn) ?_
  rintro x _ ⟨rfl, rfl⟩
  refine ev_if_eq 8 27 dX8_odds_5 rfl rfl it_r (fun c5 => ?_) (fun c5 => ?_)
  · have d5 := it_0.mp c5
    refine ev_iconst 28 dX8_odds_27 rfl ?_
    exact ev_iret rfl dX8_odds_28 (⟨PsC.rf, Or.inl ⟨by omega, rfl⟩⟩)
  · have d5 := it_1.mp c5
    refine ev_iload_n 9 dX8_odds_8 rfl rfl ?_
    refine ev_if_lt 12 27 dX8_odds_9 rfl rfl (by omega) (fun c9 => ?_) (fun c9 => ?_)
    · refine ev_iconst 28 dX8_odds_27 rfl ?_
      exact ev_iret rfl dX8_odds_28 (⟨PsC.rf, Or.inl ⟨by omega, rfl⟩⟩)
    · refine ev_iload_n 13 dX8_odds_12 rfl rfl ?_
      refine ev_bipush 15 dX8_odds_13 rfl (by decide +kernel) ?_
      refine ev_icmp_gt 18 27 dX8_odds_15 rfl rfl (by omega) (by omega) (fun c15 => ?_) (fun c15 => ?_)
      · refine ev_iconst 28 dX8_odds_27 rfl ?_
        exact ev_iret rfl dX8_odds_28 (⟨PsC.rf, Or.inl ⟨by omega, rfl⟩⟩)
      · refine ev_iload_n 19 dX8_odds_18 rfl rfl ?_
        refine ev_if_lt 22 27 dX8_odds_19 rfl rfl (by omega) (fun c19 => ?_) (fun c19 => ?_)
        · refine ev_iconst 28 dX8_odds_27 rfl ?_
          exact ev_iret rfl dX8_odds_28 (⟨PsC.rf, Or.inl ⟨by omega, rfl⟩⟩)
        · refine ev_iload_n 23 dX8_odds_22 rfl rfl ?_
          refine ev_iconst 24 dX8_odds_23 rfl ?_
          refine ev_icmp_le 27 29 dX8_odds_24 rfl rfl (by omega) (by omega) (fun c24 => ?_) (fun c24 => ?_)
          · refine ev_aload_n 30 dX8_odds_29 rfl rfl ?_
            refine ev_getR 33 fX8_64 rfl dX8_odds_30 rfl rfl rfl ?_
            refine cVi0 36 kX8_odds_136 dX8_odds_33 rfl rfl rfl rfl rfl (by decide) rfl (Nat.le_of_ble_eq_true rfl) (c_hasRace (by omega) (by omega)) ?_
            rintro y _ ⟨rfl, rfl⟩
            refine ev_if_ne 39 42 dX8_odds_36 rfl rfl it_r (fun c36 => ?_) (fun c36 => ?_)
            · have d36 := it_1.mp c36
              refine ev_aload_n 43 dX8_odds_42 rfl rfl ?_
              refine ev_getR 46 fX8_57 rfl dX8_odds_43 rfl rfl rfl ?_
              refine ev_iload_n 47 dX8_odds_46 rfl rfl ?_
              refine ev_iload_n 48 dX8_odds_47 rfl rfl ?_
              refine cVi2 51 kX8_odds_199 dX8_odds_48 rfl rfl rfl rfl rfl (by decide) rfl (Nat.le_of_ble_eq_true rfl) (c_winsIn (hb.W d36) hb.2.2.2.2.1 d5 (by omega)) ?_
              rintro y H ⟨rfl, p⟩
              have e2 : H 2 = h 2 := p.1 2 rfl
              have hpb : (2 ^ (h 2 5).toNat : Nat) ≤ 32 ∧ 1 ≤ pw 10 (h 2 5).toNat ∧ pw 10 (h 2 5).toNat ≤ 100000 := by
                have : h 2 5 = 1 ∨ h 2 5 = 2 ∨ h 2 5 = 3 ∨ h 2 5 = 4 ∨ h 2 5 = 5 := by omega
                rcases this with e | e | e | e | e <;> rw [e] <;> decide
              have ho := oddF_r (n := h 2 5) (win := winK h 21) (c := c) (x := x) (by omega) hn (2 ^ (h 2 5).toNat)
              have hg : 0 < Nat.gcd (pw 10 (h 2 5).toNat).toNat (oddF (h 2 5) (winK h 21) c x (2 ^ (h 2 5).toNat)).toNat := Nat.gcd_pos_of_pos_left _ (by omega)
              have hg2 : Nat.gcd (pw 10 (h 2 5).toNat).toNat (oddF (h 2 5) (winK h 21) c x (2 ^ (h 2 5).toNat)).toNat ≤ (pw 10 (h 2 5).toNat).toNat := Nat.gcd_le_left _ (by omega)
              generalize hO : oddF (h 2 5) (winK h 21) c x (2 ^ (h 2 5).toNat) = O at *
              have hO2 : 0 ≤ O ∧ O ≤ 3200000 := by omega
              refine ev_istore 53 dX8_odds_51 rfl (Nat.le_of_ble_eq_true rfl) ?_
              refine ev_aload_n 54 dX8_odds_53 rfl rfl ?_
              refine ev_getR 57 fX8_57 rfl dX8_odds_54 rfl rfl rfl ?_
              refine cVi0 60 kX8_odds_202 dX8_odds_57 rfl rfl rfl rfl rfl (by decide) rfl (Nat.le_of_ble_eq_true rfl) (c_allIn (h := H) (by rw [e2]; exact hn)) ?_
              rintro y _ ⟨e57, rfl⟩
              rw [e2] at e57
              rw [e57]
              refine ev_istore 62 dX8_odds_60 rfl (Nat.le_of_ble_eq_true rfl) ?_
              refine ev_iload 64 dX8_odds_62 rfl rfl ?_
              refine ev_iload 66 dX8_odds_64 rfl rfl ?_
              refine cSi2 69 kX8_odds_205 dX8_odds_66 rfl rfl (by decide) rfl (Nat.le_of_ble_eq_true rfl) (c_commonDivisor (by omega) (by omega)) ?_
              rintro y _ ⟨rfl, rfl⟩
              refine ev_istore 71 dX8_odds_69 rfl (Nat.le_of_ble_eq_true rfl) ?_
              refine ev_iload 73 dX8_odds_71 rfl rfl ?_
              refine ev_iconst 74 dX8_odds_73 rfl ?_
              refine ev_icmp_ge 77 80 dX8_odds_74 rfl rfl (by omega) (by omega) (fun c74 => ?_) (fun c74 => ?_)
              · refine ev_iload_n 81 dX8_odds_80 rfl rfl ?_
                refine ev_if_ne 84 89 dX8_odds_81 rfl rfl (by omega) (fun c81 => ?_) (fun c81 => ?_)
                · rw [if_neg c81]
                  refine ev_iload 91 dX8_odds_89 rfl rfl ?_
                  refine ev_iload 93 dX8_odds_91 rfl rfl ?_
                  refine ev_idiv 94 dX8_odds_93 rfl (by omega) (by omega) ?_
                  exact ev_iret rfl dX8_odds_94 (⟨p, Or.inr (Or.inr ⟨⟨d5, by omega, by omega⟩, d36, rfl⟩)⟩)
                · rw [if_pos c81]
                  refine ev_iload 86 dX8_odds_84 rfl rfl ?_
                  refine ev_goto 91 dX8_odds_86 rfl ?_
                  refine ev_iload 93 dX8_odds_91 rfl rfl ?_
                  refine ev_idiv 94 dX8_odds_93 rfl (by omega) (by omega) ?_
                  exact ev_iret rfl dX8_odds_94 (⟨p, Or.inr (Or.inr ⟨⟨d5, by omega, by omega⟩, d36, rfl⟩)⟩)
              · omega --done
            · have d36 := it_0.mp c36
              refine ev_bipush 41 dX8_odds_39 rfl (by decide +kernel) ?_
              exact ev_iret rfl dX8_odds_41 (⟨PsC.rf, Or.inr (Or.inl ⟨⟨d5, by omega, by omega⟩, d36, rfl⟩)⟩)
          · refine ev_iconst 28 dX8_odds_27 rfl ?_
            exact ev_iret rfl dX8_odds_28 (⟨PsC.rf, Or.inl ⟨by omega, rfl⟩⟩)
end CP2
