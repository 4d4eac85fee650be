def keep5 (h : Hp) : Hp := hput (dayB54 h) 5 (up (up (h 5) 4 (h 4 4)) 5 1)
def keep6 (h : Hp) : Hp := hput (dayB64 h) 6 (up (up (h 6) 4 (h 4 4)) 5 1)
def back5 (h : Hp) : Hp := hput (dayB45 h) 7 (up (h 7) 3 0)
def back6 (h : Hp) : Hp := hput (dayB46 h) 7 (up (h 7) 3 0)
/-- what the class answers to now -/
def nowQ (h : Hp) (w x : Int) : Prop := if w = 0 then x = h 4 4 else if w = 1 then x = (if 0 < h 2 4 ∧ 0 < h 2 5 then winK h 21 0 else -9) else if w = 2 then ((0 < h 2 4 ∧ 0 < h 2 5) → (0 ≤ x ∧ x < 32) ∧ ∀ d, 0 ≤ d → d < 5 → bit x d = b2i (wonB h (CL (h 2 5)) d)) ∧ (¬ (0 < h 2 4 ∧ 0 < h 2 5) → x = 0) else if w = 3 then x = (if h 4 4 = 0 then -9 else rmF (rsum (h 2 5) (h 15) (h 24)) 3) else if w = 4 ∨ w = 5 then ((0 < h 2 4 ∧ 0 < h 2 5) → (0 ≤ x ∧ x < 32) ∧ ∀ d, 0 ≤ d → d < 5 → bit x d = b2i (decide (d < h 2 5) && susC h (5 - w) d)) ∧ (¬ (0 < h 2 4 ∧ 0 < h 2 5) → x = 0) else if w = 6 then x = h 7 3 else x = -1
/-- what a text that stands makes of the heap -/
def spN (H : Hp) : Hp := hq (dayS (spB H)) [(7, up (H 7) 3 0), (8, up (H 8) 2 0), (5, up (H 5) 5 0), (6, up (H 6) 5 0), (1, up (H 1) 1 0)]
section CP4
variable {h : Hp} {i : Int}
theorem c_keep (hi : R32 i) (hz : ∀ c, 0 ≤ c → c < 5 → h 23 c = 0 ∨ h 23 c = 1) : Ev shC mX8_keep 0 [some (vr 0), some (vi i), none] [] h (RI fun x h' => (¬ (0 ≤ i ∧ i ≤ 1) ∧ x = -1 ∧ h = h') ∨ (i = 0 ∧ x = h 4 4 ∧ h' = keep5 h) ∨ (i = 1 ∧ x = h 4 4 ∧ h' = keep6 h)) := by
  by_cases i0 : i = 0
  · subst i0
    refine ev_iload_n 1 dX8_keep_0 rfl rfl ?_
    refine ev_if_lt 4 9 dX8_keep_1 rfl rfl (by omega) (fun c1 => ?_) (fun c1 => ?_)
    · omega --done
    · refine ev_iload_n 5 dX8_keep_4 rfl rfl ?_
      refine ev_iconst 6 dX8_keep_5 rfl ?_
      refine ev_icmp_le 9 11 dX8_keep_6 rfl rfl (by omega) (by omega) (fun c6 => ?_) (fun c6 => ?_)
      · refine ev_aload_n 12 dX8_keep_11 rfl rfl ?_
        refine ev_iload_n 13 dX8_keep_12 rfl rfl ?_
        refine cVr1 16 kX8_keep_231 dX8_keep_13 rfl rfl rfl rfl rfl (by decide) rfl (Nat.le_of_ble_eq_true rfl) (c_imageOf0) ?_
        rintro x _ ⟨rfl, rfl⟩
        refine ev_astore_n 17 dX8_keep_16 rfl (Nat.le_of_ble_eq_true rfl) ?_
        refine ev_aload_n 18 dX8_keep_17 rfl rfl ?_
        refine ev_aload_n 19 dX8_keep_18 rfl rfl ?_
        refine ev_getR 22 fX8_68 rfl dX8_keep_19 rfl rfl rfl ?_
        refine cVv1 25 kX8_keep_235 dX8_keep_22 rfl rfl rfl rfl rfl (by decide) rfl (Nat.le_of_ble_eq_true rfl) (c_become54 hz) ?_
        rintro _ rfl
        refine ev_aload_n 26 dX8_keep_25 rfl rfl ?_
        refine ev_iconst 27 dX8_keep_26 rfl ?_
        refine ev_putZ' 30 5 (keep5 h) pX8_92 rfl dX8_keep_27 rfl rfl rfl (by omega) rfl rfl ?_
        refine ev_aload_n 31 dX8_keep_30 rfl rfl ?_
        refine ev_getR 34 fX8_68 rfl dX8_keep_31 rfl rfl rfl ?_
        refine ev_getI' 37 4 (h 4 4) fX8_133 rfl dX8_keep_34 rfl rfl rfl (by decide) rfl rfl ?_
        exact ev_iret rfl dX8_keep_37 (Or.inr (Or.inl ⟨rfl, rfl, rfl⟩))
      · omega --done
  · by_cases i1 : i = 1
    · subst i1
      refine ev_iload_n 1 dX8_keep_0 rfl rfl ?_
      refine ev_if_lt 4 9 dX8_keep_1 rfl rfl (by omega) (fun c1 => ?_) (fun c1 => ?_)
      · omega --done
      · refine ev_iload_n 5 dX8_keep_4 rfl rfl ?_
        refine ev_iconst 6 dX8_keep_5 rfl ?_
        refine ev_icmp_le 9 11 dX8_keep_6 rfl rfl (by omega) (by omega) (fun c6 => ?_) (fun c6 => ?_)
        · refine ev_aload_n 12 dX8_keep_11 rfl rfl ?_
          refine ev_iload_n 13 dX8_keep_12 rfl rfl ?_
          refine cVr1 16 kX8_keep_231 dX8_keep_13 rfl rfl rfl rfl rfl (by decide) rfl (Nat.le_of_ble_eq_true rfl) (c_imageOf1) ?_
          rintro x _ ⟨rfl, rfl⟩
          refine ev_astore_n 17 dX8_keep_16 rfl (Nat.le_of_ble_eq_true rfl) ?_
          refine ev_aload_n 18 dX8_keep_17 rfl rfl ?_
          refine ev_aload_n 19 dX8_keep_18 rfl rfl ?_
          refine ev_getR 22 fX8_68 rfl dX8_keep_19 rfl rfl rfl ?_
          refine cVv1 25 kX8_keep_235 dX8_keep_22 rfl rfl rfl rfl rfl (by decide) rfl (Nat.le_of_ble_eq_true rfl) (c_become64 hz) ?_
          rintro _ rfl
          refine ev_aload_n 26 dX8_keep_25 rfl rfl ?_
          refine ev_iconst 27 dX8_keep_26 rfl ?_
          refine ev_putZ' 30 5 (keep6 h) pX8_92 rfl dX8_keep_27 rfl rfl rfl (by omega) rfl rfl ?_
          refine ev_aload_n 31 dX8_keep_30 rfl rfl ?_
          refine ev_getR 34 fX8_68 rfl dX8_keep_31 rfl rfl rfl ?_
          refine ev_getI' 37 4 (h 4 4) fX8_133 rfl dX8_keep_34 rfl rfl rfl (by decide) rfl rfl ?_
          exact ev_iret rfl dX8_keep_37 (Or.inr (Or.inr ⟨rfl, rfl, rfl⟩))
        · omega --done
    · skip
      refine ev_iload_n 1 dX8_keep_0 rfl rfl ?_
      refine ev_if_lt 4 9 dX8_keep_1 rfl rfl (by omega) (fun c1 => ?_) (fun c1 => ?_)
      · refine ev_iconst 10 dX8_keep_9 rfl ?_
        exact ev_iret rfl dX8_keep_10 (Or.inl ⟨by omega, rfl, rfl⟩)
      · refine ev_iload_n 5 dX8_keep_4 rfl rfl ?_
        refine ev_iconst 6 dX8_keep_5 rfl ?_
        refine ev_icmp_le 9 11 dX8_keep_6 rfl rfl (by omega) (by omega) (fun c6 => ?_) (fun c6 => ?_)
        · omega --done
        · refine ev_iconst 10 dX8_keep_9 rfl ?_
          exact ev_iret rfl dX8_keep_10 (Or.inl ⟨by omega, rfl, rfl⟩)
theorem c_back (hi : R32 i) (hz5 : ∀ c, 0 ≤ c → c < 5 → h 27 c = 0 ∨ h 27 c = 1) (hz6 : ∀ c, 0 ≤ c → c < 5 → h 31 c = 0 ∨ h 31 c = 1) (k5 : h 5 5 = 0 ∨ h 5 5 = 1) (k6 : h 6 5 = 0 ∨ h 6 5 = 1) : Ev shC mX8_back 0 [some (vr 0), some (vi i), none] [] h (RI fun x h' => (¬ (0 ≤ i ∧ i ≤ 1) ∧ x = -1 ∧ h = h') ∨ (i = 0 ∧ h 5 5 = 0 ∧ x = -2 ∧ h = h') ∨ (i = 0 ∧ ¬ h 5 5 = 0 ∧ x = h 5 4 ∧ h' = back5 h) ∨ (i = 1 ∧ h 6 5 = 0 ∧ x = -2 ∧ h = h') ∨ (i = 1 ∧ ¬ h 6 5 = 0 ∧ x = h 6 4 ∧ h' = back6 h)) := by
  by_cases i0 : i = 0
  · subst i0
    refine ev_iload_n 1 dX8_back_0 rfl rfl ?_
    refine ev_if_lt 4 9 dX8_back_1 rfl rfl (by omega) (fun c1 => ?_) (fun c1 => ?_)
    · omega --done
    · refine ev_iload_n 5 dX8_back_4 rfl rfl ?_
      refine ev_iconst 6 dX8_back_5 rfl ?_
      refine ev_icmp_le 9 11 dX8_back_6 rfl rfl (by omega) (by omega) (fun c6 => ?_) (fun c6 => ?_)
      · refine ev_aload_n 12 dX8_back_11 rfl rfl ?_
        refine ev_iload_n 13 dX8_back_12 rfl rfl ?_
        refine cVr1 16 kX8_back_231 dX8_back_13 rfl rfl rfl rfl rfl (by decide) rfl (Nat.le_of_ble_eq_true rfl) (c_imageOf0) ?_
        rintro x _ ⟨rfl, rfl⟩
        refine ev_astore_n 17 dX8_back_16 rfl (Nat.le_of_ble_eq_true rfl) ?_
        refine ev_aload_n 18 dX8_back_17 rfl rfl ?_
        refine ev_getI 21 5 fX8_92 rfl dX8_back_18 rfl rfl rfl (by decide) rfl ?_
        refine ev_if_ne 24 27 dX8_back_21 rfl rfl (by omega) (fun c21 => ?_) (fun c21 => ?_)
        · refine ev_aload_n 28 dX8_back_27 rfl rfl ?_
          refine ev_getR 31 fX8_68 rfl dX8_back_28 rfl rfl rfl ?_
          refine ev_aload_n 32 dX8_back_31 rfl rfl ?_
          refine cVv1 35 kX8_back_235 dX8_back_32 rfl rfl rfl rfl rfl (by decide) rfl (Nat.le_of_ble_eq_true rfl) (c_become45 hz5) ?_
          rintro _ rfl
          refine ev_aload_n 36 dX8_back_35 rfl rfl ?_
          refine ev_getR 39 fX8_36 rfl dX8_back_36 rfl rfl rfl ?_
          refine ev_iconst 40 dX8_back_39 rfl ?_
          refine ev_putI' 43 3 (back5 h) pX8_88 rfl dX8_back_40 rfl rfl rfl rfl rfl ?_
          refine ev_aload_n 44 dX8_back_43 rfl rfl ?_
          refine ev_getR 47 fX8_68 rfl dX8_back_44 rfl rfl rfl ?_
          refine ev_getI' 50 4 (h 5 4) fX8_133 rfl dX8_back_47 rfl rfl rfl (by decide) rfl rfl ?_
          exact ev_iret rfl dX8_back_50 (Or.inr (Or.inr (Or.inl ⟨rfl, c21, rfl, rfl⟩)))
        · refine ev_bipush 26 dX8_back_24 rfl (by decide +kernel) ?_
          exact ev_iret rfl dX8_back_26 (Or.inr (Or.inl ⟨rfl, c21, rfl, rfl⟩))
      · omega --done
  · by_cases i1 : i = 1
    · subst i1
      refine ev_iload_n 1 dX8_back_0 rfl rfl ?_
      refine ev_if_lt 4 9 dX8_back_1 rfl rfl (by omega) (fun c1 => ?_) (fun c1 => ?_)
      · omega --done
      · refine ev_iload_n 5 dX8_back_4 rfl rfl ?_
        refine ev_iconst 6 dX8_back_5 rfl ?_
        refine ev_icmp_le 9 11 dX8_back_6 rfl rfl (by omega) (by omega) (fun c6 => ?_) (fun c6 => ?_)
        · refine ev_aload_n 12 dX8_back_11 rfl rfl ?_
          refine ev_iload_n 13 dX8_back_12 rfl rfl ?_
          refine cVr1 16 kX8_back_231 dX8_back_13 rfl rfl rfl rfl rfl (by decide) rfl (Nat.le_of_ble_eq_true rfl) (c_imageOf1) ?_
          rintro x _ ⟨rfl, rfl⟩
          refine ev_astore_n 17 dX8_back_16 rfl (Nat.le_of_ble_eq_true rfl) ?_
          refine ev_aload_n 18 dX8_back_17 rfl rfl ?_
          refine ev_getI 21 5 fX8_92 rfl dX8_back_18 rfl rfl rfl (by decide) rfl ?_
          refine ev_if_ne 24 27 dX8_back_21 rfl rfl (by omega) (fun c21 => ?_) (fun c21 => ?_)
          · refine ev_aload_n 28 dX8_back_27 rfl rfl ?_
            refine ev_getR 31 fX8_68 rfl dX8_back_28 rfl rfl rfl ?_
            refine ev_aload_n 32 dX8_back_31 rfl rfl ?_
            refine cVv1 35 kX8_back_235 dX8_back_32 rfl rfl rfl rfl rfl (by decide) rfl (Nat.le_of_ble_eq_true rfl) (c_become46 hz6) ?_
            rintro _ rfl
            refine ev_aload_n 36 dX8_back_35 rfl rfl ?_
            refine ev_getR 39 fX8_36 rfl dX8_back_36 rfl rfl rfl ?_
            refine ev_iconst 40 dX8_back_39 rfl ?_
            refine ev_putI' 43 3 (back6 h) pX8_88 rfl dX8_back_40 rfl rfl rfl rfl rfl ?_
            refine ev_aload_n 44 dX8_back_43 rfl rfl ?_
            refine ev_getR 47 fX8_68 rfl dX8_back_44 rfl rfl rfl ?_
            refine ev_getI' 50 4 (h 6 4) fX8_133 rfl dX8_back_47 rfl rfl rfl (by decide) rfl rfl ?_
            exact ev_iret rfl dX8_back_50 (Or.inr (Or.inr (Or.inr (Or.inr ⟨rfl, c21, rfl, rfl⟩))))
          · refine ev_bipush 26 dX8_back_24 rfl (by decide +kernel) ?_
            exact ev_iret rfl dX8_back_26 (Or.inr (Or.inr (Or.inr (Or.inl ⟨rfl, c21, rfl, rfl⟩))))
        · omega --done
    · skip
      refine ev_iload_n 1 dX8_back_0 rfl rfl ?_
      refine ev_if_lt 4 9 dX8_back_1 rfl rfl (by omega) (fun c1 => ?_) (fun c1 => ?_)
      · refine ev_iconst 10 dX8_back_9 rfl ?_
        exact ev_iret rfl dX8_back_10 (Or.inl ⟨by omega, rfl, rfl⟩)
      · refine ev_iload_n 5 dX8_back_4 rfl rfl ?_
        refine ev_iconst 6 dX8_back_5 rfl ?_
        refine ev_icmp_le 9 11 dX8_back_6 rfl rfl (by omega) (by omega) (fun c6 => ?_) (fun c6 => ?_)
        · omega --done
        · refine ev_iconst 10 dX8_back_9 rfl ?_
          exact ev_iret rfl dX8_back_10 (Or.inl ⟨by omega, rfl, rfl⟩)
theorem c_now {w : Int} (hw : R32 w) (hb : CHp h) (hm : 0 ≤ h 8 2 ∧ h 8 2 ≤ 6) (hr : ∀ k, 0 ≤ k → k < h 8 2 → R32 (h 36 k) ∧ R32 (h 37 k)) (hpol : ∀ c, 0 ≤ c → c < h 2 5 → R32 (h 15 c)) (hreg : ∀ c, 0 ≤ c → c < h 2 5 → 0 ≤ h 24 c ∧ h 24 c ≤ 1000) (hwk : R32 (h 4 4)) : Ev shC mX8_now 0 [some (vr 0), some (vi w)] [] h (RI fun x h' => PsC h h' ∧ nowQ h w x) := by
  have hn := hb.1
  have hl := hb.2.1
  have hL := hb.L
  refine ev_iload_n 1 dX8_now_0 rfl rfl ?_
  by_cases w1 : w < 0 ∨ 6 < w
  · refine ev_tswOut 179 dX8_now_1 (by omega) w1 rfl ?_
    refine ev_iconst 180 dX8_now_179 rfl ?_
    exact ev_iret rfl dX8_now_180 (⟨PsC.rf, by unfold nowQ; rw [if_neg (by omega), if_neg (by omega), if_neg (by omega), if_neg (by omega), if_neg (by omega), if_neg (by omega)]⟩)
  have w1 : w = 0 ∨ w = 1 ∨ w = 2 ∨ w = 3 ∨ w = 4 ∨ w = 5 ∨ w = 6 := by omega
  rcases w1 with w1 | w1 | w1 | w1 | w1 | w1 | w1
  · rw [w1]
    refine ev_tswIn 44 dX8_now_1 ⟨by decide, by decide⟩ (by decide) (by decide) rfl rfl ?_
    refine ev_aload_n 45 dX8_now_44 rfl rfl ?_
    refine ev_getR 48 fX8_68 rfl dX8_now_45 rfl rfl rfl ?_
    refine ev_getI 51 4 fX8_133 rfl dX8_now_48 rfl rfl rfl (by decide) rfl ?_
    exact ev_iret rfl dX8_now_51 (⟨PsC.rf, rfl⟩)
  · rw [w1]
    refine ev_tswIn 52 dX8_now_1 ⟨by decide, by decide⟩ (by decide) (by decide) rfl rfl ?_
    refine ev_aload_n 53 dX8_now_52 rfl rfl ?_
    refine ev_getR 56 fX8_64 rfl dX8_now_53 rfl rfl rfl ?_
    refine cVi0 59 kX8_now_136 dX8_now_56 rfl rfl rfl rfl rfl (by decide) rfl (Nat.le_of_ble_eq_true rfl) (c_hasRace (by omega) (by omega)) ?_
    rintro y _ ⟨rfl, rfl⟩
    refine ev_if_eq 62 72 dX8_now_59 rfl rfl it_r (fun c59 => ?_) (fun c59 => ?_)
    · have d := it_0.mp c59
      refine ev_bipush 74 dX8_now_72 rfl (by decide +kernel) ?_
      exact ev_iret rfl dX8_now_74 (by first | exact ⟨p, show _ = _ by rw [if_pos d]; exact e⟩ | exact ⟨PsC.rf, show _ = _ by rw [if_neg d]⟩)
    · have d := it_1.mp c59
      refine ev_aload_n 63 dX8_now_62 rfl rfl ?_
      refine ev_getR 66 fX8_57 rfl dX8_now_63 rfl rfl rfl ?_
      refine cVi0 69 kX8_now_140 dX8_now_66 rfl rfl rfl rfl rfl (by decide) rfl (Nat.le_of_ble_eq_true rfl) (c_winner (hb.W d) hb.2.2.2.2.1) ?_
      rintro y H ⟨e, p⟩
      refine ev_goto 74 dX8_now_69 rfl ?_
      exact ev_iret rfl dX8_now_74 (by first | exact ⟨p, show _ = _ by rw [if_pos d]; exact e⟩ | exact ⟨PsC.rf, show _ = _ by rw [if_neg d]⟩)
  · rw [w1]
    refine ev_tswIn 75 dX8_now_1 ⟨by decide, by decide⟩ (by decide) (by decide) rfl rfl ?_
    refine ev_aload_n 76 dX8_now_75 rfl rfl ?_
    refine ev_getR 79 fX8_64 rfl dX8_now_76 rfl rfl rfl ?_
    refine cVi0 82 kX8_now_136 dX8_now_79 rfl rfl rfl rfl rfl (by decide) rfl (Nat.le_of_ble_eq_true rfl) (c_hasRace (by omega) (by omega)) ?_
    rintro y _ ⟨rfl, rfl⟩
    refine ev_if_eq 85 95 dX8_now_82 rfl rfl it_r (fun c82 => ?_) (fun c82 => ?_)
    · have d := it_0.mp c82
      refine ev_iconst 96 dX8_now_95 rfl ?_
      exact ev_iret rfl dX8_now_96 (by first | exact ⟨p, (⟨fun _ => ⟨q1, q2⟩, fun z => absurd d z⟩ : _ ∧ _)⟩ | exact ⟨PsC.rf, (⟨fun z => absurd z d, fun _ => rfl⟩ : _ ∧ _)⟩)
    · have d := it_1.mp c82
      refine ev_aload_n 86 dX8_now_85 rfl rfl ?_
      refine ev_getR 89 fX8_57 rfl dX8_now_86 rfl rfl rfl ?_
      refine cVi0 92 kX8_now_144 dX8_now_89 rfl rfl rfl rfl rfl (by decide) rfl (Nat.le_of_ble_eq_true rfl) (c_kings (hb.W d)) ?_
      rintro y H ⟨p, q1, q2⟩
      refine ev_goto 96 dX8_now_92 rfl ?_
      exact ev_iret rfl dX8_now_96 (by first | exact ⟨p, (⟨fun _ => ⟨q1, q2⟩, fun z => absurd d z⟩ : _ ∧ _)⟩ | exact ⟨PsC.rf, (⟨fun z => absurd z d, fun _ => rfl⟩ : _ ∧ _)⟩)
  · rw [w1]
    refine ev_tswIn 97 dX8_now_1 ⟨by decide, by decide⟩ (by decide) (by decide) rfl rfl ?_
    refine ev_aload_n 98 dX8_now_97 rfl rfl ?_
    refine ev_getR 101 fX8_68 rfl dX8_now_98 rfl rfl rfl ?_
    refine ev_aload_n 102 dX8_now_101 rfl rfl ?_
    refine ev_getR 105 fX8_64 rfl dX8_now_102 rfl rfl rfl ?_
    refine cVi1 108 kX8_now_147 dX8_now_105 rfl rfl rfl rfl rfl (by decide) rfl (Nat.le_of_ble_eq_true rfl) (c_ruledMost hn hpol hreg hwk) ?_
    rintro y _ ⟨rfl, rfl⟩
    exact ev_iret rfl dX8_now_108 (⟨PsC.rf, rfl⟩)
  · rw [w1]
    refine ev_tswIn 109 dX8_now_1 ⟨by decide, by decide⟩ (by decide) (by decide) rfl rfl ?_
    refine ev_aload_n 110 dX8_now_109 rfl rfl ?_
    refine ev_getR 113 fX8_64 rfl dX8_now_110 rfl rfl rfl ?_
    refine cVi0 116 kX8_now_136 dX8_now_113 rfl rfl rfl rfl rfl (by decide) rfl (Nat.le_of_ble_eq_true rfl) (c_hasRace (by omega) (by omega)) ?_
    rintro y _ ⟨rfl, rfl⟩
    refine ev_if_eq 119 138 dX8_now_116 rfl rfl it_r (fun c116 => ?_) (fun c116 => ?_)
    · have d := it_0.mp c116
      refine ev_iconst 139 dX8_now_138 rfl ?_
      exact ev_iret rfl dX8_now_139 (by first | exact ⟨PsC.rf, (⟨fun _ => ⟨q1, q2⟩, fun z => absurd d z⟩ : _ ∧ _)⟩ | exact ⟨PsC.rf, (⟨fun z => absurd z d, fun _ => rfl⟩ : _ ∧ _)⟩)
    · have d := it_1.mp c116
      refine ev_aload_n 120 dX8_now_119 rfl rfl ?_
      refine ev_getR 123 fX8_43 rfl dX8_now_120 rfl rfl rfl ?_
      refine ev_iconst 124 dX8_now_123 rfl ?_
      refine ev_aload_n 125 dX8_now_124 rfl rfl ?_
      refine ev_getR 128 fX8_64 rfl dX8_now_125 rfl rfl rfl ?_
      refine ev_aload_n 129 dX8_now_128 rfl rfl ?_
      refine ev_getR 132 fX8_68 rfl dX8_now_129 rfl rfl rfl ?_
      refine cVi3 135 kX8_now_150 dX8_now_132 rfl rfl rfl rfl rfl (by decide) rfl (Nat.le_of_ble_eq_true rfl) (c_suspects (gu := 1) (Or.inr rfl) hn hb.2.2.2.1 hb.2.2.2.2.1 hL hm hr) ?_
      rintro y _ ⟨q1, q2, rfl⟩
      refine ev_goto 139 dX8_now_135 rfl ?_
      exact ev_iret rfl dX8_now_139 (by first | exact ⟨PsC.rf, (⟨fun _ => ⟨q1, q2⟩, fun z => absurd d z⟩ : _ ∧ _)⟩ | exact ⟨PsC.rf, (⟨fun z => absurd z d, fun _ => rfl⟩ : _ ∧ _)⟩)
  · rw [w1]
    refine ev_tswIn 140 dX8_now_1 ⟨by decide, by decide⟩ (by decide) (by decide) rfl rfl ?_
    refine ev_aload_n 141 dX8_now_140 rfl rfl ?_
    refine ev_getR 144 fX8_64 rfl dX8_now_141 rfl rfl rfl ?_
    refine cVi0 147 kX8_now_136 dX8_now_144 rfl rfl rfl rfl rfl (by decide) rfl (Nat.le_of_ble_eq_true rfl) (c_hasRace (by omega) (by omega)) ?_
    rintro y _ ⟨rfl, rfl⟩
    refine ev_if_eq 150 169 dX8_now_147 rfl rfl it_r (fun c147 => ?_) (fun c147 => ?_)
    · have d := it_0.mp c147
      refine ev_iconst 170 dX8_now_169 rfl ?_
      exact ev_iret rfl dX8_now_170 (by first | exact ⟨PsC.rf, (⟨fun _ => ⟨q1, q2⟩, fun z => absurd d z⟩ : _ ∧ _)⟩ | exact ⟨PsC.rf, (⟨fun z => absurd z d, fun _ => rfl⟩ : _ ∧ _)⟩)
    · have d := it_1.mp c147
      refine ev_aload_n 151 dX8_now_150 rfl rfl ?_
      refine ev_getR 154 fX8_43 rfl dX8_now_151 rfl rfl rfl ?_
      refine ev_iconst 155 dX8_now_154 rfl ?_
      refine ev_aload_n 156 dX8_now_155 rfl rfl ?_
      refine ev_getR 159 fX8_64 rfl dX8_now_156 rfl rfl rfl ?_
      refine ev_aload_n 160 dX8_now_159 rfl rfl ?_
      refine ev_getR 163 fX8_68 rfl dX8_now_160 rfl rfl rfl ?_
      refine cVi3 166 kX8_now_150 dX8_now_163 rfl rfl rfl rfl rfl (by decide) rfl (Nat.le_of_ble_eq_true rfl) (c_suspects (gu := 0) (Or.inl rfl) hn hb.2.2.2.1 hb.2.2.2.2.1 hL hm hr) ?_
      rintro y _ ⟨q1, q2, rfl⟩
      refine ev_goto 170 dX8_now_166 rfl ?_
      exact ev_iret rfl dX8_now_170 (by first | exact ⟨PsC.rf, (⟨fun _ => ⟨q1, q2⟩, fun z => absurd d z⟩ : _ ∧ _)⟩ | exact ⟨PsC.rf, (⟨fun z => absurd z d, fun _ => rfl⟩ : _ ∧ _)⟩)
  · rw [w1]
    refine ev_tswIn 171 dX8_now_1 ⟨by decide, by decide⟩ (by decide) (by decide) rfl rfl ?_
    refine ev_aload_n 172 dX8_now_171 rfl rfl ?_
    refine ev_getR 175 fX8_36 rfl dX8_now_172 rfl rfl rfl ?_
    refine ev_getI 178 3 fX8_88 rfl dX8_now_175 rfl rfl rfl (by decide) rfl ?_
    exact ev_iret rfl dX8_now_178 (⟨PsC.rf, rfl⟩)
end CP4
