def nvP (t : Int → Int) (s p : Int) : Int := if p = s then 0 else nv t s p
theorem nvP_1 {t : Int → Int} {s p : Int} (h : s ≤ p) (hd : ∀ q, s ≤ q → q ≤ p → 48 ≤ t q ∧ t q ≤ 57) : nvP t s (p + 1) = if 2 ≤ p - s ∨ (s < p ∧ nvP t s p = 0) ∨ nvP t s p = -1 then -1 else 10 * nvP t s p + t p - 48 := by
  have d0 := hd s (by omega) h
  unfold nvP
  rw [if_neg (by omega : ¬ p + 1 = s)]
  by_cases q0 : p = s
  · subst q0
    rw [if_pos rfl, if_neg (by omega)]
    unfold nv
    rw [if_pos (by omega)]
    omega
  · rw [if_neg q0]
    by_cases q1 : p = s + 1
    · subst q1
      have d1 := hd (s + 1) (by omega) (by omega)
      unfold nv
      rw [if_neg (by omega : ¬ s + 1 + 1 - s = 1), if_pos (by omega : s + 1 - s = 1)]
      by_cases z : t s = 48
      · rw [if_neg (fun w => w.2 z), if_pos (by omega)]
      · rw [if_pos ⟨by omega, z⟩, if_neg (by omega)]
        omega
    · rw [if_pos (by omega)]
      unfold nv
      rw [if_neg (by omega), if_neg (by omega)]
theorem nvP_r {t : Int → Int} {s p : Int} (h : s ≤ p) (hd : ∀ q, s ≤ q → q < p → 48 ≤ t q ∧ t q ≤ 57) : -1 ≤ nvP t s p ∧ nvP t s p ≤ 99 := by
  unfold nvP
  by_cases q0 : p = s
  · rw [if_pos q0]; omega
  · rw [if_neg q0]
    have d0 := hd s (by omega) (by omega)
    unfold nv
    by_cases q1 : p - s = 1
    · rw [if_pos q1]; omega
    · rw [if_neg q1]
      by_cases q2 : p - s = 2 ∧ t s ≠ 48
      · rw [if_pos q2]
        have d1 := hd (s + 1) (by omega) (by omega)
        omega
      · rw [if_neg q2]; omega
/-- a token at hand -/
def TK (h : Hp) (f : Int → Int) : Prop := f 1 = h 1 1 ∧ f 2 = tE (h 12) (h 1 1) (h 1 2) ∧ f 3 = tK (h 12) (h 1 1) (h 1 2) ∧ f 4 = tS (h 12) (h 1 1) (h 1 2) ∧ (f 3 = -2 → f 5 = tV (h 12) (h 1 1) (h 1 2))
section CS
variable {h : Hp}
theorem c_rd_loop {s L : Int} (hL : L ≤ 120) (hs0 : 0 ≤ s) (ht : ∀ i, 0 ≤ i → i < L → 0 ≤ h 12 i ∧ h 12 i ≤ 255) : ∀ (k : Nat) (p : Int) (f : Int → Int) (o1 o2 : Option AV), s ≤ p → L - p = k → (∀ q, s ≤ q → q < p → 48 ≤ h 12 q ∧ h 12 q ≤ 57) → f 1 = L → f 2 = p → f 3 = -2 → f 4 = s → f 5 = nvP (h 12) s p → Ev shC mX5_readDigits 11 [some (vr 1), o1, o2] [] (hput h 1 f) (RV fun h' => ∃ f, h' = hput h 1 f ∧ f 1 = L ∧ f 2 = dge (h 12) L k p ∧ f 3 = -2 ∧ f 4 = s ∧ f 5 = nvP (h 12) s (dge (h 12) L k p)) := by
  intro k
  induction k with
  | zero =>
    intro p f o1 o2 h0 h1 hd f1 f2 f3 f4 f5
    refine ev_aload_n 12 dX5_readDigits_11 rfl rfl ?_
    refine ev_getI' 15 2 (p) fX5_24 rfl dX5_readDigits_12 rfl rfl rfl (by decide) rfl f2 ?_
    refine ev_aload_n 16 dX5_readDigits_15 rfl rfl ?_
    refine ev_getI' 19 1 (L) fX5_15 rfl dX5_readDigits_16 rfl rfl rfl (by decide) rfl f1 ?_
    refine ev_icmp_ge 22 137 dX5_readDigits_19 rfl rfl (by omega) (by omega) (fun c19 => ?_) (fun c19 => ?_)
    · exact ev_vret rfl dX5_readDigits_137 (⟨f, rfl, f1, f2, f3, f4, f5⟩)
    · omega --done
  | succ k ih =>
    intro p f o1 o2 h0 h1 hd f1 f2 f3 f4 f5
    have htp := ht p (by omega) (by omega)
    have hv := nvP_r (t := h 12) h0 hd
    unfold dge
    rw [ch_in (by omega)]
    refine ev_aload_n 12 dX5_readDigits_11 rfl rfl ?_
    refine ev_getI' 15 2 (p) fX5_24 rfl dX5_readDigits_12 rfl rfl rfl (by decide) rfl f2 ?_
    refine ev_aload_n 16 dX5_readDigits_15 rfl rfl ?_
    refine ev_getI' 19 1 (L) fX5_15 rfl dX5_readDigits_16 rfl rfl rfl (by decide) rfl f1 ?_
    refine ev_icmp_ge 22 137 dX5_readDigits_19 rfl rfl (by omega) (by omega) (fun c19 => ?_) (fun c19 => ?_)
    · omega --done
    · refine ev_aload_n 23 dX5_readDigits_22 rfl rfl ?_
      refine ev_aload_n 24 dX5_readDigits_23 rfl rfl ?_
      refine ev_getI' 27 2 (p) fX5_24 rfl dX5_readDigits_24 rfl rfl rfl (by decide) rfl f2 ?_
      refine cVi1 30 kX5_readDigits_81 dX5_readDigits_27 rfl rfl rfl rfl rfl (by decide) rfl (Nat.le_of_ble_eq_true rfl) (c_isDigitAt (h := hput h 1 f) (by omega) (by show R32 (h 12 p); omega)) ?_
      rintro x _ ⟨rfl, rfl⟩
      refine ev_if_eq 33 137 dX5_readDigits_30 rfl rfl (b2i_r _) (fun c30 => ?_) (fun c30 => ?_)
      · have d30 : digB (h 12 p) = false := b2i_0.mp c30
        rw [if_neg (by rw [d30]; decide)]
        exact ev_vret rfl dX5_readDigits_137 (⟨f, rfl, f1, f2, f3, f4, f5⟩)
      · have d30 : digB (h 12 p) = true := b2i_n.mp c30
        rw [if_pos d30]
        have hd2 : ∀ q, s ≤ q → q ≤ p → 48 ≤ h 12 q ∧ h 12 q ≤ 57 := fun q a b => by
          by_cases e : q = p
          · rw [e]; exact digB_t.mp d30
          · exact hd q a (by omega)
        have hst := nvP_1 (t := h 12) h0 hd2
        refine ev_aload_n 34 dX5_readDigits_33 rfl rfl ?_
        refine ev_getI' 37 2 (p) fX5_24 rfl dX5_readDigits_34 rfl rfl rfl (by decide) rfl f2 ?_
        refine ev_aload_n 38 dX5_readDigits_37 rfl rfl ?_
        refine ev_getI' 41 4 (s) fX5_37 rfl dX5_readDigits_38 rfl rfl rfl (by decide) rfl f4 ?_
        refine ev_isub 42 dX5_readDigits_41 rfl ?_
        refine ev_iconst 43 dX5_readDigits_42 rfl ?_
        refine ev_icmp_lt 46 50 dX5_readDigits_43 rfl rfl (by omega) (by omega) (fun c43 => ?_) (fun c43 => ?_)
        · refine ev_iconst 51 dX5_readDigits_50 rfl ?_
          refine ev_istore_n 52 dX5_readDigits_51 rfl (Nat.le_of_ble_eq_true rfl) ?_
          refine ev_aload_n 53 dX5_readDigits_52 rfl rfl ?_
          refine ev_getI' 56 2 (p) fX5_24 rfl dX5_readDigits_53 rfl rfl rfl (by decide) rfl f2 ?_
          refine ev_aload_n 57 dX5_readDigits_56 rfl rfl ?_
          refine ev_getI' 60 4 (s) fX5_37 rfl dX5_readDigits_57 rfl rfl rfl (by decide) rfl f4 ?_
          refine ev_icmp_le 63 74 dX5_readDigits_60 rfl rfl (by omega) (by omega) (fun c60 => ?_) (fun c60 => ?_)
          · refine ev_iconst 75 dX5_readDigits_74 rfl ?_
            refine ev_istore_n 76 dX5_readDigits_75 rfl (Nat.le_of_ble_eq_true rfl) ?_
            refine ev_iload_n 77 dX5_readDigits_76 rfl rfl ?_
            refine ev_if_ne 80 92 dX5_readDigits_77 rfl rfl (by omega) (fun c77 => ?_) (fun c77 => ?_)
            · refine ev_aload_n 93 dX5_readDigits_92 rfl rfl ?_
              refine ev_iconst 94 dX5_readDigits_93 rfl ?_
              refine ev_putI' 97 5 (hput h 1 (up f 5 (-1))) pX5_67 rfl dX5_readDigits_94 rfl rfl rfl rfl hput_hput ?_
              rw [if_pos (by omega)] at hst
              have g5 : up f 5 (-1) 5 = nvP (h 12) s (p + 1) := by rw [hst]; exact up_s
              refine ev_goto 124 dX5_readDigits_97 rfl ?_
              skip
              refine ev_aload_n 125 dX5_readDigits_124 rfl rfl ?_
              refine ev_dup_r 126 dX5_readDigits_125 rfl ?_
              refine ev_getI' 129 2 (p) fX5_24 rfl dX5_readDigits_126 rfl rfl rfl (by decide) rfl f2 ?_
              refine ev_iconst 130 dX5_readDigits_129 rfl ?_
              refine ev_iadd 131 dX5_readDigits_130 rfl ?_
              refine ev_putI' 134 2 (hput h 1 (up (up f 5 (nvP (h 12) s (p + 1))) 2 (p + 1))) pX5_24 rfl dX5_readDigits_131 rfl rfl rfl rfl (by rw [hput_hput, hput_s]; first | (rw [hst]; done) | (rw [hst, if_neg (by omega)])) ?_
              refine ev_goto 11 dX5_readDigits_134 rfl ?_
              exact ih (p + 1) _ _ _ (by omega) (by omega) (fun q a b => hd2 q a (by omega)) f1 up_s f3 f4 rfl
            · refine ev_iload_n 81 dX5_readDigits_80 rfl rfl ?_
              refine ev_if_ne 84 92 dX5_readDigits_81 rfl rfl (by omega) (fun c81 => ?_) (fun c81 => ?_)
              · refine ev_aload_n 93 dX5_readDigits_92 rfl rfl ?_
                refine ev_iconst 94 dX5_readDigits_93 rfl ?_
                refine ev_putI' 97 5 (hput h 1 (up f 5 (-1))) pX5_67 rfl dX5_readDigits_94 rfl rfl rfl rfl hput_hput ?_
                rw [if_pos (by omega)] at hst
                have g5 : up f 5 (-1) 5 = nvP (h 12) s (p + 1) := by rw [hst]; exact up_s
                refine ev_goto 124 dX5_readDigits_97 rfl ?_
                skip
                refine ev_aload_n 125 dX5_readDigits_124 rfl rfl ?_
                refine ev_dup_r 126 dX5_readDigits_125 rfl ?_
                refine ev_getI' 129 2 (p) fX5_24 rfl dX5_readDigits_126 rfl rfl rfl (by decide) rfl f2 ?_
                refine ev_iconst 130 dX5_readDigits_129 rfl ?_
                refine ev_iadd 131 dX5_readDigits_130 rfl ?_
                refine ev_putI' 134 2 (hput h 1 (up (up f 5 (nvP (h 12) s (p + 1))) 2 (p + 1))) pX5_24 rfl dX5_readDigits_131 rfl rfl rfl rfl (by rw [hput_hput, hput_s]; first | (rw [hst]; done) | (rw [hst, if_neg (by omega)])) ?_
                refine ev_goto 11 dX5_readDigits_134 rfl ?_
                exact ih (p + 1) _ _ _ (by omega) (by omega) (fun q a b => hd2 q a (by omega)) f1 up_s f3 f4 rfl
              · refine ev_aload_n 85 dX5_readDigits_84 rfl rfl ?_
                refine ev_getI' 88 5 (nvP (h 12) s p) fX5_67 rfl dX5_readDigits_85 rfl rfl rfl (by decide) rfl f5 ?_
                refine ev_iconst 89 dX5_readDigits_88 rfl ?_
                refine ev_icmp_ne 92 100 dX5_readDigits_89 rfl rfl (by omega) (by omega) (fun c89 => ?_) (fun c89 => ?_)
                · refine ev_aload_n 101 dX5_readDigits_100 rfl rfl ?_
                  refine ev_bipush 103 dX5_readDigits_101 rfl (by decide +kernel) ?_
                  refine ev_aload_n 104 dX5_readDigits_103 rfl rfl ?_
                  refine ev_getI' 107 5 (nvP (h 12) s p) fX5_67 rfl dX5_readDigits_104 rfl rfl rfl (by decide) rfl f5 ?_
                  refine ev_imul 108 dX5_readDigits_107 rfl ?_
                  refine ev_aload_n 109 dX5_readDigits_108 rfl rfl ?_
                  refine ev_getR 112 fX5_9 rfl dX5_readDigits_109 rfl rfl rfl ?_
                  refine ev_aload_n 113 dX5_readDigits_112 rfl rfl ?_
                  refine ev_getI' 116 2 (p) fX5_24 rfl dX5_readDigits_113 rfl rfl rfl (by decide) rfl f2 ?_
                  refine ev_iald' 117 (h 12 p) dX5_readDigits_116 rfl rfl (by decide) (by omega) rfl ?_
                  refine ev_iadd 118 dX5_readDigits_117 rfl ?_
                  refine ev_bipush 120 dX5_readDigits_118 rfl (by decide +kernel) ?_
                  refine ev_isub 121 dX5_readDigits_120 rfl ?_
                  refine ev_putI' 124 5 (hput h 1 (up f 5 (10 * nvP (h 12) s p + h 12 p - 48))) pX5_67 rfl dX5_readDigits_121 rfl rfl rfl rfl hput_hput ?_
                  skip
                  refine ev_aload_n 125 dX5_readDigits_124 rfl rfl ?_
                  refine ev_dup_r 126 dX5_readDigits_125 rfl ?_
                  refine ev_getI' 129 2 (p) fX5_24 rfl dX5_readDigits_126 rfl rfl rfl (by decide) rfl f2 ?_
                  refine ev_iconst 130 dX5_readDigits_129 rfl ?_
                  refine ev_iadd 131 dX5_readDigits_130 rfl ?_
                  refine ev_putI' 134 2 (hput h 1 (up (up f 5 (nvP (h 12) s (p + 1))) 2 (p + 1))) pX5_24 rfl dX5_readDigits_131 rfl rfl rfl rfl (by rw [hput_hput, hput_s]; first | (rw [hst]; done) | (rw [hst, if_neg (by omega)])) ?_
                  refine ev_goto 11 dX5_readDigits_134 rfl ?_
                  exact ih (p + 1) _ _ _ (by omega) (by omega) (fun q a b => hd2 q a (by omega)) f1 up_s f3 f4 rfl
                · refine ev_aload_n 93 dX5_readDigits_92 rfl rfl ?_
                  refine ev_iconst 94 dX5_readDigits_93 rfl ?_
                  refine ev_putI' 97 5 (hput h 1 (up f 5 (-1))) pX5_67 rfl dX5_readDigits_94 rfl rfl rfl rfl hput_hput ?_
                  rw [if_pos (by omega)] at hst
                  have g5 : up f 5 (-1) 5 = nvP (h 12) s (p + 1) := by rw [hst]; exact up_s
                  refine ev_goto 124 dX5_readDigits_97 rfl ?_
                  skip
                  refine ev_aload_n 125 dX5_readDigits_124 rfl rfl ?_
                  refine ev_dup_r 126 dX5_readDigits_125 rfl ?_
                  refine ev_getI' 129 2 (p) fX5_24 rfl dX5_readDigits_126 rfl rfl rfl (by decide) rfl f2 ?_
                  refine ev_iconst 130 dX5_readDigits_129 rfl ?_
                  refine ev_iadd 131 dX5_readDigits_130 rfl ?_
                  refine ev_putI' 134 2 (hput h 1 (up (up f 5 (nvP (h 12) s (p + 1))) 2 (p + 1))) pX5_24 rfl dX5_readDigits_131 rfl rfl rfl rfl (by rw [hput_hput, hput_s]; first | (rw [hst]; done) | (rw [hst, if_neg (by omega)])) ?_
                  refine ev_goto 11 dX5_readDigits_134 rfl ?_
                  exact ih (p + 1) _ _ _ (by omega) (by omega) (fun q a b => hd2 q a (by omega)) f1 up_s f3 f4 rfl
          · refine ev_aload_n 64 dX5_readDigits_63 rfl rfl ?_
            refine ev_getI' 67 5 (nvP (h 12) s p) fX5_67 rfl dX5_readDigits_64 rfl rfl rfl (by decide) rfl f5 ?_
            refine ev_if_ne 70 74 dX5_readDigits_67 rfl rfl (by omega) (fun c67 => ?_) (fun c67 => ?_)
            · refine ev_iconst 75 dX5_readDigits_74 rfl ?_
              refine ev_istore_n 76 dX5_readDigits_75 rfl (Nat.le_of_ble_eq_true rfl) ?_
              refine ev_iload_n 77 dX5_readDigits_76 rfl rfl ?_
              refine ev_if_ne 80 92 dX5_readDigits_77 rfl rfl (by omega) (fun c77 => ?_) (fun c77 => ?_)
              · refine ev_aload_n 93 dX5_readDigits_92 rfl rfl ?_
                refine ev_iconst 94 dX5_readDigits_93 rfl ?_
                refine ev_putI' 97 5 (hput h 1 (up f 5 (-1))) pX5_67 rfl dX5_readDigits_94 rfl rfl rfl rfl hput_hput ?_
                rw [if_pos (by omega)] at hst
                have g5 : up f 5 (-1) 5 = nvP (h 12) s (p + 1) := by rw [hst]; exact up_s
                refine ev_goto 124 dX5_readDigits_97 rfl ?_
                skip
                refine ev_aload_n 125 dX5_readDigits_124 rfl rfl ?_
                refine ev_dup_r 126 dX5_readDigits_125 rfl ?_
                refine ev_getI' 129 2 (p) fX5_24 rfl dX5_readDigits_126 rfl rfl rfl (by decide) rfl f2 ?_
                refine ev_iconst 130 dX5_readDigits_129 rfl ?_
                refine ev_iadd 131 dX5_readDigits_130 rfl ?_
                refine ev_putI' 134 2 (hput h 1 (up (up f 5 (nvP (h 12) s (p + 1))) 2 (p + 1))) pX5_24 rfl dX5_readDigits_131 rfl rfl rfl rfl (by rw [hput_hput, hput_s]; first | (rw [hst]; done) | (rw [hst, if_neg (by omega)])) ?_
                refine ev_goto 11 dX5_readDigits_134 rfl ?_
                exact ih (p + 1) _ _ _ (by omega) (by omega) (fun q a b => hd2 q a (by omega)) f1 up_s f3 f4 rfl
              · refine ev_iload_n 81 dX5_readDigits_80 rfl rfl ?_
                refine ev_if_ne 84 92 dX5_readDigits_81 rfl rfl (by omega) (fun c81 => ?_) (fun c81 => ?_)
                · refine ev_aload_n 93 dX5_readDigits_92 rfl rfl ?_
                  refine ev_iconst 94 dX5_readDigits_93 rfl ?_
                  refine ev_putI' 97 5 (hput h 1 (up f 5 (-1))) pX5_67 rfl dX5_readDigits_94 rfl rfl rfl rfl hput_hput ?_
                  rw [if_pos (by omega)] at hst
                  have g5 : up f 5 (-1) 5 = nvP (h 12) s (p + 1) := by rw [hst]; exact up_s
                  refine ev_goto 124 dX5_readDigits_97 rfl ?_
                  skip
                  refine ev_aload_n 125 dX5_readDigits_124 rfl rfl ?_
                  refine ev_dup_r 126 dX5_readDigits_125 rfl ?_
                  refine ev_getI' 129 2 (p) fX5_24 rfl dX5_readDigits_126 rfl rfl rfl (by decide) rfl f2 ?_
                  refine ev_iconst 130 dX5_readDigits_129 rfl ?_
                  refine ev_iadd 131 dX5_readDigits_130 rfl ?_
                  refine ev_putI' 134 2 (hput h 1 (up (up f 5 (nvP (h 12) s (p + 1))) 2 (p + 1))) pX5_24 rfl dX5_readDigits_131 rfl rfl rfl rfl (by rw [hput_hput, hput_s]; first | (rw [hst]; done) | (rw [hst, if_neg (by omega)])) ?_
                  refine ev_goto 11 dX5_readDigits_134 rfl ?_
                  exact ih (p + 1) _ _ _ (by omega) (by omega) (fun q a b => hd2 q a (by omega)) f1 up_s f3 f4 rfl
                · refine ev_aload_n 85 dX5_readDigits_84 rfl rfl ?_
                  refine ev_getI' 88 5 (nvP (h 12) s p) fX5_67 rfl dX5_readDigits_85 rfl rfl rfl (by decide) rfl f5 ?_
                  refine ev_iconst 89 dX5_readDigits_88 rfl ?_
                  refine ev_icmp_ne 92 100 dX5_readDigits_89 rfl rfl (by omega) (by omega) (fun c89 => ?_) (fun c89 => ?_)
                  · refine ev_aload_n 101 dX5_readDigits_100 rfl rfl ?_
                    refine ev_bipush 103 dX5_readDigits_101 rfl (by decide +kernel) ?_
                    refine ev_aload_n 104 dX5_readDigits_103 rfl rfl ?_
                    refine ev_getI' 107 5 (nvP (h 12) s p) fX5_67 rfl dX5_readDigits_104 rfl rfl rfl (by decide) rfl f5 ?_
                    refine ev_imul 108 dX5_readDigits_107 rfl ?_
                    refine ev_aload_n 109 dX5_readDigits_108 rfl rfl ?_
                    refine ev_getR 112 fX5_9 rfl dX5_readDigits_109 rfl rfl rfl ?_
                    refine ev_aload_n 113 dX5_readDigits_112 rfl rfl ?_
                    refine ev_getI' 116 2 (p) fX5_24 rfl dX5_readDigits_113 rfl rfl rfl (by decide) rfl f2 ?_
                    refine ev_iald' 117 (h 12 p) dX5_readDigits_116 rfl rfl (by decide) (by omega) rfl ?_
                    refine ev_iadd 118 dX5_readDigits_117 rfl ?_
                    refine ev_bipush 120 dX5_readDigits_118 rfl (by decide +kernel) ?_
                    refine ev_isub 121 dX5_readDigits_120 rfl ?_
                    refine ev_putI' 124 5 (hput h 1 (up f 5 (10 * nvP (h 12) s p + h 12 p - 48))) pX5_67 rfl dX5_readDigits_121 rfl rfl rfl rfl hput_hput ?_
                    skip
                    refine ev_aload_n 125 dX5_readDigits_124 rfl rfl ?_
                    refine ev_dup_r 126 dX5_readDigits_125 rfl ?_
                    refine ev_getI' 129 2 (p) fX5_24 rfl dX5_readDigits_126 rfl rfl rfl (by decide) rfl f2 ?_
                    refine ev_iconst 130 dX5_readDigits_129 rfl ?_
                    refine ev_iadd 131 dX5_readDigits_130 rfl ?_
                    refine ev_putI' 134 2 (hput h 1 (up (up f 5 (nvP (h 12) s (p + 1))) 2 (p + 1))) pX5_24 rfl dX5_readDigits_131 rfl rfl rfl rfl (by rw [hput_hput, hput_s]; first | (rw [hst]; done) | (rw [hst, if_neg (by omega)])) ?_
                    refine ev_goto 11 dX5_readDigits_134 rfl ?_
                    exact ih (p + 1) _ _ _ (by omega) (by omega) (fun q a b => hd2 q a (by omega)) f1 up_s f3 f4 rfl
                  · refine ev_aload_n 93 dX5_readDigits_92 rfl rfl ?_
                    refine ev_iconst 94 dX5_readDigits_93 rfl ?_
                    refine ev_putI' 97 5 (hput h 1 (up f 5 (-1))) pX5_67 rfl dX5_readDigits_94 rfl rfl rfl rfl hput_hput ?_
                    rw [if_pos (by omega)] at hst
                    have g5 : up f 5 (-1) 5 = nvP (h 12) s (p + 1) := by rw [hst]; exact up_s
                    refine ev_goto 124 dX5_readDigits_97 rfl ?_
                    skip
                    refine ev_aload_n 125 dX5_readDigits_124 rfl rfl ?_
                    refine ev_dup_r 126 dX5_readDigits_125 rfl ?_
                    refine ev_getI' 129 2 (p) fX5_24 rfl dX5_readDigits_126 rfl rfl rfl (by decide) rfl f2 ?_
                    refine ev_iconst 130 dX5_readDigits_129 rfl ?_
                    refine ev_iadd 131 dX5_readDigits_130 rfl ?_
                    refine ev_putI' 134 2 (hput h 1 (up (up f 5 (nvP (h 12) s (p + 1))) 2 (p + 1))) pX5_24 rfl dX5_readDigits_131 rfl rfl rfl rfl (by rw [hput_hput, hput_s]; first | (rw [hst]; done) | (rw [hst, if_neg (by omega)])) ?_
                    refine ev_goto 11 dX5_readDigits_134 rfl ?_
                    exact ih (p + 1) _ _ _ (by omega) (by omega) (fun q a b => hd2 q a (by omega)) f1 up_s f3 f4 rfl
            · refine ev_iconst 71 dX5_readDigits_70 rfl ?_
              refine ev_goto 75 dX5_readDigits_71 rfl ?_
              refine ev_istore_n 76 dX5_readDigits_75 rfl (Nat.le_of_ble_eq_true rfl) ?_
              refine ev_iload_n 77 dX5_readDigits_76 rfl rfl ?_
              refine ev_if_ne 80 92 dX5_readDigits_77 rfl rfl (by omega) (fun c77 => ?_) (fun c77 => ?_)
              · refine ev_aload_n 93 dX5_readDigits_92 rfl rfl ?_
                refine ev_iconst 94 dX5_readDigits_93 rfl ?_
                refine ev_putI' 97 5 (hput h 1 (up f 5 (-1))) pX5_67 rfl dX5_readDigits_94 rfl rfl rfl rfl hput_hput ?_
                rw [if_pos (by omega)] at hst
                have g5 : up f 5 (-1) 5 = nvP (h 12) s (p + 1) := by rw [hst]; exact up_s
                refine ev_goto 124 dX5_readDigits_97 rfl ?_
                skip
                refine ev_aload_n 125 dX5_readDigits_124 rfl rfl ?_
                refine ev_dup_r 126 dX5_readDigits_125 rfl ?_
                refine ev_getI' 129 2 (p) fX5_24 rfl dX5_readDigits_126 rfl rfl rfl (by decide) rfl f2 ?_
                refine ev_iconst 130 dX5_readDigits_129 rfl ?_
                refine ev_iadd 131 dX5_readDigits_130 rfl ?_
                refine ev_putI' 134 2 (hput h 1 (up (up f 5 (nvP (h 12) s (p + 1))) 2 (p + 1))) pX5_24 rfl dX5_readDigits_131 rfl rfl rfl rfl (by rw [hput_hput, hput_s]; first | (rw [hst]; done) | (rw [hst, if_neg (by omega)])) ?_
                refine ev_goto 11 dX5_readDigits_134 rfl ?_
                exact ih (p + 1) _ _ _ (by omega) (by omega) (fun q a b => hd2 q a (by omega)) f1 up_s f3 f4 rfl
              · refine ev_iload_n 81 dX5_readDigits_80 rfl rfl ?_
                refine ev_if_ne 84 92 dX5_readDigits_81 rfl rfl (by omega) (fun c81 => ?_) (fun c81 => ?_)
                · refine ev_aload_n 93 dX5_readDigits_92 rfl rfl ?_
                  refine ev_iconst 94 dX5_readDigits_93 rfl ?_
                  refine ev_putI' 97 5 (hput h 1 (up f 5 (-1))) pX5_67 rfl dX5_readDigits_94 rfl rfl rfl rfl hput_hput ?_
                  rw [if_pos (by omega)] at hst
                  have g5 : up f 5 (-1) 5 = nvP (h 12) s (p + 1) := by rw [hst]; exact up_s
                  refine ev_goto 124 dX5_readDigits_97 rfl ?_
                  skip
                  refine ev_aload_n 125 dX5_readDigits_124 rfl rfl ?_
                  refine ev_dup_r 126 dX5_readDigits_125 rfl ?_
                  refine ev_getI' 129 2 (p) fX5_24 rfl dX5_readDigits_126 rfl rfl rfl (by decide) rfl f2 ?_
                  refine ev_iconst 130 dX5_readDigits_129 rfl ?_
                  refine ev_iadd 131 dX5_readDigits_130 rfl ?_
                  refine ev_putI' 134 2 (hput h 1 (up (up f 5 (nvP (h 12) s (p + 1))) 2 (p + 1))) pX5_24 rfl dX5_readDigits_131 rfl rfl rfl rfl (by rw [hput_hput, hput_s]; first | (rw [hst]; done) | (rw [hst, if_neg (by omega)])) ?_
                  refine ev_goto 11 dX5_readDigits_134 rfl ?_
                  exact ih (p + 1) _ _ _ (by omega) (by omega) (fun q a b => hd2 q a (by omega)) f1 up_s f3 f4 rfl
                · refine ev_aload_n 85 dX5_readDigits_84 rfl rfl ?_
                  refine ev_getI' 88 5 (nvP (h 12) s p) fX5_67 rfl dX5_readDigits_85 rfl rfl rfl (by decide) rfl f5 ?_
                  refine ev_iconst 89 dX5_readDigits_88 rfl ?_
                  refine ev_icmp_ne 92 100 dX5_readDigits_89 rfl rfl (by omega) (by omega) (fun c89 => ?_) (fun c89 => ?_)
                  · refine ev_aload_n 101 dX5_readDigits_100 rfl rfl ?_
                    refine ev_bipush 103 dX5_readDigits_101 rfl (by decide +kernel) ?_
                    refine ev_aload_n 104 dX5_readDigits_103 rfl rfl ?_
                    refine ev_getI' 107 5 (nvP (h 12) s p) fX5_67 rfl dX5_readDigits_104 rfl rfl rfl (by decide) rfl f5 ?_
                    refine ev_imul 108 dX5_readDigits_107 rfl ?_
                    refine ev_aload_n 109 dX5_readDigits_108 rfl rfl ?_
                    refine ev_getR 112 fX5_9 rfl dX5_readDigits_109 rfl rfl rfl ?_
                    refine ev_aload_n 113 dX5_readDigits_112 rfl rfl ?_
                    refine ev_getI' 116 2 (p) fX5_24 rfl dX5_readDigits_113 rfl rfl rfl (by decide) rfl f2 ?_
                    refine ev_iald' 117 (h 12 p) dX5_readDigits_116 rfl rfl (by decide) (by omega) rfl ?_
                    refine ev_iadd 118 dX5_readDigits_117 rfl ?_
                    refine ev_bipush 120 dX5_readDigits_118 rfl (by decide +kernel) ?_
                    refine ev_isub 121 dX5_readDigits_120 rfl ?_
                    refine ev_putI' 124 5 (hput h 1 (up f 5 (10 * nvP (h 12) s p + h 12 p - 48))) pX5_67 rfl dX5_readDigits_121 rfl rfl rfl rfl hput_hput ?_
                    skip
                    refine ev_aload_n 125 dX5_readDigits_124 rfl rfl ?_
                    refine ev_dup_r 126 dX5_readDigits_125 rfl ?_
                    refine ev_getI' 129 2 (p) fX5_24 rfl dX5_readDigits_126 rfl rfl rfl (by decide) rfl f2 ?_
                    refine ev_iconst 130 dX5_readDigits_129 rfl ?_
                    refine ev_iadd 131 dX5_readDigits_130 rfl ?_
                    refine ev_putI' 134 2 (hput h 1 (up (up f 5 (nvP (h 12) s (p + 1))) 2 (p + 1))) pX5_24 rfl dX5_readDigits_131 rfl rfl rfl rfl (by rw [hput_hput, hput_s]; first | (rw [hst]; done) | (rw [hst, if_neg (by omega)])) ?_
                    refine ev_goto 11 dX5_readDigits_134 rfl ?_
                    exact ih (p + 1) _ _ _ (by omega) (by omega) (fun q a b => hd2 q a (by omega)) f1 up_s f3 f4 rfl
                  · refine ev_aload_n 93 dX5_readDigits_92 rfl rfl ?_
                    refine ev_iconst 94 dX5_readDigits_93 rfl ?_
                    refine ev_putI' 97 5 (hput h 1 (up f 5 (-1))) pX5_67 rfl dX5_readDigits_94 rfl rfl rfl rfl hput_hput ?_
                    rw [if_pos (by omega)] at hst
                    have g5 : up f 5 (-1) 5 = nvP (h 12) s (p + 1) := by rw [hst]; exact up_s
                    refine ev_goto 124 dX5_readDigits_97 rfl ?_
                    skip
                    refine ev_aload_n 125 dX5_readDigits_124 rfl rfl ?_
                    refine ev_dup_r 126 dX5_readDigits_125 rfl ?_
                    refine ev_getI' 129 2 (p) fX5_24 rfl dX5_readDigits_126 rfl rfl rfl (by decide) rfl f2 ?_
                    refine ev_iconst 130 dX5_readDigits_129 rfl ?_
                    refine ev_iadd 131 dX5_readDigits_130 rfl ?_
                    refine ev_putI' 134 2 (hput h 1 (up (up f 5 (nvP (h 12) s (p + 1))) 2 (p + 1))) pX5_24 rfl dX5_readDigits_131 rfl rfl rfl rfl (by rw [hput_hput, hput_s]; first | (rw [hst]; done) | (rw [hst, if_neg (by omega)])) ?_
                    refine ev_goto 11 dX5_readDigits_134 rfl ?_
                    exact ih (p + 1) _ _ _ (by omega) (by omega) (fun q a b => hd2 q a (by omega)) f1 up_s f3 f4 rfl
        · refine ev_iconst 47 dX5_readDigits_46 rfl ?_
          refine ev_goto 51 dX5_readDigits_47 rfl ?_
          refine ev_istore_n 52 dX5_readDigits_51 rfl (Nat.le_of_ble_eq_true rfl) ?_
          refine ev_aload_n 53 dX5_readDigits_52 rfl rfl ?_
          refine ev_getI' 56 2 (p) fX5_24 rfl dX5_readDigits_53 rfl rfl rfl (by decide) rfl f2 ?_
          refine ev_aload_n 57 dX5_readDigits_56 rfl rfl ?_
          refine ev_getI' 60 4 (s) fX5_37 rfl dX5_readDigits_57 rfl rfl rfl (by decide) rfl f4 ?_
          refine ev_icmp_le 63 74 dX5_readDigits_60 rfl rfl (by omega) (by omega) (fun c60 => ?_) (fun c60 => ?_)
          · refine ev_iconst 75 dX5_readDigits_74 rfl ?_
            refine ev_istore_n 76 dX5_readDigits_75 rfl (Nat.le_of_ble_eq_true rfl) ?_
            refine ev_iload_n 77 dX5_readDigits_76 rfl rfl ?_
            refine ev_if_ne 80 92 dX5_readDigits_77 rfl rfl (by omega) (fun c77 => ?_) (fun c77 => ?_)
            · refine ev_aload_n 93 dX5_readDigits_92 rfl rfl ?_
              refine ev_iconst 94 dX5_readDigits_93 rfl ?_
              refine ev_putI' 97 5 (hput h 1 (up f 5 (-1))) pX5_67 rfl dX5_readDigits_94 rfl rfl rfl rfl hput_hput ?_
              rw [if_pos (by omega)] at hst
              have g5 : up f 5 (-1) 5 = nvP (h 12) s (p + 1) := by rw [hst]; exact up_s
              refine ev_goto 124 dX5_readDigits_97 rfl ?_
              skip
              refine ev_aload_n 125 dX5_readDigits_124 rfl rfl ?_
              refine ev_dup_r 126 dX5_readDigits_125 rfl ?_
              refine ev_getI' 129 2 (p) fX5_24 rfl dX5_readDigits_126 rfl rfl rfl (by decide) rfl f2 ?_
              refine ev_iconst 130 dX5_readDigits_129 rfl ?_
              refine ev_iadd 131 dX5_readDigits_130 rfl ?_
              refine ev_putI' 134 2 (hput h 1 (up (up f 5 (nvP (h 12) s (p + 1))) 2 (p + 1))) pX5_24 rfl dX5_readDigits_131 rfl rfl rfl rfl (by rw [hput_hput, hput_s]; first | (rw [hst]; done) | (rw [hst, if_neg (by omega)])) ?_
              refine ev_goto 11 dX5_readDigits_134 rfl ?_
              exact ih (p + 1) _ _ _ (by omega) (by omega) (fun q a b => hd2 q a (by omega)) f1 up_s f3 f4 rfl
            · refine ev_iload_n 81 dX5_readDigits_80 rfl rfl ?_
              refine ev_if_ne 84 92 dX5_readDigits_81 rfl rfl (by omega) (fun c81 => ?_) (fun c81 => ?_)
              · refine ev_aload_n 93 dX5_readDigits_92 rfl rfl ?_
                refine ev_iconst 94 dX5_readDigits_93 rfl ?_
                refine ev_putI' 97 5 (hput h 1 (up f 5 (-1))) pX5_67 rfl dX5_readDigits_94 rfl rfl rfl rfl hput_hput ?_
                rw [if_pos (by omega)] at hst
                have g5 : up f 5 (-1) 5 = nvP (h 12) s (p + 1) := by rw [hst]; exact up_s
                refine ev_goto 124 dX5_readDigits_97 rfl ?_
                skip
                refine ev_aload_n 125 dX5_readDigits_124 rfl rfl ?_
                refine ev_dup_r 126 dX5_readDigits_125 rfl ?_
                refine ev_getI' 129 2 (p) fX5_24 rfl dX5_readDigits_126 rfl rfl rfl (by decide) rfl f2 ?_
                refine ev_iconst 130 dX5_readDigits_129 rfl ?_
                refine ev_iadd 131 dX5_readDigits_130 rfl ?_
                refine ev_putI' 134 2 (hput h 1 (up (up f 5 (nvP (h 12) s (p + 1))) 2 (p + 1))) pX5_24 rfl dX5_readDigits_131 rfl rfl rfl rfl (by rw [hput_hput, hput_s]; first | (rw [hst]; done) | (rw [hst, if_neg (by omega)])) ?_
                refine ev_goto 11 dX5_readDigits_134 rfl ?_
                exact ih (p + 1) _ _ _ (by omega) (by omega) (fun q a b => hd2 q a (by omega)) f1 up_s f3 f4 rfl
              · refine ev_aload_n 85 dX5_readDigits_84 rfl rfl ?_
                refine ev_getI' 88 5 (nvP (h 12) s p) fX5_67 rfl dX5_readDigits_85 rfl rfl rfl (by decide) rfl f5 ?_
                refine ev_iconst 89 dX5_readDigits_88 rfl ?_
                refine ev_icmp_ne 92 100 dX5_readDigits_89 rfl rfl (by omega) (by omega) (fun c89 => ?_) (fun c89 => ?_)
                · refine ev_aload_n 101 dX5_readDigits_100 rfl rfl ?_
                  refine ev_bipush 103 dX5_readDigits_101 rfl (by decide +kernel) ?_
                  refine ev_aload_n 104 dX5_readDigits_103 rfl rfl ?_
                  refine ev_getI' 107 5 (nvP (h 12) s p) fX5_67 rfl dX5_readDigits_104 rfl rfl rfl (by decide) rfl f5 ?_
                  refine ev_imul 108 dX5_readDigits_107 rfl ?_
                  refine ev_aload_n 109 dX5_readDigits_108 rfl rfl ?_
                  refine ev_getR 112 fX5_9 rfl dX5_readDigits_109 rfl rfl rfl ?_
                  refine ev_aload_n 113 dX5_readDigits_112 rfl rfl ?_
                  refine ev_getI' 116 2 (p) fX5_24 rfl dX5_readDigits_113 rfl rfl rfl (by decide) rfl f2 ?_
                  refine ev_iald' 117 (h 12 p) dX5_readDigits_116 rfl rfl (by decide) (by omega) rfl ?_
                  refine ev_iadd 118 dX5_readDigits_117 rfl ?_
                  refine ev_bipush 120 dX5_readDigits_118 rfl (by decide +kernel) ?_
                  refine ev_isub 121 dX5_readDigits_120 rfl ?_
                  refine ev_putI' 124 5 (hput h 1 (up f 5 (10 * nvP (h 12) s p + h 12 p - 48))) pX5_67 rfl dX5_readDigits_121 rfl rfl rfl rfl hput_hput ?_
                  skip
                  refine ev_aload_n 125 dX5_readDigits_124 rfl rfl ?_
                  refine ev_dup_r 126 dX5_readDigits_125 rfl ?_
                  refine ev_getI' 129 2 (p) fX5_24 rfl dX5_readDigits_126 rfl rfl rfl (by decide) rfl f2 ?_
                  refine ev_iconst 130 dX5_readDigits_129 rfl ?_
                  refine ev_iadd 131 dX5_readDigits_130 rfl ?_
                  refine ev_putI' 134 2 (hput h 1 (up (up f 5 (nvP (h 12) s (p + 1))) 2 (p + 1))) pX5_24 rfl dX5_readDigits_131 rfl rfl rfl rfl (by rw [hput_hput, hput_s]; first | (rw [hst]; done) | (rw [hst, if_neg (by omega)])) ?_
                  refine ev_goto 11 dX5_readDigits_134 rfl ?_
                  exact ih (p + 1) _ _ _ (by omega) (by omega) (fun q a b => hd2 q a (by omega)) f1 up_s f3 f4 rfl
                · refine ev_aload_n 93 dX5_readDigits_92 rfl rfl ?_
                  refine ev_iconst 94 dX5_readDigits_93 rfl ?_
                  refine ev_putI' 97 5 (hput h 1 (up f 5 (-1))) pX5_67 rfl dX5_readDigits_94 rfl rfl rfl rfl hput_hput ?_
                  rw [if_pos (by omega)] at hst
                  have g5 : up f 5 (-1) 5 = nvP (h 12) s (p + 1) := by rw [hst]; exact up_s
                  refine ev_goto 124 dX5_readDigits_97 rfl ?_
                  skip
                  refine ev_aload_n 125 dX5_readDigits_124 rfl rfl ?_
                  refine ev_dup_r 126 dX5_readDigits_125 rfl ?_
                  refine ev_getI' 129 2 (p) fX5_24 rfl dX5_readDigits_126 rfl rfl rfl (by decide) rfl f2 ?_
                  refine ev_iconst 130 dX5_readDigits_129 rfl ?_
                  refine ev_iadd 131 dX5_readDigits_130 rfl ?_
                  refine ev_putI' 134 2 (hput h 1 (up (up f 5 (nvP (h 12) s (p + 1))) 2 (p + 1))) pX5_24 rfl dX5_readDigits_131 rfl rfl rfl rfl (by rw [hput_hput, hput_s]; first | (rw [hst]; done) | (rw [hst, if_neg (by omega)])) ?_
                  refine ev_goto 11 dX5_readDigits_134 rfl ?_
                  exact ih (p + 1) _ _ _ (by omega) (by omega) (fun q a b => hd2 q a (by omega)) f1 up_s f3 f4 rfl
          · refine ev_aload_n 64 dX5_readDigits_63 rfl rfl ?_
            refine ev_getI' 67 5 (nvP (h 12) s p) fX5_67 rfl dX5_readDigits_64 rfl rfl rfl (by decide) rfl f5 ?_
            refine ev_if_ne 70 74 dX5_readDigits_67 rfl rfl (by omega) (fun c67 => ?_) (fun c67 => ?_)
            · refine ev_iconst 75 dX5_readDigits_74 rfl ?_
              refine ev_istore_n 76 dX5_readDigits_75 rfl (Nat.le_of_ble_eq_true rfl) ?_
              refine ev_iload_n 77 dX5_readDigits_76 rfl rfl ?_
              refine ev_if_ne 80 92 dX5_readDigits_77 rfl rfl (by omega) (fun c77 => ?_) (fun c77 => ?_)
              · refine ev_aload_n 93 dX5_readDigits_92 rfl rfl ?_
                refine ev_iconst 94 dX5_readDigits_93 rfl ?_
                refine ev_putI' 97 5 (hput h 1 (up f 5 (-1))) pX5_67 rfl dX5_readDigits_94 rfl rfl rfl rfl hput_hput ?_
                rw [if_pos (by omega)] at hst
                have g5 : up f 5 (-1) 5 = nvP (h 12) s (p + 1) := by rw [hst]; exact up_s
                refine ev_goto 124 dX5_readDigits_97 rfl ?_
                skip
                refine ev_aload_n 125 dX5_readDigits_124 rfl rfl ?_
                refine ev_dup_r 126 dX5_readDigits_125 rfl ?_
                refine ev_getI' 129 2 (p) fX5_24 rfl dX5_readDigits_126 rfl rfl rfl (by decide) rfl f2 ?_
                refine ev_iconst 130 dX5_readDigits_129 rfl ?_
                refine ev_iadd 131 dX5_readDigits_130 rfl ?_
                refine ev_putI' 134 2 (hput h 1 (up (up f 5 (nvP (h 12) s (p + 1))) 2 (p + 1))) pX5_24 rfl dX5_readDigits_131 rfl rfl rfl rfl (by rw [hput_hput, hput_s]; first | (rw [hst]; done) | (rw [hst, if_neg (by omega)])) ?_
                refine ev_goto 11 dX5_readDigits_134 rfl ?_
                exact ih (p + 1) _ _ _ (by omega) (by omega) (fun q a b => hd2 q a (by omega)) f1 up_s f3 f4 rfl
              · refine ev_iload_n 81 dX5_readDigits_80 rfl rfl ?_
                refine ev_if_ne 84 92 dX5_readDigits_81 rfl rfl (by omega) (fun c81 => ?_) (fun c81 => ?_)
                · refine ev_aload_n 93 dX5_readDigits_92 rfl rfl ?_
                  refine ev_iconst 94 dX5_readDigits_93 rfl ?_
                  refine ev_putI' 97 5 (hput h 1 (up f 5 (-1))) pX5_67 rfl dX5_readDigits_94 rfl rfl rfl rfl hput_hput ?_
                  rw [if_pos (by omega)] at hst
                  have g5 : up f 5 (-1) 5 = nvP (h 12) s (p + 1) := by rw [hst]; exact up_s
                  refine ev_goto 124 dX5_readDigits_97 rfl ?_
                  skip
                  refine ev_aload_n 125 dX5_readDigits_124 rfl rfl ?_
                  refine ev_dup_r 126 dX5_readDigits_125 rfl ?_
                  refine ev_getI' 129 2 (p) fX5_24 rfl dX5_readDigits_126 rfl rfl rfl (by decide) rfl f2 ?_
                  refine ev_iconst 130 dX5_readDigits_129 rfl ?_
                  refine ev_iadd 131 dX5_readDigits_130 rfl ?_
                  refine ev_putI' 134 2 (hput h 1 (up (up f 5 (nvP (h 12) s (p + 1))) 2 (p + 1))) pX5_24 rfl dX5_readDigits_131 rfl rfl rfl rfl (by rw [hput_hput, hput_s]; first | (rw [hst]; done) | (rw [hst, if_neg (by omega)])) ?_
                  refine ev_goto 11 dX5_readDigits_134 rfl ?_
                  exact ih (p + 1) _ _ _ (by omega) (by omega) (fun q a b => hd2 q a (by omega)) f1 up_s f3 f4 rfl
                · refine ev_aload_n 85 dX5_readDigits_84 rfl rfl ?_
                  refine ev_getI' 88 5 (nvP (h 12) s p) fX5_67 rfl dX5_readDigits_85 rfl rfl rfl (by decide) rfl f5 ?_
                  refine ev_iconst 89 dX5_readDigits_88 rfl ?_
                  refine ev_icmp_ne 92 100 dX5_readDigits_89 rfl rfl (by omega) (by omega) (fun c89 => ?_) (fun c89 => ?_)
                  · refine ev_aload_n 101 dX5_readDigits_100 rfl rfl ?_
                    refine ev_bipush 103 dX5_readDigits_101 rfl (by decide +kernel) ?_
                    refine ev_aload_n 104 dX5_readDigits_103 rfl rfl ?_
                    refine ev_getI' 107 5 (nvP (h 12) s p) fX5_67 rfl dX5_readDigits_104 rfl rfl rfl (by decide) rfl f5 ?_
                    refine ev_imul 108 dX5_readDigits_107 rfl ?_
                    refine ev_aload_n 109 dX5_readDigits_108 rfl rfl ?_
                    refine ev_getR 112 fX5_9 rfl dX5_readDigits_109 rfl rfl rfl ?_
                    refine ev_aload_n 113 dX5_readDigits_112 rfl rfl ?_
                    refine ev_getI' 116 2 (p) fX5_24 rfl dX5_readDigits_113 rfl rfl rfl (by decide) rfl f2 ?_
                    refine ev_iald' 117 (h 12 p) dX5_readDigits_116 rfl rfl (by decide) (by omega) rfl ?_
                    refine ev_iadd 118 dX5_readDigits_117 rfl ?_
                    refine ev_bipush 120 dX5_readDigits_118 rfl (by decide +kernel) ?_
                    refine ev_isub 121 dX5_readDigits_120 rfl ?_
                    refine ev_putI' 124 5 (hput h 1 (up f 5 (10 * nvP (h 12) s p + h 12 p - 48))) pX5_67 rfl dX5_readDigits_121 rfl rfl rfl rfl hput_hput ?_
                    skip
                    refine ev_aload_n 125 dX5_readDigits_124 rfl rfl ?_
                    refine ev_dup_r 126 dX5_readDigits_125 rfl ?_
                    refine ev_getI' 129 2 (p) fX5_24 rfl dX5_readDigits_126 rfl rfl rfl (by decide) rfl f2 ?_
                    refine ev_iconst 130 dX5_readDigits_129 rfl ?_
                    refine ev_iadd 131 dX5_readDigits_130 rfl ?_
                    refine ev_putI' 134 2 (hput h 1 (up (up f 5 (nvP (h 12) s (p + 1))) 2 (p + 1))) pX5_24 rfl dX5_readDigits_131 rfl rfl rfl rfl (by rw [hput_hput, hput_s]; first | (rw [hst]; done) | (rw [hst, if_neg (by omega)])) ?_
                    refine ev_goto 11 dX5_readDigits_134 rfl ?_
                    exact ih (p + 1) _ _ _ (by omega) (by omega) (fun q a b => hd2 q a (by omega)) f1 up_s f3 f4 rfl
                  · refine ev_aload_n 93 dX5_readDigits_92 rfl rfl ?_
                    refine ev_iconst 94 dX5_readDigits_93 rfl ?_
                    refine ev_putI' 97 5 (hput h 1 (up f 5 (-1))) pX5_67 rfl dX5_readDigits_94 rfl rfl rfl rfl hput_hput ?_
                    rw [if_pos (by omega)] at hst
                    have g5 : up f 5 (-1) 5 = nvP (h 12) s (p + 1) := by rw [hst]; exact up_s
                    refine ev_goto 124 dX5_readDigits_97 rfl ?_
                    skip
                    refine ev_aload_n 125 dX5_readDigits_124 rfl rfl ?_
                    refine ev_dup_r 126 dX5_readDigits_125 rfl ?_
                    refine ev_getI' 129 2 (p) fX5_24 rfl dX5_readDigits_126 rfl rfl rfl (by decide) rfl f2 ?_
                    refine ev_iconst 130 dX5_readDigits_129 rfl ?_
                    refine ev_iadd 131 dX5_readDigits_130 rfl ?_
                    refine ev_putI' 134 2 (hput h 1 (up (up f 5 (nvP (h 12) s (p + 1))) 2 (p + 1))) pX5_24 rfl dX5_readDigits_131 rfl rfl rfl rfl (by rw [hput_hput, hput_s]; first | (rw [hst]; done) | (rw [hst, if_neg (by omega)])) ?_
                    refine ev_goto 11 dX5_readDigits_134 rfl ?_
                    exact ih (p + 1) _ _ _ (by omega) (by omega) (fun q a b => hd2 q a (by omega)) f1 up_s f3 f4 rfl
            · refine ev_iconst 71 dX5_readDigits_70 rfl ?_
              refine ev_goto 75 dX5_readDigits_71 rfl ?_
              refine ev_istore_n 76 dX5_readDigits_75 rfl (Nat.le_of_ble_eq_true rfl) ?_
              refine ev_iload_n 77 dX5_readDigits_76 rfl rfl ?_
              refine ev_if_ne 80 92 dX5_readDigits_77 rfl rfl (by omega) (fun c77 => ?_) (fun c77 => ?_)
              · refine ev_aload_n 93 dX5_readDigits_92 rfl rfl ?_
                refine ev_iconst 94 dX5_readDigits_93 rfl ?_
                refine ev_putI' 97 5 (hput h 1 (up f 5 (-1))) pX5_67 rfl dX5_readDigits_94 rfl rfl rfl rfl hput_hput ?_
                rw [if_pos (by omega)] at hst
                have g5 : up f 5 (-1) 5 = nvP (h 12) s (p + 1) := by rw [hst]; exact up_s
                refine ev_goto 124 dX5_readDigits_97 rfl ?_
                skip
                refine ev_aload_n 125 dX5_readDigits_124 rfl rfl ?_
                refine ev_dup_r 126 dX5_readDigits_125 rfl ?_
                refine ev_getI' 129 2 (p) fX5_24 rfl dX5_readDigits_126 rfl rfl rfl (by decide) rfl f2 ?_
                refine ev_iconst 130 dX5_readDigits_129 rfl ?_
                refine ev_iadd 131 dX5_readDigits_130 rfl ?_
                refine ev_putI' 134 2 (hput h 1 (up (up f 5 (nvP (h 12) s (p + 1))) 2 (p + 1))) pX5_24 rfl dX5_readDigits_131 rfl rfl rfl rfl (by rw [hput_hput, hput_s]; first | (rw [hst]; done) | (rw [hst, if_neg (by omega)])) ?_
                refine ev_goto 11 dX5_readDigits_134 rfl ?_
                exact ih (p + 1) _ _ _ (by omega) (by omega) (fun q a b => hd2 q a (by omega)) f1 up_s f3 f4 rfl
              · refine ev_iload_n 81 dX5_readDigits_80 rfl rfl ?_
                refine ev_if_ne 84 92 dX5_readDigits_81 rfl rfl (by omega) (fun c81 => ?_) (fun c81 => ?_)
                · refine ev_aload_n 93 dX5_readDigits_92 rfl rfl ?_
                  refine ev_iconst 94 dX5_readDigits_93 rfl ?_
                  refine ev_putI' 97 5 (hput h 1 (up f 5 (-1))) pX5_67 rfl dX5_readDigits_94 rfl rfl rfl rfl hput_hput ?_
                  rw [if_pos (by omega)] at hst
                  have g5 : up f 5 (-1) 5 = nvP (h 12) s (p + 1) := by rw [hst]; exact up_s
                  refine ev_goto 124 dX5_readDigits_97 rfl ?_
                  skip
                  refine ev_aload_n 125 dX5_readDigits_124 rfl rfl ?_
                  refine ev_dup_r 126 dX5_readDigits_125 rfl ?_
                  refine ev_getI' 129 2 (p) fX5_24 rfl dX5_readDigits_126 rfl rfl rfl (by decide) rfl f2 ?_
                  refine ev_iconst 130 dX5_readDigits_129 rfl ?_
                  refine ev_iadd 131 dX5_readDigits_130 rfl ?_
                  refine ev_putI' 134 2 (hput h 1 (up (up f 5 (nvP (h 12) s (p + 1))) 2 (p + 1))) pX5_24 rfl dX5_readDigits_131 rfl rfl rfl rfl (by rw [hput_hput, hput_s]; first | (rw [hst]; done) | (rw [hst, if_neg (by omega)])) ?_
                  refine ev_goto 11 dX5_readDigits_134 rfl ?_
                  exact ih (p + 1) _ _ _ (by omega) (by omega) (fun q a b => hd2 q a (by omega)) f1 up_s f3 f4 rfl
                · refine ev_aload_n 85 dX5_readDigits_84 rfl rfl ?_
                  refine ev_getI' 88 5 (nvP (h 12) s p) fX5_67 rfl dX5_readDigits_85 rfl rfl rfl (by decide) rfl f5 ?_
                  refine ev_iconst 89 dX5_readDigits_88 rfl ?_
                  refine ev_icmp_ne 92 100 dX5_readDigits_89 rfl rfl (by omega) (by omega) (fun c89 => ?_) (fun c89 => ?_)
                  · refine ev_aload_n 101 dX5_readDigits_100 rfl rfl ?_
                    refine ev_bipush 103 dX5_readDigits_101 rfl (by decide +kernel) ?_
                    refine ev_aload_n 104 dX5_readDigits_103 rfl rfl ?_
                    refine ev_getI' 107 5 (nvP (h 12) s p) fX5_67 rfl dX5_readDigits_104 rfl rfl rfl (by decide) rfl f5 ?_
                    refine ev_imul 108 dX5_readDigits_107 rfl ?_
                    refine ev_aload_n 109 dX5_readDigits_108 rfl rfl ?_
                    refine ev_getR 112 fX5_9 rfl dX5_readDigits_109 rfl rfl rfl ?_
                    refine ev_aload_n 113 dX5_readDigits_112 rfl rfl ?_
                    refine ev_getI' 116 2 (p) fX5_24 rfl dX5_readDigits_113 rfl rfl rfl (by decide) rfl f2 ?_
                    refine ev_iald' 117 (h 12 p) dX5_readDigits_116 rfl rfl (by decide) (by omega) rfl ?_
                    refine ev_iadd 118 dX5_readDigits_117 rfl ?_
                    refine ev_bipush 120 dX5_readDigits_118 rfl (by decide +kernel) ?_
                    refine ev_isub 121 dX5_readDigits_120 rfl ?_
                    refine ev_putI' 124 5 (hput h 1 (up f 5 (10 * nvP (h 12) s p + h 12 p - 48))) pX5_67 rfl dX5_readDigits_121 rfl rfl rfl rfl hput_hput ?_
                    skip
                    refine ev_aload_n 125 dX5_readDigits_124 rfl rfl ?_
                    refine ev_dup_r 126 dX5_readDigits_125 rfl ?_
                    refine ev_getI' 129 2 (p) fX5_24 rfl dX5_readDigits_126 rfl rfl rfl (by decide) rfl f2 ?_
                    refine ev_iconst 130 dX5_readDigits_129 rfl ?_
                    refine ev_iadd 131 dX5_readDigits_130 rfl ?_
                    refine ev_putI' 134 2 (hput h 1 (up (up f 5 (nvP (h 12) s (p + 1))) 2 (p + 1))) pX5_24 rfl dX5_readDigits_131 rfl rfl rfl rfl (by rw [hput_hput, hput_s]; first | (rw [hst]; done) | (rw [hst, if_neg (by omega)])) ?_
                    refine ev_goto 11 dX5_readDigits_134 rfl ?_
                    exact ih (p + 1) _ _ _ (by omega) (by omega) (fun q a b => hd2 q a (by omega)) f1 up_s f3 f4 rfl
                  · refine ev_aload_n 93 dX5_readDigits_92 rfl rfl ?_
                    refine ev_iconst 94 dX5_readDigits_93 rfl ?_
                    refine ev_putI' 97 5 (hput h 1 (up f 5 (-1))) pX5_67 rfl dX5_readDigits_94 rfl rfl rfl rfl hput_hput ?_
                    rw [if_pos (by omega)] at hst
                    have g5 : up f 5 (-1) 5 = nvP (h 12) s (p + 1) := by rw [hst]; exact up_s
                    refine ev_goto 124 dX5_readDigits_97 rfl ?_
                    skip
                    refine ev_aload_n 125 dX5_readDigits_124 rfl rfl ?_
                    refine ev_dup_r 126 dX5_readDigits_125 rfl ?_
                    refine ev_getI' 129 2 (p) fX5_24 rfl dX5_readDigits_126 rfl rfl rfl (by decide) rfl f2 ?_
                    refine ev_iconst 130 dX5_readDigits_129 rfl ?_
                    refine ev_iadd 131 dX5_readDigits_130 rfl ?_
                    refine ev_putI' 134 2 (hput h 1 (up (up f 5 (nvP (h 12) s (p + 1))) 2 (p + 1))) pX5_24 rfl dX5_readDigits_131 rfl rfl rfl rfl (by rw [hput_hput, hput_s]; first | (rw [hst]; done) | (rw [hst, if_neg (by omega)])) ?_
                    refine ev_goto 11 dX5_readDigits_134 rfl ?_
                    exact ih (p + 1) _ _ _ (by omega) (by omega) (fun q a b => hd2 q a (by omega)) f1 up_s f3 f4 rfl
theorem c_readDigits {s L : Int} {f : Int → Int} (hs : 0 ≤ s ∧ s < L) (hL : L ≤ 120) (ht : ∀ i, 0 ≤ i → i < L → 0 ≤ h 12 i ∧ h 12 i ≤ 255) (f1 : f 1 = L) (f2 : f 2 = s) (f4 : f 4 = s) (hd : digB (h 12 s) = true) : Ev shC mX5_readDigits 0 [some (vr 1), none, none] [] (hput h 1 f) (RV fun h' => ∃ f, h' = hput h 1 f ∧ f 1 = L ∧ f 2 = eE (h 12) L s ∧ f 3 = -2 ∧ f 4 = s ∧ f 5 = nv (h 12) s (eE (h 12) L s)) := by
  have e1 : eE (h 12) L s = dge (h 12) L (L - s).toNat s := by unfold eE; rw [if_pos hs.2, if_pos hd]
  have e2 := (eE_r (t := h 12) (L := L) (s := s) (by omega)).2.2 hs.2
  have K := c_rd_loop (h := h) hL hs.1 ht (L - s).toNat s (up (up f 3 (-2)) 5 0) none none (Int.le_refl _) (by omega) (fun q a b => by omega) f1 f2 rfl f4 (by unfold nvP; rw [if_pos rfl]; exact up_s)
  rw [← e1] at K
  have K2 : Ev shC mX5_readDigits 11 [some (vr 1), none, none] [] (hput h 1 (up (up f 3 (-2)) 5 0)) (RV fun h' => ∃ f, h' = hput h 1 f ∧ f 1 = L ∧ f 2 = eE (h 12) L s ∧ f 3 = -2 ∧ f 4 = s ∧ f 5 = nv (h 12) s (eE (h 12) L s)) := by
    refine ev_wk K ?_
    rintro _ _ ⟨f, e, a1, a2, a3, a4, a5⟩
    unfold nvP at a5
    rw [if_neg (by omega)] at a5
    exact ⟨f, e, a1, a2, a3, a4, a5⟩
  refine ev_aload_n 1 dX5_readDigits_0 rfl rfl ?_
  refine ev_bipush 3 dX5_readDigits_1 rfl (by decide +kernel) ?_
  refine ev_putI' 6 3 (hput h 1 (up f 3 (-2))) pX5_30 rfl dX5_readDigits_3 rfl rfl rfl rfl hput_hput ?_
  refine ev_aload_n 7 dX5_readDigits_6 rfl rfl ?_
  refine ev_iconst 8 dX5_readDigits_7 rfl ?_
  refine ev_putI' 11 5 (hput h 1 (up (up f 3 (-2)) 5 0)) pX5_67 rfl dX5_readDigits_8 rfl rfl rfl rfl hput_hput ?_
  exact K2
theorem c_rt_skip {L : Int} {post : Option AV → Hp → Prop} (hL : L ≤ 120) (ht : ∀ i, 0 ≤ i → i < L → 0 ≤ h 12 i ∧ h 12 i ≤ 255) : ∀ (k : Nat) (p : Int) (f : Int → Int), 0 ≤ p → L - p = k → f 1 = L → f 2 = p → (∀ f' : Int → Int, f' 1 = L → f' 2 = skp (h 12) L k p → Ev shC mX5_readToken 38 [some (vr 1)] [] (hput h 1 f') post) → Ev shC mX5_readToken 0 [some (vr 1)] [] (hput h 1 f) post := by
  intro k
  induction k with
  | zero =>
    intro p f h0 h1 f1 f2 K
    refine ev_aload_n 1 dX5_readToken_0 rfl rfl ?_
    refine ev_getI' 4 2 (p) fX5_24 rfl dX5_readToken_1 rfl rfl rfl (by decide) rfl f2 ?_
    refine ev_aload_n 5 dX5_readToken_4 rfl rfl ?_
    refine ev_getI' 8 1 (L) fX5_15 rfl dX5_readToken_5 rfl rfl rfl (by decide) rfl f1 ?_
    refine ev_icmp_ge 11 38 dX5_readToken_8 rfl rfl (by omega) (by omega) (fun c8 => ?_) (fun c8 => ?_)
    · exact K f f1 f2
    · omega --done
  | succ k ih =>
    intro p f h0 h1 f1 f2 K
    have htp := ht p h0 (by omega)
    unfold skp at K
    rw [ch_in (by omega)] at K
    refine ev_aload_n 1 dX5_readToken_0 rfl rfl ?_
    refine ev_getI' 4 2 (p) fX5_24 rfl dX5_readToken_1 rfl rfl rfl (by decide) rfl f2 ?_
    refine ev_aload_n 5 dX5_readToken_4 rfl rfl ?_
    refine ev_getI' 8 1 (L) fX5_15 rfl dX5_readToken_5 rfl rfl rfl (by decide) rfl f1 ?_
    refine ev_icmp_ge 11 38 dX5_readToken_8 rfl rfl (by omega) (by omega) (fun c8 => ?_) (fun c8 => ?_)
    · omega --done
    · refine ev_aload_n 12 dX5_readToken_11 rfl rfl ?_
      refine ev_getR 15 fX5_9 rfl dX5_readToken_12 rfl rfl rfl ?_
      refine ev_aload_n 16 dX5_readToken_15 rfl rfl ?_
      refine ev_getI' 19 2 (p) fX5_24 rfl dX5_readToken_16 rfl rfl rfl (by decide) rfl f2 ?_
      refine ev_iald' 20 (h 12 p) dX5_readToken_19 rfl rfl (by decide) (by omega) rfl ?_
      refine ev_bipush 22 dX5_readToken_20 rfl (by decide +kernel) ?_
      refine ev_icmp_ne 25 38 dX5_readToken_22 rfl rfl (by omega) (by omega) (fun c22 => ?_) (fun c22 => ?_)
      · rw [if_neg c22] at K
        exact K f f1 f2
      · rw [if_pos c22] at K
        refine ev_aload_n 26 dX5_readToken_25 rfl rfl ?_
        refine ev_dup_r 27 dX5_readToken_26 rfl ?_
        refine ev_getI' 30 2 (p) fX5_24 rfl dX5_readToken_27 rfl rfl rfl (by decide) rfl f2 ?_
        refine ev_iconst 31 dX5_readToken_30 rfl ?_
        refine ev_iadd 32 dX5_readToken_31 rfl ?_
        refine ev_putI' 35 2 (hput h 1 (up f 2 (p + 1))) pX5_24 rfl dX5_readToken_32 rfl rfl rfl rfl hput_hput ?_
        refine ev_goto 0 dX5_readToken_35 rfl ?_
        exact ih (p + 1) _ (by omega) (by omega) f1 up_s K
        skip
theorem c_readToken (hL : 0 ≤ h 1 1 ∧ h 1 1 ≤ 120) (hp : 0 ≤ h 1 2 ∧ h 1 2 ≤ h 1 1) (ht : ∀ i, 0 ≤ i → i < h 1 1 → 0 ≤ h 12 i ∧ h 12 i ≤ 255) : Ev shC mX5_readToken 0 [some (vr 1)] [] h (RV fun h' => ∃ f, h' = hput h 1 f ∧ TK h f) := by
  have hS := tS_r (t := h 12) hp.2
  refine ev_heap hput_id.symm (c_rt_skip (h := h) hL.2 ht (h 1 1 - h 1 2).toNat (h 1 2) (h 1) hp.1 (by omega) rfl rfl (fun f f1 f2 => ?_))
  have f2 : f 2 = tS (h 12) (h 1 1) (h 1 2) := f2
  unfold TK tV tE tK
  generalize hs : tS (h 12) (h 1 1) (h 1 2) = s at *
  by_cases q : s < h 1 1
  · have hts := ht s (by omega) q
    refine ev_aload_n 39 dX5_readToken_38 rfl rfl ?_
    refine ev_aload_n 40 dX5_readToken_39 rfl rfl ?_
    refine ev_getI' 43 2 (s) fX5_24 rfl dX5_readToken_40 rfl rfl rfl (by decide) rfl f2 ?_
    refine ev_putI' 46 4 (hput h 1 (up f 4 s)) pX5_37 rfl dX5_readToken_43 rfl rfl rfl rfl hput_hput ?_
    refine ev_aload_n 47 dX5_readToken_46 rfl rfl ?_
    refine ev_getI' 50 2 (s) fX5_24 rfl dX5_readToken_47 rfl rfl rfl (by decide) rfl f2 ?_
    refine ev_aload_n 51 dX5_readToken_50 rfl rfl ?_
    refine ev_getI' 54 1 (h 1 1) fX5_15 rfl dX5_readToken_51 rfl rfl rfl (by decide) rfl f1 ?_
    refine ev_icmp_lt 57 65 dX5_readToken_54 rfl rfl (by omega) (by omega) (fun c54 => ?_) (fun c54 => ?_)
    · refine ev_aload_n 66 dX5_readToken_65 rfl rfl ?_
      refine ev_aload_n 67 dX5_readToken_66 rfl rfl ?_
      refine ev_getI' 70 2 (s) fX5_24 rfl dX5_readToken_67 rfl rfl rfl (by decide) rfl f2 ?_
      refine cVi1 73 kX5_readToken_81 dX5_readToken_70 rfl rfl rfl rfl rfl (by decide) rfl (Nat.le_of_ble_eq_true rfl) (c_isDigitAt (h := hput h 1 (up f 4 s)) (by omega) (by show R32 (h 12 s); omega)) ?_
      rintro x _ ⟨rfl, rfl⟩
      refine ev_if_eq 76 83 dX5_readToken_73 rfl rfl (b2i_r _) (fun c73 => ?_) (fun c73 => ?_)
      · have d : digB (h 12 s) = false := b2i_0.mp c73
        refine ev_aload_n 84 dX5_readToken_83 rfl rfl ?_
        refine ev_aload_n 85 dX5_readToken_84 rfl rfl ?_
        refine ev_getR 88 fX5_9 rfl dX5_readToken_85 rfl rfl rfl ?_
        refine ev_aload_n 89 dX5_readToken_88 rfl rfl ?_
        refine ev_getI' 92 2 (s) fX5_24 rfl dX5_readToken_89 rfl rfl rfl (by decide) rfl f2 ?_
        refine ev_iald' 93 (h 12 s) dX5_readToken_92 rfl rfl (by decide) (by omega) rfl ?_
        refine ev_putI' 96 3 (hput h 1 (up (up f 4 s) 3 (h 12 s))) pX5_30 rfl dX5_readToken_93 rfl rfl rfl rfl hput_hput ?_
        refine ev_aload_n 97 dX5_readToken_96 rfl rfl ?_
        refine ev_dup_r 98 dX5_readToken_97 rfl ?_
        refine ev_getI' 101 2 (s) fX5_24 rfl dX5_readToken_98 rfl rfl rfl (by decide) rfl f2 ?_
        refine ev_iconst 102 dX5_readToken_101 rfl ?_
        refine ev_iadd 103 dX5_readToken_102 rfl ?_
        refine ev_putI' 106 2 (hput h 1 (up (up (up f 4 s) 3 (h 12 s)) 2 (s + 1))) pX5_24 rfl dX5_readToken_103 rfl rfl rfl rfl hput_hput ?_
        exact ev_vret rfl dX5_readToken_106 (by first | exact ⟨g, rfl, g1, g2, g3.trans (by unfold eK; rw [if_pos q, if_pos d]), g4, fun _ => g5⟩ | exact ⟨_, rfl, f1, by unfold eE; rw [if_pos q, if_neg (by rw [d]; decide)]; exact up_s, by unfold eK; rw [if_pos q, if_neg (by rw [d]; decide)]; rfl, rfl, fun z => absurd (show h 12 s = -2 from z) (by omega)⟩)
      · have d : digB (h 12 s) = true := b2i_n.mp c73
        refine ev_aload_n 77 dX5_readToken_76 rfl rfl ?_
        refine cVv0 80 kX5_readToken_85 dX5_readToken_77 rfl rfl rfl rfl rfl (by decide) rfl (Nat.le_of_ble_eq_true rfl) (c_readDigits ⟨by omega, q⟩ hL.2 ht f1 f2 up_s d) ?_
        rintro _ ⟨g, rfl, g1, g2, g3, g4, g5⟩
        refine ev_goto 106 dX5_readToken_80 rfl ?_
        exact ev_vret rfl dX5_readToken_106 (by first | exact ⟨g, rfl, g1, g2, g3.trans (by unfold eK; rw [if_pos q, if_pos d]), g4, fun _ => g5⟩ | exact ⟨_, rfl, f1, by unfold eE; rw [if_pos q, if_neg (by rw [d]; decide)]; exact up_s, by unfold eK; rw [if_pos q, if_neg (by rw [d]; decide)]; rfl, rfl, fun z => absurd (show h 12 s = -2 from z) (by omega)⟩)
    · omega --done
  · skip
    refine ev_aload_n 39 dX5_readToken_38 rfl rfl ?_
    refine ev_aload_n 40 dX5_readToken_39 rfl rfl ?_
    refine ev_getI' 43 2 (s) fX5_24 rfl dX5_readToken_40 rfl rfl rfl (by decide) rfl f2 ?_
    refine ev_putI' 46 4 (hput h 1 (up f 4 s)) pX5_37 rfl dX5_readToken_43 rfl rfl rfl rfl hput_hput ?_
    refine ev_aload_n 47 dX5_readToken_46 rfl rfl ?_
    refine ev_getI' 50 2 (s) fX5_24 rfl dX5_readToken_47 rfl rfl rfl (by decide) rfl f2 ?_
    refine ev_aload_n 51 dX5_readToken_50 rfl rfl ?_
    refine ev_getI' 54 1 (h 1 1) fX5_15 rfl dX5_readToken_51 rfl rfl rfl (by decide) rfl f1 ?_
    refine ev_icmp_lt 57 65 dX5_readToken_54 rfl rfl (by omega) (by omega) (fun c54 => ?_) (fun c54 => ?_)
    · omega --done
    · refine ev_aload_n 58 dX5_readToken_57 rfl rfl ?_
      refine ev_iconst 59 dX5_readToken_58 rfl ?_
      refine ev_putI' 62 3 (hput h 1 (up (up f 4 s) 3 (-1))) pX5_30 rfl dX5_readToken_59 rfl rfl rfl rfl hput_hput ?_
      refine ev_goto 106 dX5_readToken_62 rfl ?_
      exact ev_vret rfl dX5_readToken_106 (⟨_, rfl, f1, by unfold eE; rw [if_neg q]; exact f2, by unfold eK; rw [if_neg q]; rfl, rfl, fun z => absurd (show (-1 : Int) = -2 from z) (by decide)⟩)
end CS
