def costZ (c : Int) : Int := if c = 98 then 6 else if c = 100 then 2 else if c = 102 then 4 else if c = 117 then 8 else 0
def letB (c : Int) : Bool := decide (0 < costZ c ∨ c = 108 ∨ c = 99 ∨ c = 112)
theorem costZ_r (c : Int) : 0 ≤ costZ c ∧ costZ c ≤ 8 := by unfold costZ; repeat' split <;> omega
section NX
variable {sh : List CS} {h : Hp}
theorem m_costOf {c : Int} (hc : R32 c) : Ev sh mX9_costOf 0 [some (vi c)] [] h (RI fun x h' => x = costZ c ∧ h = h') := by
  unfold costZ
  refine ev_iload_n 1 dX9_costOf_0 rfl rfl ?_
  by_cases k1 : c = 98
  · subst k1
    refine ev_lsw 51 dX9_costOf_1 (by omega) (by decide) rfl rfl ?_
    refine ev_bipush 53 dX9_costOf_51 rfl (by decide +kernel) ?_
    exact ev_iret rfl dX9_costOf_53 (⟨rfl, rfl⟩)
  · by_cases k2 : c = 100
    · subst k2
      refine ev_lsw 49 dX9_costOf_1 (by omega) (by decide) rfl rfl ?_
      refine ev_iconst 50 dX9_costOf_49 rfl ?_
      exact ev_iret rfl dX9_costOf_50 (⟨rfl, rfl⟩)
    · by_cases k3 : c = 102
      · subst k3
        refine ev_lsw 44 dX9_costOf_1 (by omega) (by decide) rfl rfl ?_
        refine ev_iconst 45 dX9_costOf_44 rfl ?_
        exact ev_iret rfl dX9_costOf_45 (⟨rfl, rfl⟩)
      · by_cases k4 : c = 117
        · subst k4
          refine ev_lsw 46 dX9_costOf_1 (by omega) (by decide) rfl rfl ?_
          refine ev_bipush 48 dX9_costOf_46 rfl (by decide +kernel) ?_
          exact ev_iret rfl dX9_costOf_48 (⟨rfl, rfl⟩)
        · refine ev_lsw 54 dX9_costOf_1 (off := 53) (by omega) (by decide) (by simp [Op.lookupswitch.offset]; rw [if_neg (by omega), if_neg (by omega), if_neg (by omega), if_neg (by omega)]) rfl ?_
          rw [if_neg k1, if_neg k2, if_neg k3, if_neg k4]
          refine ev_iconst 55 dX9_costOf_54 rfl ?_
          exact ev_iret rfl dX9_costOf_55 (⟨rfl, rfl⟩)
theorem m_isFigure {c : Int} (hc : R32 c) : Ev sh mX9_isFigure 0 [some (vi c)] [] h (RI fun x h' => x = b2i (digB c) ∧ h = h') := by
  refine ev_iload_n 1 dX9_isFigure_0 rfl rfl ?_
  refine ev_bipush 3 dX9_isFigure_1 rfl (by decide +kernel) ?_
  refine ev_bipush 5 dX9_isFigure_3 rfl (by decide +kernel) ?_
  refine cSi3 8 kX9_isFigure_78 dX9_isFigure_5 rfl rfl (by decide) rfl (Nat.le_of_ble_eq_true rfl) (m_in hc ⟨by decide, by decide⟩ ⟨by decide, by decide⟩) ?_
  rintro x _ ⟨rfl, rfl⟩
  exact ev_zret rfl dX9_isFigure_8 (by split <;> omega) (⟨by by_cases q : 48 ≤ c ∧ c ≤ 57; (rw [if_pos q, digB_t.mpr q]; rfl); (rw [if_neg q, digB_f.mpr q]; rfl), rfl⟩)
theorem m_isLetter {c : Int} (hc : R32 c) : Ev sh mX9_isLetter 0 [some (vi c)] [] h (RI fun x h' => x = b2i (letB c) ∧ h = h') := by
  have hr := costZ_r c
  refine ev_iload_n 1 dX9_isLetter_0 rfl rfl ?_
  refine cSi1 4 kX9_isLetter_87 dX9_isLetter_1 rfl rfl (by decide) rfl (Nat.le_of_ble_eq_true rfl) (m_costOf hc) ?_
  rintro x _ ⟨rfl, rfl⟩
  refine ev_if_gt 7 25 dX9_isLetter_4 rfl rfl (by omega) (fun c4 => ?_) (fun c4 => ?_)
  · have hl : letB c = true := decide_eq_true (by omega)
    rw [hl]
    refine ev_iconst 26 dX9_isLetter_25 rfl ?_
    refine ev_goto 30 dX9_isLetter_26 rfl ?_
    exact ev_zret rfl dX9_isLetter_30 (by omega) (⟨rfl, rfl⟩)
  · refine ev_iload_n 8 dX9_isLetter_7 rfl rfl ?_
    refine ev_bipush 10 dX9_isLetter_8 rfl (by decide +kernel) ?_
    refine ev_icmp_eq 13 25 dX9_isLetter_10 rfl rfl (by omega) (by omega) (fun c10 => ?_) (fun c10 => ?_)
    · have hl : letB c = true := decide_eq_true (by omega)
      rw [hl]
      refine ev_iconst 26 dX9_isLetter_25 rfl ?_
      refine ev_goto 30 dX9_isLetter_26 rfl ?_
      exact ev_zret rfl dX9_isLetter_30 (by omega) (⟨rfl, rfl⟩)
    · refine ev_iload_n 14 dX9_isLetter_13 rfl rfl ?_
      refine ev_bipush 16 dX9_isLetter_14 rfl (by decide +kernel) ?_
      refine ev_icmp_eq 19 25 dX9_isLetter_16 rfl rfl (by omega) (by omega) (fun c16 => ?_) (fun c16 => ?_)
      · have hl : letB c = true := decide_eq_true (by omega)
        rw [hl]
        refine ev_iconst 26 dX9_isLetter_25 rfl ?_
        refine ev_goto 30 dX9_isLetter_26 rfl ?_
        exact ev_zret rfl dX9_isLetter_30 (by omega) (⟨rfl, rfl⟩)
      · refine ev_iload_n 20 dX9_isLetter_19 rfl rfl ?_
        refine ev_bipush 22 dX9_isLetter_20 rfl (by decide +kernel) ?_
        refine ev_icmp_ne 25 29 dX9_isLetter_22 rfl rfl (by omega) (by omega) (fun c22 => ?_) (fun c22 => ?_)
        · have hl : letB c = false := decide_eq_false (by omega)
          rw [hl]
          refine ev_iconst 30 dX9_isLetter_29 rfl ?_
          exact ev_zret rfl dX9_isLetter_30 (by omega) (⟨rfl, rfl⟩)
        · have hl : letB c = true := decide_eq_true (by omega)
          rw [hl]
          refine ev_iconst 26 dX9_isLetter_25 rfl ?_
          refine ev_goto 30 dX9_isLetter_26 rfl ?_
          exact ev_zret rfl dX9_isLetter_30 (by omega) (⟨rfl, rfl⟩)
end NX
theorem m_letterAt {h : Hp} {p : Int} (hp : 0 ≤ p ∧ p < 2147483648) (hL : 0 ≤ h 0 14 ∧ h 0 14 ≤ 120) : Ev shM mX9_letterAt 0 [some (vr 0), some (vi p)] [] h (RI fun x h' => x = ch (h 9) (h 0 14) p ∧ h = h') := by
  unfold ch
  refine ev_iload_n 1 dX9_letterAt_0 rfl rfl ?_
  refine ev_aload_n 2 dX9_letterAt_1 rfl rfl ?_
  refine ev_getI 5 14 fX9_84 rfl dX9_letterAt_2 rfl rfl rfl (by decide) rfl ?_
  refine ev_icmp_ge 8 17 dX9_letterAt_5 rfl rfl (by omega) (by omega) (fun c5 => ?_) (fun c5 => ?_)
  · rw [if_neg (by omega)]
    refine ev_iconst 18 dX9_letterAt_17 rfl ?_
    exact ev_iret rfl dX9_letterAt_18 (⟨rfl, rfl⟩)
  · rw [if_pos (by omega)]
    refine ev_aload_n 9 dX9_letterAt_8 rfl rfl ?_
    refine ev_getR 12 fX9_35 rfl dX9_letterAt_9 rfl rfl rfl ?_
    refine ev_iload_n 13 dX9_letterAt_12 rfl rfl ?_
    refine ev_iald 14 dX9_letterAt_13 rfl rfl (by decide) (by omega) ?_
    refine ev_goto 18 dX9_letterAt_14 rfl ?_
    exact ev_iret rfl dX9_letterAt_18 (⟨rfl, rfl⟩)
/-- the model's token by its kind -/
def mTok (k v : Int) : Int := if k = -1 then 0 else if k = -2 then (if v < 0 then 4 else 2) else if letB k = true then 1 else if k = 59 then 3 else 4
def fr4 (f g : Int → Int) : Prop := ∀ i, (i < 15 ∨ 18 < i) → f i = g i
theorem fr4.up {f g : Int → Int} (h : fr4 f g) {j v : Int} (hj : 15 ≤ j ∧ j ≤ 18) : fr4 (up f j v) g := fun i hi => by rw [up_n (by omega)]; exact h i hi
/-- the model reads the next token -/
def nxt (h : Hp) (t : Int → Int) (L p : Int) (h' : Hp) : Prop := ∃ f, h' = hput h 0 f ∧ fr4 f (h 0) ∧ f 15 = tE t L p ∧ f 16 = tS t L p ∧ f 17 = mTok (tK t L p) (tV t L p) ∧ (0 ≤ f 18 ∧ f 18 ≤ 999) ∧ (tK t L p = -2 → 0 ≤ tV t L p → f 18 = tV t L p) ∧ (0 ≤ tK t L p → f 18 = tK t L p)
section NY
variable {h : Hp}
theorem m_next_sk {post : Option AV → Hp → Prop} (hL : 0 ≤ h 0 14 ∧ h 0 14 ≤ 120) (ht : ∀ i, 0 ≤ i → i < h 0 14 → 0 ≤ h 9 i ∧ h 9 i ≤ 255) : ∀ (k : Nat) (p : Int) (f : Int → Int), 0 ≤ p → h 0 14 - p = k → fr4 f (h 0) → f 15 = p → (∀ f', fr4 f' (h 0) → f' 15 = skp (h 9) (h 0 14) k p → Ev shM mX9_next 26 [some (vr 0), none] [] (hput h 0 f') post) → Ev shM mX9_next 0 [some (vr 0), none] [] (hput h 0 f) post := by
  intro k
  induction k with
  | zero =>
    intro p f h0 h1 hf hp K
    have hc : ch (h 9) (h 0 14) p = -1 := if_neg (by omega)
    refine ev_aload_n 1 dX9_next_0 rfl rfl ?_
    refine ev_aload_n 2 dX9_next_1 rfl rfl ?_
    refine ev_getI' 5 15 (p) fX9_91 rfl dX9_next_2 rfl rfl rfl (by decide) rfl hp ?_
    refine cVi1 8 kX9_next_94 dX9_next_5 rfl rfl rfl rfl rfl (by decide) rfl (Nat.le_of_ble_eq_true rfl) (m_letterAt (h := hput h 0 f) (by omega) (by show 0 ≤ f 14 ∧ f 14 ≤ 120; rw [hf 14 (by omega)]; exact hL)) ?_
    rintro x _ ⟨e5, rfl⟩
    have e5 : x = ch (h 9) (f 14) p := e5
    rw [hf 14 (by omega), hc] at e5
    rw [e5]
    refine ev_bipush 10 dX9_next_8 rfl (by decide +kernel) ?_
    refine ev_icmp_ne 13 26 dX9_next_10 rfl rfl (by omega) (by omega) (fun c10 => ?_) (fun c10 => ?_)
    · exact K f hf hp
    · omega --done
  | succ k ih =>
    intro p f h0 h1 hf hp K
    have hc : ch (h 9) (h 0 14) p = h 9 p := if_pos (by omega)
    have htp := ht p h0 (by omega)
    unfold skp at K
    refine ev_aload_n 1 dX9_next_0 rfl rfl ?_
    refine ev_aload_n 2 dX9_next_1 rfl rfl ?_
    refine ev_getI' 5 15 (p) fX9_91 rfl dX9_next_2 rfl rfl rfl (by decide) rfl hp ?_
    refine cVi1 8 kX9_next_94 dX9_next_5 rfl rfl rfl rfl rfl (by decide) rfl (Nat.le_of_ble_eq_true rfl) (m_letterAt (h := hput h 0 f) (by omega) (by show 0 ≤ f 14 ∧ f 14 ≤ 120; rw [hf 14 (by omega)]; exact hL)) ?_
    rintro x _ ⟨e5, rfl⟩
    have e5 : x = ch (h 9) (f 14) p := e5
    rw [hf 14 (by omega)] at e5
    rw [e5]
    refine ev_bipush 10 dX9_next_8 rfl (by decide +kernel) ?_
    refine ev_icmp_ne 13 26 dX9_next_10 rfl rfl (by omega) (by omega) (fun c10 => ?_) (fun c10 => ?_)
    · rw [if_neg c10] at K
      exact K f hf hp --done
    · rw [if_pos c10] at K
      refine ev_aload_n 14 dX9_next_13 rfl rfl ?_
      refine ev_dup_r 15 dX9_next_14 rfl ?_
      refine ev_getI' 18 15 (p) fX9_91 rfl dX9_next_15 rfl rfl rfl (by decide) rfl hp ?_
      refine ev_iconst 19 dX9_next_18 rfl ?_
      refine ev_iadd 20 dX9_next_19 rfl ?_
      refine ev_putI' 23 15 (hput h 0 (up f 15 (p + 1))) pX9_91 rfl dX9_next_20 rfl rfl rfl rfl hput_hput ?_
      refine ev_goto 0 dX9_next_23 rfl ?_
      exact ih (p + 1) (up f 15 (p + 1)) (by omega) (by omega) (hf.up (by omega)) up_s K
theorem m_next_dg {post : Option AV → Hp → Prop} {c : Int} (hL : 0 ≤ h 0 14 ∧ h 0 14 ≤ 120) (ht : ∀ i, 0 ≤ i → i < h 0 14 → 0 ≤ h 9 i ∧ h 9 i ≤ 255) : ∀ (k : Nat) (p v : Int) (f : Int → Int), 0 ≤ p → h 0 14 - p = k → fr4 f (h 0) → f 15 = p → f 18 = v → 0 ≤ v ∧ v ≤ 999 → (∀ f', fr4 f' (h 0) → f' 16 = f 16 → f' 15 = dge (h 9) (h 0 14) k p → f' 18 = nmF (h 9) (dge (h 9) (h 0 14) k p - p).toNat p v → Ev shM mX9_next 133 [some (vr 0), some (vi c)] [] (hput h 0 f') post) → Ev shM mX9_next 67 [some (vr 0), some (vi c)] [] (hput h 0 f) post := by
  intro k
  induction k with
  | zero =>
    intro p v f h0 h1 hf hp hv hvr K
    have hc : ch (h 9) (h 0 14) p = -1 := if_neg (by omega)
    have e0 : dge (h 9) (h 0 14) 0 p = p := rfl
    rw [e0, show (p - p).toNat = 0 by omega] at K
    refine ev_aload_n 68 dX9_next_67 rfl rfl ?_
    refine ev_aload_n 69 dX9_next_68 rfl rfl ?_
    refine ev_getI' 72 15 (p) fX9_91 rfl dX9_next_69 rfl rfl rfl (by decide) rfl hp ?_
    refine cVi1 75 kX9_next_94 dX9_next_72 rfl rfl rfl rfl rfl (by decide) rfl (Nat.le_of_ble_eq_true rfl) (m_letterAt (h := hput h 0 f) (by omega) (by show 0 ≤ f 14 ∧ f 14 ≤ 120; rw [hf 14 (by omega)]; exact hL)) ?_
    rintro x _ ⟨e5, rfl⟩
    have e5 : x = ch (h 9) (f 14) p := e5
    rw [hf 14 (by omega), hc] at e5
    rw [e5]
    refine cSi1 78 kX9_next_106 dX9_next_75 rfl rfl (by decide) rfl (Nat.le_of_ble_eq_true rfl) (m_isFigure (by omega)) ?_
    rintro x _ ⟨rfl, rfl⟩
    refine ev_if_eq 81 133 dX9_next_78 rfl rfl (b2i_r _) (fun c78 => ?_) (fun c78 => ?_)
    · exact K f hf rfl hp hv
    · exact absurd rfl c78 --done
  | succ k ih =>
    intro p v f h0 h1 hf hp hv hvr K
    have hc : ch (h 9) (h 0 14) p = h 9 p := if_pos (by omega)
    have htp := ht p h0 (by omega)
    have hd1 := dge_r (t := h 9) (L := h 0 14) k (p + 1) (by omega)
    unfold dge at K
    rw [hc] at K
    refine ev_aload_n 68 dX9_next_67 rfl rfl ?_
    refine ev_aload_n 69 dX9_next_68 rfl rfl ?_
    refine ev_getI' 72 15 (p) fX9_91 rfl dX9_next_69 rfl rfl rfl (by decide) rfl hp ?_
    refine cVi1 75 kX9_next_94 dX9_next_72 rfl rfl rfl rfl rfl (by decide) rfl (Nat.le_of_ble_eq_true rfl) (m_letterAt (h := hput h 0 f) (by omega) (by show 0 ≤ f 14 ∧ f 14 ≤ 120; rw [hf 14 (by omega)]; exact hL)) ?_
    rintro x _ ⟨e5, rfl⟩
    have e5 : x = ch (h 9) (f 14) p := e5
    rw [hf 14 (by omega), hc] at e5
    rw [e5]
    refine cSi1 78 kX9_next_106 dX9_next_75 rfl rfl (by decide) rfl (Nat.le_of_ble_eq_true rfl) (m_isFigure (by omega)) ?_
    rintro x _ ⟨rfl, rfl⟩
    refine ev_if_eq 81 133 dX9_next_78 rfl rfl (b2i_r _) (fun c78 => ?_) (fun c78 => ?_)
    · rw [if_neg (by rw [b2i_0.mp c78]; decide), show (p - p).toNat = 0 by omega] at K
      exact K f hf rfl hp hv --done
    · have d78 := digB_t.mp (b2i_n.mp c78)
      rw [if_pos (b2i_n.mp c78), show (dge (h 9) (h 0 14) k (p + 1) - p).toNat = (dge (h 9) (h 0 14) k (p + 1) - (p + 1)).toNat + 1 by omega] at K
      unfold nmF at K
      refine ev_aload_n 82 dX9_next_81 rfl rfl ?_
      refine ev_aload_n 83 dX9_next_82 rfl rfl ?_
      refine ev_getI' 86 18 (v) fX9_100 rfl dX9_next_83 rfl rfl rfl (by decide) rfl hv ?_
      refine ev_bipush 88 dX9_next_86 rfl (by decide +kernel) ?_
      refine ev_icmp_le 91 98 dX9_next_88 rfl rfl (by omega) (by omega) (fun c88 => ?_) (fun c88 => ?_)
      · rw [if_neg (by omega)] at K
        refine ev_bipush 100 dX9_next_98 rfl (by decide +kernel) ?_
        refine ev_aload_n 101 dX9_next_100 rfl rfl ?_
        refine ev_getI' 104 18 (v) fX9_100 rfl dX9_next_101 rfl rfl rfl (by decide) rfl hv ?_
        refine ev_imul 105 dX9_next_104 rfl ?_
        refine ev_aload_n 106 dX9_next_105 rfl rfl ?_
        refine ev_aload_n 107 dX9_next_106 rfl rfl ?_
        refine ev_getI' 110 15 (p) fX9_91 rfl dX9_next_107 rfl rfl rfl (by decide) rfl hp ?_
        refine cVi1 113 kX9_next_94 dX9_next_110 rfl rfl rfl rfl rfl (by decide) rfl (Nat.le_of_ble_eq_true rfl) (m_letterAt (h := hput h 0 f) (by omega) (by show 0 ≤ f 14 ∧ f 14 ≤ 120; rw [hf 14 (by omega)]; exact hL)) ?_
        rintro x _ ⟨e6, rfl⟩
        have e6 : x = ch (h 9) (f 14) p := e6
        rw [hf 14 (by omega), hc] at e6
        rw [e6]
        refine ev_iadd 114 dX9_next_113 rfl ?_
        refine ev_bipush 116 dX9_next_114 rfl (by decide +kernel) ?_
        refine ev_isub 117 dX9_next_116 rfl ?_
        refine ev_putI' 120 18 (hput h 0 (up f 18 _)) pX9_100 rfl dX9_next_117 rfl rfl rfl rfl hput_hput ?_
        refine ev_aload_n 121 dX9_next_120 rfl rfl ?_
        refine ev_dup_r 122 dX9_next_121 rfl ?_
        refine ev_getI' 125 15 (p) fX9_91 rfl dX9_next_122 rfl rfl rfl (by decide) rfl (by rw [hput_s, up_n (by decide)]; exact hp) ?_
        refine ev_iconst 126 dX9_next_125 rfl ?_
        refine ev_iadd 127 dX9_next_126 rfl ?_
        refine ev_putI' 130 15 (hput h 0 (up (up f 18 _) 15 (p + 1))) pX9_91 rfl dX9_next_127 rfl rfl rfl rfl hput_hput ?_
        refine ev_goto 67 dX9_next_130 rfl ?_
        exact ih (p + 1) _ _ (by omega) (by omega) ((hf.up (by omega)).up (by omega)) up_s ((up_n (by decide)).trans up_s) (by omega) (fun f' a1 a2 a3 a4 => K f' a1 (a2.trans ((up_n (by decide)).trans (up_n (by decide)))) a3 a4)
      · rw [if_pos (by omega)] at K
        refine ev_aload_n 92 dX9_next_91 rfl rfl ?_
        refine ev_getI' 95 18 (v) fX9_100 rfl dX9_next_92 rfl rfl rfl (by decide) rfl hv ?_
        refine ev_goto 117 dX9_next_95 rfl ?_
        refine ev_putI' 120 18 (hput h 0 (up f 18 _)) pX9_100 rfl dX9_next_117 rfl rfl rfl rfl hput_hput ?_
        refine ev_aload_n 121 dX9_next_120 rfl rfl ?_
        refine ev_dup_r 122 dX9_next_121 rfl ?_
        refine ev_getI' 125 15 (p) fX9_91 rfl dX9_next_122 rfl rfl rfl (by decide) rfl (by rw [hput_s, up_n (by decide)]; exact hp) ?_
        refine ev_iconst 126 dX9_next_125 rfl ?_
        refine ev_iadd 127 dX9_next_126 rfl ?_
        refine ev_putI' 130 15 (hput h 0 (up (up f 18 _) 15 (p + 1))) pX9_91 rfl dX9_next_127 rfl rfl rfl rfl hput_hput ?_
        refine ev_goto 67 dX9_next_130 rfl ?_
        exact ih (p + 1) _ _ (by omega) (by omega) ((hf.up (by omega)).up (by omega)) up_s ((up_n (by decide)).trans up_s) (by omega) (fun f' a1 a2 a3 a4 => K f' a1 (a2.trans ((up_n (by decide)).trans (up_n (by decide)))) a3 a4)
theorem m_next_num {f : Int → Int} {s e : Int} (hf : fr4 f (h 0)) (h16 : f 16 = s) (h15 : f 15 = e) (h18 : f 18 = nmF (h 9) (e - s).toNat s 0) (hnm : (0 ≤ nmF (h 9) (e - s).toNat s 0 ∧ nmF (h 9) (e - s).toNat s 0 ≤ 999) ∧ ((99 < nmF (h 9) (e - s).toNat s 0 ∨ (h 9 s = 48 ∧ 1 < e - s)) → nv (h 9) s e = -1) ∧ (¬ (99 < nmF (h 9) (e - s).toNat s 0 ∨ (h 9 s = 48 ∧ 1 < e - s)) → nv (h 9) s e = nmF (h 9) (e - s).toNat s 0 ∧ 0 ≤ nv (h 9) s e)) (hts : 0 ≤ h 9 s ∧ h 9 s ≤ 255) (hs : 0 ≤ s ∧ s ≤ 120) (he : 0 ≤ e ∧ e ≤ 120) : Ev shM mX9_next 133 [some (vr 0), some (vi (h 9 s))] [] (hput h 0 f) (RV fun h' => ∃ f, h' = hput h 0 f ∧ fr4 f (h 0) ∧ f 15 = e ∧ f 16 = s ∧ f 17 = mTok (-2) (nv (h 9) s e) ∧ (0 ≤ f 18 ∧ f 18 ≤ 999) ∧ ((-2 : Int) = -2 → 0 ≤ nv (h 9) s e → f 18 = nv (h 9) s e) ∧ ((0 : Int) ≤ -2 → f 18 = -2)) := by
  generalize nmF (h 9) (e - s).toNat s 0 = nm at *
  refine ev_aload_n 134 dX9_next_133 rfl rfl ?_
  refine ev_aload_n 135 dX9_next_134 rfl rfl ?_
  refine ev_getI' 138 18 (nm) fX9_100 rfl dX9_next_135 rfl rfl rfl (by decide) rfl h18 ?_
  refine ev_bipush 140 dX9_next_138 rfl (by decide +kernel) ?_
  refine ev_icmp_gt 143 162 dX9_next_140 rfl rfl (by omega) (by omega) (fun c140 => ?_) (fun c140 => ?_)
  · have hv := hnm.2.1 (by omega)
    refine ev_iconst 163 dX9_next_162 rfl ?_
    refine ev_goto 167 dX9_next_163 rfl ?_
    refine ev_putI' 170 17 (hput h 0 (up f 17 _)) pX9_103 rfl dX9_next_167 rfl rfl rfl rfl hput_hput ?_
    refine ev_goto 214 dX9_next_170 rfl ?_
    exact ev_vret rfl dX9_next_214 (⟨_, rfl, hf.up (by omega), by rw [up_n (by decide)]; exact h15, by rw [up_n (by decide)]; exact h16, by rw [up_s]; unfold mTok; rw [if_neg (by decide), if_pos rfl]; first | rw [if_pos (by omega)] | rw [if_neg (by omega)], by rw [up_n (by decide), h18]; exact hnm.1, fun _ w => by rw [up_n (by decide), h18]; omega, fun w => by omega⟩)
  · refine ev_iload_n 144 dX9_next_143 rfl rfl ?_
    refine ev_bipush 146 dX9_next_144 rfl (by decide +kernel) ?_
    refine ev_icmp_ne 149 166 dX9_next_146 rfl rfl (by omega) (by omega) (fun c146 => ?_) (fun c146 => ?_)
    · have hv := hnm.2.2 (by omega)
      refine ev_iconst 167 dX9_next_166 rfl ?_
      refine ev_putI' 170 17 (hput h 0 (up f 17 _)) pX9_103 rfl dX9_next_167 rfl rfl rfl rfl hput_hput ?_
      refine ev_goto 214 dX9_next_170 rfl ?_
      exact ev_vret rfl dX9_next_214 (⟨_, rfl, hf.up (by omega), by rw [up_n (by decide)]; exact h15, by rw [up_n (by decide)]; exact h16, by rw [up_s]; unfold mTok; rw [if_neg (by decide), if_pos rfl]; first | rw [if_pos (by omega)] | rw [if_neg (by omega)], by rw [up_n (by decide), h18]; exact hnm.1, fun _ w => by rw [up_n (by decide), h18]; omega, fun w => by omega⟩)
    · refine ev_aload_n 150 dX9_next_149 rfl rfl ?_
      refine ev_getI' 153 15 (e) fX9_91 rfl dX9_next_150 rfl rfl rfl (by decide) rfl h15 ?_
      refine ev_aload_n 154 dX9_next_153 rfl rfl ?_
      refine ev_getI' 157 16 (s) fX9_97 rfl dX9_next_154 rfl rfl rfl (by decide) rfl h16 ?_
      refine ev_isub 158 dX9_next_157 rfl ?_
      refine ev_iconst 159 dX9_next_158 rfl ?_
      refine ev_icmp_le 162 166 dX9_next_159 rfl rfl (by omega) (by omega) (fun c159 => ?_) (fun c159 => ?_)
      · have hv := hnm.2.2 (by omega)
        refine ev_iconst 167 dX9_next_166 rfl ?_
        refine ev_putI' 170 17 (hput h 0 (up f 17 _)) pX9_103 rfl dX9_next_167 rfl rfl rfl rfl hput_hput ?_
        refine ev_goto 214 dX9_next_170 rfl ?_
        exact ev_vret rfl dX9_next_214 (⟨_, rfl, hf.up (by omega), by rw [up_n (by decide)]; exact h15, by rw [up_n (by decide)]; exact h16, by rw [up_s]; unfold mTok; rw [if_neg (by decide), if_pos rfl]; first | rw [if_pos (by omega)] | rw [if_neg (by omega)], by rw [up_n (by decide), h18]; exact hnm.1, fun _ w => by rw [up_n (by decide), h18]; omega, fun w => by omega⟩)
      · have hv := hnm.2.1 (by omega)
        refine ev_iconst 163 dX9_next_162 rfl ?_
        refine ev_goto 167 dX9_next_163 rfl ?_
        refine ev_putI' 170 17 (hput h 0 (up f 17 _)) pX9_103 rfl dX9_next_167 rfl rfl rfl rfl hput_hput ?_
        refine ev_goto 214 dX9_next_170 rfl ?_
        exact ev_vret rfl dX9_next_214 (⟨_, rfl, hf.up (by omega), by rw [up_n (by decide)]; exact h15, by rw [up_n (by decide)]; exact h16, by rw [up_s]; unfold mTok; rw [if_neg (by decide), if_pos rfl]; first | rw [if_pos (by omega)] | rw [if_neg (by omega)], by rw [up_n (by decide), h18]; exact hnm.1, fun _ w => by rw [up_n (by decide), h18]; omega, fun w => by omega⟩)
theorem m_next {p : Int} (hL : 0 ≤ h 0 14 ∧ h 0 14 ≤ 120) (ht : ∀ i, 0 ≤ i → i < h 0 14 → 0 ≤ h 9 i ∧ h 9 i ≤ 255) (h15 : h 0 15 = p) (hp : 0 ≤ p ∧ p ≤ h 0 14) : Ev shM mX9_next 0 [some (vr 0), none] [] h (RV fun h' => nxt h (h 9) (h 0 14) p h') := by
  refine ev_heap (hput_id (k := 0)).symm (m_next_sk hL ht (h 0 14 - p).toNat p (h 0) hp.1 (by omega) (fun _ _ => rfl) h15 (fun f hf hf15 => ?_))
  have hf15 : f 15 = tS (h 9) (h 0 14) p := hf15
  have hS := tS_r (t := h 9) hp.2
  have hK : tK (h 9) (h 0 14) p = eK (h 9) (h 0 14) (tS (h 9) (h 0 14) p) := rfl
  have hE : tE (h 9) (h 0 14) p = eE (h 9) (h 0 14) (tS (h 9) (h 0 14) p) := rfl
  have hV : tV (h 9) (h 0 14) p = nv (h 9) (tS (h 9) (h 0 14) p) (eE (h 9) (h 0 14) (tS (h 9) (h 0 14) p)) := rfl
  unfold nxt
  rw [hK, hE, hV]
  generalize tS (h 9) (h 0 14) p = s at *
  have hF3 : fr4 (up (up f 16 s) 18 0) (h 0) := (hf.up (by omega)).up (by omega)
  by_cases hs : s < h 0 14
  · have hc : ch (h 9) (h 0 14) s = h 9 s := if_pos hs
    have hts := ht s (by omega) hs
    by_cases hd : digB (h 9 s) = true
    · have e1 : eK (h 9) (h 0 14) s = -2 := by unfold eK; rw [if_pos hs, if_pos hd]
      have e2 : eE (h 9) (h 0 14) s = dge (h 9) (h 0 14) (h 0 14 - s).toNat s := by unfold eE; rw [if_pos hs, if_pos hd]
      have e3 := eE_r (t := h 9) (L := h 0 14) (s := s) (by omega)
      rw [e1, e2]
      rw [e2] at e3
      have hnm := nm_nv (t := h 9) (s := s) (e := dge (h 9) (h 0 14) (h 0 14 - s).toNat s) (e3.2.2 hs) (fun q a b => dge_dig _ _ _ (by omega) a b)
      generalize he : dge (h 9) (h 0 14) (h 0 14 - s).toNat s = e at *
      refine ev_aload_n 27 dX9_next_26 rfl rfl ?_
      refine ev_aload_n 28 dX9_next_27 rfl rfl ?_
      refine ev_getI' 31 15 (s) fX9_91 rfl dX9_next_28 rfl rfl rfl (by decide) rfl hf15 ?_
      refine ev_putI' 34 16 (hput h 0 (up f 16 s)) pX9_97 rfl dX9_next_31 rfl rfl rfl rfl hput_hput ?_
      refine ev_aload_n 35 dX9_next_34 rfl rfl ?_
      refine ev_aload_n 36 dX9_next_35 rfl rfl ?_
      refine ev_getI' 39 15 (s) fX9_91 rfl dX9_next_36 rfl rfl rfl (by decide) rfl (by rw [hput_s, up_n (by decide)]; exact hf15) ?_
      refine cVi1 42 kX9_next_94 dX9_next_39 rfl rfl rfl rfl rfl (by decide) rfl (Nat.le_of_ble_eq_true rfl) (m_letterAt (h := hput h 0 (up f 16 s)) (by omega) (by rw [hput_s, up_n (by decide), hf 14 (by omega)]; exact hL)) ?_
      rintro x _ ⟨e5, rfl⟩
      rw [hput_s, up_n (by decide), hf 14 (by omega), hput_n (by decide), hc] at e5
      rw [e5]
      refine ev_istore_n 43 dX9_next_42 rfl (Nat.le_of_ble_eq_true rfl) ?_
      refine ev_aload_n 44 dX9_next_43 rfl rfl ?_
      refine ev_iconst 45 dX9_next_44 rfl ?_
      refine ev_putI' 48 18 (hput h 0 (up (up f 16 s) 18 0)) pX9_100 rfl dX9_next_45 rfl rfl rfl rfl hput_hput ?_
      refine ev_iload_n 49 dX9_next_48 rfl rfl ?_
      refine ev_if_ge 52 60 dX9_next_49 rfl rfl (by omega) (fun c49 => ?_) (fun c49 => ?_)
      · refine ev_iload_n 61 dX9_next_60 rfl rfl ?_
        refine cSi1 64 kX9_next_106 dX9_next_61 rfl rfl (by decide) rfl (Nat.le_of_ble_eq_true rfl) (m_isFigure (by omega)) ?_
        rintro x _ ⟨rfl, rfl⟩
        refine ev_if_eq 67 173 dX9_next_64 rfl rfl (b2i_r _) (fun c64 => ?_) (fun c64 => ?_)
        · rw [hd] at c64; cases c64 --done
        · refine m_next_dg hL ht (h 0 14 - s).toNat s 0 _ (by omega) (by omega) hF3 ?_ up_s (by omega) (fun f' a1 a2 a3 a4 => ?_)
          · rw [up_n (by decide), up_n (by decide)]; exact hf15
          rw [he] at a3 a4
          have a2 : f' 16 = s := by rw [a2, up_n (by decide), up_s]
          exact m_next_num a1 a2 a3 a4 hnm hts ⟨by omega, by omega⟩ (by omega)
      · omega --done
    · have hd' : digB (h 9 s) = false := by cases hq : digB (h 9 s) with | true => exact absurd hq hd | false => rfl
      have e1 : eK (h 9) (h 0 14) s = h 9 s := by unfold eK; rw [if_pos hs, if_neg hd]
      have e2 : eE (h 9) (h 0 14) s = s + 1 := by unfold eE; rw [if_pos hs, if_neg hd]
      rw [e1, e2]
      have fin : ∀ tk : Int, tk = mTok (h 9 s) (nv (h 9) s (s + 1)) → ∃ f_1, hput h 0 (up (up (up (up (up f 16 s) 18 0) 17 tk) 18 (h 9 s)) 15 (s + 1)) = hput h 0 f_1 ∧ fr4 f_1 (h 0) ∧ f_1 15 = s + 1 ∧ f_1 16 = s ∧ f_1 17 = mTok (h 9 s) (nv (h 9) s (s + 1)) ∧ (0 ≤ f_1 18 ∧ f_1 18 ≤ 999) ∧ (h 9 s = -2 → 0 ≤ nv (h 9) s (s + 1) → f_1 18 = nv (h 9) s (s + 1)) ∧ (0 ≤ h 9 s → f_1 18 = h 9 s) := fun tk htk => by
        have g18 : up (up (up (up (up f 16 s) 18 0) 17 tk) 18 (h 9 s)) 15 (s + 1) 18 = h 9 s := by rw [up_n (by decide), up_s]
        refine ⟨_, rfl, ((hF3.up (by omega)).up (by omega)).up (by omega), up_s, ?_, ?_, ?_, fun w => by omega, fun _ => g18⟩
        · rw [up_n (by decide), up_n (by decide), up_n (by decide), up_n (by decide), up_s]
        · rw [up_n (by decide), up_n (by decide), up_s]; exact htk
        · rw [g18]; omega
      refine ev_aload_n 27 dX9_next_26 rfl rfl ?_
      refine ev_aload_n 28 dX9_next_27 rfl rfl ?_
      refine ev_getI' 31 15 (s) fX9_91 rfl dX9_next_28 rfl rfl rfl (by decide) rfl hf15 ?_
      refine ev_putI' 34 16 (hput h 0 (up f 16 s)) pX9_97 rfl dX9_next_31 rfl rfl rfl rfl hput_hput ?_
      refine ev_aload_n 35 dX9_next_34 rfl rfl ?_
      refine ev_aload_n 36 dX9_next_35 rfl rfl ?_
      refine ev_getI' 39 15 (s) fX9_91 rfl dX9_next_36 rfl rfl rfl (by decide) rfl (by rw [hput_s, up_n (by decide)]; exact hf15) ?_
      refine cVi1 42 kX9_next_94 dX9_next_39 rfl rfl rfl rfl rfl (by decide) rfl (Nat.le_of_ble_eq_true rfl) (m_letterAt (h := hput h 0 (up f 16 s)) (by omega) (by rw [hput_s, up_n (by decide), hf 14 (by omega)]; exact hL)) ?_
      rintro x _ ⟨e5, rfl⟩
      rw [hput_s, up_n (by decide), hf 14 (by omega), hput_n (by decide), hc] at e5
      rw [e5]
      refine ev_istore_n 43 dX9_next_42 rfl (Nat.le_of_ble_eq_true rfl) ?_
      refine ev_aload_n 44 dX9_next_43 rfl rfl ?_
      refine ev_iconst 45 dX9_next_44 rfl ?_
      refine ev_putI' 48 18 (hput h 0 (up (up f 16 s) 18 0)) pX9_100 rfl dX9_next_45 rfl rfl rfl rfl hput_hput ?_
      refine ev_iload_n 49 dX9_next_48 rfl rfl ?_
      refine ev_if_ge 52 60 dX9_next_49 rfl rfl (by omega) (fun c49 => ?_) (fun c49 => ?_)
      · refine ev_iload_n 61 dX9_next_60 rfl rfl ?_
        refine cSi1 64 kX9_next_106 dX9_next_61 rfl rfl (by decide) rfl (Nat.le_of_ble_eq_true rfl) (m_isFigure (by omega)) ?_
        rintro x _ ⟨rfl, rfl⟩
        refine ev_if_eq 67 173 dX9_next_64 rfl rfl (b2i_r _) (fun c64 => ?_) (fun c64 => ?_)
        · refine ev_aload_n 174 dX9_next_173 rfl rfl ?_
          refine ev_iload_n 175 dX9_next_174 rfl rfl ?_
          refine cSi1 178 kX9_next_110 dX9_next_175 rfl rfl (by decide) rfl (Nat.le_of_ble_eq_true rfl) (m_isLetter (by omega)) ?_
          rintro x _ ⟨rfl, rfl⟩
          refine ev_if_eq 181 185 dX9_next_178 rfl rfl (b2i_r _) (fun c178 => ?_) (fun c178 => ?_)
          · have d178 := b2i_0.mp c178
            refine ev_iload_n 186 dX9_next_185 rfl rfl ?_
            refine ev_bipush 188 dX9_next_186 rfl (by decide +kernel) ?_
            refine ev_icmp_ne 191 195 dX9_next_188 rfl rfl (by omega) (by omega) (fun c188 => ?_) (fun c188 => ?_)
            · refine ev_iconst 196 dX9_next_195 rfl ?_
              refine ev_putI' 199 17 (hput h 0 (up (up (up f 16 s) 18 0) 17 _)) pX9_103 rfl dX9_next_196 rfl rfl rfl rfl hput_hput ?_
              refine ev_aload_n 200 dX9_next_199 rfl rfl ?_
              refine ev_iload_n 201 dX9_next_200 rfl rfl ?_
              refine ev_putI' 204 18 (hput h 0 (up (up (up (up f 16 s) 18 0) 17 _) 18 (h 9 s))) pX9_100 rfl dX9_next_201 rfl rfl rfl rfl hput_hput ?_
              refine ev_aload_n 205 dX9_next_204 rfl rfl ?_
              refine ev_dup_r 206 dX9_next_205 rfl ?_
              refine ev_getI' 209 15 (s) fX9_91 rfl dX9_next_206 rfl rfl rfl (by decide) rfl (by rw [hput_s, up_n (by decide), up_n (by decide), up_n (by decide), up_n (by decide)]; exact hf15) ?_
              refine ev_iconst 210 dX9_next_209 rfl ?_
              refine ev_iadd 211 dX9_next_210 rfl ?_
              refine ev_putI' 214 15 (hput h 0 (up (up (up (up (up f 16 s) 18 0) 17 _) 18 (h 9 s)) 15 (s + 1))) pX9_91 rfl dX9_next_211 rfl rfl rfl rfl hput_hput ?_
              exact ev_vret rfl dX9_next_214 (fin _ (by unfold mTok; rw [if_neg (by omega), if_neg (by omega)]; first | rw [if_pos d178] | rw [if_neg (by rw [d178]; decide), if_pos c188] | rw [if_neg (by rw [d178]; decide), if_neg c188]))
            · refine ev_iconst 192 dX9_next_191 rfl ?_
              refine ev_goto 196 dX9_next_192 rfl ?_
              refine ev_putI' 199 17 (hput h 0 (up (up (up f 16 s) 18 0) 17 _)) pX9_103 rfl dX9_next_196 rfl rfl rfl rfl hput_hput ?_
              refine ev_aload_n 200 dX9_next_199 rfl rfl ?_
              refine ev_iload_n 201 dX9_next_200 rfl rfl ?_
              refine ev_putI' 204 18 (hput h 0 (up (up (up (up f 16 s) 18 0) 17 _) 18 (h 9 s))) pX9_100 rfl dX9_next_201 rfl rfl rfl rfl hput_hput ?_
              refine ev_aload_n 205 dX9_next_204 rfl rfl ?_
              refine ev_dup_r 206 dX9_next_205 rfl ?_
              refine ev_getI' 209 15 (s) fX9_91 rfl dX9_next_206 rfl rfl rfl (by decide) rfl (by rw [hput_s, up_n (by decide), up_n (by decide), up_n (by decide), up_n (by decide)]; exact hf15) ?_
              refine ev_iconst 210 dX9_next_209 rfl ?_
              refine ev_iadd 211 dX9_next_210 rfl ?_
              refine ev_putI' 214 15 (hput h 0 (up (up (up (up (up f 16 s) 18 0) 17 _) 18 (h 9 s)) 15 (s + 1))) pX9_91 rfl dX9_next_211 rfl rfl rfl rfl hput_hput ?_
              exact ev_vret rfl dX9_next_214 (fin _ (by unfold mTok; rw [if_neg (by omega), if_neg (by omega)]; first | rw [if_pos d178] | rw [if_neg (by rw [d178]; decide), if_pos c188] | rw [if_neg (by rw [d178]; decide), if_neg c188]))
          · have d178 := b2i_n.mp c178
            refine ev_iconst 182 dX9_next_181 rfl ?_
            refine ev_goto 196 dX9_next_182 rfl ?_
            refine ev_putI' 199 17 (hput h 0 (up (up (up f 16 s) 18 0) 17 _)) pX9_103 rfl dX9_next_196 rfl rfl rfl rfl hput_hput ?_
            refine ev_aload_n 200 dX9_next_199 rfl rfl ?_
            refine ev_iload_n 201 dX9_next_200 rfl rfl ?_
            refine ev_putI' 204 18 (hput h 0 (up (up (up (up f 16 s) 18 0) 17 _) 18 (h 9 s))) pX9_100 rfl dX9_next_201 rfl rfl rfl rfl hput_hput ?_
            refine ev_aload_n 205 dX9_next_204 rfl rfl ?_
            refine ev_dup_r 206 dX9_next_205 rfl ?_
            refine ev_getI' 209 15 (s) fX9_91 rfl dX9_next_206 rfl rfl rfl (by decide) rfl (by rw [hput_s, up_n (by decide), up_n (by decide), up_n (by decide), up_n (by decide)]; exact hf15) ?_
            refine ev_iconst 210 dX9_next_209 rfl ?_
            refine ev_iadd 211 dX9_next_210 rfl ?_
            refine ev_putI' 214 15 (hput h 0 (up (up (up (up (up f 16 s) 18 0) 17 _) 18 (h 9 s)) 15 (s + 1))) pX9_91 rfl dX9_next_211 rfl rfl rfl rfl hput_hput ?_
            exact ev_vret rfl dX9_next_214 (fin _ (by unfold mTok; rw [if_neg (by omega), if_neg (by omega)]; first | rw [if_pos d178] | rw [if_neg (by rw [d178]; decide), if_pos c188] | rw [if_neg (by rw [d178]; decide), if_neg c188]))
        · rw [hd'] at c64; exact absurd rfl c64 --done
      · omega --done
  · have hc : ch (h 9) (h 0 14) s = -1 := if_neg hs
    have e1 : eK (h 9) (h 0 14) s = -1 := by unfold eK; rw [if_neg hs]
    have e2 : eE (h 9) (h 0 14) s = s := by unfold eE; rw [if_neg hs]
    rw [e1, e2]
    refine ev_aload_n 27 dX9_next_26 rfl rfl ?_
    refine ev_aload_n 28 dX9_next_27 rfl rfl ?_
    refine ev_getI' 31 15 (s) fX9_91 rfl dX9_next_28 rfl rfl rfl (by decide) rfl hf15 ?_
    refine ev_putI' 34 16 (hput h 0 (up f 16 s)) pX9_97 rfl dX9_next_31 rfl rfl rfl rfl hput_hput ?_
    refine ev_aload_n 35 dX9_next_34 rfl rfl ?_
    refine ev_aload_n 36 dX9_next_35 rfl rfl ?_
    refine ev_getI' 39 15 (s) fX9_91 rfl dX9_next_36 rfl rfl rfl (by decide) rfl (by rw [hput_s, up_n (by decide)]; exact hf15) ?_
    refine cVi1 42 kX9_next_94 dX9_next_39 rfl rfl rfl rfl rfl (by decide) rfl (Nat.le_of_ble_eq_true rfl) (m_letterAt (h := hput h 0 (up f 16 s)) (by omega) (by rw [hput_s, up_n (by decide), hf 14 (by omega)]; exact hL)) ?_
    rintro x _ ⟨e5, rfl⟩
    rw [hput_s, up_n (by decide), hf 14 (by omega), hput_n (by decide), hc] at e5
    rw [e5]
    refine ev_istore_n 43 dX9_next_42 rfl (Nat.le_of_ble_eq_true rfl) ?_
    refine ev_aload_n 44 dX9_next_43 rfl rfl ?_
    refine ev_iconst 45 dX9_next_44 rfl ?_
    refine ev_putI' 48 18 (hput h 0 (up (up f 16 s) 18 0)) pX9_100 rfl dX9_next_45 rfl rfl rfl rfl hput_hput ?_
    refine ev_iload_n 49 dX9_next_48 rfl rfl ?_
    refine ev_if_ge 52 60 dX9_next_49 rfl rfl (by omega) (fun c49 => ?_) (fun c49 => ?_)
    · omega --done
    · refine ev_aload_n 53 dX9_next_52 rfl rfl ?_
      refine ev_iconst 54 dX9_next_53 rfl ?_
      refine ev_putI' 57 17 (hput h 0 (up (up (up f 16 s) 18 0) 17 0)) pX9_103 rfl dX9_next_54 rfl rfl rfl rfl hput_hput ?_
      refine ev_goto 214 dX9_next_57 rfl ?_
      exact ev_vret rfl dX9_next_214 (⟨_, rfl, hF3.up (by omega), by rw [up_n (by decide), up_n (by decide), up_n (by decide)]; exact hf15, by rw [up_n (by decide), up_n (by decide), up_s], by rw [up_s]; rfl, by rw [up_n (by decide), up_s]; omega, fun w => by omega, fun w => by omega⟩)
end NY
