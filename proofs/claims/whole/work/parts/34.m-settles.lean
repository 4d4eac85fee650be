/-- behind settles: all anew -/
def StM (h h' : Hp) (S : PS) : Prop := (h' 0 0 = S.1 ∧ h' 0 2 = S.2.2.1 ∧ h' 0 7 = 0 ∧ h' 0 10 = 0 ∧ h' 0 12 = h 0 12 ∧ h' 0 14 = 0) ∧ (∀ i, 0 ≤ i → i < S.1 → h' 1 i = S.2.1 i) ∧ (∀ c, 0 ≤ c → c < S.2.2.1 → h' 2 (2 * c) = S.2.2.2.1 c ∧ h' 2 (2 * c + 1) = S.2.2.2.2.1 c ∧ h' 3 c = S.2.2.2.2.2 c) ∧ (∀ i, 0 ≤ i → i < 17 → h' 4 i = if i < 5 then i else 0) ∧ h' 7 0 = 0 ∧ h' 7 1 = 0 ∧ h' 9 = h 9
section ST
variable {H : Hp}
theorem m_set_a {f : Int → Int} {post : Option AV → Hp → Prop} : ∀ (k : Nat) (i : Int) (g : Int → Int), 0 ≤ i → i + k = 16 → (∀ g', (∀ j, 0 ≤ j → j < 16 → g' j = if j < i then g j else H 10 j) → Ev shM mX9_settles 34 [some (vr 0), some (vi 16)] [] (hput (hput H 0 f) 1 g') post) → Ev shM mX9_settles 10 [some (vr 0), some (vi i)] [] (hput (hput H 0 f) 1 g) post := by
  intro k
  induction k with
  | zero =>
    intro i g h0 h1 K
    have e : i = 16 := by omega
    subst e
    refine ev_iload_n 11 dX9_settles_10 rfl rfl ?_
    refine ev_bipush 13 dX9_settles_11 rfl (by decide +kernel) ?_
    refine ev_icmp_ge 16 34 dX9_settles_13 rfl rfl (by omega) (by omega) (fun c13 => ?_) (fun c13 => ?_)
    · exact K g (fun j a b => by rw [if_pos b])
    · omega --done
  | succ k ih =>
    intro i g h0 h1 K
    refine ev_iload_n 11 dX9_settles_10 rfl rfl ?_
    refine ev_bipush 13 dX9_settles_11 rfl (by decide +kernel) ?_
    refine ev_icmp_ge 16 34 dX9_settles_13 rfl rfl (by omega) (by omega) (fun c13 => ?_) (fun c13 => ?_)
    · omega --done
    · refine ev_aload_n 17 dX9_settles_16 rfl rfl ?_
      refine ev_getR 20 fX9_7 rfl dX9_settles_17 rfl rfl rfl ?_
      refine ev_iload_n 21 dX9_settles_20 rfl rfl ?_
      refine ev_aload_n 22 dX9_settles_21 rfl rfl ?_
      refine ev_getR 25 fX9_38 rfl dX9_settles_22 rfl rfl rfl ?_
      refine ev_iload_n 26 dX9_settles_25 rfl rfl ?_
      refine ev_iald' 27 (H 10 i) dX9_settles_26 rfl rfl (by decide) (by omega) rfl ?_
      refine ev_iast' 28 (hput (hput H 0 f) 1 (up g i (H 10 i))) dX9_settles_27 rfl rfl (by decide) (by omega) hput_hput ?_
      refine ev_iinc 31 dX9_settles_28 rfl rfl ?_
      refine ev_goto 10 dX9_settles_31 rfl ?_
      refine ih (i + 1) _ (by omega) (by omega) (fun g' hg => K g' (fun j a b => ?_))
      rw [hg j a b]
      by_cases q : j = i
      · subst q; rw [if_pos (by omega), if_neg (by omega), up_s]
      · by_cases q2 : j < i
        · rw [if_pos (by omega), if_pos q2, up_n q]
        · rw [if_neg (by omega), if_neg q2]
theorem m_set_b {post : Option AV → Hp → Prop} : ∀ (k : Nat) (c : Int) (g2 g3 : Int → Int), 0 ≤ c → c + k = 5 → (∀ g2' g3', (∀ j, 0 ≤ j → j < 5 → g2' (2 * j) = (if j < c then g2 (2 * j) else H 11 (2 * j)) ∧ g2' (2 * j + 1) = (if j < c then g2 (2 * j + 1) else H 11 (2 * j + 1)) ∧ g3' j = if j < c then g3 j else H 12 j) → Ev shM mX9_settles 103 [some (vr 0), some (vi 5)] [] (hput (hput H 2 g2') 3 g3') post) → Ev shM mX9_settles 44 [some (vr 0), some (vi c)] [] (hput (hput H 2 g2) 3 g3) post := by
  intro k
  induction k with
  | zero =>
    intro c g2 g3 h0 h1 K
    have e : c = 5 := by omega
    subst e
    refine ev_iload_n 45 dX9_settles_44 rfl rfl ?_
    refine ev_iconst 46 dX9_settles_45 rfl ?_
    refine ev_icmp_ge 49 103 dX9_settles_46 rfl rfl (by omega) (by omega) (fun c46 => ?_) (fun c46 => ?_)
    · exact K g2 g3 (fun j a b => by rw [if_pos b, if_pos b, if_pos b]; exact ⟨rfl, rfl, rfl⟩)
    · omega --done
  | succ k ih =>
    intro c g2 g3 h0 h1 K
    refine ev_iload_n 45 dX9_settles_44 rfl rfl ?_
    refine ev_iconst 46 dX9_settles_45 rfl ?_
    refine ev_icmp_ge 49 103 dX9_settles_46 rfl rfl (by omega) (by omega) (fun c46 => ?_) (fun c46 => ?_)
    · omega --done
    · refine ev_aload_n 50 dX9_settles_49 rfl rfl ?_
      refine ev_getR 53 fX9_13 rfl dX9_settles_50 rfl rfl rfl ?_
      refine ev_iconst 54 dX9_settles_53 rfl ?_
      refine ev_iload_n 55 dX9_settles_54 rfl rfl ?_
      refine ev_imul 56 dX9_settles_55 rfl ?_
      refine ev_aload_n 57 dX9_settles_56 rfl rfl ?_
      refine ev_getR 60 fX9_41 rfl dX9_settles_57 rfl rfl rfl ?_
      refine ev_iconst 61 dX9_settles_60 rfl ?_
      refine ev_iload_n 62 dX9_settles_61 rfl rfl ?_
      refine ev_imul 63 dX9_settles_62 rfl ?_
      refine ev_iald' 64 (H 11 (2 * c)) dX9_settles_63 rfl rfl (by decide) (by omega) rfl ?_
      refine ev_iast' 65 (hput (hput H 2 (up g2 (2 * c) (H 11 (2 * c)))) 3 g3) dX9_settles_64 rfl rfl (by decide) (by omega) (by rw [hput_comm (by decide : 3 ≠ 2), hput_hput]; rfl) ?_
      refine ev_aload_n 66 dX9_settles_65 rfl rfl ?_
      refine ev_getR 69 fX9_13 rfl dX9_settles_66 rfl rfl rfl ?_
      refine ev_iconst 70 dX9_settles_69 rfl ?_
      refine ev_iload_n 71 dX9_settles_70 rfl rfl ?_
      refine ev_imul 72 dX9_settles_71 rfl ?_
      refine ev_iconst 73 dX9_settles_72 rfl ?_
      refine ev_iadd 74 dX9_settles_73 rfl ?_
      refine ev_aload_n 75 dX9_settles_74 rfl rfl ?_
      refine ev_getR 78 fX9_41 rfl dX9_settles_75 rfl rfl rfl ?_
      refine ev_iconst 79 dX9_settles_78 rfl ?_
      refine ev_iload_n 80 dX9_settles_79 rfl rfl ?_
      refine ev_imul 81 dX9_settles_80 rfl ?_
      refine ev_iconst 82 dX9_settles_81 rfl ?_
      refine ev_iadd 83 dX9_settles_82 rfl ?_
      refine ev_iald' 84 (H 11 (2 * c + 1)) dX9_settles_83 rfl rfl (by decide) (by omega) rfl ?_
      refine ev_iast' 85 (hput (hput H 2 (up (up g2 (2 * c) (H 11 (2 * c))) (2 * c + 1) (H 11 (2 * c + 1)))) 3 g3) dX9_settles_84 rfl rfl (by decide) (by omega) (by rw [hput_comm (by decide : 3 ≠ 2), hput_hput]; rfl) ?_
      refine ev_aload_n 86 dX9_settles_85 rfl rfl ?_
      refine ev_getR 89 fX9_16 rfl dX9_settles_86 rfl rfl rfl ?_
      refine ev_iload_n 90 dX9_settles_89 rfl rfl ?_
      refine ev_aload_n 91 dX9_settles_90 rfl rfl ?_
      refine ev_getR 94 fX9_44 rfl dX9_settles_91 rfl rfl rfl ?_
      refine ev_iload_n 95 dX9_settles_94 rfl rfl ?_
      refine ev_iald' 96 (H 12 c) dX9_settles_95 rfl rfl (by decide) (by omega) rfl ?_
      refine ev_iast' 97 (hput (hput H 2 (up (up g2 (2 * c) (H 11 (2 * c))) (2 * c + 1) (H 11 (2 * c + 1)))) 3 (up g3 c (H 12 c))) dX9_settles_96 rfl rfl (by decide) (by omega) hput_hput ?_
      refine ev_iinc 100 dX9_settles_97 rfl rfl ?_
      refine ev_goto 44 dX9_settles_100 rfl ?_
      refine ih (c + 1) _ _ (by omega) (by omega) (fun g2' g3' hg => K g2' g3' (fun j a b => ?_))
      obtain ⟨e1, e2, e3⟩ := hg j a b
      by_cases q : j = c
      · subst q
        rw [if_pos (by omega)] at e1 e2 e3
        rw [if_neg (by omega), if_neg (by omega), if_neg (by omega)]
        exact ⟨by rw [e1, up_n (by omega), up_s], by rw [e2, up_s], by rw [e3, up_s]⟩
      · by_cases q2 : j < c
        · rw [if_pos (by omega)] at e1 e2 e3
          rw [if_pos q2, if_pos q2, if_pos q2]
          exact ⟨by rw [e1, up_n (by omega), up_n (by omega)], by rw [e2, up_n (by omega), up_n (by omega)], by rw [e3, up_n q]⟩
        · rw [if_neg (by omega)] at e1 e2 e3
          rw [if_neg q2, if_neg q2, if_neg q2]
          exact ⟨e1, e2, e3⟩
theorem m_set_c {post : Option AV → Hp → Prop} : ∀ (k : Nat) (i : Int) (g : Int → Int), 0 ≤ i → i + k = 17 → (∀ g', (∀ j, 0 ≤ j → j < 17 → g' j = if j < i then g j else if j < 5 then j else 0) → Ev shM mX9_settles 133 [some (vr 0), some (vi 17)] [] (hput H 4 g') post) → Ev shM mX9_settles 105 [some (vr 0), some (vi i)] [] (hput H 4 g) post := by
  intro k
  induction k with
  | zero =>
    intro i g h0 h1 K
    have e : i = 17 := by omega
    subst e
    refine ev_iload_n 106 dX9_settles_105 rfl rfl ?_
    refine ev_bipush 108 dX9_settles_106 rfl (by decide +kernel) ?_
    refine ev_icmp_ge 111 133 dX9_settles_108 rfl rfl (by omega) (by omega) (fun c108 => ?_) (fun c108 => ?_)
    · exact K g (fun j a b => by rw [if_pos b])
    · omega --done
  | succ k ih =>
    intro i g h0 h1 K
    have go : ∀ v, v = (if i < 5 then i else 0) → Ev shM mX9_settles 126 [some (vr 0), some (vi i)] [vi v, vi i, vr 4] (hput H 4 g) post := by
      intro v hv
      refine ev_iast' 127 (hput H 4 (up g i v)) dX9_settles_126 rfl rfl (by decide) (by omega) hput_hput ?_
      refine ev_iinc 130 dX9_settles_127 rfl rfl ?_
      refine ev_goto 105 dX9_settles_130 rfl ?_
      refine ih (i + 1) _ (by omega) (by omega) (fun g' hg => K g' (fun j a b => ?_))
      rw [hg j a b]
      by_cases q : j = i
      · subst q; rw [if_pos (by omega), if_neg (by omega), up_s, hv]
      · by_cases q2 : j < i
        · rw [if_pos (by omega), if_pos q2, up_n q]
        · rw [if_neg (by omega), if_neg q2]
    refine ev_iload_n 106 dX9_settles_105 rfl rfl ?_
    refine ev_bipush 108 dX9_settles_106 rfl (by decide +kernel) ?_
    refine ev_icmp_ge 111 133 dX9_settles_108 rfl rfl (by omega) (by omega) (fun c108 => ?_) (fun c108 => ?_)
    · omega --done
    · refine ev_aload_n 112 dX9_settles_111 rfl rfl ?_
      refine ev_getR 115 fX9_19 rfl dX9_settles_112 rfl rfl rfl ?_
      refine ev_iload_n 116 dX9_settles_115 rfl rfl ?_
      refine ev_iload_n 117 dX9_settles_116 rfl rfl ?_
      refine ev_iconst 118 dX9_settles_117 rfl ?_
      refine ev_icmp_ge 121 125 dX9_settles_118 rfl rfl (by omega) (by omega) (fun c118 => ?_) (fun c118 => ?_)
      · exact ev_iconst 126 dX9_settles_125 rfl (go 0 (by rw [if_neg (by omega)])) --done
      · exact ev_iload_n 122 dX9_settles_121 rfl rfl (ev_goto 126 dX9_settles_122 rfl (go i (by rw [if_pos (by omega)]))) --done
theorem m_set_d {h : Hp} {S : PS} {g1 g2 g3 g4 : Int → Int} (hg1 : ∀ j, 0 ≤ j → j < 16 → g1 j = if j < 0 then (hput H 0 (up (H 0) 0 S.1)) 1 j else H 10 j) (hg2 : ∀ j, 0 ≤ j → j < 5 → g2 (2 * j) = (if j < 0 then H 2 (2 * j) else (hput (hput H 1 g1) 0 (up (up (H 0) 0 S.1) 2 S.2.2.1)) 11 (2 * j)) ∧ g2 (2 * j + 1) = (if j < 0 then H 2 (2 * j + 1) else (hput (hput H 1 g1) 0 (up (up (H 0) 0 S.1) 2 S.2.2.1)) 11 (2 * j + 1)) ∧ g3 j = if j < 0 then H 3 j else (hput (hput H 1 g1) 0 (up (up (H 0) 0 S.1) 2 S.2.2.1)) 12 j) (hg4 : ∀ j, 0 ≤ j → j < 17 → g4 j = if j < 0 then (hput (hput (hput (hput H 1 g1) 0 (up (up (H 0) 0 S.1) 2 S.2.2.1)) 2 g2) 3 g3) 4 j else if j < 5 then j else 0) (s2 : ∀ i, 0 ≤ i → i < S.1 → H 10 i = S.2.1 i) (s4 : ∀ c, 0 ≤ c → c < S.2.2.1 → H 11 (2 * c) = S.2.2.2.1 c ∧ H 11 (2 * c + 1) = S.2.2.2.2.1 c ∧ H 12 c = S.2.2.2.2.2 c) (e12 : H 0 12 = h 0 12) (e9 : H 9 = h 9) (o1 : 0 ≤ S.1 ∧ S.1 ≤ 16) (o2 : 0 ≤ S.2.2.1 ∧ S.2.2.1 ≤ 5) {x : Option AV} : Ev shM mX9_settles 133 [some (vr 0), x] [] (hput (hput (hput (hput (hput H 1 g1) 0 (up (up (H 0) 0 S.1) 2 S.2.2.1)) 2 g2) 3 g3) 4 g4) (RV fun h' => StM h h' S ∧ h' 0 20 = H 0 20) := by
  generalize hX : hput (hput (hput (hput (hput H 1 g1) 0 (up (up (H 0) 0 S.1) 2 S.2.2.1)) 2 g2) 3 g3) 4 g4 = X
  have x0 : X 0 = up (up (H 0) 0 S.1) 2 S.2.2.1 := by rw [← hX]; rfl
  have x1 : X 1 = g1 := by rw [← hX]; rfl
  have x2 : X 2 = g2 := by rw [← hX]; rfl
  have x3 : X 3 = g3 := by rw [← hX]; rfl
  have x4 : X 4 = g4 := by rw [← hX]; rfl
  refine ev_aload_n 134 dX9_settles_133 rfl rfl ?_
  refine ev_iconst 135 dX9_settles_134 rfl ?_
  refine ev_putI' 138 7 (hput X 0 (up (X 0) 7 0)) pX9_148 rfl dX9_settles_135 rfl rfl rfl rfl rfl ?_
  refine ev_aload_n 139 dX9_settles_138 rfl rfl ?_
  refine ev_iconst 140 dX9_settles_139 rfl ?_
  refine ev_putI' 143 10 (hput X 0 (up (up (X 0) 7 0) 10 0)) pX9_151 rfl dX9_settles_140 rfl rfl rfl rfl hput_hput ?_
  refine ev_aload_n 144 dX9_settles_143 rfl rfl ?_
  refine ev_getR 147 fX9_28 rfl dX9_settles_144 rfl rfl rfl ?_
  refine ev_iconst 148 dX9_settles_147 rfl ?_
  refine ev_iconst 149 dX9_settles_148 rfl ?_
  refine ev_zast' 150 (hput (hput X 0 (up (up (X 0) 7 0) 10 0)) 7 (up (X 7) 0 0)) dX9_settles_149 rfl rfl (by decide) (by omega) (by omega) rfl ?_
  refine ev_aload_n 151 dX9_settles_150 rfl rfl ?_
  refine ev_getR 154 fX9_28 rfl dX9_settles_151 rfl rfl rfl ?_
  refine ev_iconst 155 dX9_settles_154 rfl ?_
  refine ev_iconst 156 dX9_settles_155 rfl ?_
  refine ev_zast' 157 (hput (hput X 0 (up (up (X 0) 7 0) 10 0)) 7 (up (up (X 7) 0 0) 1 0)) dX9_settles_156 rfl rfl (by decide) (by omega) (by omega) hput_hput ?_
  refine ev_aload_n 158 dX9_settles_157 rfl rfl ?_
  refine ev_iconst 159 dX9_settles_158 rfl ?_
  refine ev_putI' 162 14 (hput (hput X 7 (up (up (X 7) 0 0) 1 0)) 0 (up (up (up (X 0) 7 0) 10 0) 14 0)) pX9_84 rfl dX9_settles_159 rfl rfl rfl rfl (by rw [hput_comm (by decide : 7 ≠ 0), hput_hput, hput_comm (by decide : 0 ≠ 7)]; rfl) ?_
  refine ev_vret rfl dX9_settles_162 ⟨⟨?_, ?_, ?_, ?_, ?_, ?_, ?_⟩, ?_⟩
  · rw [hput_s, x0]
    refine ⟨?_, ?_, ?_, ?_, ?_, up_s⟩
    · rw [up_n (by decide), up_n (by decide), up_n (by decide), up_n (by decide), up_s]
    · rw [up_n (by decide), up_n (by decide), up_n (by decide), up_s]
    · rw [up_n (by decide), up_n (by decide), up_s]
    · rw [up_n (by decide), up_s]
    · rw [up_n (by decide), up_n (by decide), up_n (by decide), up_n (by decide), up_n (by decide)]; exact e12
  · intro i a b
    rw [hput_n (by decide), hput_n (by decide), x1, hg1 i a (by omega), if_neg (by omega)]
    exact s2 i a b
  · intro c a b
    obtain ⟨y1, y2, y3⟩ := hg2 c a (by omega)
    rw [if_neg (by omega)] at y1 y2 y3
    rw [hput_n (by decide), hput_n (by decide), hput_n (by decide), hput_n (by decide), x2, x3, y1, y2, y3]
    exact s4 c a b
  · intro i a b
    rw [hput_n (by decide), hput_n (by decide), x4, hg4 i a b, if_neg (by omega)]
  · rw [hput_n (by decide), hput_s, up_n (by decide), up_s]
  · rw [hput_n (by decide), hput_s, up_s]
  · rw [hput_n (by decide), hput_n (by decide), ← hX]; exact e9
  · rw [hput_s, x0, up_n (by decide), up_n (by decide), up_n (by decide), up_n (by decide), up_n (by decide)]
theorem m_settles {h : Hp} {S : PS} (p : PsM h H) (hS : SR H S) (hSo : PSok S) : Ev shM mX9_settles 0 [some (vr 0), none] [] H (RV fun h' => StM h h' S ∧ h' 0 20 = H 0 20) := by
  obtain ⟨s1, s2, s3, s4⟩ := hS
  have o1 := hSo.1
  have o2 := hSo.2.2.1
  have e12 : H 0 12 = h 0 12 := p.2 12 (by omega)
  refine ev_aload_n 1 dX9_settles_0 rfl rfl ?_
  refine ev_aload_n 2 dX9_settles_1 rfl rfl ?_
  refine ev_getI' 5 21 (S.1) fX9_120 rfl dX9_settles_2 rfl rfl rfl (by decide) rfl s1 ?_
  refine ev_putI' 8 0 (hput H 0 (up (H 0) 0 S.1)) pX9_81 rfl dX9_settles_5 rfl rfl rfl rfl rfl ?_
  refine ev_iconst 9 dX9_settles_8 rfl ?_
  refine ev_istore_n 10 dX9_settles_9 rfl (Nat.le_of_ble_eq_true rfl) ?_
  refine ev_heap (hput_id (k := 1)).symm (m_set_a 16 0 _ (by omega) (by omega) (fun g1 hg1 => ?_))
  refine ev_aload_n 35 dX9_settles_34 rfl rfl ?_
  refine ev_aload_n 36 dX9_settles_35 rfl rfl ?_
  refine ev_getI' 39 23 S.2.2.1 fX9_123 rfl dX9_settles_36 rfl rfl rfl (by decide) rfl (by rw [hput_n (by decide), hput_s, up_n (by decide)]; exact s3) ?_
  refine ev_putI' 42 2 (hput (hput H 1 g1) 0 (up (up (H 0) 0 S.1) 2 S.2.2.1)) pX9_74 rfl dX9_settles_39 rfl rfl rfl rfl (by rw [hput_comm (by decide : 1 ≠ 0), hput_hput, hput_comm (by decide : 0 ≠ 1)]; rfl) ?_
  refine ev_iconst 43 dX9_settles_42 rfl ?_
  refine ev_istore_n 44 dX9_settles_43 rfl (Nat.le_of_ble_eq_true rfl) ?_
  refine ev_heap (show _ = hput (hput (hput (hput H 1 g1) 0 (up (up (H 0) 0 S.1) 2 S.2.2.1)) 2 (H 2)) 3 (H 3) by rw [show hput (hput (hput H 1 g1) 0 (up (up (H 0) 0 S.1) 2 S.2.2.1)) 2 (H 2) = hput (hput H 1 g1) 0 (up (up (H 0) 0 S.1) 2 S.2.2.1) from hput_id (k := 2)]; exact (hput_id (k := 3)).symm) (m_set_b 5 0 _ _ (by omega) (by omega) (fun g2 g3 hg2 => ?_))
  refine ev_iconst 104 dX9_settles_103 rfl ?_
  refine ev_istore_n 105 dX9_settles_104 rfl (Nat.le_of_ble_eq_true rfl) ?_
  refine ev_heap (hput_id (k := 4)).symm (m_set_c 17 0 _ (by omega) (by omega) (fun g4 hg4 => ?_))
  exact m_set_d hg1 hg2 hg4 s2 s4 e12 (p.1 9 (by omega) (by omega)) o1 o2
end ST
