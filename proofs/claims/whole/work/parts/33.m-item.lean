section SI
variable {h : Hp}
/-- behind an item's walk: a mistake where f says, or all as r says -/
def itP (h : Hp) (x20 : Int) (z : Int ⊕ (PS × Int)) : Option AV → Hp → Prop := RV fun h' => PsM h h' ∧ h' 0 20 = x20 ∧ ((∃ f, z = .inl f ∧ h' 0 19 = 1 ∧ h' 0 16 = f) ∨ (∃ r, z = .inr r ∧ h' 0 19 = 0 ∧ TKs h' (h 9) (h 0 14) r.2 ∧ SR h' r.1))
theorem m_it_a {H : Hp} {f x20 : Int} (p : PsM h H) (hw : H 0 19 = 1) (hf : H 0 16 = f) (h20 : H 0 20 = x20) {o1 o2 : Option AV} : Ev shM mX9_readItem 112 [some (vr 0), o1, o2] [] H (itP h x20 (.inl f)) := by
  refine ev_aload_n 113 dX9_readItem_112 rfl rfl ?_
  refine ev_aload_n 114 dX9_readItem_113 rfl rfl ?_
  refine ev_getI' 117 19 (1) fX9_113 rfl dX9_readItem_114 rfl rfl rfl (by decide) rfl hw ?_
  refine ev_if_ne 120 128 dX9_readItem_117 rfl rfl (by omega) (fun c117 => ?_) (fun c117 => ?_)
  · refine ev_iconst 129 dX9_readItem_128 rfl ?_
    refine ev_goto 133 dX9_readItem_129 rfl ?_
    refine ev_putZ' 136 19 (hput H 0 (up (H 0) 19 1)) pX9_113 rfl dX9_readItem_133 rfl rfl rfl (by omega) rfl rfl ?_
    refine ev_aload_n 137 dX9_readItem_136 rfl rfl ?_
    refine ev_getI' 140 19 (1) fX9_113 rfl dX9_readItem_137 rfl rfl rfl (by decide) rfl rfl ?_
    refine ev_if_ne 143 147 dX9_readItem_140 rfl rfl (by omega) (fun c140 => ?_) (fun c140 => ?_)
    · exact ev_vret rfl dX9_readItem_147 (⟨p.s0 (fun i hi => up_n (by omega)), by rw [hput_s, up_n (by decide)]; exact h20, Or.inl ⟨f, rfl, by rw [hput_s, up_s], by rw [hput_s, up_n (by decide)]; exact hf⟩⟩)
    · omega --done
  · omega --done
theorem m_it_b (hT : TX h) {H : Hp} {x20 q : Int} {S : PS} (p : PsM h H) (hw : H 0 19 = 0) (hk : TKs H (h 9) (h 0 14) q) (hq : 0 ≤ q ∧ q ≤ h 0 14) (hS : SR H S) (h20 : H 0 20 = x20) {o1 o2 : Option AV} : Ev shM mX9_readItem 112 [some (vr 0), o1, o2] [] H (itP h x20 (if tK (h 9) (h 0 14) q = 59 then .inr (S, tE (h 9) (h 0 14) q) else .inl (tS (h 9) (h 0 14) q))) := by
  have hE := tE_r (t := h 9) hq.2
  have htr := mTok_r (k := tK (h 9) (h 0 14) q) (v := tV (h 9) (h 0 14) q)
  refine ev_aload_n 113 dX9_readItem_112 rfl rfl ?_
  refine ev_aload_n 114 dX9_readItem_113 rfl rfl ?_
  refine ev_getI' 117 19 (0) fX9_113 rfl dX9_readItem_114 rfl rfl rfl (by decide) rfl hw ?_
  refine ev_if_ne 120 128 dX9_readItem_117 rfl rfl (by omega) (fun c117 => ?_) (fun c117 => ?_)
  · omega --done
  · refine ev_aload_n 121 dX9_readItem_120 rfl rfl ?_
    refine ev_getI' 124 17 (mTok (tK (h 9) (h 0 14) q) (tV (h 9) (h 0 14) q)) fX9_103 rfl dX9_readItem_121 rfl rfl rfl (by decide) rfl hk.2.2.1 ?_
    refine ev_iconst 125 dX9_readItem_124 rfl ?_
    refine ev_icmp_eq 128 132 dX9_readItem_125 rfl rfl (by omega) (by omega) (fun c125 => ?_) (fun c125 => ?_)
    · rw [if_pos (mTok_3.mp c125)]
      refine ev_iconst 133 dX9_readItem_132 rfl ?_
      refine ev_putZ' 136 19 (hput H 0 (up (H 0) 19 0)) pX9_113 rfl dX9_readItem_133 rfl rfl rfl (by omega) rfl rfl ?_
      refine ev_aload_n 137 dX9_readItem_136 rfl rfl ?_
      refine ev_getI' 140 19 0 fX9_113 rfl dX9_readItem_137 rfl rfl rfl (by decide) rfl rfl ?_
      refine ev_if_ne 143 147 dX9_readItem_140 rfl rfl (by omega) (fun w => by omega) (fun _ => ?_)
      refine ev_aload_n 144 dX9_readItem_143 rfl rfl ?_
      refine cVv0 147 kX9_readItem_117 dX9_readItem_144 rfl rfl rfl rfl rfl (by decide) rfl (Nat.le_of_ble_eq_true rfl) (m_nextP hT (q := tE (h 9) (h 0 14) q) (p.s0 (fun i hi => up_n (by omega))) (by rw [hput_s, up_n (by decide)]; exact hk.1) (by omega)) ?_
      rintro H2 ⟨p2, t2, f2, g2⟩
      refine ev_vret rfl dX9_readItem_147 ⟨p2, by rw [g2 20 (by omega), hput_s, up_n (by decide)]; exact h20, Or.inr ⟨_, rfl, by rw [g2 19 (by omega), hput_s, up_s], t2, ?_⟩⟩
      unfold SR at hS ⊢
      rw [g2 21 (by omega), g2 23 (by omega), f2 10 (by decide), f2 11 (by decide), f2 12 (by decide), hput_s, up_n (by decide), up_n (by decide), hput_n (by decide), hput_n (by decide), hput_n (by decide)]
      exact hS
    · rw [if_neg (fun w => c125 (mTok_3.mpr w))]
      refine ev_iconst 129 dX9_readItem_128 rfl ?_
      refine ev_goto 133 dX9_readItem_129 rfl ?_
      refine ev_putZ' 136 19 (hput H 0 (up (H 0) 19 1)) pX9_113 rfl dX9_readItem_133 rfl rfl rfl (by omega) rfl rfl ?_
      refine ev_aload_n 137 dX9_readItem_136 rfl rfl ?_
      refine ev_getI' 140 19 1 fX9_113 rfl dX9_readItem_137 rfl rfl rfl (by decide) rfl rfl ?_
      refine ev_if_ne 143 147 dX9_readItem_140 rfl rfl (by omega) (fun _ => ?_) (fun w => by omega)
      exact ev_vret rfl dX9_readItem_147 ⟨p.s0 (fun i hi => up_n (by omega)), by rw [hput_s, up_n (by decide)]; exact h20, Or.inl ⟨_, rfl, by rw [hput_s, up_s], by rw [hput_s, up_n (by decide)]; exact hk.2.1⟩⟩
theorem m_it_go (hT : TX h) {H : Hp} {x20 q : Int} {S : PS} (p : PsM h H) (hw : H 0 19 = 0) (hk : TKs H (h 9) (h 0 14) q) (hq : 0 ≤ q ∧ q ≤ h 0 14) (hS : SR H S) (hSo : PSok S) (h20 : H 0 20 = x20) (hl : (tK (h 9) (h 0 14) q = 108 ∧ S.1 = 0) ∨ (tK (h 9) (h 0 14) q = 99 ∧ S.2.2.1 < 5) ∨ tK (h 9) (h 0 14) q = 112) {o2 : Option AV} : Ev shM mX9_readItem 78 [some (vr 0), some (vi (tK (h 9) (h 0 14) q)), o2] [] H (itP h x20 (itemF (h 9) (h 0 14) S q)) := by
  have hE := tE_r (t := h 9) hq.2
  have hE2 := tE_r (t := h 9) hE.2
  have hE3 := tE_r (t := h 9) hE2.2
  obtain ⟨s1, s2, s3, s4⟩ := hS
  unfold itemF
  refine ev_aload_n 79 dX9_readItem_78 rfl rfl ?_
  refine cVv0 82 kX9_readItem_117 dX9_readItem_79 rfl rfl rfl rfl rfl (by decide) rfl (Nat.le_of_ble_eq_true rfl) (m_nextP hT (q := tE (h 9) (h 0 14) q) p hk.1 (by omega)) ?_
  rintro H2 ⟨p2, t2, f2, g2⟩
  have w2 : H2 0 19 = 0 := (g2 19 (by omega)).trans hw
  have n2 : H2 0 23 = S.2.2.1 := (g2 23 (by omega)).trans s3
  have c2 : H2 0 21 = S.1 := (g2 21 (by omega)).trans s1
  have x2 : H2 0 20 = x20 := (g2 20 (by omega)).trans h20
  refine ev_iload_n 83 dX9_readItem_82 rfl rfl ?_
  refine ev_bipush 85 dX9_readItem_83 rfl (by decide +kernel) ?_
  refine ev_icmp_ne 88 95 dX9_readItem_85 rfl rfl (by omega) (by omega) (fun c85 => ?_) (fun c85 => ?_)
  · rw [if_neg c85]
    refine ev_iload_n 96 dX9_readItem_95 rfl rfl ?_
    refine ev_bipush 98 dX9_readItem_96 rfl (by decide +kernel) ?_
    refine ev_icmp_ne 101 108 dX9_readItem_98 rfl rfl (by omega) (by omega) (fun c98 => ?_) (fun c98 => ?_)
    · rw [if_neg c98, if_pos (by omega)]
      refine ev_aload_n 109 dX9_readItem_108 rfl rfl ?_
      refine cVv0 112 kX9_readItem_136 dX9_readItem_109 rfl rfl rfl rfl rfl (by decide) rfl (Nat.le_of_ble_eq_true rfl) (m_readPusher hT p2 t2 (by omega) w2 n2 hSo.2.2.1) ?_
      rintro H3 ⟨p3, f3, g3, d3⟩
      rcases d3 with ⟨e1, e2, e3, e4⟩ | ⟨e1, e2, e3⟩ | ⟨e0, e1, e2, e3⟩
      · rw [if_pos e1.1, if_pos e1.2]
        refine m_it_b hT (S := (S.1, S.2.1, S.2.2.1, S.2.2.2.1, S.2.2.2.2.1, up S.2.2.2.2.2 (tV (h 9) (h 0 14) (tE (h 9) (h 0 14) q)) (tV (h 9) (h 0 14) (tE (h 9) (h 0 14) (tE (h 9) (h 0 14) q))))) p3 e2 e3 (by omega) ⟨g3.1.trans c2, fun i a b => by rw [f3.1, f2 10 (by decide)]; exact s2 i a b, g3.2.2, fun c a b => ?_⟩ (g3.2.1.trans x2)
        dsimp only at b ⊢
        rw [f3.2, e4, f2 11 (by decide), f2 12 (by decide)]
        refine ⟨(s4 c a b).1, (s4 c a b).2.1, ?_⟩
        by_cases z : c = tV (h 9) (h 0 14) (tE (h 9) (h 0 14) q)
        · rw [← z, up_s, up_s]
        · rw [up_n z, up_n z]; exact (s4 c a b).2.2
      · rw [if_neg e1]
        exact m_it_a p3 e2 e3 (g3.2.1.trans x2)
      · rw [if_pos e0, if_neg e1]
        exact m_it_a p3 e2 e3 (g3.2.1.trans x2)
    · rw [if_pos c98, if_pos (by omega)]
      refine ev_aload_n 102 dX9_readItem_101 rfl rfl ?_
      refine cVv0 105 kX9_readItem_133 dX9_readItem_102 rfl rfl rfl rfl rfl (by decide) rfl (Nat.le_of_ble_eq_true rfl) (m_readChair hT p2 t2 (by omega) w2 n2 ⟨hSo.2.2.1.1, by omega⟩) ?_
      rintro H3 ⟨p3, f3, g3, d3⟩
      refine ev_goto 112 dX9_readItem_105 rfl ?_
      rcases d3 with ⟨e1, e2, e3, e4, e5, e6⟩ | ⟨e1, e2, e3⟩ | ⟨e0, e1, e2, e3⟩
      · rw [if_pos e1.1, if_pos e1.2]
        refine m_it_b hT (S := (S.1, S.2.1, S.2.2.1 + 1, up S.2.2.2.1 S.2.2.1 (tV (h 9) (h 0 14) (tE (h 9) (h 0 14) q)), up S.2.2.2.2.1 S.2.2.1 (tV (h 9) (h 0 14) (tE (h 9) (h 0 14) (tE (h 9) (h 0 14) q))), up S.2.2.2.2.2 S.2.2.1 5)) p3 e2 e3 (by omega) ⟨g3.1.trans c2, fun i a b => by rw [f3, f2 10 (by decide)]; exact s2 i a b, e4, fun c a b => ?_⟩ (g3.2.trans x2)
        dsimp only at b ⊢
        rw [e5, e6, f2 11 (by decide), f2 12 (by decide)]
        by_cases z : c = S.2.2.1
        · subst z
          exact ⟨by rw [up_n (by omega), up_s, up_s], by rw [up_s, up_s], by rw [up_s, up_s]⟩
        · have s5 := s4 c a (by omega)
          exact ⟨by rw [up_n (by omega), up_n (by omega), up_n z]; exact s5.1, by rw [up_n (by omega), up_n (by omega), up_n z]; exact s5.2.1, by rw [up_n z, up_n z]; exact s5.2.2⟩
      · rw [if_neg e1]
        exact m_it_a p3 e2 e3 (g3.2.trans x2)
      · rw [if_pos e0, if_neg e1]
        exact m_it_a p3 e2 e3 (g3.2.trans x2)
  · rw [if_pos c85, if_pos (by omega)]
    refine ev_aload_n 89 dX9_readItem_88 rfl rfl ?_
    refine cVv0 92 kX9_readItem_130 dX9_readItem_89 rfl rfl rfl rfl rfl (by decide) rfl (Nat.le_of_ble_eq_true rfl) (m_cells hT 17 0 S.2.1 _ H2 none (by omega) (by omega) (by omega) (by omega) p2 t2 w2 (by rw [c2]; omega) (fun i a b => by omega)) ?_
    rintro H3 ⟨p3, f3, g3, d3⟩
    refine ev_goto 112 dX9_readItem_92 rfl ?_
    rcases d3 with ⟨f, e1, e2, e3⟩ | ⟨r, e1, e2, e3, e4, e5⟩
    · rw [e1]
      exact m_it_a p3 e2 e3 (g3.1.trans x2)
    · rw [e1]
      have hk := cells_ok 17 0 _ _ r (by omega) (by omega) (by omega) (by omega) (fun i a b => by omega) e1
      have K := m_it_b hT (S := (r.1.1, r.1.2, S.2.2)) p3 e2 e5 (by omega) ⟨e3, e4, g3.2.trans n2, fun c a b => by rw [f3 11 (by decide), f3 12 (by decide), f2 11 (by decide), f2 12 (by decide)]; exact s4 c a b⟩ (g3.1.trans x2) (o1 := some (vi (tK (h 9) (h 0 14) q))) (o2 := o2)
      rw [if_pos hk.2.2.2.2] at K
      exact K
theorem m_readItem (hT : TX h) {H : Hp} {x20 q : Int} {S : PS} (p : PsM h H) (hw : H 0 19 = 0) (hk : TKs H (h 9) (h 0 14) q) (hq : 0 ≤ q ∧ q ≤ h 0 14) (hS : SR H S) (hSo : PSok S) (h20 : H 0 20 = x20) : Ev shM mX9_readItem 0 [some (vr 0), none, none] [] H (itP h x20 (itemF (h 9) (h 0 14) S q)) := by
  have htr := mTok_r (k := tK (h 9) (h 0 14) q) (v := tV (h 9) (h 0 14) q)
  have h21 := hS.1
  have h23 := hS.2.2.1
  have o1 := hSo.1
  have o2 := hSo.2.2.1
  have hbad : (¬ mTok (tK (h 9) (h 0 14) q) (tV (h 9) (h 0 14) q) = 1) ∨ (tK (h 9) (h 0 14) q = 108 ∧ ¬ S.1 = 0) ∨ (tK (h 9) (h 0 14) q = 99 ∧ ¬ S.2.2.1 < 5) ∨ (¬ tK (h 9) (h 0 14) q = 108 ∧ ¬ tK (h 9) (h 0 14) q = 99 ∧ ¬ tK (h 9) (h 0 14) q = 112) → itemF (h 9) (h 0 14) S q = .inl (tS (h 9) (h 0 14) q) := by
    intro hb
    have hl : ¬ mTok (tK (h 9) (h 0 14) q) (tV (h 9) (h 0 14) q) = 1 → ¬ tK (h 9) (h 0 14) q = 108 ∧ ¬ tK (h 9) (h 0 14) q = 99 ∧ ¬ tK (h 9) (h 0 14) q = 112 := fun hn => by
      refine ⟨fun w => hn (mTok_1.mpr ⟨by omega, decide_eq_true (by omega)⟩), fun w => hn (mTok_1.mpr ⟨by omega, decide_eq_true (by omega)⟩), fun w => hn (mTok_1.mpr ⟨by omega, decide_eq_true (by omega)⟩)⟩
    unfold itemF
    rcases hb with b | ⟨b1, b2⟩ | ⟨b1, b2⟩ | b
    · have b := hl b
      rw [if_neg b.1, if_neg b.2.1, if_neg b.2.2]
    · rw [if_pos b1, if_neg b2]
    · rw [if_neg (by omega), if_pos b1, if_neg b2]
    · rw [if_neg b.1, if_neg b.2.1, if_neg b.2.2]
  have wr : itemF (h 9) (h 0 14) S q = .inl (tS (h 9) (h 0 14) q) → ∀ x1 x2, Ev shM mX9_readItem 72 [some (vr 0), x1, x2] [] H (itP h x20 (itemF (h 9) (h 0 14) S q)) := by
    intro he x1 x2
    rw [he]
    refine ev_aload_n 73 dX9_readItem_72 rfl rfl ?_
    refine ev_iconst 74 dX9_readItem_73 rfl ?_
    refine ev_putZ' 77 19 (hput H 0 (up (H 0) 19 1)) pX9_113 rfl dX9_readItem_74 rfl rfl rfl (by omega) rfl rfl ?_
    exact ev_vret rfl dX9_readItem_77 (⟨p.s0 (fun i hi => up_n (by omega)), by rw [hput_s, up_n (by decide)]; exact h20, Or.inl ⟨_, rfl, by rw [hput_s, up_s], by rw [hput_s, up_n (by decide)]; exact hk.2.1⟩⟩)
  have hkk := hk.2.2.2.1
  have e65 : mTok (tK (h 9) (h 0 14) q) (tV (h 9) (h 0 14) q) = 1 → H 0 18 = tK (h 9) (h 0 14) q := fun w => hk.2.2.2.2.2 (by
    have e := (mTok_1.mp w).2
    unfold letB at e
    have := of_decide_eq_true e
    unfold costZ at this
    repeat' split at this <;> omega)
  refine ev_aload_n 1 dX9_readItem_0 rfl rfl ?_
  refine ev_getI 4 18 fX9_100 rfl dX9_readItem_1 rfl rfl rfl (by decide) rfl ?_
  refine ev_istore_n 5 dX9_readItem_4 rfl (Nat.le_of_ble_eq_true rfl) ?_
  refine ev_iload_n 6 dX9_readItem_5 rfl rfl ?_
  refine ev_bipush 8 dX9_readItem_6 rfl (by decide +kernel) ?_
  refine ev_icmp_ne 11 26 dX9_readItem_8 rfl rfl (by omega) (by omega) (fun c8 => ?_) (fun c8 => ?_)
  · refine ev_iload_n 27 dX9_readItem_26 rfl rfl ?_
    refine ev_bipush 29 dX9_readItem_27 rfl (by decide +kernel) ?_
    refine ev_icmp_ne 32 48 dX9_readItem_29 rfl rfl (by omega) (by omega) (fun c29 => ?_) (fun c29 => ?_)
    · refine ev_iload_n 49 dX9_readItem_48 rfl rfl ?_
      refine ev_bipush 51 dX9_readItem_49 rfl (by decide +kernel) ?_
      refine ev_icmp_ne 54 58 dX9_readItem_51 rfl rfl (by omega) (by omega) (fun c51 => ?_) (fun c51 => ?_)
      · refine ev_iconst 59 dX9_readItem_58 rfl ?_
        refine ev_istore_n 60 dX9_readItem_59 rfl (Nat.le_of_ble_eq_true rfl) ?_
        refine ev_aload_n 61 dX9_readItem_60 rfl rfl ?_
        refine ev_getI' 64 17 (mTok (tK (h 9) (h 0 14) q) (tV (h 9) (h 0 14) q)) fX9_103 rfl dX9_readItem_61 rfl rfl rfl (by decide) rfl hk.2.2.1 ?_
        refine ev_iconst 65 dX9_readItem_64 rfl ?_
        refine ev_icmp_ne 68 72 dX9_readItem_65 rfl rfl (by omega) (by omega) (fun c65 => ?_) (fun c65 => ?_)
        · exact wr (hbad (Or.inl c65)) _ _ --done
        · have e66 := e65 c65
          refine ev_iload_n 69 dX9_readItem_68 rfl rfl ?_
          first | (refine ev_if_ne 72 78 dX9_readItem_69 rfl rfl (by omega) (fun _ => ?_) (fun w => by omega); rw [e66]; exact m_it_go hT p hw hk hq hS hSo h20 (by omega)) | (refine ev_if_ne 72 78 dX9_readItem_69 rfl rfl (by omega) (fun w => by omega) (fun _ => ?_); exact wr (hbad (Or.inr (by omega))) _ _)
      · refine ev_iconst 55 dX9_readItem_54 rfl ?_
        refine ev_goto 59 dX9_readItem_55 rfl ?_
        refine ev_istore_n 60 dX9_readItem_59 rfl (Nat.le_of_ble_eq_true rfl) ?_
        refine ev_aload_n 61 dX9_readItem_60 rfl rfl ?_
        refine ev_getI' 64 17 (mTok (tK (h 9) (h 0 14) q) (tV (h 9) (h 0 14) q)) fX9_103 rfl dX9_readItem_61 rfl rfl rfl (by decide) rfl hk.2.2.1 ?_
        refine ev_iconst 65 dX9_readItem_64 rfl ?_
        refine ev_icmp_ne 68 72 dX9_readItem_65 rfl rfl (by omega) (by omega) (fun c65 => ?_) (fun c65 => ?_)
        · exact wr (hbad (Or.inl c65)) _ _ --done
        · have e66 := e65 c65
          refine ev_iload_n 69 dX9_readItem_68 rfl rfl ?_
          first | (refine ev_if_ne 72 78 dX9_readItem_69 rfl rfl (by omega) (fun _ => ?_) (fun w => by omega); rw [e66]; exact m_it_go hT p hw hk hq hS hSo h20 (by omega)) | (refine ev_if_ne 72 78 dX9_readItem_69 rfl rfl (by omega) (fun w => by omega) (fun _ => ?_); exact wr (hbad (Or.inr (by omega))) _ _)
    · refine ev_aload_n 33 dX9_readItem_32 rfl rfl ?_
      refine ev_getI' 36 23 (S.2.2.1) fX9_123 rfl dX9_readItem_33 rfl rfl rfl (by decide) rfl h23 ?_
      refine ev_iconst 37 dX9_readItem_36 rfl ?_
      refine ev_icmp_ge 40 44 dX9_readItem_37 rfl rfl (by omega) (by omega) (fun c37 => ?_) (fun c37 => ?_)
      · refine ev_iconst 45 dX9_readItem_44 rfl ?_
        refine ev_goto 59 dX9_readItem_45 rfl ?_
        refine ev_istore_n 60 dX9_readItem_59 rfl (Nat.le_of_ble_eq_true rfl) ?_
        refine ev_aload_n 61 dX9_readItem_60 rfl rfl ?_
        refine ev_getI' 64 17 (mTok (tK (h 9) (h 0 14) q) (tV (h 9) (h 0 14) q)) fX9_103 rfl dX9_readItem_61 rfl rfl rfl (by decide) rfl hk.2.2.1 ?_
        refine ev_iconst 65 dX9_readItem_64 rfl ?_
        refine ev_icmp_ne 68 72 dX9_readItem_65 rfl rfl (by omega) (by omega) (fun c65 => ?_) (fun c65 => ?_)
        · exact wr (hbad (Or.inl c65)) _ _ --done
        · have e66 := e65 c65
          refine ev_iload_n 69 dX9_readItem_68 rfl rfl ?_
          first | (refine ev_if_ne 72 78 dX9_readItem_69 rfl rfl (by omega) (fun _ => ?_) (fun w => by omega); rw [e66]; exact m_it_go hT p hw hk hq hS hSo h20 (by omega)) | (refine ev_if_ne 72 78 dX9_readItem_69 rfl rfl (by omega) (fun w => by omega) (fun _ => ?_); exact wr (hbad (Or.inr (by omega))) _ _)
      · refine ev_iconst 41 dX9_readItem_40 rfl ?_
        refine ev_goto 59 dX9_readItem_41 rfl ?_
        refine ev_istore_n 60 dX9_readItem_59 rfl (Nat.le_of_ble_eq_true rfl) ?_
        refine ev_aload_n 61 dX9_readItem_60 rfl rfl ?_
        refine ev_getI' 64 17 (mTok (tK (h 9) (h 0 14) q) (tV (h 9) (h 0 14) q)) fX9_103 rfl dX9_readItem_61 rfl rfl rfl (by decide) rfl hk.2.2.1 ?_
        refine ev_iconst 65 dX9_readItem_64 rfl ?_
        refine ev_icmp_ne 68 72 dX9_readItem_65 rfl rfl (by omega) (by omega) (fun c65 => ?_) (fun c65 => ?_)
        · exact wr (hbad (Or.inl c65)) _ _ --done
        · have e66 := e65 c65
          refine ev_iload_n 69 dX9_readItem_68 rfl rfl ?_
          first | (refine ev_if_ne 72 78 dX9_readItem_69 rfl rfl (by omega) (fun _ => ?_) (fun w => by omega); rw [e66]; exact m_it_go hT p hw hk hq hS hSo h20 (by omega)) | (refine ev_if_ne 72 78 dX9_readItem_69 rfl rfl (by omega) (fun w => by omega) (fun _ => ?_); exact wr (hbad (Or.inr (by omega))) _ _)
  · refine ev_aload_n 12 dX9_readItem_11 rfl rfl ?_
    refine ev_getI' 15 21 (S.1) fX9_120 rfl dX9_readItem_12 rfl rfl rfl (by decide) rfl h21 ?_
    refine ev_if_ne 18 22 dX9_readItem_15 rfl rfl (by omega) (fun c15 => ?_) (fun c15 => ?_)
    · refine ev_iconst 23 dX9_readItem_22 rfl ?_
      refine ev_goto 59 dX9_readItem_23 rfl ?_
      refine ev_istore_n 60 dX9_readItem_59 rfl (Nat.le_of_ble_eq_true rfl) ?_
      refine ev_aload_n 61 dX9_readItem_60 rfl rfl ?_
      refine ev_getI' 64 17 (mTok (tK (h 9) (h 0 14) q) (tV (h 9) (h 0 14) q)) fX9_103 rfl dX9_readItem_61 rfl rfl rfl (by decide) rfl hk.2.2.1 ?_
      refine ev_iconst 65 dX9_readItem_64 rfl ?_
      refine ev_icmp_ne 68 72 dX9_readItem_65 rfl rfl (by omega) (by omega) (fun c65 => ?_) (fun c65 => ?_)
      · exact wr (hbad (Or.inl c65)) _ _ --done
      · have e66 := e65 c65
        refine ev_iload_n 69 dX9_readItem_68 rfl rfl ?_
        first | (refine ev_if_ne 72 78 dX9_readItem_69 rfl rfl (by omega) (fun _ => ?_) (fun w => by omega); rw [e66]; exact m_it_go hT p hw hk hq hS hSo h20 (by omega)) | (refine ev_if_ne 72 78 dX9_readItem_69 rfl rfl (by omega) (fun w => by omega) (fun _ => ?_); exact wr (hbad (Or.inr (by omega))) _ _)
    · refine ev_iconst 19 dX9_readItem_18 rfl ?_
      refine ev_goto 59 dX9_readItem_19 rfl ?_
      refine ev_istore_n 60 dX9_readItem_59 rfl (Nat.le_of_ble_eq_true rfl) ?_
      refine ev_aload_n 61 dX9_readItem_60 rfl rfl ?_
      refine ev_getI' 64 17 (mTok (tK (h 9) (h 0 14) q) (tV (h 9) (h 0 14) q)) fX9_103 rfl dX9_readItem_61 rfl rfl rfl (by decide) rfl hk.2.2.1 ?_
      refine ev_iconst 65 dX9_readItem_64 rfl ?_
      refine ev_icmp_ne 68 72 dX9_readItem_65 rfl rfl (by omega) (by omega) (fun c65 => ?_) (fun c65 => ?_)
      · exact wr (hbad (Or.inl c65)) _ _ --done
      · have e66 := e65 c65
        refine ev_iload_n 69 dX9_readItem_68 rfl rfl ?_
        first | (refine ev_if_ne 72 78 dX9_readItem_69 rfl rfl (by omega) (fun _ => ?_) (fun w => by omega); rw [e66]; exact m_it_go hT p hw hk hq hS hSo h20 (by omega)) | (refine ev_if_ne 72 78 dX9_readItem_69 rfl rfl (by omega) (fun w => by omega) (fun _ => ?_); exact wr (hbad (Or.inr (by omega))) _ _)
end SI
