section SP
variable {h : Hp}
theorem m_readChair (hT : TX h) {H : Hp} {q n : Int} (p : PsM h H) (hk : TKs H (h 9) (h 0 14) q) (hq : 0 ≤ q ∧ q ≤ h 0 14) (hw : H 0 19 = 0) (hn : H 0 23 = n) (hn2 : 0 ≤ n ∧ n < 5) : Ev shM mX9_readChair 0 [some (vr 0)] [] H (RV fun h' => PsM h h' ∧ h' 10 = H 10 ∧ (h' 0 21 = H 0 21 ∧ h' 0 20 = H 0 20) ∧ (((numB (h 9) (h 0 14) q 1 9 = true ∧ numB (h 9) (h 0 14) (tE (h 9) (h 0 14) q) 0 3 = true) ∧ h' 0 19 = 0 ∧ TKs h' (h 9) (h 0 14) (tE (h 9) (h 0 14) (tE (h 9) (h 0 14) q)) ∧ h' 0 23 = n + 1 ∧ h' 11 = up (up (H 11) (2 * n) (tV (h 9) (h 0 14) q)) (2 * n + 1) (tV (h 9) (h 0 14) (tE (h 9) (h 0 14) q)) ∧ h' 12 = up (H 12) n 5) ∨ (¬ numB (h 9) (h 0 14) q 1 9 = true ∧ h' 0 19 = 1 ∧ h' 0 16 = tS (h 9) (h 0 14) q) ∨ (numB (h 9) (h 0 14) q 1 9 = true ∧ ¬ numB (h 9) (h 0 14) (tE (h 9) (h 0 14) q) 0 3 = true ∧ h' 0 19 = 1 ∧ h' 0 16 = tS (h 9) (h 0 14) (tE (h 9) (h 0 14) q)))) := by
  have hE := tE_r (t := h 9) hq.2
  have tail : ∀ (H1 : Hp) (r1 : Int), PsM h H1 → (∀ k, 1 ≤ k → H1 k = H k) → (∀ i, 19 < i → H1 0 i = H 0 i) → ∀ (q1 : Int), (0 ≤ q1 ∧ q1 ≤ h 0 14) → TKs H1 (h 9) (h 0 14) q1 → (H1 0 19 = 0 ∨ H1 0 19 = 1) → ∀ {post : Option AV → Hp → Prop}, (∀ H3 r2, PsM h H3 → H3 10 = H 10 → (H3 0 21 = H 0 21 ∧ H3 0 20 = H 0 20) → H3 0 23 = n + 1 → H3 11 = up (up (H 11) (2 * n) r1) (2 * n + 1) r2 → H3 12 = up (H 12) n 5 → (((H1 0 19 = 0 ∧ numB (h 9) (h 0 14) q1 0 3 = true) ∧ r2 = tV (h 9) (h 0 14) q1 ∧ TKs H3 (h 9) (h 0 14) (tE (h 9) (h 0 14) q1) ∧ H3 0 19 = 0) ∨ (¬ (H1 0 19 = 0 ∧ numB (h 9) (h 0 14) q1 0 3 = true) ∧ r2 = 0 ∧ H3 0 19 = 1 ∧ TKs H3 (h 9) (h 0 14) q1)) → post none H3) → Ev shM mX9_readChair 17 [some (vr 0)] [vi r1, vi (2 * n), vr 11] H1 post := by
    intro H1 r1 p1 f1 g1 q1 hq1 t1 w1 post K
    have e23 : H1 0 23 = n := by rw [g1 23 (by omega)]; exact hn
    have e23' : ∀ f, (hput H1 11 f) 0 23 = n := fun f => by rw [hput_n (by decide)]; exact e23
    refine ev_iast' 18 (hput H1 11 (up (H 11) (2 * n) r1)) dX9_readChair_17 rfl rfl (by decide) (by omega) (by rw [f1 11 (by decide)]) ?_
    refine ev_aload_n 19 dX9_readChair_18 rfl rfl ?_
    refine ev_getR 22 fX9_41 rfl dX9_readChair_19 rfl rfl rfl ?_
    refine ev_iconst 23 dX9_readChair_22 rfl ?_
    refine ev_aload_n 24 dX9_readChair_23 rfl rfl ?_
    refine ev_getI' 27 23 (n) fX9_123 rfl dX9_readChair_24 rfl rfl rfl (by decide) rfl (e23' _) ?_
    refine ev_imul 28 dX9_readChair_27 rfl ?_
    refine ev_iconst 29 dX9_readChair_28 rfl ?_
    refine ev_iadd 30 dX9_readChair_29 rfl ?_
    refine ev_aload_n 31 dX9_readChair_30 rfl rfl ?_
    refine ev_iconst 32 dX9_readChair_31 rfl ?_
    refine ev_iconst 33 dX9_readChair_32 rfl ?_
    refine cVi2 36 kX9_readChair_126 dX9_readChair_33 rfl rfl rfl rfl rfl (by decide) rfl (Nat.le_of_ble_eq_true rfl) (m_takes hT (H := hput H1 11 (up (H 11) (2 * n) r1)) (p1.hp (by decide)) (TKs_c (fun i a b => by rw [hput_n (by decide)]) t1) hq1 (by rw [hput_n (by decide)]; exact w1) (by omega) (by omega)) ?_
    rintro r2 H2 ⟨p2, f2, g2, d2⟩
    refine ev_iast' 37 (hput H2 11 (up (up (H 11) (2 * n) r1) (2 * n + 1) r2)) dX9_readChair_36 rfl rfl (by decide) (by omega) (by rw [f2 11 (by decide), hput_s]) ?_
    refine ev_aload_n 38 dX9_readChair_37 rfl rfl ?_
    refine ev_getR 41 fX9_44 rfl dX9_readChair_38 rfl rfl rfl ?_
    refine ev_aload_n 42 dX9_readChair_41 rfl rfl ?_
    refine ev_getI' 45 23 (n) fX9_123 rfl dX9_readChair_42 rfl rfl rfl (by decide) rfl (by rw [hput_n (by decide), g2 23 (by omega)]; exact e23' _) ?_
    refine ev_iconst 46 dX9_readChair_45 rfl ?_
    refine ev_iast' 47 (hput (hput H2 11 (up (up (H 11) (2 * n) r1) (2 * n + 1) r2)) 12 (up (H 12) n 5)) dX9_readChair_46 rfl rfl (by decide) (by omega) (by rw [hput_n (by decide : 12 ≠ 11), f2 12 (by decide), hput_n (by decide), f1 12 (by decide)]) ?_
    refine ev_aload_n 48 dX9_readChair_47 rfl rfl ?_
    refine ev_dup_r 49 dX9_readChair_48 rfl ?_
    refine ev_getI' 52 23 (n) fX9_123 rfl dX9_readChair_49 rfl rfl rfl (by decide) rfl (by rw [hput_n (by decide), hput_n (by decide), g2 23 (by omega)]; exact e23' _) ?_
    refine ev_iconst 53 dX9_readChair_52 rfl ?_
    refine ev_iadd 54 dX9_readChair_53 rfl ?_
    refine ev_putI 57 23 pX9_123 rfl dX9_readChair_54 rfl rfl rfl rfl ?_
    refine ev_return rfl dX9_readChair_57 (K _ r2 ?_ ?_ ?_ ?_ ?_ ?_ ?_)
    · exact ((p2.hp (by decide)).hp (by decide)).s0 (fun i hi => by rw [up_n (by omega)])
    · rw [hput_n (by decide), hput_n (by decide), hput_n (by decide), f2 10 (by decide), hput_n (by decide), f1 10 (by decide)]
    · rw [hput_s, up_n (by decide), up_n (by decide), hput_n (by decide), hput_n (by decide), g2 21 (by omega), g2 20 (by omega), hput_n (by decide), g1 21 (by omega), g1 20 (by omega)]; exact ⟨rfl, rfl⟩
    · rw [hput_s, up_s]
    · rw [hput_n (by decide), hput_n (by decide), hput_s]
    · rw [hput_n (by decide), hput_s]
    · rw [hput_n (by decide : 0 ≠ 11)] at d2
      have e19 : ∀ f, (hput (hput (hput H2 11 (up (up (H 11) (2 * n) r1) (2 * n + 1) r2)) 12 (up (H 12) n 5)) 0 (up ((hput (hput H2 11 (up (up (H 11) (2 * n) r1) (2 * n + 1) r2)) 12 (up (H 12) n 5)) 0) 23 (n + 1))) 0 f = up (H2 0) 23 (n + 1) f := fun f => by rw [hput_s, hput_n (by decide), hput_n (by decide)]
      rcases d2 with ⟨a, b, c, d⟩ | ⟨a, b, c, d⟩
      · exact Or.inl ⟨a, b, TKs_c (fun i x y => by rw [e19, up_n (by omega)]) c, by rw [e19, up_n (by decide)]; exact d⟩
      · exact Or.inr ⟨a, b, by rw [e19, up_n (by decide)]; exact c, TKs_c (fun i x y => by rw [e19, up_n (by omega)]) d⟩
  refine ev_aload_n 1 dX9_readChair_0 rfl rfl ?_
  refine ev_getR 4 fX9_41 rfl dX9_readChair_1 rfl rfl rfl ?_
  refine ev_iconst 5 dX9_readChair_4 rfl ?_
  refine ev_aload_n 6 dX9_readChair_5 rfl rfl ?_
  refine ev_getI' 9 23 (n) fX9_123 rfl dX9_readChair_6 rfl rfl rfl (by decide) rfl hn ?_
  refine ev_imul 10 dX9_readChair_9 rfl ?_
  refine ev_aload_n 11 dX9_readChair_10 rfl rfl ?_
  refine ev_iconst 12 dX9_readChair_11 rfl ?_
  refine ev_bipush 14 dX9_readChair_12 rfl (by decide +kernel) ?_
  refine cVi2 17 kX9_readChair_126 dX9_readChair_14 rfl rfl rfl rfl rfl (by decide) rfl (Nat.le_of_ble_eq_true rfl) (m_takes hT p hk hq (Or.inl hw) (by omega) (by omega)) ?_
  rintro r1 H1 ⟨p1, f1, g1, d1⟩
  rcases d1 with ⟨a, b, c, d⟩ | ⟨a, b, c, d⟩
  · refine tail H1 r1 p1 f1 g1 _ (by omega) c (Or.inl d) (fun H3 r2 x1 x2 x3 x4 x5 x6 x7 => ⟨rfl, x1, x2, x3, ?_⟩)
    rcases x7 with ⟨y1, y2, y3, y4⟩ | ⟨y1, y2, y3, y4⟩
    · exact Or.inl ⟨⟨a.2, y1.2⟩, y4, y3, x4, by rw [x5, b, y2], x6⟩
    · exact Or.inr (Or.inr ⟨a.2, fun w => y1 ⟨d, w⟩, y3, y4.2.1⟩)
  · refine tail H1 r1 p1 f1 g1 _ hq d (Or.inr c) (fun H3 r2 x1 x2 x3 x4 x5 x6 x7 => ⟨rfl, x1, x2, x3, ?_⟩)
    rcases x7 with ⟨y1, y2, y3, y4⟩ | ⟨y1, y2, y3, y4⟩
    · have := y1.1; omega
    · exact Or.inr (Or.inl ⟨fun w => a ⟨hw, w⟩, y3, y4.2.1⟩)
theorem m_readPusher (hT : TX h) {H : Hp} {q n : Int} (p : PsM h H) (hk : TKs H (h 9) (h 0 14) q) (hq : 0 ≤ q ∧ q ≤ h 0 14) (hw : H 0 19 = 0) (hn : H 0 23 = n) (hn2 : 0 ≤ n ∧ n ≤ 5) : Ev shM mX9_readPusher 0 [some (vr 0), none, none] [] H (RV fun h' => PsM h h' ∧ (h' 10 = H 10 ∧ h' 11 = H 11) ∧ (h' 0 21 = H 0 21 ∧ h' 0 20 = H 0 20 ∧ h' 0 23 = n) ∧ (((numB (h 9) (h 0 14) q 0 (n - 1) = true ∧ numB (h 9) (h 0 14) (tE (h 9) (h 0 14) q) 1 9 = true) ∧ h' 0 19 = 0 ∧ TKs h' (h 9) (h 0 14) (tE (h 9) (h 0 14) (tE (h 9) (h 0 14) q)) ∧ h' 12 = up (H 12) (tV (h 9) (h 0 14) q) (tV (h 9) (h 0 14) (tE (h 9) (h 0 14) q))) ∨ (¬ numB (h 9) (h 0 14) q 0 (n - 1) = true ∧ h' 0 19 = 1 ∧ h' 0 16 = tS (h 9) (h 0 14) q) ∨ (numB (h 9) (h 0 14) q 0 (n - 1) = true ∧ ¬ numB (h 9) (h 0 14) (tE (h 9) (h 0 14) q) 1 9 = true ∧ h' 0 19 = 1 ∧ h' 0 16 = tS (h 9) (h 0 14) (tE (h 9) (h 0 14) q)))) := by
  have hE := tE_r (t := h 9) hq.2
  refine ev_aload_n 1 dX9_readPusher_0 rfl rfl ?_
  refine ev_iconst 2 dX9_readPusher_1 rfl ?_
  refine ev_aload_n 3 dX9_readPusher_2 rfl rfl ?_
  refine ev_getI' 6 23 (n) fX9_123 rfl dX9_readPusher_3 rfl rfl rfl (by decide) rfl hn ?_
  refine ev_iconst 7 dX9_readPusher_6 rfl ?_
  refine ev_isub 8 dX9_readPusher_7 rfl ?_
  refine cVi2 11 kX9_readPusher_126 dX9_readPusher_8 rfl rfl rfl rfl rfl (by decide) rfl (Nat.le_of_ble_eq_true rfl) (m_takes hT p hk hq (Or.inl hw) (by omega) (by omega)) ?_
  rintro r1 H1 ⟨p1, f1, g1, d1⟩
  have e23 : H1 0 23 = n := by rw [g1 23 (by omega)]; exact hn
  have d1' : ∃ q1, (0 ≤ q1 ∧ q1 ≤ h 0 14) ∧ TKs H1 (h 9) (h 0 14) q1 ∧ ((numB (h 9) (h 0 14) q 0 (n - 1) = true ∧ r1 = tV (h 9) (h 0 14) q ∧ H1 0 19 = 0 ∧ q1 = tE (h 9) (h 0 14) q) ∨ (¬ numB (h 9) (h 0 14) q 0 (n - 1) = true ∧ H1 0 19 = 1 ∧ q1 = q)) := by
    rcases d1 with ⟨a, b, c, d⟩ | ⟨a, b, c, d⟩
    · exact ⟨_, by omega, c, Or.inl ⟨a.2, b, d, rfl⟩⟩
    · exact ⟨_, hq, d, Or.inr ⟨fun w => a ⟨hw, w⟩, c, rfl⟩⟩
  clear d1
  obtain ⟨q1, hq1, t1, d1⟩ := d1'
  refine ev_istore_n 12 dX9_readPusher_11 rfl (Nat.le_of_ble_eq_true rfl) ?_
  refine ev_aload_n 13 dX9_readPusher_12 rfl rfl ?_
  refine ev_iconst 14 dX9_readPusher_13 rfl ?_
  refine ev_bipush 16 dX9_readPusher_14 rfl (by decide +kernel) ?_
  refine cVi2 19 kX9_readPusher_126 dX9_readPusher_16 rfl rfl rfl rfl rfl (by decide) rfl (Nat.le_of_ble_eq_true rfl) (m_takes hT p1 t1 hq1 (by rcases d1 with d1 | d1 <;> omega) (by omega) (by omega)) ?_
  rintro r2 H2 ⟨p2, f2, g2, d2⟩
  have e23' : H2 0 23 = n := by rw [g2 23 (by omega)]; exact e23
  have w2 : H2 0 19 = 0 ∨ H2 0 19 = 1 := by rcases d2 with d2 | d2 <;> omega
  have c21 : H2 0 21 = H 0 21 := (g2 21 (by omega)).trans (g1 21 (by omega))
  have c20 : H2 0 20 = H 0 20 := (g2 20 (by omega)).trans (g1 20 (by omega))
  have c10 : H2 10 = H 10 := (f2 10 (by decide)).trans (f1 10 (by decide))
  have c11 : H2 11 = H 11 := (f2 11 (by decide)).trans (f1 11 (by decide))
  have c12 : H2 12 = H 12 := (f2 12 (by decide)).trans (f1 12 (by decide))
  refine ev_istore_n 20 dX9_readPusher_19 rfl (Nat.le_of_ble_eq_true rfl) ?_
  refine ev_aload_n 21 dX9_readPusher_20 rfl rfl ?_
  refine ev_getI 24 19 fX9_113 rfl dX9_readPusher_21 rfl rfl rfl (by decide) rfl ?_
  refine ev_if_ne 27 34 dX9_readPusher_24 rfl rfl (by omega) (fun c24 => ?_) (fun c24 => ?_)
  · rcases d2 with ⟨a, b, c, d⟩ | ⟨a, b, c, d⟩
    · omega
    refine ev_vret rfl dX9_readPusher_34 ⟨p2, ⟨c10, c11⟩, ⟨c21, c20, e23'⟩, Or.inr ?_⟩
    rcases d1 with ⟨x1, x2, x3, x4⟩ | ⟨x1, x2, x3⟩
    · exact Or.inr ⟨x1, fun w => a ⟨x3, by rw [x4]; exact w⟩, c, by rw [← x4]; exact d.2.1⟩
    · exact Or.inl ⟨x1, c, by rw [← x3]; exact d.2.1⟩ --done
  · rcases d2 with ⟨a, b, c, d⟩ | ⟨a, b, c, d⟩
    rotate_left
    · omega
    rcases d1 with ⟨x1, x2, x3, x4⟩ | ⟨x1, x2, x3⟩
    rotate_left
    · omega
    have v1 := numB_t.mp x1
    subst x4
    refine ev_aload_n 28 dX9_readPusher_27 rfl rfl ?_
    refine ev_getR 31 fX9_44 rfl dX9_readPusher_28 rfl rfl rfl ?_
    refine ev_iload_n 32 dX9_readPusher_31 rfl rfl ?_
    refine ev_iload_n 33 dX9_readPusher_32 rfl rfl ?_
    refine ev_iast' 34 (hput H2 12 (up (H 12) (tV (h 9) (h 0 14) q) (tV (h 9) (h 0 14) (tE (h 9) (h 0 14) q)))) dX9_readPusher_33 rfl rfl (by decide) (by omega) (by rw [c12, x2, b]) ?_
    exact ev_vret rfl dX9_readPusher_34 (⟨p2.hp (by decide), ⟨(hput_n (by decide)).trans c10, (hput_n (by decide)).trans c11⟩, ⟨by rw [hput_n (by decide)]; exact c21, by rw [hput_n (by decide)]; exact c20, by rw [hput_n (by decide)]; exact e23'⟩, Or.inl ⟨⟨x1, a.2⟩, by rw [hput_n (by decide)]; exact d, TKs_c (fun i _ _ => by rw [hput_n (by decide)]) c, hput_s⟩⟩)
end SP
