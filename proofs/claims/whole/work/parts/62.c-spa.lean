theorem cells_f {t : Int → Int} {L : Int} : ∀ (k : Nat) (nc : Int) (cost : Int → Int) (q f : Int), 0 ≤ q ∧ q ≤ L → cellsF t L k nc cost q = .inl f → 0 ≤ f ∧ f ≤ L := by
  intro k
  induction k with
  | zero =>
    intro nc cost q f hq h
    have h : Sum.inl (tS t L q) = (Sum.inl f : Int ⊕ ((Int × (Int → Int)) × Int)) := h
    cases h
    have := tS_r (t := t) hq.2
    omega
  | succ k ih =>
    intro nc cost q f hq h
    unfold cellsF at h
    by_cases c1 : tK t L q = 59 ∧ 0 < nc
    · rw [if_pos c1] at h; cases h
    · rw [if_neg c1] at h
      by_cases c2 : costZ (tK t L q) = 0 ∨ nc = 16
      · rw [if_pos c2] at h
        cases h
        have := tS_r (t := t) hq.2
        omega
      · rw [if_neg c2] at h
        have hE := tE_r (t := t) hq.2
        exact ih _ _ _ f (by omega) h
theorem item_f {t : Int → Int} {L : Int} {S : PS} {p f : Int} (hp : 0 ≤ p ∧ p ≤ L) (h : itemF t L S p = .inl f) : 0 ≤ f ∧ f ≤ L := by
  have e1 := tE_r (t := t) hp.2
  have e2 := tE_r (t := t) e1.2
  have e3 := tE_r (t := t) e2.2
  have s0 := tS_r (t := t) hp.2
  have s1 := tS_r (t := t) e1.2
  have s2 := tS_r (t := t) e2.2
  have s3 := tS_r (t := t) e3.2
  unfold itemF at h
  split at h
  · split at h
    · cases hc : cellsF t L 17 0 S.2.1 (tE t L p) with
      | inl g =>
        rw [hc] at h
        have h : Sum.inl g = (Sum.inl f : Int ⊕ (PS × Int)) := h
        cases h
        exact cells_f 17 0 _ _ _ (by omega) hc
      | inr g =>
        rw [hc] at h
        cases h
    · cases h; omega
  · split at h
    · split at h
      · split at h
        · split at h
          · split at h
            · cases h
            · cases h; omega
          · cases h; omega
        · cases h; omega
      · cases h; omega
    · split at h
      · split at h
        · split at h
          · split at h
            · cases h
            · cases h; omega
          · cases h; omega
        · cases h; omega
      · cases h; omega
theorem parse_r {t : Int → Int} {L : Int} : ∀ (n : Nat) (S : PS) (p it : Int), L - p < n → 0 ≤ p ∧ p ≤ L → 0 ≤ it ∧ it ≤ p → PSok S → (∀ f, parseF t L n S p it = .inl f → 0 ≤ f ∧ f ≤ L) ∧ ∀ q, parseF t L n S p it = .inr q → 0 ≤ q.2 ∧ q.2 ≤ L := by
  intro n
  induction n with
  | zero => intro S p it h0 h1; omega
  | succ n ih =>
    intro S p it h0 hp hit hS
    unfold parseF
    by_cases k1 : tK t L p = -1
    · rw [if_pos k1]
      exact ⟨fun f e => (by cases e), fun q e => (by cases e; exact ⟨hit.1, by show it ≤ L; omega⟩)⟩
    · rw [if_neg k1]
      cases hc : itemF t L S p with
      | inl g =>
        exact ⟨fun f e => by
          have e : Sum.inl g = (Sum.inl f : Int ⊕ (PS × Int)) := e
          cases e
          exact item_f hp hc, fun q e => by
          have e : Sum.inl g = (Sum.inr q : Int ⊕ (PS × Int)) := e
          cases e⟩
      | inr r =>
        have ho := item_ok hp hS hc
        exact ih r.1 r.2 (it + 1) (by omega) (by omega) (by omega) ho.1
theorem PS0_ok : PSok PS0 := ⟨⟨Int.le_refl _, by decide⟩, fun i a b => absurd b (by show ¬ i < 0; omega), ⟨Int.le_refl _, by decide⟩, fun c a b => absurd b (by show ¬ c < 0; omega)⟩
theorem c_spa {h : Hp} (hT : TT (h 12) (h 1 1)) : Ev shC mX8_spa 0 [some (vr 0), none] [] h (RI fun x h' => (∃ f, parseF (h 12) (h 1 1) ((h 1 1).toNat + 1) PS0 0 0 = .inl f ∧ x = -10 - f ∧ PD h h') ∨ (∃ (q : PS × Int) (H : Hp), parseF (h 12) (h 1 1) ((h 1 1).toNat + 1) PS0 0 0 = .inr q ∧ x = q.2 ∧ SD H q.1 ∧ PSok q.1 ∧ PD h H ∧ h' = spN H)) := by
  have hL := hT.1
  have hP := parse_r (t := h 12) (L := h 1 1) ((h 1 1).toNat + 1) PS0 0 0 (by omega) (by omega) (by omega) PS0_ok
  have hI := c_readInto hT
  generalize parseF (h 12) (h 1 1) ((h 1 1).toNat + 1) PS0 0 0 = R at *
  refine ev_aload_n 1 dX8_spa_0 rfl rfl ?_
  refine ev_getR 4 fX8_10 rfl dX8_spa_1 rfl rfl rfl ?_
  refine ev_aload_n 5 dX8_spa_4 rfl rfl ?_
  refine ev_getR 8 fX8_19 rfl dX8_spa_5 rfl rfl rfl ?_
  refine cVi1 11 kX8_spa_77 dX8_spa_8 rfl rfl rfl rfl rfl (by decide) rfl (Nat.le_of_ble_eq_true rfl) (hI) ?_
  rintro x H ⟨r, d⟩
  have hx : (∃ f, R = .inl f ∧ x = -10 - f ∧ 0 ≤ f ∧ f ≤ h 1 1) ∨ (∃ q : PS × Int, R = .inr q ∧ x = q.2 ∧ SD H q.1 ∧ PSok q.1 ∧ 0 ≤ q.2 ∧ q.2 ≤ h 1 1) := by
    cases R with
    | inl f => exact Or.inl ⟨f, rfl, r, hP.1 f rfl⟩
    | inr q => exact Or.inr ⟨q, rfl, r.1, r.2.1, r.2.2, hP.2 q rfl⟩
  have hxr : R32 x := by rcases hx with ⟨f, _, a, b⟩ | ⟨q, _, a, _, _, b⟩ <;> omega
  refine ev_istore_n 12 dX8_spa_11 rfl (Nat.le_of_ble_eq_true rfl) ?_
  refine ev_iload_n 13 dX8_spa_12 rfl rfl ?_
  refine ev_if_ge 16 18 dX8_spa_13 rfl rfl (by omega) (fun c13 => ?_) (fun c13 => ?_)
  · have hx2 := hx.resolve_left (fun ⟨f, _, a, b⟩ => by omega)
    obtain ⟨q, q1, q2, q3, q4, q5⟩ := hx2
    refine ev_aload_n 19 dX8_spa_18 rfl rfl ?_
    refine ev_getR 22 fX8_64 rfl dX8_spa_19 rfl rfl rfl ?_
    refine ev_aload_n 23 dX8_spa_22 rfl rfl ?_
    refine ev_getR 26 fX8_19 rfl dX8_spa_23 rfl rfl rfl ?_
    refine cVv1 29 kX8_spa_81 dX8_spa_26 rfl rfl rfl rfl rfl (by decide) rfl (Nat.le_of_ble_eq_true rfl) (c_spaBecome) ?_
    rintro _ rfl
    refine ev_aload_n 30 dX8_spa_29 rfl rfl ?_
    refine ev_getR 33 fX8_68 rfl dX8_spa_30 rfl rfl rfl ?_
    refine cVv0 36 kX8_spa_85 dX8_spa_33 rfl rfl rfl rfl rfl (by decide) rfl (Nat.le_of_ble_eq_true rfl) (c_start) ?_
    rintro _ rfl
    refine ev_aload_n 37 dX8_spa_36 rfl rfl ?_
    refine ev_getR 40 fX8_36 rfl dX8_spa_37 rfl rfl rfl ?_
    refine ev_iconst 41 dX8_spa_40 rfl ?_
    refine ev_putI' 44 3 (hq (dayS (spB H)) [(7, up (H 7) 3 0)]) pX8_88 rfl dX8_spa_41 rfl rfl rfl rfl (hq_put (L := [])) ?_
    refine ev_aload_n 45 dX8_spa_44 rfl rfl ?_
    refine ev_getR 48 fX8_43 rfl dX8_spa_45 rfl rfl rfl ?_
    refine ev_iconst 49 dX8_spa_48 rfl ?_
    refine ev_putI' 52 2 (hq (dayS (spB H)) [(7, up (H 7) 3 0), (8, up (H 8) 2 0)]) pX8_91 rfl dX8_spa_49 rfl rfl rfl rfl hq_put ?_
    refine ev_aload_n 53 dX8_spa_52 rfl rfl ?_
    refine ev_getR 56 fX8_26 rfl dX8_spa_53 rfl rfl rfl ?_
    refine ev_iconst 57 dX8_spa_56 rfl ?_
    refine ev_putZ' 60 5 (hq (dayS (spB H)) [(7, up (H 7) 3 0), (8, up (H 8) 2 0), (5, up (H 5) 5 0)]) pX8_92 rfl dX8_spa_57 rfl rfl rfl (by omega) rfl hq_put ?_
    refine ev_aload_n 61 dX8_spa_60 rfl rfl ?_
    refine ev_getR 64 fX8_30 rfl dX8_spa_61 rfl rfl rfl ?_
    refine ev_iconst 65 dX8_spa_64 rfl ?_
    refine ev_putZ' 68 5 (hq (dayS (spB H)) [(7, up (H 7) 3 0), (8, up (H 8) 2 0), (5, up (H 5) 5 0), (6, up (H 6) 5 0)]) pX8_92 rfl dX8_spa_65 rfl rfl rfl (by omega) rfl hq_put ?_
    refine ev_aload_n 69 dX8_spa_68 rfl rfl ?_
    refine ev_getR 72 fX8_10 rfl dX8_spa_69 rfl rfl rfl ?_
    refine ev_iconst 73 dX8_spa_72 rfl ?_
    refine ev_putI' 76 1 (spN H) pX8_69 rfl dX8_spa_73 rfl rfl rfl rfl hq_put ?_
    refine ev_iload_n 77 dX8_spa_76 rfl rfl ?_
    exact ev_iret rfl dX8_spa_77 (Or.inr ⟨q, H, q1, q2, q3, q4, d, rfl⟩)
  · have hx2 := hx.resolve_right (fun ⟨q, _, a, _, _, b⟩ => by omega)
    obtain ⟨f, f1, f2, f3⟩ := hx2
    refine ev_iload_n 17 dX8_spa_16 rfl rfl ?_
    exact ev_iret rfl dX8_spa_17 (Or.inl ⟨f, f1, f2, d⟩)
