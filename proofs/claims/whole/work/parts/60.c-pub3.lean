def fkR (h : Hp) (c : Int) : Int × (Int → Int) := (CL (h 2 5)).foldl (fkS h c) (6, fun _ => 0)
section CP3
variable {h : Hp} {c : Int}
theorem c_king {k : Int} (hc : R32 c) (hk : R32 k) (hb : CHp h) (hf : 0 ≤ (fkR h c).1 ∧ (fkR h c).1 ≤ 6) : Ev shC mX8_king 0 [some (vr 0), some (vi c), some (vi k), none] [] h (RI fun x h' => PsC h h' ∧ x = (if (0 ≤ c ∧ c < h 2 5) ∧ (k = -1 ∨ (0 ≤ k ∧ k < h 2 5)) then (if 0 < h 2 4 ∧ 0 < h 2 5 then (if 5 < (fkR h c).1 then -9 else if k = -1 then (fkR h c).1 else (fkR h c).2 k) else -2) else -1)) := by
  have hn := hb.1
  have hl := hb.2.1
  refine ev_aload_n 1 dX8_king_0 rfl rfl ?_
  refine ev_iload_n 2 dX8_king_1 rfl rfl ?_
  refine cVi1 5 kX8_king_96 dX8_king_2 rfl rfl rfl rfl rfl (by decide) rfl (Nat.le_of_ble_eq_true rfl) (c_isChair hc hn) ?_
  rintro x _ ⟨rfl, rfl⟩
  refine ev_if_eq 8 21 dX8_king_5 rfl rfl it_r (fun c5 => ?_) (fun c5 => ?_)
  · have d5 := it_0.mp c5
    refine ev_iconst 22 dX8_king_21 rfl ?_
    exact ev_iret rfl dX8_king_22 (⟨PsC.rf, by rw [if_neg (by omega)]⟩)
  · have d5 := it_1.mp c5
    refine ev_iload_n 9 dX8_king_8 rfl rfl ?_
    refine ev_iconst 10 dX8_king_9 rfl ?_
    refine ev_icmp_eq 13 23 dX8_king_10 rfl rfl (by omega) (by omega) (fun c10 => ?_) (fun c10 => ?_)
    · rw [if_pos ⟨d5, by omega⟩]
      refine ev_aload_n 24 dX8_king_23 rfl rfl ?_
      refine ev_getR 27 fX8_64 rfl dX8_king_24 rfl rfl rfl ?_
      refine cVi0 30 kX8_king_136 dX8_king_27 rfl rfl rfl rfl rfl (by decide) rfl (Nat.le_of_ble_eq_true rfl) (c_hasRace (by omega) (by omega)) ?_
      rintro y _ ⟨rfl, rfl⟩
      refine ev_if_ne 33 36 dX8_king_30 rfl rfl it_r (fun c30 => ?_) (fun c30 => ?_)
      · have d30 := it_1.mp c30
        rw [if_pos d30]
        refine ev_aload_n 37 dX8_king_36 rfl rfl ?_
        refine ev_getR 40 fX8_57 rfl dX8_king_37 rfl rfl rfl ?_
        refine ev_iload_n 41 dX8_king_40 rfl rfl ?_
        refine cVi1 44 kX8_king_183 dX8_king_41 rfl rfl rfl rfl rfl (by decide) rfl (Nat.le_of_ble_eq_true rfl) (c_findKing (hb.W d30) hb.2.2.2.2.1 d5) ?_
        rintro y H ⟨p, e41, q⟩
        have e41 : y = if 5 < (fkR h c).1 then -9 else (fkR h c).1 := e41
        have q : (fkR h c).1 ≤ 5 → ag (h 2 5) (H 39) (fkR h c).2 := q
        have hy : R32 y := by rw [e41]; split <;> omega
        refine ev_istore_n 45 dX8_king_44 rfl (Nat.le_of_ble_eq_true rfl) ?_
        refine ev_iload_n 46 dX8_king_45 rfl rfl ?_
        refine ev_bipush 48 dX8_king_46 rfl (by decide +kernel) ?_
        refine ev_icmp_eq 51 56 dX8_king_48 rfl rfl (by omega) (by omega) (fun c48 => ?_) (fun c48 => ?_)
        · have z : 5 < (fkR h c).1 := by apply Classical.byContradiction; intro z; rw [if_neg z] at e41; omega
          refine ev_iload_n 57 dX8_king_56 rfl rfl ?_
          refine ev_goto 68 dX8_king_57 rfl ?_
          exact ev_iret rfl dX8_king_68 (⟨p, by first | (rw [if_pos z, e41, if_pos z]; done) | (rw [if_neg z, if_pos (by omega), e41, if_neg z]; done) | (rw [if_neg z, if_neg (by omega)]; exact q (by omega) k (by omega) (by omega))⟩)
        · have z : ¬ 5 < (fkR h c).1 := by intro z; rw [if_pos z] at e41; omega
          refine ev_iload_n 52 dX8_king_51 rfl rfl ?_
          refine ev_iconst 53 dX8_king_52 rfl ?_
          refine ev_icmp_ne 56 60 dX8_king_53 rfl rfl (by omega) (by omega) (fun c53 => ?_) (fun c53 => ?_)
          · refine ev_aload_n 61 dX8_king_60 rfl rfl ?_
            refine ev_getR 64 fX8_57 rfl dX8_king_61 rfl rfl rfl ?_
            refine ev_iload_n 65 dX8_king_64 rfl rfl ?_
            refine cVi1 68 kX8_king_186 dX8_king_65 rfl rfl rfl rfl rfl (by decide) rfl (Nat.le_of_ble_eq_true rfl) (c_kingsPusher (by omega)) ?_
            rintro x _ ⟨rfl, rfl⟩
            exact ev_iret rfl dX8_king_68 (⟨p, by first | (rw [if_pos z, e41, if_pos z]; done) | (rw [if_neg z, if_pos (by omega), e41, if_neg z]; done) | (rw [if_neg z, if_neg (by omega)]; exact q (by omega) k (by omega) (by omega))⟩)
          · refine ev_iload_n 57 dX8_king_56 rfl rfl ?_
            refine ev_goto 68 dX8_king_57 rfl ?_
            exact ev_iret rfl dX8_king_68 (⟨p, by first | (rw [if_pos z, e41, if_pos z]; done) | (rw [if_neg z, if_pos (by omega), e41, if_neg z]; done) | (rw [if_neg z, if_neg (by omega)]; exact q (by omega) k (by omega) (by omega))⟩)
      · have d30 := it_0.mp c30
        rw [if_neg d30]
        refine ev_bipush 35 dX8_king_33 rfl (by decide +kernel) ?_
        exact ev_iret rfl dX8_king_35 (⟨PsC.rf, rfl⟩)
    · refine ev_aload_n 14 dX8_king_13 rfl rfl ?_
      refine ev_iload_n 15 dX8_king_14 rfl rfl ?_
      refine cVi1 18 kX8_king_96 dX8_king_15 rfl rfl rfl rfl rfl (by decide) rfl (Nat.le_of_ble_eq_true rfl) (c_isChair hk hn) ?_
      rintro x _ ⟨rfl, rfl⟩
      refine ev_if_ne 21 23 dX8_king_18 rfl rfl it_r (fun c18 => ?_) (fun c18 => ?_)
      · have d18 := it_1.mp c18
        rw [if_pos ⟨d5, by omega⟩]
        refine ev_aload_n 24 dX8_king_23 rfl rfl ?_
        refine ev_getR 27 fX8_64 rfl dX8_king_24 rfl rfl rfl ?_
        refine cVi0 30 kX8_king_136 dX8_king_27 rfl rfl rfl rfl rfl (by decide) rfl (Nat.le_of_ble_eq_true rfl) (c_hasRace (by omega) (by omega)) ?_
        rintro y _ ⟨rfl, rfl⟩
        refine ev_if_ne 33 36 dX8_king_30 rfl rfl it_r (fun c30 => ?_) (fun c30 => ?_)
        · have d30 := it_1.mp c30
          rw [if_pos d30]
          refine ev_aload_n 37 dX8_king_36 rfl rfl ?_
          refine ev_getR 40 fX8_57 rfl dX8_king_37 rfl rfl rfl ?_
          refine ev_iload_n 41 dX8_king_40 rfl rfl ?_
          refine cVi1 44 kX8_king_183 dX8_king_41 rfl rfl rfl rfl rfl (by decide) rfl (Nat.le_of_ble_eq_true rfl) (c_findKing (hb.W d30) hb.2.2.2.2.1 d5) ?_
          rintro y H ⟨p, e41, q⟩
          have e41 : y = if 5 < (fkR h c).1 then -9 else (fkR h c).1 := e41
          have q : (fkR h c).1 ≤ 5 → ag (h 2 5) (H 39) (fkR h c).2 := q
          have hy : R32 y := by rw [e41]; split <;> omega
          refine ev_istore_n 45 dX8_king_44 rfl (Nat.le_of_ble_eq_true rfl) ?_
          refine ev_iload_n 46 dX8_king_45 rfl rfl ?_
          refine ev_bipush 48 dX8_king_46 rfl (by decide +kernel) ?_
          refine ev_icmp_eq 51 56 dX8_king_48 rfl rfl (by omega) (by omega) (fun c48 => ?_) (fun c48 => ?_)
          · have z : 5 < (fkR h c).1 := by apply Classical.byContradiction; intro z; rw [if_neg z] at e41; omega
            refine ev_iload_n 57 dX8_king_56 rfl rfl ?_
            refine ev_goto 68 dX8_king_57 rfl ?_
            exact ev_iret rfl dX8_king_68 (⟨p, by first | (rw [if_pos z, e41, if_pos z]; done) | (rw [if_neg z, if_pos (by omega), e41, if_neg z]; done) | (rw [if_neg z, if_neg (by omega)]; exact q (by omega) k (by omega) (by omega))⟩)
          · have z : ¬ 5 < (fkR h c).1 := by intro z; rw [if_pos z] at e41; omega
            refine ev_iload_n 52 dX8_king_51 rfl rfl ?_
            refine ev_iconst 53 dX8_king_52 rfl ?_
            refine ev_icmp_ne 56 60 dX8_king_53 rfl rfl (by omega) (by omega) (fun c53 => ?_) (fun c53 => ?_)
            · refine ev_aload_n 61 dX8_king_60 rfl rfl ?_
              refine ev_getR 64 fX8_57 rfl dX8_king_61 rfl rfl rfl ?_
              refine ev_iload_n 65 dX8_king_64 rfl rfl ?_
              refine cVi1 68 kX8_king_186 dX8_king_65 rfl rfl rfl rfl rfl (by decide) rfl (Nat.le_of_ble_eq_true rfl) (c_kingsPusher (by omega)) ?_
              rintro x _ ⟨rfl, rfl⟩
              exact ev_iret rfl dX8_king_68 (⟨p, by first | (rw [if_pos z, e41, if_pos z]; done) | (rw [if_neg z, if_pos (by omega), e41, if_neg z]; done) | (rw [if_neg z, if_neg (by omega)]; exact q (by omega) k (by omega) (by omega))⟩)
            · refine ev_iload_n 57 dX8_king_56 rfl rfl ?_
              refine ev_goto 68 dX8_king_57 rfl ?_
              exact ev_iret rfl dX8_king_68 (⟨p, by first | (rw [if_pos z, e41, if_pos z]; done) | (rw [if_neg z, if_pos (by omega), e41, if_neg z]; done) | (rw [if_neg z, if_neg (by omega)]; exact q (by omega) k (by omega) (by omega))⟩)
        · have d30 := it_0.mp c30
          rw [if_neg d30]
          refine ev_bipush 35 dX8_king_33 rfl (by decide +kernel) ?_
          exact ev_iret rfl dX8_king_35 (⟨PsC.rf, rfl⟩)
      · have d18 := it_0.mp c18
        refine ev_iconst 22 dX8_king_21 rfl ?_
        exact ev_iret rfl dX8_king_22 (⟨PsC.rf, by rw [if_neg (by omega)]⟩)
theorem fgF_r (sp : Int → Int) : ∀ i : Nat, 0 ≤ (fgF sp i).1 ∧ (fgF sp i).1 ≤ i := by
  intro i
  induction i with
  | zero => exact ⟨Int.le_refl _, Int.le_refl _⟩
  | succ i ih =>
    unfold fgF
    split
    · exact ⟨by show (0 : Int) ≤ (i : Int) + 1; omega, by show (i : Int) + 1 ≤ _; omega⟩
    · omega
theorem c_fair (hc : R32 c) (hb : CHp h) : Ev shC mX8_fair 0 [some (vr 0), some (vi c), none] [] h (RI fun x h' => PsC h h' ∧ ((¬ (c = -1 ∨ (0 ≤ c ∧ c < h 2 5)) ∧ x = -1) ∨ ((c = -1 ∨ (0 ≤ c ∧ c < h 2 5)) ∧ ¬ (0 < h 2 4 ∧ 0 < h 2 5) ∧ x = -2) ∨ ((c = -1 ∨ (0 ≤ c ∧ c < h 2 5)) ∧ (0 < h 2 4 ∧ 0 < h 2 5) ∧ ∃ u : Int → Int, (∀ e, 0 ≤ e → e < h 2 5 → u e = unh h e) ∧ x = (if c = -1 then spU u (h 2 5) (fgF (spU u (h 2 5)) 133).1 else clZ ((fgF (spU u (h 2 5)) 133).1 - u c))))) := by
  have hn := hb.1
  have hl := hb.2.1
  have hL := hb.L
  refine ev_iload_n 1 dX8_fair_0 rfl rfl ?_
  refine ev_iconst 2 dX8_fair_1 rfl ?_
  refine ev_icmp_eq 5 15 dX8_fair_2 rfl rfl (by omega) (by omega) (fun c2 => ?_) (fun c2 => ?_)
  · have hc2 : c = -1 ∨ (0 ≤ c ∧ c < h 2 5) := by omega
    refine ev_aload_n 16 dX8_fair_15 rfl rfl ?_
    refine ev_getR 19 fX8_64 rfl dX8_fair_16 rfl rfl rfl ?_
    refine cVi0 22 kX8_fair_136 dX8_fair_19 rfl rfl rfl rfl rfl (by decide) rfl (Nat.le_of_ble_eq_true rfl) (c_hasRace (by omega) (by omega)) ?_
    rintro y _ ⟨rfl, rfl⟩
    refine ev_if_ne 25 28 dX8_fair_22 rfl rfl it_r (fun c22 => ?_) (fun c22 => ?_)
    · have d22 := it_1.mp c22
      refine ev_aload_n 29 dX8_fair_28 rfl rfl ?_
      refine ev_getR 32 fX8_57 rfl dX8_fair_29 rfl rfl rfl ?_
      refine cVi0 35 kX8_fair_189 dX8_fair_32 rfl rfl rfl rfl rfl (by decide) rfl (Nat.le_of_ble_eq_true rfl) (c_fairGoal (hb.W d22) hb.2.2.2.2.1 hL) ?_
      rintro g H ⟨p, q, e32⟩
      have e2 : H 2 = h 2 := p.1 2 rfl
      have hg : 0 ≤ g ∧ g ≤ 133 := by rw [e32]; exact fgF_r _ 133
      have hu : ∀ e, 0 ≤ e → e < h 2 5 → 0 ≤ H 40 e ∧ H 40 e ≤ 128 := fun e a b => by
        rw [q e a b]
        exact ceil_r hL (cG_r hb.2.2.2.1 hb.2.2.2.2.1 ⟨a, b⟩ _).1
      refine ev_istore_n 36 dX8_fair_35 rfl (Nat.le_of_ble_eq_true rfl) ?_
      refine ev_iload_n 37 dX8_fair_36 rfl rfl ?_
      refine ev_iconst 38 dX8_fair_37 rfl ?_
      refine ev_icmp_ne 41 52 dX8_fair_38 rfl rfl (by omega) (by omega) (fun c38 => ?_) (fun c38 => ?_)
      · refine ev_aload_n 53 dX8_fair_52 rfl rfl ?_
        refine ev_getR 56 fX8_57 rfl dX8_fair_53 rfl rfl rfl ?_
        refine ev_iload_n 57 dX8_fair_56 rfl rfl ?_
        refine ev_iload_n 58 dX8_fair_57 rfl rfl ?_
        refine cVi2 61 kX8_fair_195 dX8_fair_58 rfl rfl rfl rfl rfl (by decide) rfl (Nat.le_of_ble_eq_true rfl) (c_handicapFor (h := H) (by omega) (by omega) (by have := hu c (by omega) (by omega); omega)) ?_
        rintro y _ ⟨e46, rfl⟩
        exact ev_iret rfl dX8_fair_61 (⟨p, Or.inr (Or.inr ⟨hc2, d22, H 40, q, by first | (rw [if_pos (by omega), e46, e32]; done) | (rw [if_neg (by omega), e46, e32]; done)⟩)⟩)
      · refine ev_aload_n 42 dX8_fair_41 rfl rfl ?_
        refine ev_getR 45 fX8_57 rfl dX8_fair_42 rfl rfl rfl ?_
        refine ev_iload_n 46 dX8_fair_45 rfl rfl ?_
        refine cVi1 49 kX8_fair_192 dX8_fair_46 rfl rfl rfl rfl rfl (by decide) rfl (Nat.le_of_ble_eq_true rfl) (c_spreadFor (h := H) (by rw [e2]; exact hn) (by omega) (fun e a b => by rw [e2] at b; have := hu e a b; omega)) ?_
        rintro y _ ⟨e46, rfl⟩
        rw [e2] at e46
        refine ev_goto 61 dX8_fair_49 rfl ?_
        exact ev_iret rfl dX8_fair_61 (⟨p, Or.inr (Or.inr ⟨hc2, d22, H 40, q, by first | (rw [if_pos (by omega), e46, e32]; done) | (rw [if_neg (by omega), e46, e32]; done)⟩)⟩)
    · have d22 := it_0.mp c22
      refine ev_bipush 27 dX8_fair_25 rfl (by decide +kernel) ?_
      exact ev_iret rfl dX8_fair_27 (⟨PsC.rf, Or.inr (Or.inl ⟨hc2, d22, rfl⟩)⟩)
  · refine ev_aload_n 6 dX8_fair_5 rfl rfl ?_
    refine ev_iload_n 7 dX8_fair_6 rfl rfl ?_
    refine cVi1 10 kX8_fair_96 dX8_fair_7 rfl rfl rfl rfl rfl (by decide) rfl (Nat.le_of_ble_eq_true rfl) (c_isChair hc hn) ?_
    rintro x _ ⟨rfl, rfl⟩
    refine ev_if_ne 13 15 dX8_fair_10 rfl rfl it_r (fun c10 => ?_) (fun c10 => ?_)
    · have d10 := it_1.mp c10
      have hc2 : c = -1 ∨ (0 ≤ c ∧ c < h 2 5) := by omega
      refine ev_aload_n 16 dX8_fair_15 rfl rfl ?_
      refine ev_getR 19 fX8_64 rfl dX8_fair_16 rfl rfl rfl ?_
      refine cVi0 22 kX8_fair_136 dX8_fair_19 rfl rfl rfl rfl rfl (by decide) rfl (Nat.le_of_ble_eq_true rfl) (c_hasRace (by omega) (by omega)) ?_
      rintro y _ ⟨rfl, rfl⟩
      refine ev_if_ne 25 28 dX8_fair_22 rfl rfl it_r (fun c22 => ?_) (fun c22 => ?_)
      · have d22 := it_1.mp c22
        refine ev_aload_n 29 dX8_fair_28 rfl rfl ?_
        refine ev_getR 32 fX8_57 rfl dX8_fair_29 rfl rfl rfl ?_
        refine cVi0 35 kX8_fair_189 dX8_fair_32 rfl rfl rfl rfl rfl (by decide) rfl (Nat.le_of_ble_eq_true rfl) (c_fairGoal (hb.W d22) hb.2.2.2.2.1 hL) ?_
        rintro g H ⟨p, q, e32⟩
        have e2 : H 2 = h 2 := p.1 2 rfl
        have hg : 0 ≤ g ∧ g ≤ 133 := by rw [e32]; exact fgF_r _ 133
        have hu : ∀ e, 0 ≤ e → e < h 2 5 → 0 ≤ H 40 e ∧ H 40 e ≤ 128 := fun e a b => by
          rw [q e a b]
          exact ceil_r hL (cG_r hb.2.2.2.1 hb.2.2.2.2.1 ⟨a, b⟩ _).1
        refine ev_istore_n 36 dX8_fair_35 rfl (Nat.le_of_ble_eq_true rfl) ?_
        refine ev_iload_n 37 dX8_fair_36 rfl rfl ?_
        refine ev_iconst 38 dX8_fair_37 rfl ?_
        refine ev_icmp_ne 41 52 dX8_fair_38 rfl rfl (by omega) (by omega) (fun c38 => ?_) (fun c38 => ?_)
        · refine ev_aload_n 53 dX8_fair_52 rfl rfl ?_
          refine ev_getR 56 fX8_57 rfl dX8_fair_53 rfl rfl rfl ?_
          refine ev_iload_n 57 dX8_fair_56 rfl rfl ?_
          refine ev_iload_n 58 dX8_fair_57 rfl rfl ?_
          refine cVi2 61 kX8_fair_195 dX8_fair_58 rfl rfl rfl rfl rfl (by decide) rfl (Nat.le_of_ble_eq_true rfl) (c_handicapFor (h := H) (by omega) (by omega) (by have := hu c (by omega) (by omega); omega)) ?_
          rintro y _ ⟨e46, rfl⟩
          exact ev_iret rfl dX8_fair_61 (⟨p, Or.inr (Or.inr ⟨hc2, d22, H 40, q, by first | (rw [if_pos (by omega), e46, e32]; done) | (rw [if_neg (by omega), e46, e32]; done)⟩)⟩)
        · refine ev_aload_n 42 dX8_fair_41 rfl rfl ?_
          refine ev_getR 45 fX8_57 rfl dX8_fair_42 rfl rfl rfl ?_
          refine ev_iload_n 46 dX8_fair_45 rfl rfl ?_
          refine cVi1 49 kX8_fair_192 dX8_fair_46 rfl rfl rfl rfl rfl (by decide) rfl (Nat.le_of_ble_eq_true rfl) (c_spreadFor (h := H) (by rw [e2]; exact hn) (by omega) (fun e a b => by rw [e2] at b; have := hu e a b; omega)) ?_
          rintro y _ ⟨e46, rfl⟩
          rw [e2] at e46
          refine ev_goto 61 dX8_fair_49 rfl ?_
          exact ev_iret rfl dX8_fair_61 (⟨p, Or.inr (Or.inr ⟨hc2, d22, H 40, q, by first | (rw [if_pos (by omega), e46, e32]; done) | (rw [if_neg (by omega), e46, e32]; done)⟩)⟩)
      · have d22 := it_0.mp c22
        refine ev_bipush 27 dX8_fair_25 rfl (by decide +kernel) ?_
        exact ev_iret rfl dX8_fair_27 (⟨PsC.rf, Or.inr (Or.inl ⟨hc2, d22, rfl⟩)⟩)
    · have d10 := it_0.mp c10
      refine ev_iconst 14 dX8_fair_13 rfl ?_
      exact ev_iret rfl dX8_fair_14 (⟨PsC.rf, Or.inl ⟨by omega, rfl⟩⟩)
theorem c_tuesday (hb : CHp h) (hwk : 0 ≤ h 4 4 ∧ h 4 4 ≤ 999) (hs : 0 ≤ h 7 3 ∧ h 7 3 ≤ 10) : Ev shC mX8_tuesday 0 [some (vr 0), none] [] h (RI fun x h' => (¬ ((0 < h 2 4 ∧ 0 < h 2 5) ∧ h 4 4 < 999) ∧ x = -2 ∧ h = h') ∨ (((0 < h 2 4 ∧ 0 < h 2 5) ∧ h 4 4 < 999) ∧ x = winK h 21 0 ∧ ∃ H, PsC h H ∧ h' = dAdd (hq H [(24, up (h 24) (winK h 21 0) (h 24 (winK h 21 0) + 1)), (4, up (h 4) 4 (h 4 4 + 1))]) 0 (winK h 21 0) 0)) := by
  have hn := hb.1
  have hl := hb.2.1
  refine ev_aload_n 1 dX8_tuesday_0 rfl rfl ?_
  refine ev_getR 4 fX8_64 rfl dX8_tuesday_1 rfl rfl rfl ?_
  refine cVi0 7 kX8_tuesday_136 dX8_tuesday_4 rfl rfl rfl rfl rfl (by decide) rfl (Nat.le_of_ble_eq_true rfl) (c_hasRace (by omega) (by omega)) ?_
  rintro y _ ⟨rfl, rfl⟩
  refine ev_if_eq 10 23 dX8_tuesday_7 rfl rfl it_r (fun c7 => ?_) (fun c7 => ?_)
  · have d7 := it_0.mp c7
    refine ev_bipush 25 dX8_tuesday_23 rfl (by decide +kernel) ?_
    exact ev_iret rfl dX8_tuesday_25 (Or.inl ⟨by omega, rfl, rfl⟩)
  · have d7 := it_1.mp c7
    refine ev_aload_n 11 dX8_tuesday_10 rfl rfl ?_
    refine ev_getR 14 fX8_68 rfl dX8_tuesday_11 rfl rfl rfl ?_
    refine ev_getI 17 4 fX8_133 rfl dX8_tuesday_14 rfl rfl rfl (by decide) rfl ?_
    refine ev_sipush 20 dX8_tuesday_17 rfl (by decide +kernel) ?_
    refine ev_icmp_lt 23 26 dX8_tuesday_20 rfl rfl (by omega) (by omega) (fun c20 => ?_) (fun c20 => ?_)
    · refine ev_aload_n 27 dX8_tuesday_26 rfl rfl ?_
      refine ev_getR 30 fX8_57 rfl dX8_tuesday_27 rfl rfl rfl ?_
      refine cVi0 33 kX8_tuesday_140 dX8_tuesday_30 rfl rfl rfl rfl rfl (by decide) rfl (Nat.le_of_ble_eq_true rfl) (c_winner (hb.W d7) hb.2.2.2.2.1) ?_
      rintro y H ⟨e30, p⟩
      have hr := winK_r (hb.W d7) hb.2.2.2.2.1 0
      rw [← e30] at hr ⊢
      have e2 : H 2 = h 2 := p.1 2 rfl
      have e24 : H 24 = h 24 := p.1 24 rfl
      have e4 : H 4 = h 4 := p.1 4 rfl
      have e7 : H 7 = h 7 := p.1 7 rfl
      refine ev_istore_n 34 dX8_tuesday_33 rfl (Nat.le_of_ble_eq_true rfl) ?_
      refine ev_aload_n 35 dX8_tuesday_34 rfl rfl ?_
      refine ev_iload_n 36 dX8_tuesday_35 rfl rfl ?_
      refine cVi1 39 kX8_tuesday_96 dX8_tuesday_36 rfl rfl rfl rfl rfl (by decide) rfl (Nat.le_of_ble_eq_true rfl) (c_isChair (h := H) (by omega) (by rw [e2]; exact hn)) ?_
      rintro z _ ⟨e36, rfl⟩
      rw [e2, if_pos hr] at e36
      rw [e36]
      refine ev_if_ne 42 45 dX8_tuesday_39 rfl rfl (by omega) (fun c39 => ?_) (fun c39 => ?_)
      · refine ev_aload_n 46 dX8_tuesday_45 rfl rfl ?_
        refine ev_getR 49 fX8_68 rfl dX8_tuesday_46 rfl rfl rfl ?_
        refine ev_getR 52 fX8_121 rfl dX8_tuesday_49 rfl rfl rfl ?_
        refine ev_iload_n 53 dX8_tuesday_52 rfl rfl ?_
        refine ev_dup2 54 dX8_tuesday_53 rfl ?_
        refine ev_iald' 55 (h 24 y) dX8_tuesday_54 rfl rfl (by decide) (by omega) (by rw [e24]) ?_
        refine ev_iconst 56 dX8_tuesday_55 rfl ?_
        refine ev_iadd 57 dX8_tuesday_56 rfl ?_
        refine ev_iast' 58 (hq H [(24, up (h 24) y (h 24 y + 1))]) dX8_tuesday_57 rfl rfl (by decide) (by omega) (by rw [e24]; exact hq_put (L := [])) ?_
        refine ev_aload_n 59 dX8_tuesday_58 rfl rfl ?_
        refine ev_getR 62 fX8_68 rfl dX8_tuesday_59 rfl rfl rfl ?_
        refine ev_dup_r 63 dX8_tuesday_62 rfl ?_
        refine ev_getI' 66 4 (h 4 4) fX8_133 rfl dX8_tuesday_63 rfl rfl rfl (by decide) rfl (by show H 4 4 = h 4 4; rw [e4]) ?_
        refine ev_iconst 67 dX8_tuesday_66 rfl ?_
        refine ev_iadd 68 dX8_tuesday_67 rfl ?_
        refine ev_putI' 71 4 (hq H [(24, up (h 24) y (h 24 y + 1)), (4, up (h 4) 4 (h 4 4 + 1))]) pX8_133 rfl dX8_tuesday_68 rfl rfl rfl rfl (by rw [show hq H [(24, up (h 24) y (h 24 y + 1))] 4 = h 4 from e4]; exact hq_put) ?_
        refine ev_aload_n 72 dX8_tuesday_71 rfl rfl ?_
        refine ev_getR 75 fX8_36 rfl dX8_tuesday_72 rfl rfl rfl ?_
        refine ev_iconst 76 dX8_tuesday_75 rfl ?_
        refine ev_iload_n 77 dX8_tuesday_76 rfl rfl ?_
        refine ev_iconst 78 dX8_tuesday_77 rfl ?_
        refine cVv3 81 kX8_tuesday_154 dX8_tuesday_78 rfl rfl rfl rfl rfl (by decide) rfl (Nat.le_of_ble_eq_true rfl) (c_add (by show 0 ≤ H 7 3 ∧ H 7 3 ≤ 10; rw [e7]; exact hs)) ?_
        rintro _ rfl
        refine ev_iload_n 82 dX8_tuesday_81 rfl rfl ?_
        exact ev_iret rfl dX8_tuesday_82 (Or.inr ⟨⟨d7, by omega⟩, rfl, H, p, rfl⟩)
      · omega --done
    · refine ev_bipush 25 dX8_tuesday_23 rfl (by decide +kernel) ?_
      exact ev_iret rfl dX8_tuesday_25 (Or.inl ⟨by omega, rfl, rfl⟩)
theorem c_imageOf0 : Ev shC mX8_imageOf 0 [some (vr 0), some (vi 0)] [] h (RR fun r h' => r = 5 ∧ h = h') := by
  refine ev_iload_n 1 dX8_imageOf_0 rfl rfl ?_
  refine ev_if_ne 4 11 dX8_imageOf_1 rfl rfl (by omega) (fun c1 => ?_) (fun c1 => ?_)
  · omega --done
  · refine ev_aload_n 5 dX8_imageOf_4 rfl rfl ?_
    refine ev_getR 8 fX8_26 rfl dX8_imageOf_5 rfl rfl rfl ?_
    refine ev_goto 15 dX8_imageOf_8 rfl ?_
    exact ev_aret rfl dX8_imageOf_15 (⟨rfl, rfl⟩)
theorem c_imageOf1 : Ev shC mX8_imageOf 0 [some (vr 0), some (vi 1)] [] h (RR fun r h' => r = 6 ∧ h = h') := by
  refine ev_iload_n 1 dX8_imageOf_0 rfl rfl ?_
  refine ev_if_ne 4 11 dX8_imageOf_1 rfl rfl (by omega) (fun c1 => ?_) (fun c1 => ?_)
  · refine ev_aload_n 12 dX8_imageOf_11 rfl rfl ?_
    refine ev_getR 15 fX8_30 rfl dX8_imageOf_12 rfl rfl rfl ?_
    exact ev_aret rfl dX8_imageOf_15 (⟨rfl, rfl⟩)
  · omega --done
end CP3
