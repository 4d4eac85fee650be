def ceilD (L g : Int) : Int := (L + g - 1) / g
theorem ceil_eq {L g j : Int} (hg : 0 < g) (h1 : g * j - g < L) (h2 : L ≤ g * j) : ceilD L g = j := by
  unfold ceilD
  have e : L + g - 1 = (L + g - 1 - g * j) + g * j := by omega
  rw [e, Int.add_mul_ediv_left _ _ (by omega), Int.ediv_eq_zero_of_lt (by omega) (by omega)]
  omega
section AL
variable {h : Hp} {c : Int}
theorem m_alone_in {post : Option AV → Hp → Prop} (hC : CP (h 1) (h 0 0) (h 0 2)) {mi : Int} : ∀ (k : Nat) (at' has : Int), 0 ≤ at' → at' + k = h 0 0 → 0 ≤ has → has ≤ 40 → (∀ at2 has2, at' ≤ at2 → at2 ≤ h 0 0 → 0 ≤ has2 → sumZ (h 1) at2.toNat + has2 = sumZ (h 1) at'.toNat + has → (at2 < h 0 0 → has2 < h 1 at2) → Ev shM mX9_aloneOf 14 [some (vr 0), some (vi c), some (vi at2), some (vi has2), some (vi mi)] [] h post) → Ev shM mX9_aloneOf 34 [some (vr 0), some (vi c), some (vi at'), some (vi has), some (vi mi)] [] h post := by
  intro k
  induction k with
  | zero =>
    intro at' has h0 h1 h2 h3 K
    have hc2 := hC.2.2.2.1
    refine ev_iload_n 35 dX9_aloneOf_34 rfl rfl ?_
    refine ev_aload_n 36 dX9_aloneOf_35 rfl rfl ?_
    refine ev_getI 39 0 fX9_81 rfl dX9_aloneOf_36 rfl rfl rfl (by decide) rfl ?_
    refine ev_icmp_ge 42 14 dX9_aloneOf_39 rfl rfl (by omega) (by omega) (fun c39 => ?_) (fun c39 => ?_)
    · exact K at' has (Int.le_refl _) (by omega) h2 rfl (fun q => by omega)
    · omega --done
  | succ k ih =>
    intro at' has h0 h1 h2 h3 K
    have hc2 := hC.2.2.2.1
    have hcs := hC.2.2.2.2 at' h0 (by omega)
    refine ev_iload_n 35 dX9_aloneOf_34 rfl rfl ?_
    refine ev_aload_n 36 dX9_aloneOf_35 rfl rfl ?_
    refine ev_getI 39 0 fX9_81 rfl dX9_aloneOf_36 rfl rfl rfl (by decide) rfl ?_
    refine ev_icmp_ge 42 14 dX9_aloneOf_39 rfl rfl (by omega) (by omega) (fun c39 => ?_) (fun c39 => ?_)
    · omega --done
    · refine ev_iload_n 43 dX9_aloneOf_42 rfl rfl ?_
      refine ev_aload_n 44 dX9_aloneOf_43 rfl rfl ?_
      refine ev_getR 47 fX9_7 rfl dX9_aloneOf_44 rfl rfl rfl ?_
      refine ev_iload_n 48 dX9_aloneOf_47 rfl rfl ?_
      refine ev_iald 49 dX9_aloneOf_48 rfl rfl (by decide) (by omega) ?_
      refine ev_icmp_lt 52 14 dX9_aloneOf_49 rfl rfl (by omega) (by omega) (fun c49 => ?_) (fun c49 => ?_)
      · exact K at' has (Int.le_refl _) (by omega) h2 rfl (fun _ => c49) --done
      · refine ev_iload_n 53 dX9_aloneOf_52 rfl rfl ?_
        refine ev_aload_n 54 dX9_aloneOf_53 rfl rfl ?_
        refine ev_getR 57 fX9_7 rfl dX9_aloneOf_54 rfl rfl rfl ?_
        refine ev_iload_n 58 dX9_aloneOf_57 rfl rfl ?_
        refine ev_iald 59 dX9_aloneOf_58 rfl rfl (by decide) (by omega) ?_
        refine ev_isub 60 dX9_aloneOf_59 rfl ?_
        refine ev_istore_n 61 dX9_aloneOf_60 rfl (Nat.le_of_ble_eq_true rfl) ?_
        refine ev_iinc 64 dX9_aloneOf_61 rfl rfl ?_
        refine ev_goto 34 dX9_aloneOf_64 rfl ?_
        refine ih (at' + 1) (has - h 1 at') (by omega) (by omega) (by omega) (by omega) (fun at2 has2 a1 a2 a3 a4 a5 => K at2 has2 (by omega) a2 a3 ?_ a5)
        rw [sumZ_1 h0] at a4
        omega
theorem m_alone_out (hC : CP (h 1) (h 0 0) (h 0 2)) (hW : MCh h) (hN : NW (h 0 2) (h 13)) (hc : 0 ≤ c ∧ c < h 0 2) (hd : Int) : ∀ (k : Nat) (at' has j P : Int), 0 ≤ at' → at' ≤ h 0 0 → 0 ≤ has → P = mGain h 0 c * j → sumZ (h 1) at'.toNat + has = P → (at' < h 0 0 → has < h 1 at' ∧ sumZ (h 1) (h 0 0).toNat - P ≤ k) → (at' = h 0 0 → P - mGain h 0 c < sumZ (h 1) (h 0 0).toNat) → Ev shM mX9_aloneOf 14 [some (vr 0), some (vi c), some (vi at'), some (vi has), some (vi (hd + j))] [] h (RI fun x h' => x = hd + ceilD (sumZ (h 1) (h 0 0).toNat) (mGain h 0 c) ∧ h = h') := by
  have hg := mGain_r ⟨hC, hW⟩ hN 0 hc
  have hpos : ∀ i, 0 ≤ i → i < h 0 0 → 0 ≤ h 1 i := fun i a b => by have := hC.2.2.2.2 i a b; omega
  intro k
  induction k with
  | zero =>
    intro at' has j P h0 h1 h2 h3 h4 h5 h6
    have hc2 := hC.2.2.2.1
    refine ev_iload_n 15 dX9_aloneOf_14 rfl rfl ?_
    refine ev_aload_n 16 dX9_aloneOf_15 rfl rfl ?_
    refine ev_getI 19 0 fX9_81 rfl dX9_aloneOf_16 rfl rfl rfl (by decide) rfl ?_
    refine ev_icmp_ge 22 67 dX9_aloneOf_19 rfl rfl (by omega) (by omega) (fun c19 => ?_) (fun c19 => ?_)
    · refine ev_iload 69 dX9_aloneOf_67 rfl rfl ?_
      exact ev_iret rfl dX9_aloneOf_69 (⟨by rw [ceil_eq (j := j) (by omega) (by rw [← h3]; exact h6 (by omega)) (by rw [← h3, ← h4, show at' = h 0 0 by omega]; omega)], rfl⟩)
    · have h7 := h5 (by omega)
      have h8 := sumZ_mo hpos (a := at' + 1) (b := h 0 0) (by omega) (by omega) (Int.le_refl _)
      rw [sumZ_1 h0] at h8
      omega --done
  | succ k ih =>
    intro at' has j P h0 h1 h2 h3 h4 h5 h6
    have hc2 := hC.2.2.2.1
    refine ev_iload_n 15 dX9_aloneOf_14 rfl rfl ?_
    refine ev_aload_n 16 dX9_aloneOf_15 rfl rfl ?_
    refine ev_getI 19 0 fX9_81 rfl dX9_aloneOf_16 rfl rfl rfl (by decide) rfl ?_
    refine ev_icmp_ge 22 67 dX9_aloneOf_19 rfl rfl (by omega) (by omega) (fun c19 => ?_) (fun c19 => ?_)
    · refine ev_iload 69 dX9_aloneOf_67 rfl rfl ?_
      exact ev_iret rfl dX9_aloneOf_69 (⟨by rw [ceil_eq (j := j) (by omega) (by rw [← h3]; exact h6 (by omega)) (by rw [← h3, ← h4, show at' = h 0 0 by omega]; omega)], rfl⟩)
    · have h7 := h5 (by omega)
      have hcs := hC.2.2.2.2 at' h0 (by omega)
      have h8 := sumZ_mo hpos (a := at' + 1) (b := h 0 0) (by omega) (by omega) (Int.le_refl _)
      rw [sumZ_1 h0] at h8
      refine ev_iinc 25 dX9_aloneOf_22 rfl rfl ?_
      refine ev_iload_n 26 dX9_aloneOf_25 rfl rfl ?_
      refine ev_aload_n 27 dX9_aloneOf_26 rfl rfl ?_
      refine ev_iload_n 28 dX9_aloneOf_27 rfl rfl ?_
      refine ev_iconst 29 dX9_aloneOf_28 rfl ?_
      refine cVi2 32 kX9_aloneOf_168 dX9_aloneOf_29 rfl rfl rfl rfl rfl (by decide) rfl (Nat.le_of_ble_eq_true rfl) (m_gainOf hC.2.1 hW hN (by omega) hc) ?_
      rintro x _ ⟨rfl, rfl⟩
      refine ev_iadd 33 dX9_aloneOf_32 rfl ?_
      refine ev_istore_n 34 dX9_aloneOf_33 rfl (Nat.le_of_ble_eq_true rfl) ?_
      refine m_alone_in hC (h 0 0 - at').toNat at' (has + mGain h 0 c) h0 (by omega) (by omega) (by omega) (fun at2 has2 a1 a2 a3 a4 a5 => ?_)
      refine ev_loc ?_ (ih at2 has2 (j + 1) (P + mGain h 0 c) (by omega) a2 a3 (by rw [h3, Int.mul_add, Int.mul_one]) (by omega) (fun q => ⟨a5 q, by omega⟩) (fun q => by omega))
      show _ = [_, _, _, _, some (vi (hd + (j + 1)))]
      rw [← Int.add_assoc]
theorem m_aloneOf (hC : CP (h 1) (h 0 0) (h 0 2)) (hW : MCh h) (hN : NW (h 0 2) (h 13)) (hc : 0 ≤ c ∧ c < h 0 2) : Ev shM mX9_aloneOf 0 [some (vr 0), some (vi c), none, none, none] [] h (RI fun x h' => x = h 13 (5 + c) + ceilD (sumZ (h 1) (h 0 0).toNat) (mGain h 0 c) ∧ h = h') := by
  have hc1 := hC.2.1
  have hc2 := hC.2.2.1
  have hcs := hC.2.2.2.2 0 (by omega) hc2
  have K := m_alone_out hC hW hN hc (h 13 (5 + c)) (sumZ (h 1) (h 0 0).toNat).toNat 0 0 0 0 (by omega) (by omega) (by omega) (by omega) rfl (fun _ => by omega) (fun _ => by omega)
  rw [Int.add_zero] at K
  refine ev_iconst 1 dX9_aloneOf_0 rfl ?_
  refine ev_istore_n 2 dX9_aloneOf_1 rfl (Nat.le_of_ble_eq_true rfl) ?_
  refine ev_iconst 3 dX9_aloneOf_2 rfl ?_
  refine ev_istore_n 4 dX9_aloneOf_3 rfl (Nat.le_of_ble_eq_true rfl) ?_
  refine ev_aload_n 5 dX9_aloneOf_4 rfl rfl ?_
  refine ev_getR 8 fX9_47 rfl dX9_aloneOf_5 rfl rfl rfl ?_
  refine ev_iconst 9 dX9_aloneOf_8 rfl ?_
  refine ev_iload_n 10 dX9_aloneOf_9 rfl rfl ?_
  refine ev_iadd 11 dX9_aloneOf_10 rfl ?_
  refine ev_iald 12 dX9_aloneOf_11 rfl rfl (by decide) (by omega) ?_
  refine ev_istore 14 dX9_aloneOf_12 rfl (Nat.le_of_ble_eq_true rfl) ?_
  exact K
end AL
def aloneS (h : Hp) (s : Int → Int) (c : Int) : Int := s (5 + c) + ceilD (sumZ (h 1) (h 0 0).toNat) (sGain (h 3) (fun c => h 2 (2 * c)) s 0 c)
section OPS
variable {h : Hp} {c : Int}
theorem m_alone (hc : R32 c) (hl : 0 ≤ h 0 0 ∧ h 0 0 ≤ 16) (hn : 0 ≤ h 0 2 ∧ h 0 2 ≤ 5) (hW : 0 < h 0 0 ∧ 0 < h 0 2 → MW h) (hs : NW (h 0 2) (h 4)) : Ev shM mX9_alone 0 [some (vr 0), some (vi c)] [] h (RI fun x h' => x = (if 0 ≤ c ∧ c < h 0 2 then (if 0 < h 0 0 ∧ 0 < h 0 2 then aloneS h (h 4) c else -2) else -1) ∧ PsM h h') := by
  refine ev_aload_n 1 dX9_alone_0 rfl rfl ?_
  refine ev_iload_n 2 dX9_alone_1 rfl rfl ?_
  refine cVi1 5 kX9_alone_175 dX9_alone_2 rfl rfl rfl rfl rfl (by decide) rfl (Nat.le_of_ble_eq_true rfl) (m_isChair hc hn) ?_
  rintro x _ ⟨rfl, rfl⟩
  refine ev_if_ne 8 10 dX9_alone_5 rfl rfl it_r (fun c5 => ?_) (fun c5 => ?_)
  · have d5 := it_1.mp c5
    rw [if_pos d5]
    refine ev_aload_n 11 dX9_alone_10 rfl rfl ?_
    refine cVi0 14 kX9_alone_184 dX9_alone_11 rfl rfl rfl rfl rfl (by decide) rfl (Nat.le_of_ble_eq_true rfl) (m_isRace (by omega) (by omega)) ?_
    rintro x _ ⟨rfl, rfl⟩
    refine ev_if_ne 17 20 dX9_alone_14 rfl rfl it_r (fun c14 => ?_) (fun c14 => ?_)
    · have d14 := it_1.mp c14
      rw [if_pos d14]
      refine ev_aload_n 21 dX9_alone_20 rfl rfl ?_
      refine cVv0 24 kX9_alone_178 dX9_alone_21 rfl rfl rfl rfl rfl (by decide) rfl (Nat.le_of_ble_eq_true rfl) (m_asItIs) ?_
      rintro _ rfl
      refine ev_aload_n 25 dX9_alone_24 rfl rfl ?_
      refine ev_iload_n 26 dX9_alone_25 rfl rfl ?_
      refine cVi1 29 kX9_alone_181 dX9_alone_26 rfl rfl rfl rfl rfl (by decide) rfl (Nat.le_of_ble_eq_true rfl) (m_aloneOf (h := hN h) (hN_W (hW d14) hs).1.1 (hN_W (hW d14) hs).1.2 (hN_W (hW d14) hs).2 d5) ?_
      rintro x _ ⟨rfl, rfl⟩
      exact ev_iret rfl dX9_alone_29 (⟨by rw [mGain_N hn d5, hN_at (by omega) (by omega)]; rfl, PsM.N⟩)
    · have d14 := it_0.mp c14
      rw [if_neg d14]
      refine ev_bipush 19 dX9_alone_17 rfl (by decide +kernel) ?_
      exact ev_iret rfl dX9_alone_19 (⟨rfl, PsM.rf⟩)
  · have d5 := it_0.mp c5
    rw [if_neg d5]
    refine ev_iconst 9 dX9_alone_8 rfl ?_
    exact ev_iret rfl dX9_alone_9 (⟨rfl, PsM.rf⟩)
theorem m_time (hc : R32 c) (hl : 0 ≤ h 0 0 ∧ h 0 0 ≤ 16) (hn : 0 ≤ h 0 2 ∧ h 0 2 ≤ 5) (hW : 0 < h 0 0 ∧ 0 < h 0 2 → MW h) (hs : NW (h 0 2) (h 4)) : Ev shM mX9_time 0 [some (vr 0), some (vi c)] [] h (RI fun x h' => x = (if 0 ≤ c ∧ c < h 0 2 then (if 0 < h 0 0 ∧ 0 < h 0 2 then (raceS h (h 4) 0).2.2.1 c else -2) else -1) ∧ PsM h h') := by
  have hA := raceS_ag (h := h) (s := h 4) (s' := hN h 13) (ill := 0) hn (fun i a b => hN_at a b)
  refine ev_aload_n 1 dX9_time_0 rfl rfl ?_
  refine ev_iload_n 2 dX9_time_1 rfl rfl ?_
  refine cVi1 5 kX9_time_175 dX9_time_2 rfl rfl rfl rfl rfl (by decide) rfl (Nat.le_of_ble_eq_true rfl) (m_isChair hc hn) ?_
  rintro x _ ⟨rfl, rfl⟩
  refine ev_if_ne 8 10 dX9_time_5 rfl rfl it_r (fun c5 => ?_) (fun c5 => ?_)
  · have d5 := it_1.mp c5
    rw [if_pos d5]
    refine ev_aload_n 11 dX9_time_10 rfl rfl ?_
    refine cVi0 14 kX9_time_184 dX9_time_11 rfl rfl rfl rfl rfl (by decide) rfl (Nat.le_of_ble_eq_true rfl) (m_isRace (by omega) (by omega)) ?_
    rintro x _ ⟨rfl, rfl⟩
    refine ev_if_ne 17 20 dX9_time_14 rfl rfl it_r (fun c14 => ?_) (fun c14 => ?_)
    · have d14 := it_1.mp c14
      rw [if_pos d14]
      refine ev_aload_n 21 dX9_time_20 rfl rfl ?_
      refine cVv0 24 kX9_time_178 dX9_time_21 rfl rfl rfl rfl rfl (by decide) rfl (Nat.le_of_ble_eq_true rfl) (m_asItIs) ?_
      rintro _ rfl
      refine ev_aload_n 25 dX9_time_24 rfl rfl ?_
      refine ev_iconst 26 dX9_time_25 rfl ?_
      refine cVv1 29 kX9_time_192 dX9_time_26 rfl rfl rfl rfl rfl (by decide) rfl (Nat.le_of_ble_eq_true rfl) (m_racesS (hN_W (hW d14) hs).1 (hN_W (hW d14) hs).2 ⟨by omega, by omega⟩) ?_
      rintro h' ⟨p1, -, -, p2, -⟩
      refine ev_aload_n 30 dX9_time_29 rfl rfl ?_
      refine ev_getR 33 fX9_56 rfl dX9_time_30 rfl rfl rfl ?_
      refine ev_iload_n 34 dX9_time_33 rfl rfl ?_
      refine ev_iald' 35 ((raceS h (h 4) 0).2.2.1 c) dX9_time_34 rfl rfl (by decide) (by omega) ((p2 c d5.1 d5.2).trans (hA.2.2.1 c d5.1 d5.2)) ?_
      exact ev_iret rfl dX9_time_35 (⟨rfl, PsM.N.tr p1⟩)
    · have d14 := it_0.mp c14
      rw [if_neg d14]
      refine ev_bipush 19 dX9_time_17 rfl (by decide +kernel) ?_
      exact ev_iret rfl dX9_time_19 (⟨rfl, PsM.rf⟩)
  · have d5 := it_0.mp c5
    rw [if_neg d5]
    refine ev_iconst 9 dX9_time_8 rfl ?_
    exact ev_iret rfl dX9_time_9 (⟨rfl, PsM.rf⟩)
theorem m_place (hc : R32 c) (hl : 0 ≤ h 0 0 ∧ h 0 0 ≤ 16) (hn : 0 ≤ h 0 2 ∧ h 0 2 ≤ 5) (hW : 0 < h 0 0 ∧ 0 < h 0 2 → MW h) (hs : NW (h 0 2) (h 4)) : Ev shM mX9_place 0 [some (vr 0), some (vi c)] [] h (RI fun x h' => x = (if 0 ≤ c ∧ c < h 0 2 then (if 0 < h 0 0 ∧ 0 < h 0 2 then (raceS h (h 4) 0).2.2.2.1 c else -2) else -1) ∧ PsM h h') := by
  have hA := raceS_ag (h := h) (s := h 4) (s' := hN h 13) (ill := 0) hn (fun i a b => hN_at a b)
  refine ev_aload_n 1 dX9_place_0 rfl rfl ?_
  refine ev_iload_n 2 dX9_place_1 rfl rfl ?_
  refine cVi1 5 kX9_place_175 dX9_place_2 rfl rfl rfl rfl rfl (by decide) rfl (Nat.le_of_ble_eq_true rfl) (m_isChair hc hn) ?_
  rintro x _ ⟨rfl, rfl⟩
  refine ev_if_ne 8 10 dX9_place_5 rfl rfl it_r (fun c5 => ?_) (fun c5 => ?_)
  · have d5 := it_1.mp c5
    rw [if_pos d5]
    refine ev_aload_n 11 dX9_place_10 rfl rfl ?_
    refine cVi0 14 kX9_place_184 dX9_place_11 rfl rfl rfl rfl rfl (by decide) rfl (Nat.le_of_ble_eq_true rfl) (m_isRace (by omega) (by omega)) ?_
    rintro x _ ⟨rfl, rfl⟩
    refine ev_if_ne 17 20 dX9_place_14 rfl rfl it_r (fun c14 => ?_) (fun c14 => ?_)
    · have d14 := it_1.mp c14
      rw [if_pos d14]
      have hO2 : (raceS h (hN h 13) 0).2.2.2.2 = h 0 2 := (raceS_ok (hN_W (hW d14) hs).1 (hN_W (hW d14) hs).2 0).2
      refine ev_aload_n 21 dX9_place_20 rfl rfl ?_
      refine cVv0 24 kX9_place_178 dX9_place_21 rfl rfl rfl rfl rfl (by decide) rfl (Nat.le_of_ble_eq_true rfl) (m_asItIs) ?_
      rintro _ rfl
      refine ev_aload_n 25 dX9_place_24 rfl rfl ?_
      refine ev_iconst 26 dX9_place_25 rfl ?_
      refine cVv1 29 kX9_place_192 dX9_place_26 rfl rfl rfl rfl rfl (by decide) rfl (Nat.le_of_ble_eq_true rfl) (m_racesS (hN_W (hW d14) hs).1 (hN_W (hW d14) hs).2 ⟨by omega, by omega⟩) ?_
      rintro h' ⟨p1, -, -, -, p2⟩
      refine ev_aload_n 30 dX9_place_29 rfl rfl ?_
      refine ev_getR 33 fX9_59 rfl dX9_place_30 rfl rfl rfl ?_
      refine ev_iload_n 34 dX9_place_33 rfl rfl ?_
      refine ev_iald' 35 ((raceS h (h 4) 0).2.2.2.1 c) dX9_place_34 rfl rfl (by decide) (by omega) ((p2 c d5.1 d5.2).trans (hA.2.2.2.1 c d5.1 (by omega))) ?_
      exact ev_iret rfl dX9_place_35 (⟨rfl, PsM.N.tr p1⟩)
    · have d14 := it_0.mp c14
      rw [if_neg d14]
      refine ev_bipush 19 dX9_place_17 rfl (by decide +kernel) ?_
      exact ev_iret rfl dX9_place_19 (⟨rfl, PsM.rf⟩)
  · have d5 := it_0.mp c5
    rw [if_neg d5]
    refine ev_iconst 9 dX9_place_8 rfl ?_
    exact ev_iret rfl dX9_place_9 (⟨rfl, PsM.rf⟩)
theorem m_times {t : Int} (hc : R32 c) (ht : R32 t) (hl : 0 ≤ h 0 0 ∧ h 0 0 ≤ 16) (hn : 0 ≤ h 0 2 ∧ h 0 2 ≤ 5) (hm : 0 ≤ h 0 10 ∧ h 0 10 ≤ 6) : Ev shM mX9_times 0 [some (vr 0), some (vi c), some (vi t)] [] h (RI fun x h' => (¬ ((0 ≤ c ∧ c < h 0 2) ∧ 1 ≤ t ∧ t ≤ 200) ∧ x = -1 ∧ h = h') ∨ (((0 ≤ c ∧ c < h 0 2) ∧ 1 ≤ t ∧ t ≤ 200) ∧ ¬ (0 < h 0 0 ∧ 0 < h 0 2) ∧ x = -2 ∧ h = h') ∨ (((0 ≤ c ∧ c < h 0 2) ∧ 1 ≤ t ∧ t ≤ 200) ∧ (0 < h 0 0 ∧ 0 < h 0 2) ∧ h 0 10 = 6 ∧ x = -3 ∧ h = h') ∨ (((0 ≤ c ∧ c < h 0 2) ∧ 1 ≤ t ∧ t ≤ 200) ∧ (0 < h 0 0 ∧ 0 < h 0 2) ∧ h 0 10 < 6 ∧ x = h 0 10 + 1 ∧ h' = hq h [(8, up (up (h 8) (2 * h 0 10) c) (2 * h 0 10 + 1) t), (0, up (h 0) 10 (h 0 10 + 1))])) := by
  refine ev_aload_n 1 dX9_times_0 rfl rfl ?_
  refine ev_iload_n 2 dX9_times_1 rfl rfl ?_
  refine cVi1 5 kX9_times_175 dX9_times_2 rfl rfl rfl rfl rfl (by decide) rfl (Nat.le_of_ble_eq_true rfl) (m_isChair hc hn) ?_
  rintro x _ ⟨rfl, rfl⟩
  refine ev_if_eq 8 19 dX9_times_5 rfl rfl it_r (fun c5 => ?_) (fun c5 => ?_)
  · have d5 := it_0.mp c5
    refine ev_iconst 20 dX9_times_19 rfl ?_
    exact ev_iret rfl dX9_times_20 (Or.inl ⟨by omega, rfl, rfl⟩)
  · have d5 := it_1.mp c5
    refine ev_iload_n 9 dX9_times_8 rfl rfl ?_
    refine ev_iconst 10 dX9_times_9 rfl ?_
    refine ev_sipush 13 dX9_times_10 rfl (by decide +kernel) ?_
    refine cSi3 16 kX9_times_78 dX9_times_13 rfl rfl (by decide) rfl (Nat.le_of_ble_eq_true rfl) (m_in ht ⟨by decide, by decide⟩ ⟨by decide, by decide⟩) ?_
    rintro x _ ⟨rfl, rfl⟩
    refine ev_if_ne 19 21 dX9_times_16 rfl rfl it_r (fun c16 => ?_) (fun c16 => ?_)
    · have d16 := it_1.mp c16
      refine ev_aload_n 22 dX9_times_21 rfl rfl ?_
      refine cVi0 25 kX9_times_184 dX9_times_22 rfl rfl rfl rfl rfl (by decide) rfl (Nat.le_of_ble_eq_true rfl) (m_isRace (by omega) (by omega)) ?_
      rintro x _ ⟨rfl, rfl⟩
      refine ev_if_ne 28 31 dX9_times_25 rfl rfl it_r (fun c25 => ?_) (fun c25 => ?_)
      · have d25 := it_1.mp c25
        refine ev_aload_n 32 dX9_times_31 rfl rfl ?_
        refine ev_getI 35 10 fX9_151 rfl dX9_times_32 rfl rfl rfl (by decide) rfl ?_
        refine ev_bipush 37 dX9_times_35 rfl (by decide +kernel) ?_
        refine ev_icmp_ne 40 43 dX9_times_37 rfl rfl (by omega) (by omega) (fun c37 => ?_) (fun c37 => ?_)
        · refine ev_aload_n 44 dX9_times_43 rfl rfl ?_
          refine ev_getR 47 fX9_32 rfl dX9_times_44 rfl rfl rfl ?_
          refine ev_iconst 48 dX9_times_47 rfl ?_
          refine ev_aload_n 49 dX9_times_48 rfl rfl ?_
          refine ev_getI 52 10 fX9_151 rfl dX9_times_49 rfl rfl rfl (by decide) rfl ?_
          refine ev_imul 53 dX9_times_52 rfl ?_
          refine ev_iload_n 54 dX9_times_53 rfl rfl ?_
          refine ev_iast' 55 (hq h [(8, up (h 8) (2 * h 0 10) c)]) dX9_times_54 rfl rfl (by decide) (by omega) (hq_put (L := [])) ?_
          refine ev_aload_n 56 dX9_times_55 rfl rfl ?_
          refine ev_getR 59 fX9_32 rfl dX9_times_56 rfl rfl rfl ?_
          refine ev_iconst 60 dX9_times_59 rfl ?_
          refine ev_aload_n 61 dX9_times_60 rfl rfl ?_
          refine ev_getI' 64 10 (h 0 10) fX9_151 rfl dX9_times_61 rfl rfl rfl (by decide) rfl rfl ?_
          refine ev_imul 65 dX9_times_64 rfl ?_
          refine ev_iconst 66 dX9_times_65 rfl ?_
          refine ev_iadd 67 dX9_times_66 rfl ?_
          refine ev_iload_n 68 dX9_times_67 rfl rfl ?_
          refine ev_iast' 69 (hq h [(8, up (up (h 8) (2 * h 0 10) c) (2 * h 0 10 + 1) t)]) dX9_times_68 rfl rfl (by decide) (by omega) hq_put ?_
          refine ev_aload_n 70 dX9_times_69 rfl rfl ?_
          refine ev_dup_r 71 dX9_times_70 rfl ?_
          refine ev_getI' 74 10 (h 0 10) fX9_151 rfl dX9_times_71 rfl rfl rfl (by decide) rfl rfl ?_
          refine ev_iconst 75 dX9_times_74 rfl ?_
          refine ev_iadd 76 dX9_times_75 rfl ?_
          refine ev_putI' 79 10 (hq h [(8, up (up (h 8) (2 * h 0 10) c) (2 * h 0 10 + 1) t), (0, up (h 0) 10 (h 0 10 + 1))]) pX9_151 rfl dX9_times_76 rfl rfl rfl rfl hq_put ?_
          refine ev_aload_n 80 dX9_times_79 rfl rfl ?_
          refine ev_getI' 83 10 (h 0 10 + 1) fX9_151 rfl dX9_times_80 rfl rfl rfl (by decide) rfl rfl ?_
          exact ev_iret rfl dX9_times_83 (Or.inr (Or.inr (Or.inr ⟨⟨d5, d16⟩, d25, by omega, rfl, rfl⟩)))
        · refine ev_bipush 42 dX9_times_40 rfl (by decide +kernel) ?_
          exact ev_iret rfl dX9_times_42 (Or.inr (Or.inr (Or.inl ⟨⟨d5, d16⟩, d25, by omega, rfl, rfl⟩)))
      · have d25 := it_0.mp c25
        refine ev_bipush 30 dX9_times_28 rfl (by decide +kernel) ?_
        exact ev_iret rfl dX9_times_30 (Or.inr (Or.inl ⟨⟨d5, d16⟩, d25, rfl, rfl⟩))
    · have d16 := it_0.mp c16
      refine ev_iconst 20 dX9_times_19 rfl ?_
      exact ev_iret rfl dX9_times_20 (Or.inl ⟨by omega, rfl, rfl⟩)
theorem m_keep {im : Int} (hi : R32 im) : Ev shM mX9_keep 0 [some (vr 0), some (vi im)] [] h (RI fun x h' => (¬ (0 ≤ im ∧ im ≤ 1) ∧ x = -1 ∧ h = h') ∨ ((0 ≤ im ∧ im ≤ 1) ∧ x = h 4 11 ∧ h' = hq h [(6, cpy (h 4) (h 6) 0 (17 * im) 17), (7, up (h 7) im 1)])) := by
  refine ev_iload_n 1 dX9_keep_0 rfl rfl ?_
  refine ev_iconst 2 dX9_keep_1 rfl ?_
  refine ev_iconst 3 dX9_keep_2 rfl ?_
  refine cSi3 6 kX9_keep_78 dX9_keep_3 rfl rfl (by decide) rfl (Nat.le_of_ble_eq_true rfl) (m_in hi ⟨by decide, by decide⟩ ⟨by decide, by decide⟩) ?_
  rintro x _ ⟨rfl, rfl⟩
  refine ev_if_ne 9 11 dX9_keep_6 rfl rfl it_r (fun c6 => ?_) (fun c6 => ?_)
  · have d6 := it_1.mp c6
    refine ev_aload_n 12 dX9_keep_11 rfl rfl ?_
    refine ev_getR 15 fX9_25 rfl dX9_keep_12 rfl rfl rfl ?_
    refine ev_bipush 17 dX9_keep_15 rfl (by decide +kernel) ?_
    refine ev_iload_n 18 dX9_keep_17 rfl rfl ?_
    refine ev_imul 19 dX9_keep_18 rfl ?_
    refine ev_aload_n 20 dX9_keep_19 rfl rfl ?_
    refine ev_getR 23 fX9_19 rfl dX9_keep_20 rfl rfl rfl ?_
    refine ev_iconst 24 dX9_keep_23 rfl ?_
    refine cSv4 27 kX9_keep_154 dX9_keep_24 rfl rfl (by decide) rfl (Nat.le_of_ble_eq_true rfl) (m_copy (a := 6) (b := 4) rfl rfl (by decide) (by decide) (by decide) (by omega) (by omega)) ?_
    rintro _ rfl
    refine ev_aload_n 28 dX9_keep_27 rfl rfl ?_
    refine ev_getR 31 fX9_28 rfl dX9_keep_28 rfl rfl rfl ?_
    refine ev_iload_n 32 dX9_keep_31 rfl rfl ?_
    refine ev_iconst 33 dX9_keep_32 rfl ?_
    refine ev_zast' 34 (hq h [(6, cpy (h 4) (h 6) 0 (17 * im) 17), (7, up (h 7) im 1)]) dX9_keep_33 rfl rfl (by decide) (by omega) (by omega) (hq_put (L := [(6, cpy (h 4) (h 6) 0 (17 * im) 17)]) |> fun e => (congrArg (fun z => hput z 7 _) (hq_put (L := []))).trans e) ?_
    refine ev_aload_n 35 dX9_keep_34 rfl rfl ?_
    refine ev_getR 38 fX9_19 rfl dX9_keep_35 rfl rfl rfl ?_
    refine ev_bipush 40 dX9_keep_38 rfl (by decide +kernel) ?_
    refine ev_iald' 41 (h 4 11) dX9_keep_40 rfl rfl (by decide) (by omega) rfl ?_
    exact ev_iret rfl dX9_keep_41 (Or.inr ⟨d6, rfl, rfl⟩)
  · have d6 := it_0.mp c6
    refine ev_iconst 10 dX9_keep_9 rfl ?_
    exact ev_iret rfl dX9_keep_10 (Or.inl ⟨d6, rfl, rfl⟩)
theorem m_back {im : Int} (hi : R32 im) (hk : ∀ i, 0 ≤ i → i ≤ 1 → R32 (h 7 i)) : Ev shM mX9_back 0 [some (vr 0), some (vi im)] [] h (RI fun x h' => (¬ (0 ≤ im ∧ im ≤ 1) ∧ x = -1 ∧ h = h') ∨ ((0 ≤ im ∧ im ≤ 1) ∧ h 7 im = 0 ∧ x = -2 ∧ h = h') ∨ ((0 ≤ im ∧ im ≤ 1) ∧ ¬ h 7 im = 0 ∧ x = h 6 (17 * im + 11) ∧ h' = hq h [(4, cpy (h 6) (h 4) (17 * im) 0 17), (0, up (h 0) 7 0)])) := by
  refine ev_iload_n 1 dX9_back_0 rfl rfl ?_
  refine ev_iconst 2 dX9_back_1 rfl ?_
  refine ev_iconst 3 dX9_back_2 rfl ?_
  refine cSi3 6 kX9_back_78 dX9_back_3 rfl rfl (by decide) rfl (Nat.le_of_ble_eq_true rfl) (m_in hi ⟨by decide, by decide⟩ ⟨by decide, by decide⟩) ?_
  rintro x _ ⟨rfl, rfl⟩
  refine ev_if_ne 9 11 dX9_back_6 rfl rfl it_r (fun c6 => ?_) (fun c6 => ?_)
  · have d6 := it_1.mp c6
    have h7 := hk im d6.1 d6.2
    refine ev_aload_n 12 dX9_back_11 rfl rfl ?_
    refine ev_getR 15 fX9_28 rfl dX9_back_12 rfl rfl rfl ?_
    refine ev_iload_n 16 dX9_back_15 rfl rfl ?_
    refine ev_zald 17 dX9_back_16 rfl rfl (by decide) (by omega) ?_
    refine ev_if_ne 20 23 dX9_back_17 rfl rfl (by omega) (fun c17 => ?_) (fun c17 => ?_)
    · refine ev_aload_n 24 dX9_back_23 rfl rfl ?_
      refine ev_getR 27 fX9_19 rfl dX9_back_24 rfl rfl rfl ?_
      refine ev_iconst 28 dX9_back_27 rfl ?_
      refine ev_aload_n 29 dX9_back_28 rfl rfl ?_
      refine ev_getR 32 fX9_25 rfl dX9_back_29 rfl rfl rfl ?_
      refine ev_bipush 34 dX9_back_32 rfl (by decide +kernel) ?_
      refine ev_iload_n 35 dX9_back_34 rfl rfl ?_
      refine ev_imul 36 dX9_back_35 rfl ?_
      refine cSv4 39 kX9_back_154 dX9_back_36 rfl rfl (by decide) rfl (Nat.le_of_ble_eq_true rfl) (m_copy (a := 4) (b := 6) rfl rfl (by decide) (by decide) (by decide) (by omega) (by omega)) ?_
      rintro _ rfl
      refine ev_aload_n 40 dX9_back_39 rfl rfl ?_
      refine ev_iconst 41 dX9_back_40 rfl ?_
      refine ev_putI' 44 7 (hq h [(4, cpy (h 6) (h 4) (17 * im) 0 17), (0, up (h 0) 7 0)]) pX9_148 rfl dX9_back_41 rfl rfl rfl rfl (hq_put (L := [(4, cpy (h 6) (h 4) (17 * im) 0 17)]) |> fun e => (congrArg (fun z => hput z 0 _) (hq_put (L := []))).trans e) ?_
      refine ev_aload_n 45 dX9_back_44 rfl rfl ?_
      refine ev_getR 48 fX9_19 rfl dX9_back_45 rfl rfl rfl ?_
      refine ev_bipush 50 dX9_back_48 rfl (by decide +kernel) ?_
      refine ev_iald' 51 (h 6 (17 * im + 11)) dX9_back_50 rfl rfl (by decide) (by omega) (by show cpy (h 6) (h 4) (17 * im) 0 17 11 = _; unfold cpy; rw [if_pos (by omega)]; rfl) ?_
      exact ev_iret rfl dX9_back_51 (Or.inr (Or.inr ⟨d6, c17, rfl, rfl⟩))
    · refine ev_bipush 22 dX9_back_20 rfl (by decide +kernel) ?_
      exact ev_iret rfl dX9_back_22 (Or.inr (Or.inl ⟨d6, c17, rfl, rfl⟩))
  · have d6 := it_0.mp c6
    refine ev_iconst 10 dX9_back_9 rfl ?_
    exact ev_iret rfl dX9_back_10 (Or.inl ⟨d6, rfl, rfl⟩)
end OPS
