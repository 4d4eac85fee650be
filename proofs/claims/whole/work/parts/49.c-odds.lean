theorem winK_P {h h' : Hp} (p : PsC h h') {a : Nat} (ha : perC a = true) (ill : Int) : winK h' a ill = winK h a ill := by
  unfold winK raceK cGain
  rw [p.1 13 rfl, p.1 2 rfl, p.1 14 rfl, p.1 16 rfl, p.1 22 rfl, p.1 23 rfl, p.1 a ha]
theorem WY_P {h h' : Hp} (p : PsC h h') {a : Nat} (ha : perC a = true) (hw : WY h a) : WY h' a := by
  unfold WY at hw ⊢
  rw [p.1 2 rfl, p.1 a ha]
  exact hw
section OC
variable {h : Hp}
theorem c_kingsPusher {k : Int} (hk : 0 ≤ k ∧ k < 5) : Ev shC mX2_kingsPusher 0 [some (vr 9), some (vi k)] [] h (RI fun x h' => x = h 39 k ∧ h = h') := by
  refine ev_aload_n 1 dX2_kingsPusher_0 rfl rfl ?_
  refine ev_getR 4 fX2_36 rfl dX2_kingsPusher_1 rfl rfl rfl ?_
  refine ev_iload_n 5 dX2_kingsPusher_4 rfl rfl ?_
  refine ev_iald 6 dX2_kingsPusher_5 rfl rfl (by decide) (by omega) ?_
  exact ev_iret rfl dX2_kingsPusher_6 (⟨rfl, rfl⟩)
theorem c_weight_loop {x ill : Int} {r : Int} (hn : 0 ≤ h 2 5 ∧ h 2 5 ≤ 5) (hi : 0 ≤ ill ∧ ill < 32) : ∀ (k : Nat) (p w : Int), 0 ≤ p → p + k = h 2 5 → wF x ill k p w = r → Ev shC mX2_weightOf 5 [some (vr 9), some (vi ill), some (vi x), some (vi w), some (vi p)] [] h (RI fun y h' => y = r ∧ h = h') := by
  intro k
  induction k with
  | zero =>
    intro p w h0 h1 hr
    have he : p = h 2 5 := by omega
    subst he
    refine ev_iload 7 dX2_weightOf_5 rfl rfl ?_
    refine ev_aload_n 8 dX2_weightOf_7 rfl rfl ?_
    refine ev_getR 11 fX2_12 rfl dX2_weightOf_8 rfl rfl rfl ?_
    refine ev_getI 14 5 fX2_49 rfl dX2_weightOf_11 rfl rfl rfl (by decide) rfl ?_
    refine ev_icmp_ge 17 43 dX2_weightOf_14 rfl rfl (by omega) (by omega) (fun c14 => ?_) (fun c14 => ?_)
    · refine ev_iload_n 44 dX2_weightOf_43 rfl rfl ?_
      exact ev_iret rfl dX2_weightOf_44 (⟨hr, rfl⟩)
    · omega --done
  | succ k ih =>
    intro p w h0 h1 hr
    have hz := bit_z ill p
    unfold wF at hr
    refine ev_iload 7 dX2_weightOf_5 rfl rfl ?_
    refine ev_aload_n 8 dX2_weightOf_7 rfl rfl ?_
    refine ev_getR 11 fX2_12 rfl dX2_weightOf_8 rfl rfl rfl ?_
    refine ev_getI 14 5 fX2_49 rfl dX2_weightOf_11 rfl rfl rfl (by decide) rfl ?_
    refine ev_icmp_ge 17 43 dX2_weightOf_14 rfl rfl (by omega) (by omega) (fun c14 => ?_) (fun c14 => ?_)
    · omega --done
    · refine ev_iload_n 18 dX2_weightOf_17 rfl rfl ?_
      refine ev_iload_n 19 dX2_weightOf_18 rfl rfl ?_
      refine ev_iload 21 dX2_weightOf_19 rfl rfl ?_
      refine cSi2 24 kX2_weightOf_106 dX2_weightOf_21 rfl rfl (by decide) rfl (Nat.le_of_ble_eq_true rfl) (c_isIll ⟨hi.1, by omega⟩ ⟨h0, by omega⟩) ?_
      rintro y _ ⟨rfl, rfl⟩
      refine ev_if_eq 27 31 dX2_weightOf_24 rfl rfl (by omega) (fun c24 => ?_) (fun c24 => ?_)
      · rw [if_pos c24] at hr
        refine ev_bipush 33 dX2_weightOf_31 rfl (by decide +kernel) ?_
        refine ev_iload_n 34 dX2_weightOf_33 rfl rfl ?_
        refine ev_isub 35 dX2_weightOf_34 rfl ?_
        refine ev_imul 36 dX2_weightOf_35 rfl ?_
        refine ev_istore_n 37 dX2_weightOf_36 rfl (Nat.le_of_ble_eq_true rfl) ?_
        refine ev_iinc 40 dX2_weightOf_37 rfl rfl ?_
        refine ev_goto 5 dX2_weightOf_40 rfl ?_
        exact ih (p + 1) _ (by omega) (by omega) hr
      · rw [if_neg c24] at hr
        refine ev_iload_n 28 dX2_weightOf_27 rfl rfl ?_
        refine ev_goto 35 dX2_weightOf_28 rfl ?_
        refine ev_imul 36 dX2_weightOf_35 rfl ?_
        refine ev_istore_n 37 dX2_weightOf_36 rfl (Nat.le_of_ble_eq_true rfl) ?_
        refine ev_iinc 40 dX2_weightOf_37 rfl rfl ?_
        refine ev_goto 5 dX2_weightOf_40 rfl ?_
        exact ih (p + 1) _ (by omega) (by omega) hr
theorem c_weightOf {x ill : Int} (hn : 0 ≤ h 2 5 ∧ h 2 5 ≤ 5) (hi : 0 ≤ ill ∧ ill < 32) : Ev shC mX2_weightOf 0 [some (vr 9), some (vi ill), some (vi x), none, none] [] h (RI fun y h' => y = wF x ill (h 2 5).toNat 0 1 ∧ h = h') := by
  refine ev_iconst 1 dX2_weightOf_0 rfl ?_
  refine ev_istore_n 2 dX2_weightOf_1 rfl (Nat.le_of_ble_eq_true rfl) ?_
  refine ev_iconst 3 dX2_weightOf_2 rfl ?_
  refine ev_istore 5 dX2_weightOf_3 rfl (Nat.le_of_ble_eq_true rfl) ?_
  exact c_weight_loop hn hi (h 2 5).toNat 0 1 (by omega) (by omega) rfl
theorem c_allIn_loop (hn : 0 ≤ h 2 5 ∧ h 2 5 ≤ 5) : ∀ (k : Nat) (e : Int), 0 ≤ e → e + k = h 2 5 → Ev shC mX2_allIn 4 [some (vr 9), some (vi (pw 10 e.toNat)), some (vi e)] [] h (RI fun y h' => y = pw 10 (h 2 5).toNat ∧ h = h') := by
  intro k
  induction k with
  | zero =>
    intro e h0 h1
    have he : e = h 2 5 := by omega
    subst he
    refine ev_iload_n 5 dX2_allIn_4 rfl rfl ?_
    refine ev_aload_n 6 dX2_allIn_5 rfl rfl ?_
    refine ev_getR 9 fX2_12 rfl dX2_allIn_6 rfl rfl rfl ?_
    refine ev_getI 12 5 fX2_49 rfl dX2_allIn_9 rfl rfl rfl (by decide) rfl ?_
    refine ev_icmp_ge 15 26 dX2_allIn_12 rfl rfl (by omega) (by omega) (fun c12 => ?_) (fun c12 => ?_)
    · refine ev_iload_n 27 dX2_allIn_26 rfl rfl ?_
      exact ev_iret rfl dX2_allIn_27 (⟨rfl, rfl⟩)
    · omega --done
  | succ k ih =>
    intro e h0 h1
    have K2 := ih (e + 1) (by omega) (by omega)
    rw [show (e + 1).toNat = e.toNat + 1 by omega] at K2
    refine ev_iload_n 5 dX2_allIn_4 rfl rfl ?_
    refine ev_aload_n 6 dX2_allIn_5 rfl rfl ?_
    refine ev_getR 9 fX2_12 rfl dX2_allIn_6 rfl rfl rfl ?_
    refine ev_getI 12 5 fX2_49 rfl dX2_allIn_9 rfl rfl rfl (by decide) rfl ?_
    refine ev_icmp_ge 15 26 dX2_allIn_12 rfl rfl (by omega) (by omega) (fun c12 => ?_) (fun c12 => ?_)
    · omega --done
    · refine ev_iload_n 16 dX2_allIn_15 rfl rfl ?_
      refine ev_bipush 18 dX2_allIn_16 rfl (by decide +kernel) ?_
      refine ev_imul 19 dX2_allIn_18 rfl ?_
      refine ev_istore_n 20 dX2_allIn_19 rfl (Nat.le_of_ble_eq_true rfl) ?_
      refine ev_iinc 23 dX2_allIn_20 rfl rfl ?_
      refine ev_goto 4 dX2_allIn_23 rfl ?_
      exact K2
theorem c_allIn (hn : 0 ≤ h 2 5 ∧ h 2 5 ≤ 5) : Ev shC mX2_allIn 0 [some (vr 9), none, none] [] h (RI fun y h' => y = pw 10 (h 2 5).toNat ∧ h = h') := by
  refine ev_iconst 1 dX2_allIn_0 rfl ?_
  refine ev_istore_n 2 dX2_allIn_1 rfl (Nat.le_of_ble_eq_true rfl) ?_
  refine ev_iconst 3 dX2_allIn_2 rfl ?_
  refine ev_istore_n 4 dX2_allIn_3 rfl (Nat.le_of_ble_eq_true rfl) ?_
  exact c_allIn_loop hn (h 2 5).toNat 0 (by omega) (by omega)
theorem c_winsIn_loop (hW : CW h) (hw : WY h 21) {c x : Int} (hc : 0 ≤ c ∧ c < h 2 5) (hx : 0 ≤ x ∧ x ≤ 10) : ∀ (k : Nat) (i : Nat) (H : Hp) (o5 : Option AV), i + k = 2 ^ (h 2 5).toNat → PsC h H → Ev shC mX2_winsIn 5 [some (vr 9), some (vi c), some (vi x), some (vi (oddF (h 2 5) (winK h 21) c x i)), some (vi (i : Int)), o5] [] H (RI fun y h' => y = oddF (h 2 5) (winK h 21) c x (2 ^ (h 2 5).toNat) ∧ PsC h h') := by
  have hn : 0 < h 2 5 ∧ h 2 5 ≤ 5 := ⟨hW.1.1, hW.1.2.1⟩
  have hp2 : (1 : Int) * 2 ^ (h 2 5).toNat = ((2 ^ (h 2 5).toNat : Nat) : Int) := by rw [Int.one_mul, Int.natCast_pow]; rfl
  have hpb : (2 ^ (h 2 5).toNat : Nat) ≤ 32 := by
    have : h 2 5 = 1 ∨ h 2 5 = 2 ∨ h 2 5 = 3 ∨ h 2 5 = 4 ∨ h 2 5 = 5 := by omega
    rcases this with e | e | e | e | e <;> rw [e] <;> decide
  intro k
  induction k with
  | zero =>
    intro i H o5 h1 p
    have hi : i = 2 ^ (h 2 5).toNat := by omega
    have e2 : H 2 = h 2 := p.1 2 rfl
    have a15 : (0 : Int) ≤ h 2 5 ∧ h 2 5 < 31 := by omega
    refine ev_iload 7 dX2_winsIn_5 rfl rfl ?_
    refine ev_iconst 8 dX2_winsIn_7 rfl ?_
    refine ev_aload_n 9 dX2_winsIn_8 rfl rfl ?_
    refine ev_getR 12 fX2_12 rfl dX2_winsIn_9 rfl rfl rfl ?_
    refine ev_getI' 15 5 (h 2 5) fX2_49 rfl dX2_winsIn_12 rfl rfl rfl (by decide) rfl (by rw [e2]) ?_
    refine ev_ishl 16 dX2_winsIn_15 rfl (by omega) (by omega) (by rw [hp2]; omega) ?_
    rw [hp2]
    refine ev_icmp_ge 19 61 dX2_winsIn_16 rfl rfl (by omega) (by omega) (fun c16 => ?_) (fun c16 => ?_)
    · refine ev_iload_n 62 dX2_winsIn_61 rfl rfl ?_
      exact ev_iret rfl dX2_winsIn_62 (⟨by rw [hi], p⟩)
    · omega --done
  | succ k ih =>
    intro i H o5 h1 p
    have e2 : H 2 = h 2 := p.1 2 rfl
    have hwb := wF_b (ill := i) (n := h 2 5) hx ⟨by omega, hn.2⟩
    refine ev_iload 7 dX2_winsIn_5 rfl rfl ?_
    refine ev_iconst 8 dX2_winsIn_7 rfl ?_
    refine ev_aload_n 9 dX2_winsIn_8 rfl rfl ?_
    refine ev_getR 12 fX2_12 rfl dX2_winsIn_9 rfl rfl rfl ?_
    refine ev_getI' 15 5 (h 2 5) fX2_49 rfl dX2_winsIn_12 rfl rfl rfl (by decide) rfl (by rw [e2]) ?_
    refine ev_ishl 16 dX2_winsIn_15 rfl (by omega) (by omega) (by rw [hp2]; omega) ?_
    rw [hp2]
    refine ev_icmp_ge 19 61 dX2_winsIn_16 rfl rfl (by omega) (by omega) (fun c16 => ?_) (fun c16 => ?_)
    · omega --done
    · refine ev_aload_n 20 dX2_winsIn_19 rfl rfl ?_
      refine ev_iload 22 dX2_winsIn_20 rfl rfl ?_
      refine ev_iload_n 23 dX2_winsIn_22 rfl rfl ?_
      refine cVi2 26 kX2_winsIn_103 dX2_winsIn_23 rfl rfl rfl rfl rfl (by decide) rfl (Nat.le_of_ble_eq_true rfl) (c_weightOf (h := H) (by rw [e2]; omega) (by omega)) ?_
      rintro y _ ⟨e23, rfl⟩
      rw [e2] at e23
      rw [e23]
      refine ev_istore 28 dX2_winsIn_26 rfl (Nat.le_of_ble_eq_true rfl) ?_
      refine ev_iload 30 dX2_winsIn_28 rfl rfl ?_
      refine ev_if_le 33 55 dX2_winsIn_30 rfl rfl (by omega) (fun c30 => ?_) (fun c30 => ?_)
      · have K := ih (i + 1) H (some (vi (wF x i (h 2 5).toNat 0 1))) (by omega) p
        rw [oddF_s, show wF x i (h 2 5).toNat 0 1 = 0 by omega, ite_self, Int.add_zero] at K
        rw [show wF x i (h 2 5).toNat 0 1 = 0 by omega]
        refine ev_iinc 58 dX2_winsIn_55 rfl rfl ?_
        refine ev_goto 5 dX2_winsIn_58 rfl ?_
        exact K
      · refine ev_aload_n 34 dX2_winsIn_33 rfl rfl ?_
        refine ev_aload_n 35 dX2_winsIn_34 rfl rfl ?_
        refine ev_getR 38 fX2_21 rfl dX2_winsIn_35 rfl rfl rfl ?_
        refine ev_getR 41 fX2_42 rfl dX2_winsIn_38 rfl rfl rfl ?_
        refine ev_iload 43 dX2_winsIn_41 rfl rfl ?_
        refine cVi2 46 kX2_winsIn_45 dX2_winsIn_43 rfl rfl rfl rfl rfl (by decide) rfl (Nat.le_of_ble_eq_true rfl) (c_winnerBy (a := 21) rfl (by decide) (p.W hW) (WY_P p rfl hw) (by omega)) ?_
        rintro y H2 ⟨e43, p2, -⟩
        rw [winK_P p rfl] at e43
        rw [e43]
        have hr := winK_r hW hw (i : Int)
        have K := ih (i + 1) H2 (some (vi (wF x i (h 2 5).toNat 0 1))) (by omega) (p.tr p2)
        rw [oddF_s] at K
        refine ev_iload_n 47 dX2_winsIn_46 rfl rfl ?_
        refine ev_icmp_ne 50 55 dX2_winsIn_47 rfl rfl (by omega) (by omega) (fun c47 => ?_) (fun c47 => ?_)
        · rw [if_neg c47, Int.add_zero] at K
          refine ev_iinc 58 dX2_winsIn_55 rfl rfl ?_
          refine ev_goto 5 dX2_winsIn_58 rfl ?_
          exact K
        · rw [if_pos c47] at K
          refine ev_iload_n 51 dX2_winsIn_50 rfl rfl ?_
          refine ev_iload 53 dX2_winsIn_51 rfl rfl ?_
          refine ev_iadd 54 dX2_winsIn_53 rfl ?_
          refine ev_istore_n 55 dX2_winsIn_54 rfl (Nat.le_of_ble_eq_true rfl) ?_
          refine ev_iinc 58 dX2_winsIn_55 rfl rfl ?_
          refine ev_goto 5 dX2_winsIn_58 rfl ?_
          exact K
theorem c_winsIn (hW : CW h) (hw : WY h 21) {c x : Int} (hc : 0 ≤ c ∧ c < h 2 5) (hx : 0 ≤ x ∧ x ≤ 10) : Ev shC mX2_winsIn 0 [some (vr 9), some (vi c), some (vi x), none, none, none] [] h (RI fun y h' => y = oddF (h 2 5) (winK h 21) c x (2 ^ (h 2 5).toNat) ∧ PsC h h') := by
  refine ev_iconst 1 dX2_winsIn_0 rfl ?_
  refine ev_istore_n 2 dX2_winsIn_1 rfl (Nat.le_of_ble_eq_true rfl) ?_
  refine ev_iconst 3 dX2_winsIn_2 rfl ?_
  refine ev_istore 5 dX2_winsIn_3 rfl (Nat.le_of_ble_eq_true rfl) ?_
  exact c_winsIn_loop hW hw hc hx (2 ^ (h 2 5).toNat) 0 h none (by omega) PsC.rf
theorem c_gcd_loop {sh : List CS} {a0 b0 : Int} {g : Nat} : ∀ (k : Nat) (a b s : Int) (o5 : Option AV), 0 < a ∧ a < 2147483648 → 0 ≤ b ∧ b ≤ a → a * b < 2 ^ k → 0 ≤ s → s + k < 100 → Nat.gcd a.toNat b.toNat = g → Ev sh mX8_commonDivisor 7 [some (vi a0), some (vi b0), some (vi a), some (vi b), some (vi s), o5] [] h (RI fun y h' => y = (g : Int) ∧ h = h') := by
  intro k
  induction k with
  | zero =>
    intro a b s o5 ha hb hk h0 hs hg
    have hb0 : b = 0 := by
      by_cases q : b = 0
      · exact q
      · have : 0 < a * b := Int.mul_pos ha.1 (by omega)
        have h3 : a * b < 1 := hk
        omega
    subst hb0
    have hy : a = (g : Int) := by rw [← hg, show (0 : Int).toNat = 0 from rfl, Nat.gcd_zero_right]; omega
    refine ev_iload 9 dX8_commonDivisor_7 rfl rfl ?_
    refine ev_bipush 11 dX8_commonDivisor_9 rfl (by decide +kernel) ?_
    refine ev_icmp_ge 14 34 dX8_commonDivisor_11 rfl rfl (by omega) (by omega) (fun c11 => ?_) (fun c11 => ?_)
    · omega --done
    · refine ev_iload_n 15 dX8_commonDivisor_14 rfl rfl ?_
      refine ev_if_eq 18 34 dX8_commonDivisor_15 rfl rfl (by omega) (fun c15 => ?_) (fun c15 => ?_)
      · refine ev_iload_n 35 dX8_commonDivisor_34 rfl rfl ?_
        exact ev_iret rfl dX8_commonDivisor_35 (⟨hy, rfl⟩)
      · omega --done
  | succ k ih =>
    intro a b s o5 ha hb hk h0 hs hg
    by_cases hb0 : b = 0
    · have hk2 : a * b < 2 ^ k := by rw [hb0, Int.mul_zero]; exact Int.pow_pos (by decide)
      exact ih a b s o5 ha hb hk2 h0 (by omega) hg
    · have hd := q_dr (l := a) (n := b) ⟨by omega, ha.2⟩ (by omega)
      have h2r : 2 * (a % b) ≤ a := by
        have e1 := Int.mul_ediv_add_emod a b
        have e2 : 1 ≤ a / b := by
          have := Int.ediv_le_ediv (c := b) (by omega) hb.2
          rw [Int.ediv_self hb0] at this
          exact this
        have e3 : b * 1 ≤ b * (a / b) := Int.mul_le_mul_of_nonneg_left e2 hb.1
        omega
      have hk2 : b * (a % b) < 2 ^ k := by
        have e1 : b * (2 * (a % b)) ≤ b * a := Int.mul_le_mul_of_nonneg_left h2r hb.1
        rw [Int.mul_comm b a, show b * (2 * (a % b)) = 2 * (b * (a % b)) by rw [← Int.mul_assoc, Int.mul_comm b 2, Int.mul_assoc]] at e1
        rw [Int.pow_succ] at hk
        omega
      have K := ih b (a % b) (s + 1) (some (vi (a % b))) (by omega) (by omega) hk2 (by omega) (by omega) (by rw [← hg, Nat.gcd_comm a.toNat, Nat.gcd_rec b.toNat a.toNat, Nat.gcd_comm b.toNat, show (a % b).toNat = a.toNat % b.toNat by rw [Int.toNat_emod (by omega) hb.1]])
      refine ev_iload 9 dX8_commonDivisor_7 rfl rfl ?_
      refine ev_bipush 11 dX8_commonDivisor_9 rfl (by decide +kernel) ?_
      refine ev_icmp_ge 14 34 dX8_commonDivisor_11 rfl rfl (by omega) (by omega) (fun c11 => ?_) (fun c11 => ?_)
      · omega --done
      · refine ev_iload_n 15 dX8_commonDivisor_14 rfl rfl ?_
        refine ev_if_eq 18 34 dX8_commonDivisor_15 rfl rfl (by omega) (fun c15 => ?_) (fun c15 => ?_)
        · omega --done
        · refine ev_iload_n 19 dX8_commonDivisor_18 rfl rfl ?_
          refine ev_iload_n 20 dX8_commonDivisor_19 rfl rfl ?_
          refine ev_irem 21 dX8_commonDivisor_20 rfl (by omega) (by omega) ?_
          refine ev_istore 23 dX8_commonDivisor_21 rfl (Nat.le_of_ble_eq_true rfl) ?_
          refine ev_iload_n 24 dX8_commonDivisor_23 rfl rfl ?_
          refine ev_istore_n 25 dX8_commonDivisor_24 rfl (Nat.le_of_ble_eq_true rfl) ?_
          refine ev_iload 27 dX8_commonDivisor_25 rfl rfl ?_
          refine ev_istore_n 28 dX8_commonDivisor_27 rfl (Nat.le_of_ble_eq_true rfl) ?_
          refine ev_iinc 31 dX8_commonDivisor_28 rfl rfl ?_
          refine ev_goto 7 dX8_commonDivisor_31 rfl ?_
          exact K
theorem c_commonDivisor {sh : List CS} {a b : Int} (ha : 0 < a ∧ a ≤ 4194304) (hb : 0 ≤ b ∧ b ≤ 4194304) : Ev sh mX8_commonDivisor 0 [some (vi a), some (vi b), none, none, none, none] [] h (RI fun y h' => y = ((Nat.gcd a.toNat b.toNat : Nat) : Int) ∧ h = h') := by
  by_cases hb0 : b = 0
  · have K := c_gcd_loop (sh := sh) (h := h) (a0 := a) (b0 := b) (g := Nat.gcd a.toNat b.toNat) 44 a b 0 none (by omega) (by omega) (by rw [hb0, Int.mul_zero]; decide) (by omega) (by omega) rfl
    refine ev_iload_n 1 dX8_commonDivisor_0 rfl rfl ?_
    refine ev_istore_n 2 dX8_commonDivisor_1 rfl (Nat.le_of_ble_eq_true rfl) ?_
    refine ev_iload_n 3 dX8_commonDivisor_2 rfl rfl ?_
    refine ev_istore_n 4 dX8_commonDivisor_3 rfl (Nat.le_of_ble_eq_true rfl) ?_
    refine ev_iconst 5 dX8_commonDivisor_4 rfl ?_
    refine ev_istore 7 dX8_commonDivisor_5 rfl (Nat.le_of_ble_eq_true rfl) ?_
    exact K
  · have hd := q_dr (l := a) (n := b) ⟨by omega, by omega⟩ (by omega)
    have hk : b * (a % b) < 2 ^ 45 := by
      have e1 : b * (a % b) ≤ b * 4194304 := Int.mul_le_mul_of_nonneg_left (by omega) hb.1
      have e2 : (2 : Int) ^ 45 = 35184372088832 := by decide
      rw [e2]
      omega
    have K := c_gcd_loop (sh := sh) (h := h) (a0 := a) (b0 := b) (g := Nat.gcd a.toNat b.toNat) 45 b (a % b) (0 + 1) (some (vi (a % b))) (by omega) (by omega) hk (by omega) (by omega) (by rw [Nat.gcd_comm a.toNat, Nat.gcd_rec b.toNat a.toNat, Nat.gcd_comm b.toNat, show (a % b).toNat = a.toNat % b.toNat by rw [Int.toNat_emod (by omega) hb.1]])
    refine ev_iload_n 1 dX8_commonDivisor_0 rfl rfl ?_
    refine ev_istore_n 2 dX8_commonDivisor_1 rfl (Nat.le_of_ble_eq_true rfl) ?_
    refine ev_iload_n 3 dX8_commonDivisor_2 rfl rfl ?_
    refine ev_istore_n 4 dX8_commonDivisor_3 rfl (Nat.le_of_ble_eq_true rfl) ?_
    refine ev_iconst 5 dX8_commonDivisor_4 rfl ?_
    refine ev_istore 7 dX8_commonDivisor_5 rfl (Nat.le_of_ble_eq_true rfl) ?_
    refine ev_iload 9 dX8_commonDivisor_7 rfl rfl ?_
    refine ev_bipush 11 dX8_commonDivisor_9 rfl (by decide +kernel) ?_
    refine ev_icmp_ge 14 34 dX8_commonDivisor_11 rfl rfl (by omega) (by omega) (fun c11 => ?_) (fun c11 => ?_)
    · omega --done
    · refine ev_iload_n 15 dX8_commonDivisor_14 rfl rfl ?_
      refine ev_if_eq 18 34 dX8_commonDivisor_15 rfl rfl (by omega) (fun c15 => ?_) (fun c15 => ?_)
      · omega --done
      · refine ev_iload_n 19 dX8_commonDivisor_18 rfl rfl ?_
        refine ev_iload_n 20 dX8_commonDivisor_19 rfl rfl ?_
        refine ev_irem 21 dX8_commonDivisor_20 rfl (by omega) (by omega) ?_
        refine ev_istore 23 dX8_commonDivisor_21 rfl (Nat.le_of_ble_eq_true rfl) ?_
        refine ev_iload_n 24 dX8_commonDivisor_23 rfl rfl ?_
        refine ev_istore_n 25 dX8_commonDivisor_24 rfl (Nat.le_of_ble_eq_true rfl) ?_
        refine ev_iload 27 dX8_commonDivisor_25 rfl rfl ?_
        refine ev_istore_n 28 dX8_commonDivisor_27 rfl (Nat.le_of_ble_eq_true rfl) ?_
        skip
        refine ev_iinc 31 dX8_commonDivisor_28 rfl rfl ?_
        refine ev_goto 7 dX8_commonDivisor_31 rfl ?_
        exact K
        skip
end OC
