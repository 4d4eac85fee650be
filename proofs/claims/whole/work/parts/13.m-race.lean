/-! the model's races over the machine -/
def b2i (b : Bool) : Int := cond b 1 0
theorem b2i_r (b : Bool) : R32 (b2i b) := by cases b <;> exact ⟨by decide, by decide⟩
theorem b2i_0 {b : Bool} : b2i b = 0 ↔ b = false := by cases b <;> decide
theorem b2i_1 {b : Bool} : b2i b = 1 ↔ b = true := by cases b <;> decide
theorem b2i_n {b : Bool} : ¬ b2i b = 0 ↔ b = true := by cases b <;> decide
theorem b2i_z (b : Bool) : b2i b = 0 ∨ b2i b = 1 := by cases b <;> decide
theorem anyB_1 {p : Int → Bool} {e : Int} (h : 0 ≤ e) : anyB p (e + 1).toNat = (anyB p e.toNat || p e) := by
  have : (e + 1).toNat = e.toNat + 1 := by omega
  rw [this]
  show (anyB p e.toNat || p (e.toNat : Int)) = _
  rw [Int.toNat_of_nonneg h]
def bit (a k : Int) : Int := a / 2 ^ k.toNat % 2
theorem bit_z (a k : Int) : bit a k = 0 ∨ bit a k = 1 := by unfold bit; omega
def gainZ (str w b : Int) : Int := (if 2 * str - w < 1 then 1 else 2 * str - w) + (if b = 0 then 0 else 3)
def NW (n : Int) (s : Int → Int) : Prop := (∀ c, 0 ≤ c → c < n → 0 ≤ s c ∧ s c < n ∧ 0 ≤ s (5 + c) ∧ s (5 + c) ≤ 5) ∧ 0 ≤ s 10 ∧ s 10 < 32
/-- a model whose numbers are in order, with a race; s: who pushes whom .. -/
def MCh (h : Hp) : Prop := ∀ c, 0 ≤ c → c < h 0 2 → 1 ≤ h 3 c ∧ h 3 c ≤ 9 ∧ 1 ≤ h 2 (2 * c) ∧ h 2 (2 * c) ≤ 9
def MW (h : Hp) : Prop := CP (h 1) (h 0 0) (h 0 2) ∧ MCh h
def mGain (h : Hp) (ill c : Int) : Int := gainZ (if bit ill (h 13 c) = 0 then h 3 (h 13 c) else 1) (h 2 (2 * c)) (bit (h 13 10) c)
theorem gainZ_r {str w b : Int} (h1 : 1 ≤ str ∧ str ≤ 9) (h2 : 1 ≤ w ∧ w ≤ 9) : 1 ≤ gainZ str w b ∧ gainZ str w b ≤ 20 := by
  unfold gainZ
  split <;> split <;> omega
theorem mGain_r {h : Hp} (hW : MW h) (hN : NW (h 0 2) (h 13)) (ill : Int) {c : Int} (hc : 0 ≤ c ∧ c < h 0 2) : 1 ≤ mGain h ill c ∧ mGain h ill c ≤ 20 := by
  have h1 := hN.1 c hc.1 hc.2
  have h2 := hW.2 (h 13 c) h1.1 h1.2.1
  have h3 := hW.2 c hc.1 hc.2
  unfold mGain
  refine gainZ_r ?_ ⟨h3.2.2.1, h3.2.2.2⟩
  split <;> omega
theorem m_gainOf {h : Hp} (hn : h 0 2 ≤ 5) (hW : MCh h) (hN : NW (h 0 2) (h 13)) {ill c : Int} (hi : 0 ≤ ill ∧ ill < 32) (hc : 0 ≤ c ∧ c < h 0 2) : Ev shM mX9_gainOf 0 [some (vr 0), some (vi c), some (vi ill), none, none] [] h (RI fun x h' => x = mGain h ill c ∧ h = h') := by
  have h1 := hN.1 c hc.1 hc.2
  have h2 := hW (h 13 c) h1.1 h1.2.1
  have h3 := hW c hc.1 hc.2
  have h4 := hN.2
  have hz := bit_z ill (h 13 c)
  have hz2 := bit_z (h 13 10) c
  unfold mGain gainZ
  refine ev_aload_n 1 dX9_gainOf_0 rfl rfl ?_
  refine ev_getR 4 fX9_47 rfl dX9_gainOf_1 rfl rfl rfl ?_
  refine ev_iconst 5 dX9_gainOf_4 rfl ?_
  refine ev_iload_n 6 dX9_gainOf_5 rfl rfl ?_
  refine ev_iadd 7 dX9_gainOf_6 rfl ?_
  refine ev_iald' 8 (h 13 c) dX9_gainOf_7 rfl rfl (by decide) (by omega) (by rw [Int.zero_add]) ?_
  refine ev_istore_n 9 dX9_gainOf_8 rfl (Nat.le_of_ble_eq_true rfl) ?_
  refine ev_iconst 10 dX9_gainOf_9 rfl ?_
  refine ev_iload_n 11 dX9_gainOf_10 rfl rfl ?_
  refine ev_iload_n 12 dX9_gainOf_11 rfl rfl ?_
  refine cSi2 15 kX9_gainOf_158 dX9_gainOf_12 rfl rfl (by decide) rfl (Nat.le_of_ble_eq_true rfl) (m_has (by omega) (by omega)) ?_
  rintro x _ ⟨e12, rfl⟩
  rw [show x = bit ill (h 13 c) from e12]
  refine ev_if_eq 18 22 dX9_gainOf_15 rfl rfl (by omega) (fun c15 => ?_) (fun c15 => ?_)
  · rw [if_pos c15]
    refine ev_aload_n 23 dX9_gainOf_22 rfl rfl ?_
    refine ev_getR 26 fX9_16 rfl dX9_gainOf_23 rfl rfl rfl ?_
    refine ev_iload_n 27 dX9_gainOf_26 rfl rfl ?_
    refine ev_iald 28 dX9_gainOf_27 rfl rfl (by decide) (by omega) ?_
    refine ev_imul 29 dX9_gainOf_28 rfl ?_
    refine ev_aload_n 30 dX9_gainOf_29 rfl rfl ?_
    refine ev_getR 33 fX9_13 rfl dX9_gainOf_30 rfl rfl rfl ?_
    refine ev_iconst 34 dX9_gainOf_33 rfl ?_
    refine ev_iload_n 35 dX9_gainOf_34 rfl rfl ?_
    refine ev_imul 36 dX9_gainOf_35 rfl ?_
    refine ev_iald 37 dX9_gainOf_36 rfl rfl (by decide) (by omega) ?_
    refine ev_isub 38 dX9_gainOf_37 rfl ?_
    refine ev_istore 40 dX9_gainOf_38 rfl (Nat.le_of_ble_eq_true rfl) ?_
    refine ev_iload 42 dX9_gainOf_40 rfl rfl ?_
    refine ev_iconst 43 dX9_gainOf_42 rfl ?_
    refine ev_icmp_ge 46 50 dX9_gainOf_43 rfl rfl (by omega) (by omega) (fun c43 => ?_) (fun c43 => ?_)
    · rw [if_neg (by omega)]
      refine ev_iload 52 dX9_gainOf_50 rfl rfl ?_
      refine ev_aload_n 53 dX9_gainOf_52 rfl rfl ?_
      refine ev_getR 56 fX9_47 rfl dX9_gainOf_53 rfl rfl rfl ?_
      refine ev_bipush 58 dX9_gainOf_56 rfl (by decide +kernel) ?_
      refine ev_iald 59 dX9_gainOf_58 rfl rfl (by decide) (by omega) ?_
      refine ev_iload_n 60 dX9_gainOf_59 rfl rfl ?_
      refine cSi2 63 kX9_gainOf_158 dX9_gainOf_60 rfl rfl (by decide) rfl (Nat.le_of_ble_eq_true rfl) (m_has (by omega) (by omega)) ?_
      rintro x _ ⟨e60, rfl⟩
      rw [show x = bit (h 13 10) c from e60]
      refine ev_if_eq 66 70 dX9_gainOf_63 rfl rfl (by omega) (fun c63 => ?_) (fun c63 => ?_)
      · rw [if_pos c63]
        refine ev_iconst 71 dX9_gainOf_70 rfl ?_
        refine ev_iadd 72 dX9_gainOf_71 rfl ?_
        exact ev_iret rfl dX9_gainOf_72 (⟨rfl, rfl⟩)
      · rw [if_neg c63]
        refine ev_iconst 67 dX9_gainOf_66 rfl ?_
        refine ev_goto 71 dX9_gainOf_67 rfl ?_
        refine ev_iadd 72 dX9_gainOf_71 rfl ?_
        exact ev_iret rfl dX9_gainOf_72 (⟨rfl, rfl⟩)
    · rw [if_pos (by omega)]
      refine ev_iconst 47 dX9_gainOf_46 rfl ?_
      refine ev_goto 52 dX9_gainOf_47 rfl ?_
      refine ev_aload_n 53 dX9_gainOf_52 rfl rfl ?_
      refine ev_getR 56 fX9_47 rfl dX9_gainOf_53 rfl rfl rfl ?_
      refine ev_bipush 58 dX9_gainOf_56 rfl (by decide +kernel) ?_
      refine ev_iald 59 dX9_gainOf_58 rfl rfl (by decide) (by omega) ?_
      refine ev_iload_n 60 dX9_gainOf_59 rfl rfl ?_
      refine cSi2 63 kX9_gainOf_158 dX9_gainOf_60 rfl rfl (by decide) rfl (Nat.le_of_ble_eq_true rfl) (m_has (by omega) (by omega)) ?_
      rintro x _ ⟨e60, rfl⟩
      rw [show x = bit (h 13 10) c from e60]
      refine ev_if_eq 66 70 dX9_gainOf_63 rfl rfl (by omega) (fun c63 => ?_) (fun c63 => ?_)
      · rw [if_pos c63]
        refine ev_iconst 71 dX9_gainOf_70 rfl ?_
        refine ev_iadd 72 dX9_gainOf_71 rfl ?_
        exact ev_iret rfl dX9_gainOf_72 (⟨rfl, rfl⟩)
      · rw [if_neg c63]
        refine ev_iconst 67 dX9_gainOf_66 rfl ?_
        refine ev_goto 71 dX9_gainOf_67 rfl ?_
        refine ev_iadd 72 dX9_gainOf_71 rfl ?_
        exact ev_iret rfl dX9_gainOf_72 (⟨rfl, rfl⟩)
  · rw [if_neg c15]
    refine ev_iconst 19 dX9_gainOf_18 rfl ?_
    refine ev_goto 28 dX9_gainOf_19 rfl ?_
    refine ev_imul 29 dX9_gainOf_28 rfl ?_
    refine ev_aload_n 30 dX9_gainOf_29 rfl rfl ?_
    refine ev_getR 33 fX9_13 rfl dX9_gainOf_30 rfl rfl rfl ?_
    refine ev_iconst 34 dX9_gainOf_33 rfl ?_
    refine ev_iload_n 35 dX9_gainOf_34 rfl rfl ?_
    refine ev_imul 36 dX9_gainOf_35 rfl ?_
    refine ev_iald 37 dX9_gainOf_36 rfl rfl (by decide) (by omega) ?_
    refine ev_isub 38 dX9_gainOf_37 rfl ?_
    refine ev_istore 40 dX9_gainOf_38 rfl (Nat.le_of_ble_eq_true rfl) ?_
    refine ev_iload 42 dX9_gainOf_40 rfl rfl ?_
    refine ev_iconst 43 dX9_gainOf_42 rfl ?_
    refine ev_icmp_ge 46 50 dX9_gainOf_43 rfl rfl (by omega) (by omega) (fun c43 => ?_) (fun c43 => ?_)
    · rw [if_neg (by omega)]
      refine ev_iload 52 dX9_gainOf_50 rfl rfl ?_
      refine ev_aload_n 53 dX9_gainOf_52 rfl rfl ?_
      refine ev_getR 56 fX9_47 rfl dX9_gainOf_53 rfl rfl rfl ?_
      refine ev_bipush 58 dX9_gainOf_56 rfl (by decide +kernel) ?_
      refine ev_iald 59 dX9_gainOf_58 rfl rfl (by decide) (by omega) ?_
      refine ev_iload_n 60 dX9_gainOf_59 rfl rfl ?_
      refine cSi2 63 kX9_gainOf_158 dX9_gainOf_60 rfl rfl (by decide) rfl (Nat.le_of_ble_eq_true rfl) (m_has (by omega) (by omega)) ?_
      rintro x _ ⟨e60, rfl⟩
      rw [show x = bit (h 13 10) c from e60]
      refine ev_if_eq 66 70 dX9_gainOf_63 rfl rfl (by omega) (fun c63 => ?_) (fun c63 => ?_)
      · rw [if_pos c63]
        refine ev_iconst 71 dX9_gainOf_70 rfl ?_
        refine ev_iadd 72 dX9_gainOf_71 rfl ?_
        exact ev_iret rfl dX9_gainOf_72 (⟨rfl, rfl⟩)
      · rw [if_neg c63]
        refine ev_iconst 67 dX9_gainOf_66 rfl ?_
        refine ev_goto 71 dX9_gainOf_67 rfl ?_
        refine ev_iadd 72 dX9_gainOf_71 rfl ?_
        exact ev_iret rfl dX9_gainOf_72 (⟨rfl, rfl⟩)
    · rw [if_pos (by omega)]
      refine ev_iconst 47 dX9_gainOf_46 rfl ?_
      refine ev_goto 52 dX9_gainOf_47 rfl ?_
      refine ev_aload_n 53 dX9_gainOf_52 rfl rfl ?_
      refine ev_getR 56 fX9_47 rfl dX9_gainOf_53 rfl rfl rfl ?_
      refine ev_bipush 58 dX9_gainOf_56 rfl (by decide +kernel) ?_
      refine ev_iald 59 dX9_gainOf_58 rfl rfl (by decide) (by omega) ?_
      refine ev_iload_n 60 dX9_gainOf_59 rfl rfl ?_
      refine cSi2 63 kX9_gainOf_158 dX9_gainOf_60 rfl rfl (by decide) rfl (Nat.le_of_ble_eq_true rfl) (m_has (by omega) (by omega)) ?_
      rintro x _ ⟨e60, rfl⟩
      rw [show x = bit (h 13 10) c from e60]
      refine ev_if_eq 66 70 dX9_gainOf_63 rfl rfl (by omega) (fun c63 => ?_) (fun c63 => ?_)
      · rw [if_pos c63]
        refine ev_iconst 71 dX9_gainOf_70 rfl ?_
        refine ev_iadd 72 dX9_gainOf_71 rfl ?_
        exact ev_iret rfl dX9_gainOf_72 (⟨rfl, rfl⟩)
      · rw [if_neg c63]
        refine ev_iconst 67 dX9_gainOf_66 rfl ?_
        refine ev_goto 71 dX9_gainOf_67 rfl ?_
        refine ev_iadd 72 dX9_gainOf_71 rfl ?_
        exact ev_iret rfl dX9_gainOf_72 (⟨rfl, rfl⟩)
def hR (h : Hp) (ic pts tm plc : Int → Int) (many : Int) : Hp := hq h [(0, up (h 0) 31 many), (14, ic), (15, pts), (16, tm), (17, plc)]
def tkB (ic tm : Int → Int) (c to : Int) : Int → Bool := fun e => decide (e ≠ c) && (decide (tm e = 0) && decide (ic e = to))
theorem m_isTaken_loop {h : Hp} {to c : Int} (hn : 0 ≤ h 0 2 ∧ h 0 2 ≤ 5) (hto : R32 to) (hc : R32 c) (ht : ∀ e, 0 ≤ e → e < h 0 2 → R32 (h 16 e)) (hi : ∀ e, 0 ≤ e → e < h 0 2 → R32 (h 14 e)) : ∀ (k : Nat) (e : Int), 0 ≤ e → e + k = h 0 2 → Ev shM mX9_isTaken 5 [some (vr 0), some (vi to), some (vi c), some (vi (b2i (anyB (tkB (h 14) (h 16) c to) e.toNat))), some (vi e)] [] h (RI fun x h' => x = b2i (anyB (tkB (h 14) (h 16) c to) (h 0 2).toNat) ∧ h = h') := by
  intro k
  induction k with
  | zero =>
    intro e h0 h1
    have he : e = h 0 2 := by omega
    subst he
    refine ev_iload 7 dX9_isTaken_5 rfl rfl ?_
    refine ev_aload_n 8 dX9_isTaken_7 rfl rfl ?_
    refine ev_getI 11 2 fX9_74 rfl dX9_isTaken_8 rfl rfl rfl (by decide) rfl ?_
    refine ev_icmp_ge 14 57 dX9_isTaken_11 rfl rfl (by omega) (by omega) (fun c11 => ?_) (fun c11 => ?_)
    · refine ev_iload_n 58 dX9_isTaken_57 rfl rfl ?_
      exact ev_zret rfl dX9_isTaken_58 (b2i_z _) (⟨rfl, rfl⟩)
    · omega --done
  | succ k ih =>
    intro e h0 h1
    have h16 := ht e h0 (by omega)
    have h14 := hi e h0 (by omega)
    refine ev_iload 7 dX9_isTaken_5 rfl rfl ?_
    refine ev_aload_n 8 dX9_isTaken_7 rfl rfl ?_
    refine ev_getI 11 2 fX9_74 rfl dX9_isTaken_8 rfl rfl rfl (by decide) rfl ?_
    refine ev_icmp_ge 14 57 dX9_isTaken_11 rfl rfl (by omega) (by omega) (fun c11 => ?_) (fun c11 => ?_)
    · omega --done
    · refine ev_iload_n 15 dX9_isTaken_14 rfl rfl ?_
      refine ev_if_ne 18 45 dX9_isTaken_15 rfl rfl (b2i_r _) (fun c15 => ?_) (fun c15 => ?_)
      · have hb : b2i (anyB (tkB (h 14) (h 16) c to) (e + 1).toNat) = 1 := by
          rw [b2i_1, anyB_1 h0, Bool.or_eq_true]
          first | exact Or.inl (b2i_n.mp c15) | exact Or.inr (by unfold tkB; simp [c21, c31, c42])
        have K := ih (e + 1) (by omega) (by omega)
        rw [hb] at K
        refine ev_iconst 46 dX9_isTaken_45 rfl ?_
        refine ev_goto 50 dX9_isTaken_46 rfl ?_
        refine ev_istore_n 51 dX9_isTaken_50 rfl (Nat.le_of_ble_eq_true rfl) ?_
        refine ev_iinc 54 dX9_isTaken_51 rfl rfl ?_
        refine ev_goto 5 dX9_isTaken_54 rfl ?_
        exact K
      · refine ev_iload 20 dX9_isTaken_18 rfl rfl ?_
        refine ev_iload_n 21 dX9_isTaken_20 rfl rfl ?_
        refine ev_icmp_eq 24 49 dX9_isTaken_21 rfl rfl (by omega) (by omega) (fun c21 => ?_) (fun c21 => ?_)
        · have hb : b2i (anyB (tkB (h 14) (h 16) c to) (e + 1).toNat) = 0 := by
            rw [b2i_0, anyB_1 h0, Bool.or_eq_false_iff]
            refine ⟨b2i_0.mp c15, ?_⟩
            unfold tkB
            first | (simp [c21]; done) | (simp [c31]; done) | (simp [c42]; done)
          have K := ih (e + 1) (by omega) (by omega)
          rw [hb] at K
          refine ev_iconst 50 dX9_isTaken_49 rfl ?_
          refine ev_istore_n 51 dX9_isTaken_50 rfl (Nat.le_of_ble_eq_true rfl) ?_
          refine ev_iinc 54 dX9_isTaken_51 rfl rfl ?_
          refine ev_goto 5 dX9_isTaken_54 rfl ?_
          exact K
        · refine ev_aload_n 25 dX9_isTaken_24 rfl rfl ?_
          refine ev_getR 28 fX9_56 rfl dX9_isTaken_25 rfl rfl rfl ?_
          refine ev_iload 30 dX9_isTaken_28 rfl rfl ?_
          refine ev_iald 31 dX9_isTaken_30 rfl rfl (by decide) (by omega) ?_
          refine ev_if_ne 34 49 dX9_isTaken_31 rfl rfl (by omega) (fun c31 => ?_) (fun c31 => ?_)
          · have hb : b2i (anyB (tkB (h 14) (h 16) c to) (e + 1).toNat) = 0 := by
              rw [b2i_0, anyB_1 h0, Bool.or_eq_false_iff]
              refine ⟨b2i_0.mp c15, ?_⟩
              unfold tkB
              first | (simp [c21]; done) | (simp [c31]; done) | (simp [c42]; done)
            have K := ih (e + 1) (by omega) (by omega)
            rw [hb] at K
            refine ev_iconst 50 dX9_isTaken_49 rfl ?_
            refine ev_istore_n 51 dX9_isTaken_50 rfl (Nat.le_of_ble_eq_true rfl) ?_
            refine ev_iinc 54 dX9_isTaken_51 rfl rfl ?_
            refine ev_goto 5 dX9_isTaken_54 rfl ?_
            exact K
          · refine ev_aload_n 35 dX9_isTaken_34 rfl rfl ?_
            refine ev_getR 38 fX9_50 rfl dX9_isTaken_35 rfl rfl rfl ?_
            refine ev_iload 40 dX9_isTaken_38 rfl rfl ?_
            refine ev_iald 41 dX9_isTaken_40 rfl rfl (by decide) (by omega) ?_
            refine ev_iload_n 42 dX9_isTaken_41 rfl rfl ?_
            refine ev_icmp_ne 45 49 dX9_isTaken_42 rfl rfl (by omega) (by omega) (fun c42 => ?_) (fun c42 => ?_)
            · have hb : b2i (anyB (tkB (h 14) (h 16) c to) (e + 1).toNat) = 0 := by
                rw [b2i_0, anyB_1 h0, Bool.or_eq_false_iff]
                refine ⟨b2i_0.mp c15, ?_⟩
                unfold tkB
                first | (simp [c21]; done) | (simp [c31]; done) | (simp [c42]; done)
              have K := ih (e + 1) (by omega) (by omega)
              rw [hb] at K
              refine ev_iconst 50 dX9_isTaken_49 rfl ?_
              refine ev_istore_n 51 dX9_isTaken_50 rfl (Nat.le_of_ble_eq_true rfl) ?_
              refine ev_iinc 54 dX9_isTaken_51 rfl rfl ?_
              refine ev_goto 5 dX9_isTaken_54 rfl ?_
              exact K
            · have hb : b2i (anyB (tkB (h 14) (h 16) c to) (e + 1).toNat) = 1 := by
                rw [b2i_1, anyB_1 h0, Bool.or_eq_true]
                first | exact Or.inl (b2i_n.mp c15) | exact Or.inr (by unfold tkB; simp [c21, c31, c42])
              have K := ih (e + 1) (by omega) (by omega)
              rw [hb] at K
              refine ev_iconst 46 dX9_isTaken_45 rfl ?_
              refine ev_goto 50 dX9_isTaken_46 rfl ?_
              refine ev_istore_n 51 dX9_isTaken_50 rfl (Nat.le_of_ble_eq_true rfl) ?_
              refine ev_iinc 54 dX9_isTaken_51 rfl rfl ?_
              refine ev_goto 5 dX9_isTaken_54 rfl ?_
              exact K
theorem m_isTaken {h : Hp} {to c : Int} (hn : 0 ≤ h 0 2 ∧ h 0 2 ≤ 5) (hto : R32 to) (hc : R32 c) (ht : ∀ e, 0 ≤ e → e < h 0 2 → R32 (h 16 e)) (hi : ∀ e, 0 ≤ e → e < h 0 2 → R32 (h 14 e)) : Ev shM mX9_isTaken 0 [some (vr 0), some (vi to), some (vi c), none, none] [] h (RI fun x h' => x = b2i (anyB (tkB (h 14) (h 16) c to) (h 0 2).toNat) ∧ h = h') := by
  refine ev_iconst 1 dX9_isTaken_0 rfl ?_
  refine ev_istore_n 2 dX9_isTaken_1 rfl (Nat.le_of_ble_eq_true rfl) ?_
  refine ev_iconst 3 dX9_isTaken_2 rfl ?_
  refine ev_istore 5 dX9_isTaken_3 rfl (Nat.le_of_ble_eq_true rfl) ?_
  exact m_isTaken_loop hn hto hc ht hi (h 0 2).toNat 0 (by omega) (by omega)
section HR
variable {h : Hp} {ic pts tm plc f : Int → Int} {many v : Int}
theorem hR_14 : hput (hR h ic pts tm plc many) 14 f = hR h f pts tm plc many := hq_put
theorem hR_15 : hput (hR h ic pts tm plc many) 15 f = hR h ic f tm plc many := hq_put
theorem hR_16 : hput (hR h ic pts tm plc many) 16 f = hR h ic pts f plc many := hq_put
theorem hR_17 : hput (hR h ic pts tm plc many) 17 f = hR h ic pts tm f many := hq_put
theorem hR_0 : hput (hR h ic pts tm plc many) 0 (up ((hR h ic pts tm plc many) 0) 31 v) = hR h ic pts tm plc v := by
  refine hq_put.trans ?_
  show hq h [(0, up (up (h 0) 31 many) 31 v), (14, ic), (15, pts), (16, tm), (17, plc)] = _
  rw [up_up]
  rfl
theorem hR_e : hR h (h 14) (h 15) (h 16) (h 17) (h 0 31) = h := by
  refine hq_id (fun p hp => ?_)
  simp only [List.mem_cons, List.not_mem_nil, or_false] at hp
  rcases hp with rfl | rfl | rfl | rfl | rfl
  · exact up_id
  · rfl
  · rfl
  · rfl
  · rfl
end HR
/-- the model's cells of chairs that are not in are the race's -/
def MR (n : Int) (ic : Int → Int) (r : RS) : Prop := ∀ e, 0 ≤ e → e < n → (r.2.2.1 e = 0 → ic e = r.1 e) ∧ 0 ≤ ic e ∧ ic e ≤ 16
theorem blk_tk {cost ic : Int → Int} {cl n c here : Int} {r : RS} (hC : CP cost cl n) (hp : rPre cost cl n r c here) (hM : MR n ic r) (hlt : here + 1 < cl) : blk cost cl n r.1 c (here + 1) = (decide (cost (here + 1) = 6) && anyB (tkB ic r.2.2.1 c (here + 1)) n.toNat) := by
  unfold blk
  rw [decide_eq_true hlt, Bool.true_and]
  congr 1
  refine anyB_congr (fun e a b => ?_)
  unfold tkB
  by_cases q : e = c
  · rw [decide_eq_false (by simpa using q)]; rfl
  · congr 1
    have hk := hp.1 e a (by omega) q
    unfold okC at hk
    by_cases t : r.2.2.1 e = 0
    · rw [decide_eq_true t, Bool.true_and, (hM e a (by omega)).1 t]
    · rw [decide_eq_false t, Bool.false_and]
      exact decide_eq_false (by omega)
theorem m_goes_loop {h : Hp} (hC : CP (h 1) (h 0 0) (h 0 2)) {c m g : Int} (hc : 0 ≤ c ∧ c < h 0 2) (hm : 1 ≤ m ∧ m < 2147483648) : ∀ (k : Nat) (here : Int) (r : RS) (ic : Int → Int) (o : Option AV), h 0 0 - here = ((k + 1 : Nat) : Int) → rPre (h 1) (h 0 0) (h 0 2) r c here → MR (h 0 2) ic r → Ev shM mX9_goes 13 [some (vr 0), some (vi c), some (vi m), some (vi g), some (vi 1), o] [] (hR h ic r.2.1 r.2.2.1 r.2.2.2.1 r.2.2.2.2) (RV fun h' => ∃ ic', MR (h 0 2) ic' (mvF (h 1) (h 0 0) (h 0 2) (k + 1) c m here r) ∧ h' = hR h ic' (mvF (h 1) (h 0 0) (h 0 2) (k + 1) c m here r).2.1 (mvF (h 1) (h 0 0) (h 0 2) (k + 1) c m here r).2.2.1 (mvF (h 1) (h 0 0) (h 0 2) (k + 1) c m here r).2.2.2.1 (mvF (h 1) (h 0 0) (h 0 2) (k + 1) c m here r).2.2.2.2) := by
  intro k
  induction k with
  | zero =>
    intro here r ic o hk hp hM
    have hp0 := hp
    obtain ⟨cell, pts, tm, plc, many⟩ := r
    obtain ⟨h1, h2, h3, h4, h5, h6, h7, h8, h9⟩ := hp
    dsimp only at h1 h2 h3 h4 h5 h6 h7 h8 h9 hM ⊢
    have hic : ic c = here := ((hM c hc.1 hc.2).1 h7).trans h2
    have hcl : h 0 0 = here + 1 := by omega
    have hcs := hC.2.2.2.2 here h3 (by omega)
    have hC1 := hC.2.1
    have hC2 := hC.2.2.2.1
    rw [if_neg (by omega)] at h8
    have hcn := cntB_lt (p := inB (h 0 0) (cell, pts, tm, plc, many)) (k := (h 0 2).toNat) c hc.1 (by omega) (inB_f (by dsimp only; omega))
    have hcr := cntB_rng (inB (h 0 0) (cell, pts, tm, plc, many)) (h 0 2).toNat
    have hb : blk (h 1) (h 0 0) (h 0 2) cell c (here + 1) = false := by
      unfold blk
      rw [decide_eq_false (by omega)]
      rfl
    unfold mvF
    dsimp only
    rw [hb, if_neg (show ¬ (false = true) by decide)]
    refine ev_iload 15 dX9_goes_13 rfl rfl ?_
    refine ev_if_eq 18 186 dX9_goes_15 rfl rfl (by omega) (fun c15 => ?_) (fun c15 => ?_)
    · omega --done
    · refine ev_aload_n 19 dX9_goes_18 rfl rfl ?_
      refine ev_getR 22 fX9_53 rfl dX9_goes_19 rfl rfl rfl ?_
      refine ev_iload_n 23 dX9_goes_22 rfl rfl ?_
      refine ev_iald' 24 (pts c) dX9_goes_23 rfl rfl (by decide) (by omega) rfl ?_
      refine ev_aload_n 25 dX9_goes_24 rfl rfl ?_
      refine ev_getR 28 fX9_7 rfl dX9_goes_25 rfl rfl rfl ?_
      refine ev_aload_n 29 dX9_goes_28 rfl rfl ?_
      refine ev_getR 32 fX9_50 rfl dX9_goes_29 rfl rfl rfl ?_
      refine ev_iload_n 33 dX9_goes_32 rfl rfl ?_
      refine ev_iald' 34 (here) dX9_goes_33 rfl rfl (by decide) (by omega) hic ?_
      refine ev_iald' 35 (h 1 here) dX9_goes_34 rfl rfl (by decide) (by omega) rfl ?_
      refine ev_icmp_lt 38 186 dX9_goes_35 rfl rfl (by omega) (by omega) (fun c35 => ?_) (fun c35 => ?_)
      · rw [if_pos c35]
        exact ev_vret rfl dX9_goes_186 ⟨ic, hM, rfl⟩
      · rw [if_neg c35]
        refine ev_aload_n 39 dX9_goes_38 rfl rfl ?_
        refine ev_getR 42 fX9_50 rfl dX9_goes_39 rfl rfl rfl ?_
        refine ev_iload_n 43 dX9_goes_42 rfl rfl ?_
        refine ev_iald' 44 (here) dX9_goes_43 rfl rfl (by decide) (by omega) hic ?_
        refine ev_iconst 45 dX9_goes_44 rfl ?_
        refine ev_iadd 46 dX9_goes_45 rfl ?_
        refine ev_istore 48 dX9_goes_46 rfl (Nat.le_of_ble_eq_true rfl) ?_
        refine ev_iload 50 dX9_goes_48 rfl rfl ?_
        refine ev_aload_n 51 dX9_goes_50 rfl rfl ?_
        refine ev_getI' 54 0 (h 0 0) fX9_81 rfl dX9_goes_51 rfl rfl rfl (by decide) rfl rfl ?_
        refine ev_icmp_ne 57 110 dX9_goes_54 rfl rfl (by omega) (by omega) (fun c54 => ?_) (fun c54 => ?_)
        · omega --done
        · refine ev_aload_n 58 dX9_goes_57 rfl rfl ?_
          refine ev_getR 61 fX9_53 rfl dX9_goes_58 rfl rfl rfl ?_
          refine ev_iload_n 62 dX9_goes_61 rfl rfl ?_
          refine ev_dup2 63 dX9_goes_62 rfl ?_
          refine ev_iald' 64 (pts c) dX9_goes_63 rfl rfl (by decide) (by omega) rfl ?_
          refine ev_aload_n 65 dX9_goes_64 rfl rfl ?_
          refine ev_getR 68 fX9_7 rfl dX9_goes_65 rfl rfl rfl ?_
          refine ev_aload_n 69 dX9_goes_68 rfl rfl ?_
          refine ev_getR 72 fX9_50 rfl dX9_goes_69 rfl rfl rfl ?_
          refine ev_iload_n 73 dX9_goes_72 rfl rfl ?_
          refine ev_iald' 74 (here) dX9_goes_73 rfl rfl (by decide) (by omega) hic ?_
          refine ev_iald' 75 (h 1 here) dX9_goes_74 rfl rfl (by decide) (by omega) rfl ?_
          refine ev_isub 76 dX9_goes_75 rfl ?_
          refine ev_iast' 77 (hR h ic (up pts c (pts c - h 1 here)) tm plc many) dX9_goes_76 rfl rfl (by decide) (by omega) hR_15 ?_
          refine ev_aload_n 78 dX9_goes_77 rfl rfl ?_
          refine ev_getR 81 fX9_56 rfl dX9_goes_78 rfl rfl rfl ?_
          refine ev_iload_n 82 dX9_goes_81 rfl rfl ?_
          refine ev_iload_n 83 dX9_goes_82 rfl rfl ?_
          refine ev_iast' 84 (hR h ic (up pts c (pts c - h 1 here)) (up tm c m) plc many) dX9_goes_83 rfl rfl (by decide) (by omega) hR_16 ?_
          refine ev_aload_n 85 dX9_goes_84 rfl rfl ?_
          refine ev_getR 88 fX9_59 rfl dX9_goes_85 rfl rfl rfl ?_
          refine ev_aload_n 89 dX9_goes_88 rfl rfl ?_
          refine ev_getI' 92 31 (many) fX9_162 rfl dX9_goes_89 rfl rfl rfl (by decide) rfl rfl ?_
          refine ev_iload_n 93 dX9_goes_92 rfl rfl ?_
          refine ev_iast' 94 (hR h ic (up pts c (pts c - h 1 here)) (up tm c m) (up plc many c) many) dX9_goes_93 rfl rfl (by decide) (by omega) hR_17 ?_
          refine ev_aload_n 95 dX9_goes_94 rfl rfl ?_
          refine ev_dup_r 96 dX9_goes_95 rfl ?_
          refine ev_getI' 99 31 (many) fX9_162 rfl dX9_goes_96 rfl rfl rfl (by decide) rfl rfl ?_
          refine ev_iconst 100 dX9_goes_99 rfl ?_
          refine ev_iadd 101 dX9_goes_100 rfl ?_
          refine ev_putI' 104 31 (hR h ic (up pts c (pts c - h 1 here)) (up tm c m) (up plc many c) (many + 1)) pX9_162 rfl dX9_goes_101 rfl rfl rfl rfl hR_0 ?_
          refine ev_iconst 105 dX9_goes_104 rfl ?_
          refine ev_istore 107 dX9_goes_105 rfl (Nat.le_of_ble_eq_true rfl) ?_
          refine ev_goto 183 dX9_goes_107 rfl ?_
          refine ev_goto 13 dX9_goes_183 rfl ?_
          refine ev_iload 15 dX9_goes_13 rfl rfl ?_
          refine ev_if_eq 18 186 dX9_goes_15 rfl rfl (by omega) (fun _ => ?_) (fun w => absurd rfl w)
          refine ev_vret rfl dX9_goes_186 ⟨ic, fun e a b => ⟨fun t => ?_, (hM e a b).2⟩, rfl⟩
          have q : e ≠ c := fun q => by subst q; have t : up tm e m e = 0 := t; rw [up_s] at t; omega
          have t : up tm c m e = 0 := t
          rw [up_n q] at t
          exact ((hM e a b).1 t).trans (up_n q).symm
  | succ k ih =>
    intro here r ic o hk hp hM
    have hp0 := hp
    obtain ⟨cell, pts, tm, plc, many⟩ := r
    have hbt := blk_tk hC hp hM (by omega)
    obtain ⟨h1, h2, h3, h4, h5, h6, h7, h8, h9⟩ := hp
    dsimp only at h1 h2 h3 h4 h5 h6 h7 h8 h9 hM hbt ⊢
    have hic : ic c = here := ((hM c hc.1 hc.2).1 h7).trans h2
    have hcs := hC.2.2.2.2 here h3 (by omega)
    have hcs2 := hC.2.2.2.2 (here + 1) (by omega) (by omega)
    have hC1 := hC.2.1
    have hC2 := hC.2.2.2.1
    have hr16 : ∀ e, 0 ≤ e → e < h 0 2 → R32 (tm e) := fun e a b => by
      by_cases q : e = c
      · subst q; omega
      · have := h1 e a b q; unfold okC at this; dsimp only at this; omega
    unfold mvF
    dsimp only
    rw [hbt]
    refine ev_iload 15 dX9_goes_13 rfl rfl ?_
    refine ev_if_eq 18 186 dX9_goes_15 rfl rfl (by omega) (fun c15 => ?_) (fun c15 => ?_)
    · omega --done
    · refine ev_aload_n 19 dX9_goes_18 rfl rfl ?_
      refine ev_getR 22 fX9_53 rfl dX9_goes_19 rfl rfl rfl ?_
      refine ev_iload_n 23 dX9_goes_22 rfl rfl ?_
      refine ev_iald' 24 (pts c) dX9_goes_23 rfl rfl (by decide) (by omega) rfl ?_
      refine ev_aload_n 25 dX9_goes_24 rfl rfl ?_
      refine ev_getR 28 fX9_7 rfl dX9_goes_25 rfl rfl rfl ?_
      refine ev_aload_n 29 dX9_goes_28 rfl rfl ?_
      refine ev_getR 32 fX9_50 rfl dX9_goes_29 rfl rfl rfl ?_
      refine ev_iload_n 33 dX9_goes_32 rfl rfl ?_
      refine ev_iald' 34 (here) dX9_goes_33 rfl rfl (by decide) (by omega) hic ?_
      refine ev_iald' 35 (h 1 here) dX9_goes_34 rfl rfl (by decide) (by omega) rfl ?_
      refine ev_icmp_lt 38 186 dX9_goes_35 rfl rfl (by omega) (by omega) (fun c35 => ?_) (fun c35 => ?_)
      · rw [if_pos c35]
        exact ev_vret rfl dX9_goes_186 ⟨ic, hM, rfl⟩
      · rw [if_neg c35]
        refine ev_aload_n 39 dX9_goes_38 rfl rfl ?_
        refine ev_getR 42 fX9_50 rfl dX9_goes_39 rfl rfl rfl ?_
        refine ev_iload_n 43 dX9_goes_42 rfl rfl ?_
        refine ev_iald' 44 (here) dX9_goes_43 rfl rfl (by decide) (by omega) hic ?_
        refine ev_iconst 45 dX9_goes_44 rfl ?_
        refine ev_iadd 46 dX9_goes_45 rfl ?_
        refine ev_istore 48 dX9_goes_46 rfl (Nat.le_of_ble_eq_true rfl) ?_
        refine ev_iload 50 dX9_goes_48 rfl rfl ?_
        refine ev_aload_n 51 dX9_goes_50 rfl rfl ?_
        refine ev_getI' 54 0 (h 0 0) fX9_81 rfl dX9_goes_51 rfl rfl rfl (by decide) rfl rfl ?_
        refine ev_icmp_ne 57 110 dX9_goes_54 rfl rfl (by omega) (by omega) (fun c54 => ?_) (fun c54 => ?_)
        · refine ev_aload_n 111 dX9_goes_110 rfl rfl ?_
          refine ev_getR 114 fX9_7 rfl dX9_goes_111 rfl rfl rfl ?_
          refine ev_iload 116 dX9_goes_114 rfl rfl ?_
          refine ev_iald' 117 (h 1 (here + 1)) dX9_goes_116 rfl rfl (by decide) (by omega) rfl ?_
          refine ev_bipush 119 dX9_goes_117 rfl (by decide +kernel) ?_
          refine ev_icmp_ne 122 155 dX9_goes_119 rfl rfl (by omega) (by omega) (fun c119 => ?_) (fun c119 => ?_)
          · rw [decide_eq_false c119, Bool.false_and, if_neg (show ¬ (false = true) by decide)]
            refine ev_aload_n 156 dX9_goes_155 rfl rfl ?_
            refine ev_getR 159 fX9_53 rfl dX9_goes_156 rfl rfl rfl ?_
            refine ev_iload_n 160 dX9_goes_159 rfl rfl ?_
            refine ev_dup2 161 dX9_goes_160 rfl ?_
            refine ev_iald' 162 (pts c) dX9_goes_161 rfl rfl (by decide) (by omega) rfl ?_
            refine ev_aload_n 163 dX9_goes_162 rfl rfl ?_
            refine ev_getR 166 fX9_7 rfl dX9_goes_163 rfl rfl rfl ?_
            refine ev_aload_n 167 dX9_goes_166 rfl rfl ?_
            refine ev_getR 170 fX9_50 rfl dX9_goes_167 rfl rfl rfl ?_
            refine ev_iload_n 171 dX9_goes_170 rfl rfl ?_
            refine ev_iald' 172 (here) dX9_goes_171 rfl rfl (by decide) (by omega) hic ?_
            refine ev_iald' 173 (h 1 here) dX9_goes_172 rfl rfl (by decide) (by omega) rfl ?_
            refine ev_isub 174 dX9_goes_173 rfl ?_
            refine ev_iast' 175 (hR h ic (up pts c (pts c - h 1 here)) tm plc many) dX9_goes_174 rfl rfl (by decide) (by omega) hR_15 ?_
            refine ev_aload_n 176 dX9_goes_175 rfl rfl ?_
            refine ev_getR 179 fX9_50 rfl dX9_goes_176 rfl rfl rfl ?_
            refine ev_iload_n 180 dX9_goes_179 rfl rfl ?_
            refine ev_iload 182 dX9_goes_180 rfl rfl ?_
            refine ev_iast' 183 (hR h (up ic c (here + 1)) (up pts c (pts c - h 1 here)) tm plc many) dX9_goes_182 rfl rfl (by decide) (by omega) hR_14 ?_
            refine ev_goto 13 dX9_goes_183 rfl ?_
            refine ih (here + 1) (up cell c (here + 1), up pts c (pts c - h 1 here), tm, plc, many) (up ic c (here + 1)) _ (by omega) ⟨fun e a b q => okC_up (h1 e a b q) (up_n q) (up_n q) rfl, up_s, by omega, by omega, ?_, ?_, h7, ?_, h9⟩ (fun e a b => ?_)
            · dsimp only; rw [up_s]; omega
            · dsimp only; rw [up_s]; omega
            · dsimp only
              rw [if_neg (by omega), cntB_congr (q := inB (h 0 0) (cell, pts, tm, plc, many)) (fun e a b => ?_)]
              · rw [if_neg (by omega)] at h8; exact h8
              · by_cases d : e = c
                · subst d
                  rw [inB_f (r := (cell, pts, tm, plc, many)) (by dsimp only; omega)]
                  exact inB_f (fun w => by have w : up cell e (here + 1) e = h 0 0 := w; rw [up_s] at w; omega)
                · exact inB_c (up_n d)
            · dsimp only
              by_cases q : e = c
              · subst q; rw [up_s, up_s]; omega
              · rw [up_n q, up_n q]; exact hM e a b
          · rw [decide_eq_true c119, Bool.true_and]
            refine ev_aload_n 123 dX9_goes_122 rfl rfl ?_
            refine ev_iload 125 dX9_goes_123 rfl rfl ?_
            refine ev_iload_n 126 dX9_goes_125 rfl rfl ?_
            refine cVi2 129 kX9_goes_165 dX9_goes_126 rfl rfl rfl rfl rfl (by decide) rfl (Nat.le_of_ble_eq_true rfl) (m_isTaken (h := hR h ic pts tm plc many) ⟨by show 0 ≤ h 0 2; omega, by show h 0 2 ≤ 5; omega⟩ ⟨by omega, by omega⟩ ⟨by omega, by omega⟩ hr16 (fun e a b => ⟨by have := (hM e a b).2; show _ ≤ ic e; omega, by have := (hM e a b).2; show ic e < _; omega⟩)) ?_
            rintro x _ ⟨e126, rfl⟩
            rw [show x = b2i (anyB (tkB ic tm c (here + 1)) (h 0 2).toNat) from e126]
            refine ev_if_eq 132 155 dX9_goes_129 rfl rfl (b2i_r _) (fun c129 => ?_) (fun c129 => ?_)
            · rw [b2i_0.mp c129, if_neg (show ¬ (false = true) by decide)]
              refine ev_aload_n 156 dX9_goes_155 rfl rfl ?_
              refine ev_getR 159 fX9_53 rfl dX9_goes_156 rfl rfl rfl ?_
              refine ev_iload_n 160 dX9_goes_159 rfl rfl ?_
              refine ev_dup2 161 dX9_goes_160 rfl ?_
              refine ev_iald' 162 (pts c) dX9_goes_161 rfl rfl (by decide) (by omega) rfl ?_
              refine ev_aload_n 163 dX9_goes_162 rfl rfl ?_
              refine ev_getR 166 fX9_7 rfl dX9_goes_163 rfl rfl rfl ?_
              refine ev_aload_n 167 dX9_goes_166 rfl rfl ?_
              refine ev_getR 170 fX9_50 rfl dX9_goes_167 rfl rfl rfl ?_
              refine ev_iload_n 171 dX9_goes_170 rfl rfl ?_
              refine ev_iald' 172 (here) dX9_goes_171 rfl rfl (by decide) (by omega) hic ?_
              refine ev_iald' 173 (h 1 here) dX9_goes_172 rfl rfl (by decide) (by omega) rfl ?_
              refine ev_isub 174 dX9_goes_173 rfl ?_
              refine ev_iast' 175 (hR h ic (up pts c (pts c - h 1 here)) tm plc many) dX9_goes_174 rfl rfl (by decide) (by omega) hR_15 ?_
              refine ev_aload_n 176 dX9_goes_175 rfl rfl ?_
              refine ev_getR 179 fX9_50 rfl dX9_goes_176 rfl rfl rfl ?_
              refine ev_iload_n 180 dX9_goes_179 rfl rfl ?_
              refine ev_iload 182 dX9_goes_180 rfl rfl ?_
              refine ev_iast' 183 (hR h (up ic c (here + 1)) (up pts c (pts c - h 1 here)) tm plc many) dX9_goes_182 rfl rfl (by decide) (by omega) hR_14 ?_
              refine ev_goto 13 dX9_goes_183 rfl ?_
              refine ih (here + 1) (up cell c (here + 1), up pts c (pts c - h 1 here), tm, plc, many) (up ic c (here + 1)) _ (by omega) ⟨fun e a b q => okC_up (h1 e a b q) (up_n q) (up_n q) rfl, up_s, by omega, by omega, ?_, ?_, h7, ?_, h9⟩ (fun e a b => ?_)
              · dsimp only; rw [up_s]; omega
              · dsimp only; rw [up_s]; omega
              · dsimp only
                rw [if_neg (by omega), cntB_congr (q := inB (h 0 0) (cell, pts, tm, plc, many)) (fun e a b => ?_)]
                · rw [if_neg (by omega)] at h8; exact h8
                · by_cases d : e = c
                  · subst d
                    rw [inB_f (r := (cell, pts, tm, plc, many)) (by dsimp only; omega)]
                    exact inB_f (fun w => by have w : up cell e (here + 1) e = h 0 0 := w; rw [up_s] at w; omega)
                  · exact inB_c (up_n d)
              · dsimp only
                by_cases q : e = c
                · subst q; rw [up_s, up_s]; omega
                · rw [up_n q, up_n q]; exact hM e a b
            · rw [b2i_n.mp c129, if_pos rfl]
              refine ev_aload_n 133 dX9_goes_132 rfl rfl ?_
              refine ev_getR 136 fX9_53 rfl dX9_goes_133 rfl rfl rfl ?_
              refine ev_iload_n 137 dX9_goes_136 rfl rfl ?_
              refine ev_aload_n 138 dX9_goes_137 rfl rfl ?_
              refine ev_getR 141 fX9_7 rfl dX9_goes_138 rfl rfl rfl ?_
              refine ev_aload_n 142 dX9_goes_141 rfl rfl ?_
              refine ev_getR 145 fX9_50 rfl dX9_goes_142 rfl rfl rfl ?_
              refine ev_iload_n 146 dX9_goes_145 rfl rfl ?_
              refine ev_iald' 147 (here) dX9_goes_146 rfl rfl (by decide) (by omega) hic ?_
              refine ev_iald' 148 (h 1 here) dX9_goes_147 rfl rfl (by decide) (by omega) rfl ?_
              refine ev_iast' 149 (hR h ic (up pts c (h 1 here)) tm plc many) dX9_goes_148 rfl rfl (by decide) (by omega) hR_15 ?_
              refine ev_iconst 150 dX9_goes_149 rfl ?_
              refine ev_istore 152 dX9_goes_150 rfl (Nat.le_of_ble_eq_true rfl) ?_
              refine ev_goto 183 dX9_goes_152 rfl ?_
              refine ev_goto 13 dX9_goes_183 rfl ?_
              refine ev_iload 15 dX9_goes_13 rfl rfl ?_
              refine ev_if_eq 18 186 dX9_goes_15 rfl rfl (by omega) (fun _ => ?_) (fun w => absurd rfl w)
              exact ev_vret rfl dX9_goes_186 ⟨ic, hM, rfl⟩
        · omega --done
theorem m_goes {h : Hp} (hC : CP (h 1) (h 0 0) (h 0 2)) {c m g : Int} (hc : 0 ≤ c ∧ c < h 0 2) (hm : 1 ≤ m ∧ m < 2147483648) (hg : 1 ≤ g ∧ g ≤ 20) {r : RS} {ic : Int → Int} (hr : rOK (h 1) (h 0 0) (h 0 2) r) (hin : r.1 c < h 0 0) (hM : MR (h 0 2) ic r) : Ev shM mX9_goes 0 [some (vr 0), some (vi c), some (vi m), some (vi g), none, none] [] (hR h ic r.2.1 r.2.2.1 r.2.2.2.1 r.2.2.2.2) (RV fun h' => ∃ ic', MR (h 0 2) ic' (moveF (h 1) (h 0 0) (h 0 2) c m g r) ∧ h' = hR h ic' (moveF (h 1) (h 0 0) (h 0 2) c m g r).2.1 (moveF (h 1) (h 0 0) (h 0 2) c m g r).2.2.1 (moveF (h 1) (h 0 0) (h 0 2) c m g r).2.2.2.1 (moveF (h 1) (h 0 0) (h 0 2) c m g r).2.2.2.2) := by
  obtain ⟨hp, -⟩ := move_ok hC hc hm hg hr hin
  have hC1 := hC.2.1
  have hk := hr.1 c hc.1 hc.2
  unfold okC at hk
  have hpts := hk.2.2.1
  obtain ⟨k, hk2⟩ : ∃ k : Nat, (h 0 0 - r.1 c).toNat = k + 1 := ⟨(h 0 0 - r.1 c).toNat - 1, by omega⟩
  have K := m_goes_loop hC (g := g) hc hm k (r.1 c) (r.1, up r.2.1 c (r.2.1 c + g), r.2.2) ic none (by omega) hp hM
  unfold moveF
  rw [hk2]
  refine ev_aload_n 1 dX9_goes_0 rfl rfl ?_
  refine ev_getR 4 fX9_53 rfl dX9_goes_1 rfl rfl rfl ?_
  refine ev_iload_n 5 dX9_goes_4 rfl rfl ?_
  refine ev_dup2 6 dX9_goes_5 rfl ?_
  refine ev_iald' 7 (r.2.1 c) dX9_goes_6 rfl rfl (by decide) (by omega) rfl ?_
  refine ev_iload_n 8 dX9_goes_7 rfl rfl ?_
  refine ev_iadd 9 dX9_goes_8 rfl ?_
  refine ev_iast' 10 (hR h ic (up r.2.1 c (r.2.1 c + g)) r.2.2.1 r.2.2.2.1 r.2.2.2.2) dX9_goes_9 rfl rfl (by decide) (by omega) hR_15 ?_
  refine ev_iconst 11 dX9_goes_10 rfl ?_
  refine ev_istore 13 dX9_goes_11 rfl (Nat.le_of_ble_eq_true rfl) ?_
  exact K
