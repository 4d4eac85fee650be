def rateM (h : Hp) (k c : Int) : Int := if k = 1 then h 2 (2 * c) + h 4 (5 + c) else if k = 2 then h 2 (2 * c) - sGain (h 3) (fun c => h 2 (2 * c)) (h 4) 0 c else if k = 3 then 2 * (h 2 (2 * c) + h 4 (5 + c)) else if k = 4 then h 2 (2 * c) - sGain (h 3) (fun c => h 2 (2 * c)) (h 4) 0 c + c else if k = 5 then h 2 (2 * c) + h 4 11 else h 2 (2 * c)
def trM (k : Int) : Int := if k = 1 then 11 else if k = 2 then 101 else if k = 3 then 1011 else if k = 4 then 10101 else if k = 5 then 100001 else 1
theorem PsM.T {h : Hp} {f g : Int → Int} : PsM (hput h 0 g) (hput (hput h 13 f) 0 g) := ⟨nine rfl rfl rfl rfl rfl rfl rfl rfl rfl, fun _ _ => rfl⟩
section AS
variable {h : Hp} {c : Int}
theorem m_rate {k : Int} (hk : R32 k) (hc : R32 c) (hn : 0 ≤ h 0 2 ∧ h 0 2 ≤ 5) (hC : MCh h) (hs : NW (h 0 2) (h 4)) : Ev shM mX9_rate 0 [some (vr 0), some (vi k), some (vi c), none, none, none] [] h (RI fun x h' => (¬ ((0 ≤ k ∧ k ≤ 5) ∧ 0 ≤ c ∧ c < h 0 2) ∧ x = -1000000 ∧ h = h') ∨ (((0 ≤ k ∧ k ≤ 5) ∧ 0 ≤ c ∧ c < h 0 2) ∧ x = rateM h k c ∧ PsM (hput h 0 (up (h 0) 12 (h 0 12 + trM k))) h')) := by
  unfold rateM trM
  refine ev_iload_n 1 dX9_rate_0 rfl rfl ?_
  refine ev_iconst 2 dX9_rate_1 rfl ?_
  refine ev_iconst 3 dX9_rate_2 rfl ?_
  refine cSi3 6 kX9_rate_78 dX9_rate_3 rfl rfl (by decide) rfl (Nat.le_of_ble_eq_true rfl) (m_in hk ⟨by decide, by decide⟩ ⟨by decide, by decide⟩) ?_
  rintro x _ ⟨rfl, rfl⟩
  refine ev_if_eq 9 17 dX9_rate_6 rfl rfl it_r (fun c6 => ?_) (fun c6 => ?_)
  · have d6 := it_0.mp c6
    refine ev_ldc 19 (-1000000) qX9_219 (by decide +kernel) dX9_rate_17 rfl ?_
    exact ev_iret rfl dX9_rate_19 (Or.inl ⟨by omega, rfl, rfl⟩)
  · have d6 := it_1.mp c6
    refine ev_aload_n 10 dX9_rate_9 rfl rfl ?_
    refine ev_iload_n 11 dX9_rate_10 rfl rfl ?_
    refine cVi1 14 kX9_rate_175 dX9_rate_11 rfl rfl rfl rfl rfl (by decide) rfl (Nat.le_of_ble_eq_true rfl) (m_isChair hc hn) ?_
    rintro x _ ⟨rfl, rfl⟩
    refine ev_if_ne 17 20 dX9_rate_14 rfl rfl it_r (fun c14 => ?_) (fun c14 => ?_)
    · have d14 := it_1.mp c14
      refine ev_aload_n 21 dX9_rate_20 rfl rfl ?_
      refine cVv0 24 kX9_rate_178 dX9_rate_21 rfl rfl rfl rfl rfl (by decide) rfl (Nat.le_of_ble_eq_true rfl) (m_asItIs) ?_
      rintro _ rfl
      refine ev_aload_n 25 dX9_rate_24 rfl rfl ?_
      refine ev_getR 28 fX9_13 rfl dX9_rate_25 rfl rfl rfl ?_
      refine ev_iconst 29 dX9_rate_28 rfl ?_
      refine ev_iload_n 30 dX9_rate_29 rfl rfl ?_
      refine ev_imul 31 dX9_rate_30 rfl ?_
      refine ev_iald' 32 (h 2 (2 * c)) dX9_rate_31 rfl rfl (by decide) (by omega) rfl ?_
      refine ev_istore_n 33 dX9_rate_32 rfl (Nat.le_of_ble_eq_true rfl) ?_
      refine ev_iload_n 34 dX9_rate_33 rfl rfl ?_
      refine ev_aload_n 35 dX9_rate_34 rfl rfl ?_
      refine ev_getR 38 fX9_19 rfl dX9_rate_35 rfl rfl rfl ?_
      refine ev_iconst 39 dX9_rate_38 rfl ?_
      refine ev_iload_n 40 dX9_rate_39 rfl rfl ?_
      refine ev_iadd 41 dX9_rate_40 rfl ?_
      refine ev_iald' 42 (h 4 (5 + c)) dX9_rate_41 rfl rfl (by decide) (by omega) rfl ?_
      refine ev_iadd 43 dX9_rate_42 rfl ?_
      refine ev_istore 45 dX9_rate_43 rfl (Nat.le_of_ble_eq_true rfl) ?_
      refine ev_iload_n 46 dX9_rate_45 rfl rfl ?_
      refine ev_aload_n 47 dX9_rate_46 rfl rfl ?_
      refine ev_iload_n 48 dX9_rate_47 rfl rfl ?_
      refine ev_iconst 49 dX9_rate_48 rfl ?_
      refine cVi2 52 kX9_rate_168 dX9_rate_49 rfl rfl rfl rfl rfl (by decide) rfl (Nat.le_of_ble_eq_true rfl) (m_gainOf (h := hN h) hn.2 (hN_C hn hC hs).1 (hN_C hn hC hs).2 (by omega) d14) ?_
      rintro x _ ⟨rfl, rfl⟩
      rw [mGain_N hn d14]
      refine ev_isub 53 dX9_rate_52 rfl ?_
      refine ev_istore 55 dX9_rate_53 rfl (Nat.le_of_ble_eq_true rfl) ?_
      refine ev_iload_n 56 dX9_rate_55 rfl rfl ?_
      by_cases w56 : k < 1 ∨ 5 < k
      · refine ev_tswOut 178 dX9_rate_56 (by omega) w56 rfl ?_
        have hk0 : k = 0 := by omega
        subst hk0
        refine ev_aload_n 179 dX9_rate_178 rfl rfl ?_
        refine ev_dup_r 180 dX9_rate_179 rfl ?_
        refine ev_getL 183 12 fX9_220 rfl dX9_rate_180 rfl rfl rfl rfl ?_
        refine ev_lconst 184 1 dX9_rate_183 rfl (by decide +kernel) ?_
        refine ev_ladd 185 dX9_rate_184 rfl ?_
        refine ev_putL 188 12 pX9_220 rfl dX9_rate_185 rfl rfl rfl rfl ?_
        refine ev_iload_n 189 dX9_rate_188 rfl rfl ?_
        exact ev_iret rfl dX9_rate_189 (Or.inr ⟨by omega, rfl, PsM.T⟩)
      have w56 : k = 1 ∨ k = 2 ∨ k = 3 ∨ k = 4 ∨ k = 5 := by omega
      rcases w56 with w56 | w56 | w56 | w56 | w56
      · rw [w56]
        refine ev_tswIn 92 dX9_rate_56 ⟨by decide, by decide⟩ (by decide) (by decide) rfl rfl ?_
        refine ev_aload_n 93 dX9_rate_92 rfl rfl ?_
        refine ev_dup_r 94 dX9_rate_93 rfl ?_
        refine ev_getL 97 12 fX9_220 rfl dX9_rate_94 rfl rfl rfl rfl ?_
        refine ev_ldc2 100 (11) qX9_224 (by decide +kernel) dX9_rate_97 rfl ?_
        refine ev_ladd 101 dX9_rate_100 rfl ?_
        refine ev_putL 104 12 pX9_220 rfl dX9_rate_101 rfl rfl rfl rfl ?_
        refine ev_iload 106 dX9_rate_104 rfl rfl ?_
        exact ev_iret rfl dX9_rate_106 (Or.inr ⟨by omega, rfl, PsM.T⟩)
      · rw [w56]
        refine ev_tswIn 107 dX9_rate_56 ⟨by decide, by decide⟩ (by decide) (by decide) rfl rfl ?_
        refine ev_aload_n 108 dX9_rate_107 rfl rfl ?_
        refine ev_dup_r 109 dX9_rate_108 rfl ?_
        refine ev_getL 112 12 fX9_220 rfl dX9_rate_109 rfl rfl rfl rfl ?_
        refine ev_ldc2 115 (101) qX9_226 (by decide +kernel) dX9_rate_112 rfl ?_
        refine ev_ladd 116 dX9_rate_115 rfl ?_
        refine ev_putL 119 12 pX9_220 rfl dX9_rate_116 rfl rfl rfl rfl ?_
        refine ev_iload 121 dX9_rate_119 rfl rfl ?_
        exact ev_iret rfl dX9_rate_121 (Or.inr ⟨by omega, rfl, PsM.T⟩)
      · rw [w56]
        refine ev_tswIn 122 dX9_rate_56 ⟨by decide, by decide⟩ (by decide) (by decide) rfl rfl ?_
        refine ev_aload_n 123 dX9_rate_122 rfl rfl ?_
        refine ev_dup_r 124 dX9_rate_123 rfl ?_
        refine ev_getL 127 12 fX9_220 rfl dX9_rate_124 rfl rfl rfl rfl ?_
        refine ev_ldc2 130 (1011) qX9_228 (by decide +kernel) dX9_rate_127 rfl ?_
        refine ev_ladd 131 dX9_rate_130 rfl ?_
        refine ev_putL 134 12 pX9_220 rfl dX9_rate_131 rfl rfl rfl rfl ?_
        refine ev_iconst 135 dX9_rate_134 rfl ?_
        refine ev_iload 137 dX9_rate_135 rfl rfl ?_
        refine ev_imul 138 dX9_rate_137 rfl ?_
        exact ev_iret rfl dX9_rate_138 (Or.inr ⟨by omega, rfl, PsM.T⟩)
      · rw [w56]
        refine ev_tswIn 139 dX9_rate_56 ⟨by decide, by decide⟩ (by decide) (by decide) rfl rfl ?_
        refine ev_aload_n 140 dX9_rate_139 rfl rfl ?_
        refine ev_dup_r 141 dX9_rate_140 rfl ?_
        refine ev_getL 144 12 fX9_220 rfl dX9_rate_141 rfl rfl rfl rfl ?_
        refine ev_ldc2 147 (10101) qX9_230 (by decide +kernel) dX9_rate_144 rfl ?_
        refine ev_ladd 148 dX9_rate_147 rfl ?_
        refine ev_putL 151 12 pX9_220 rfl dX9_rate_148 rfl rfl rfl rfl ?_
        refine ev_iload 153 dX9_rate_151 rfl rfl ?_
        refine ev_iload_n 154 dX9_rate_153 rfl rfl ?_
        refine ev_iadd 155 dX9_rate_154 rfl ?_
        exact ev_iret rfl dX9_rate_155 (Or.inr ⟨by omega, rfl, PsM.T⟩)
      · rw [w56]
        refine ev_tswIn 156 dX9_rate_56 ⟨by decide, by decide⟩ (by decide) (by decide) rfl rfl ?_
        refine ev_aload_n 157 dX9_rate_156 rfl rfl ?_
        refine ev_dup_r 158 dX9_rate_157 rfl ?_
        refine ev_getL 161 12 fX9_220 rfl dX9_rate_158 rfl rfl rfl rfl ?_
        refine ev_ldc2 164 (100001) qX9_232 (by decide +kernel) dX9_rate_161 rfl ?_
        refine ev_ladd 165 dX9_rate_164 rfl ?_
        refine ev_putL 168 12 pX9_220 rfl dX9_rate_165 rfl rfl rfl rfl ?_
        refine ev_iload_n 169 dX9_rate_168 rfl rfl ?_
        refine ev_aload_n 170 dX9_rate_169 rfl rfl ?_
        refine ev_getR 173 fX9_19 rfl dX9_rate_170 rfl rfl rfl ?_
        refine ev_bipush 175 dX9_rate_173 rfl (by decide +kernel) ?_
        refine ev_iald' 176 (h 4 11) dX9_rate_175 rfl rfl (by decide) (by omega) rfl ?_
        refine ev_iadd 177 dX9_rate_176 rfl ?_
        exact ev_iret rfl dX9_rate_177 (Or.inr ⟨by omega, rfl, PsM.T⟩)
    · have d14 := it_0.mp c14
      refine ev_ldc 19 (-1000000) qX9_219 (by decide +kernel) dX9_rate_17 rfl ?_
      exact ev_iret rfl dX9_rate_19 (Or.inl ⟨by omega, rfl, rfl⟩)
def rsum (n : Int) (pol reg : Int → Int) (p : Int) : Int := sumZ (fun c => if pol c = p then reg c else 0) n.toNat
def ruF (f : Int → Int) : Nat → Int → Int → Int → Int
  | 0, _, w, _ => w
  | k + 1, p, w, m => if m < f p then ruF f k (p + 1) p (f p) else ruF f k (p + 1) w m
theorem m_ruled_in {post : Option AV → Hp → Prop} {w m p : Int} (hn : 0 ≤ h 0 2 ∧ h 0 2 ≤ 5) (hp : R32 p) (hpol : ∀ c, 0 ≤ c → c < h 0 2 → R32 (h 2 (2 * c + 1))) : ∀ (k : Nat) (c : Int), 0 ≤ c → c + k = h 0 2 → Ev shM mX9_ruled 67 [some (vr 0), some (vi w), some (vi m), some (vi p), some (vi (rsum (h 0 2) (fun c => h 2 (2 * c + 1)) (fun c => h 4 (12 + c)) p)), some (vi (h 0 2))] [] h post → Ev shM mX9_ruled 18 [some (vr 0), some (vi w), some (vi m), some (vi p), some (vi (sumZ (fun c => if h 2 (2 * c + 1) = p then h 4 (12 + c) else 0) c.toNat)), some (vi c)] [] h post := by
  intro k
  induction k with
  | zero =>
    intro c h0 h1 K
    have he : c = h 0 2 := by omega
    subst he
    refine ev_iload 20 dX9_ruled_18 rfl rfl ?_
    refine ev_aload_n 21 dX9_ruled_20 rfl rfl ?_
    refine ev_getI 24 2 fX9_74 rfl dX9_ruled_21 rfl rfl rfl (by decide) rfl ?_
    refine ev_icmp_ge 27 67 dX9_ruled_24 rfl rfl (by omega) (by omega) (fun c24 => ?_) (fun c24 => ?_)
    · exact K
    · omega --done
  | succ k ih =>
    intro c h0 h1 K
    have hpc := hpol c h0 (by omega)
    have K2 := ih (c + 1) (by omega) (by omega) K
    rw [sumZ_1 h0] at K2
    refine ev_iload 20 dX9_ruled_18 rfl rfl ?_
    refine ev_aload_n 21 dX9_ruled_20 rfl rfl ?_
    refine ev_getI 24 2 fX9_74 rfl dX9_ruled_21 rfl rfl rfl (by decide) rfl ?_
    refine ev_icmp_ge 27 67 dX9_ruled_24 rfl rfl (by omega) (by omega) (fun c24 => ?_) (fun c24 => ?_)
    · omega --done
    · refine ev_iload 29 dX9_ruled_27 rfl rfl ?_
      refine ev_aload_n 30 dX9_ruled_29 rfl rfl ?_
      refine ev_getR 33 fX9_13 rfl dX9_ruled_30 rfl rfl rfl ?_
      refine ev_iconst 34 dX9_ruled_33 rfl ?_
      refine ev_iload 36 dX9_ruled_34 rfl rfl ?_
      refine ev_imul 37 dX9_ruled_36 rfl ?_
      refine ev_iconst 38 dX9_ruled_37 rfl ?_
      refine ev_iadd 39 dX9_ruled_38 rfl ?_
      refine ev_iald 40 dX9_ruled_39 rfl rfl (by decide) (by omega) ?_
      refine ev_iload_n 41 dX9_ruled_40 rfl rfl ?_
      refine ev_icmp_ne 44 57 dX9_ruled_41 rfl rfl (by omega) (by omega) (fun c41 => ?_) (fun c41 => ?_)
      · rw [if_neg c41] at K2
        refine ev_iconst 58 dX9_ruled_57 rfl ?_
        refine ev_iadd 59 dX9_ruled_58 rfl ?_
        refine ev_istore 61 dX9_ruled_59 rfl (Nat.le_of_ble_eq_true rfl) ?_
        refine ev_iinc 64 dX9_ruled_61 rfl rfl ?_
        refine ev_goto 18 dX9_ruled_64 rfl ?_
        exact K2
      · rw [if_pos c41] at K2
        refine ev_aload_n 45 dX9_ruled_44 rfl rfl ?_
        refine ev_getR 48 fX9_19 rfl dX9_ruled_45 rfl rfl rfl ?_
        refine ev_bipush 50 dX9_ruled_48 rfl (by decide +kernel) ?_
        refine ev_iload 52 dX9_ruled_50 rfl rfl ?_
        refine ev_iadd 53 dX9_ruled_52 rfl ?_
        refine ev_iald 54 dX9_ruled_53 rfl rfl (by decide) (by omega) ?_
        refine ev_goto 58 dX9_ruled_54 rfl ?_
        refine ev_iadd 59 dX9_ruled_58 rfl ?_
        refine ev_istore 61 dX9_ruled_59 rfl (Nat.le_of_ble_eq_true rfl) ?_
        refine ev_iinc 64 dX9_ruled_61 rfl rfl ?_
        refine ev_goto 18 dX9_ruled_64 rfl ?_
        exact K2
theorem m_ruled_out (hn : 0 ≤ h 0 2 ∧ h 0 2 ≤ 5) (hpol : ∀ c, 0 ≤ c → c < h 0 2 → R32 (h 2 (2 * c + 1))) (hreg : ∀ c, 0 ≤ c → c < h 0 2 → 0 ≤ h 4 (12 + c) ∧ h 4 (12 + c) ≤ 1000) : ∀ (k : Nat) (p w m : Int) (o1 o2 : Option AV), 0 ≤ p → p + k = 4 → R32 m → Ev shM mX9_ruled 7 [some (vr 0), some (vi w), some (vi m), some (vi p), o1, o2] [] h (RI fun x h' => x = ruF (rsum (h 0 2) (fun c => h 2 (2 * c + 1)) (fun c => h 4 (12 + c))) k p w m ∧ h = h') := by
  have hrs : ∀ p, 0 ≤ rsum (h 0 2) (fun c => h 2 (2 * c + 1)) (fun c => h 4 (12 + c)) p ∧ rsum (h 0 2) (fun c => h 2 (2 * c + 1)) (fun c => h 4 (12 + c)) p ≤ 5000 := by
    intro p
    have h1 := sumZ_nn (f := fun c => if h 2 (2 * c + 1) = p then h 4 (12 + c) else 0) (k := (h 0 2).toNat) (fun c a b => by have := hreg c a (by omega); split <;> omega)
    have h2 := sumZ_bd (f := fun c => if h 2 (2 * c + 1) = p then h 4 (12 + c) else 0) (b := 1000) (k := (h 0 2).toNat) (fun c a b => by have := hreg c a (by omega); split <;> omega)
    exact ⟨h1, by show sumZ (fun c => if h 2 (2 * c + 1) = p then h 4 (12 + c) else 0) (h 0 2).toNat ≤ 5000; omega⟩
  intro k
  induction k with
  | zero =>
    intro p w m o1 o2 h0 h1 hm
    refine ev_iload_n 8 dX9_ruled_7 rfl rfl ?_
    refine ev_iconst 9 dX9_ruled_8 rfl ?_
    refine ev_icmp_ge 12 98 dX9_ruled_9 rfl rfl (by omega) (by omega) (fun c9 => ?_) (fun c9 => ?_)
    · refine ev_iload_n 99 dX9_ruled_98 rfl rfl ?_
      exact ev_iret rfl dX9_ruled_99 (⟨rfl, rfl⟩)
    · omega --done
  | succ k ih =>
    intro p w m o1 o2 h0 h1 hm
    have hp := hrs p
    unfold ruF
    refine ev_iload_n 8 dX9_ruled_7 rfl rfl ?_
    refine ev_iconst 9 dX9_ruled_8 rfl ?_
    refine ev_icmp_ge 12 98 dX9_ruled_9 rfl rfl (by omega) (by omega) (fun c9 => ?_) (fun c9 => ?_)
    · omega --done
    · refine ev_iconst 13 dX9_ruled_12 rfl ?_
      refine ev_istore 15 dX9_ruled_13 rfl (Nat.le_of_ble_eq_true rfl) ?_
      refine ev_iconst 16 dX9_ruled_15 rfl ?_
      refine ev_istore 18 dX9_ruled_16 rfl (Nat.le_of_ble_eq_true rfl) ?_
      refine m_ruled_in hn (by omega) hpol (h 0 2).toNat 0 (by omega) (by omega) ?_
      refine ev_iload 69 dX9_ruled_67 rfl rfl ?_
      refine ev_iload_n 70 dX9_ruled_69 rfl rfl ?_
      refine ev_icmp_le 73 77 dX9_ruled_70 rfl rfl (by omega) (by omega) (fun c70 => ?_) (fun c70 => ?_)
      · rw [if_neg (by omega)]
        refine ev_iload_n 78 dX9_ruled_77 rfl rfl ?_
        refine ev_istore_n 79 dX9_ruled_78 rfl (Nat.le_of_ble_eq_true rfl) ?_
        refine ev_iload 81 dX9_ruled_79 rfl rfl ?_
        refine ev_iload_n 82 dX9_ruled_81 rfl rfl ?_
        refine ev_icmp_le 85 90 dX9_ruled_82 rfl rfl (by omega) (by omega) (fun c82 => ?_) (fun c82 => absurd c70 c82)
        refine ev_iload_n 91 dX9_ruled_90 rfl rfl ?_
        refine ev_istore_n 92 dX9_ruled_91 rfl (Nat.le_of_ble_eq_true rfl) ?_
        refine ev_iinc 95 dX9_ruled_92 rfl rfl ?_
        refine ev_goto 7 dX9_ruled_95 rfl ?_
        exact ih (p + 1) w m _ _ (by omega) (by omega) hm
      · rw [if_pos (by omega)]
        refine ev_iload_n 74 dX9_ruled_73 rfl rfl ?_
        refine ev_goto 78 dX9_ruled_74 rfl ?_
        refine ev_istore_n 79 dX9_ruled_78 rfl (Nat.le_of_ble_eq_true rfl) ?_
        refine ev_iload 81 dX9_ruled_79 rfl rfl ?_
        refine ev_iload_n 82 dX9_ruled_81 rfl rfl ?_
        refine ev_icmp_le 85 90 dX9_ruled_82 rfl rfl (by omega) (by omega) (fun c82 => absurd c82 c70) (fun c82 => ?_)
        refine ev_iload 87 dX9_ruled_85 rfl rfl ?_
        refine ev_goto 91 dX9_ruled_87 rfl ?_
        refine ev_istore_n 92 dX9_ruled_91 rfl (Nat.le_of_ble_eq_true rfl) ?_
        refine ev_iinc 95 dX9_ruled_92 rfl rfl ?_
        refine ev_goto 7 dX9_ruled_95 rfl ?_
        exact ih (p + 1) p _ _ _ (by omega) (by omega) (by omega)
theorem m_ruled (hn : 0 ≤ h 0 2 ∧ h 0 2 ≤ 5) (hpol : ∀ c, 0 ≤ c → c < h 0 2 → R32 (h 2 (2 * c + 1))) (hreg : ∀ c, 0 ≤ c → c < h 0 2 → 0 ≤ h 4 (12 + c) ∧ h 4 (12 + c) ≤ 1000) : Ev shM mX9_ruled 0 [some (vr 0), none, none, none, none, none] [] h (RI fun x h' => x = ruF (rsum (h 0 2) (fun c => h 2 (2 * c + 1)) (fun c => h 4 (12 + c))) 4 0 (-9) 0 ∧ h = h') := by
  refine ev_bipush 2 dX9_ruled_0 rfl (by decide +kernel) ?_
  refine ev_istore_n 3 dX9_ruled_2 rfl (Nat.le_of_ble_eq_true rfl) ?_
  refine ev_iconst 4 dX9_ruled_3 rfl ?_
  refine ev_istore_n 5 dX9_ruled_4 rfl (Nat.le_of_ble_eq_true rfl) ?_
  refine ev_iconst 6 dX9_ruled_5 rfl ?_
  refine ev_istore_n 7 dX9_ruled_6 rfl (Nat.le_of_ble_eq_true rfl) ?_
  exact m_ruled_out hn hpol hreg 4 0 (-9) 0 none none (by omega) (by omega) (by omega)
/-- what is timed of a chair and isn't as t says -/
def bdB (tm : Int → Int) (c t : Int) : Int → Bool := fun k => decide (tm (2 * k) = c) && decide (tm (2 * k + 1) ≠ t)
def hG (h : Hp) (v : Int) : Hp := hput h 13 (up (cpy (h 4) (h 13) 0 0 17) 10 v)
theorem hG_at {v i : Int} (h0 : 0 ≤ i) (h1 : i < 17) : hG h v 13 i = up (h 4) 10 v i := by
  show up (cpy (h 4) (h 13) 0 0 17) 10 v i = _
  unfold up
  split
  · rfl
  · exact hN_at h0 h1
theorem hG_W {v : Int} (hW : MW h) (hs : NW (h 0 2) (h 4)) (hv : 0 ≤ v ∧ v < 32) : MW (hG h v) ∧ NW (hG h v 0 2) (hG h v 13) := by
  have hn := hW.1.2.1
  refine ⟨PsM.N.W hW, NW_ag (s := up (h 4) 10 v) hn ⟨fun c a b => ?_, ?_, ?_⟩ (fun i a b => hG_at a b)⟩
  · have b : c < h 0 2 := b
    rw [up_n (by omega), up_n (by omega)]; exact hs.1 c a b
  · rw [up_s]; exact hv.1
  · rw [up_s]; exact hv.2
theorem aloneS_G {v : Int} (hn : h 0 2 ≤ 5) (hc : 0 ≤ c ∧ c < h 0 2) : hG h v 13 (5 + c) + ceilD (sumZ (hG h v 1) (hG h v 0 0).toNat) (mGain (hG h v) 0 c) = aloneS h (up (h 4) 10 v) c := by
  unfold aloneS
  rw [hG_at (by omega) (by omega)]
  have : mGain (hG h v) 0 c = sGain (h 3) (fun c => h 2 (2 * c)) (up (h 4) 10 v) 0 c := sGain_ag (str := h 3) (wt := fun c => h 2 (2 * c)) (s := up (h 4) 10 v) (s' := hG h v 13) hn (fun i a b => hG_at a b) c hc.1 hc.2
  rw [this]
  rfl
theorem ceil_r {L g : Int} (hL : 0 ≤ L ∧ L ≤ 128) (hg : 1 ≤ g) : 0 ≤ ceilD L g ∧ ceilD L g ≤ 128 := by
  unfold ceilD
  refine ⟨Int.ediv_nonneg (by omega) (by omega), ?_⟩
  apply Int.le_of_lt_add_one
  rw [Int.ediv_lt_iff_lt_mul (by omega)]
  have : 128 * 1 ≤ 128 * g := Int.mul_le_mul_of_nonneg_left hg (by omega)
  have e : (128 + 1) * g = 128 * g + g := by rw [Int.add_mul, Int.one_mul]
  omega
theorem sumC_r {cost : Int → Int} {cl n : Int} (hC : CP cost cl n) : 0 ≤ sumZ cost cl.toNat ∧ sumZ cost cl.toNat ≤ 128 := by
  have h1 := sumZ_bd (f := cost) (b := 8) (k := cl.toNat) (fun c a b => (hC.2.2.2.2 c a (by omega)).2)
  have h2 := sumZ_nn (f := cost) (k := cl.toNat) (fun c a b => by have := hC.2.2.2.2 c a (by omega); omega)
  have := hC.2.2.2.1
  omega
theorem m_isSo_loop {v g : Int} (hW : MW h) (hs : NW (h 0 2) (h 4)) (hv : 0 ≤ v ∧ v < 32) (hc : 0 ≤ c ∧ c < h 0 2) (hm : 0 ≤ h 0 10 ∧ h 0 10 ≤ 6) (ht : ∀ k, 0 ≤ k → k < h 0 10 → R32 (h 8 (2 * k)) ∧ R32 (h 8 (2 * k + 1))) : ∀ (n : Nat) (k : Int), 0 ≤ k → k + n = h 0 10 → Ev shM mX9_isSo 27 [some (vr 0), some (vi c), some (vi g), some (vi (b2i (!anyB (bdB (h 8) c (aloneS h (up (h 4) 10 v) c)) k.toNat))), some (vi k)] [] (hG h v) (RI fun x h' => x = b2i (!anyB (bdB (h 8) c (aloneS h (up (h 4) 10 v) c)) (h 0 10).toNat) ∧ hG h v = h') := by
  have hG2 := hG_W hW hs hv
  have hn := hW.1.2.1
  have hA : R32 (aloneS h (up (h 4) 10 v) c) := by
    have h1 := ceil_r (sumC_r hW.1) (g := sGain (h 3) (fun c => h 2 (2 * c)) (up (h 4) 10 v) 0 c) (by
      have h1 := hs.1 c hc.1 hc.2
      have h2 := hW.2 (h 4 c) h1.1 h1.2.1
      have h3 := hW.2 c hc.1 hc.2
      unfold sGain
      rw [up_n (by omega : c ≠ 10)]
      exact (gainZ_r (by split <;> omega) ⟨h3.2.2.1, h3.2.2.2⟩).1)
    have h2 := hs.1 c hc.1 hc.2
    unfold aloneS
    rw [up_n (by omega)]
    omega
  intro n
  induction n with
  | zero =>
    intro k h0 h1
    have he : k = h 0 10 := by omega
    subst he
    refine ev_iload 29 dX9_isSo_27 rfl rfl ?_
    refine ev_aload_n 30 dX9_isSo_29 rfl rfl ?_
    refine ev_getI' 33 10 (h 0 10) fX9_151 rfl dX9_isSo_30 rfl rfl rfl (by decide) rfl rfl ?_
    refine ev_icmp_ge 36 84 dX9_isSo_33 rfl rfl (by omega) (by omega) (fun c33 => ?_) (fun c33 => ?_)
    · refine ev_iload_n 85 dX9_isSo_84 rfl rfl ?_
      exact ev_zret rfl dX9_isSo_85 (b2i_z _) (⟨rfl, rfl⟩)
    · omega --done
  | succ n ih =>
    intro k h0 h1
    have htk := ht k h0 (by omega)
    have K := ih (k + 1) (by omega) (by omega)
    rw [anyB_1 h0] at K
    refine ev_iload 29 dX9_isSo_27 rfl rfl ?_
    refine ev_aload_n 30 dX9_isSo_29 rfl rfl ?_
    refine ev_getI' 33 10 (h 0 10) fX9_151 rfl dX9_isSo_30 rfl rfl rfl (by decide) rfl rfl ?_
    refine ev_icmp_ge 36 84 dX9_isSo_33 rfl rfl (by omega) (by omega) (fun c33 => ?_) (fun c33 => ?_)
    · omega --done
    · refine ev_iload_n 37 dX9_isSo_36 rfl rfl ?_
      refine ev_if_eq 40 76 dX9_isSo_37 rfl rfl (b2i_r _) (fun c37 => ?_) (fun c37 => ?_)
      · have d37 := b2i_0.mp c37
        have hb : (!(anyB (bdB (h 8) c (aloneS h (up (h 4) 10 v) c)) k.toNat || bdB (h 8) c (aloneS h (up (h 4) 10 v) c) k)) = false := by
          first | (rw [Bool.not_eq_false'] at d37 ⊢; rw [d37]; rfl) | (rw [Bool.not_eq_false', Bool.or_eq_true]; right; unfold bdB; simp [c50, c69]; done)
        rw [hb] at K
        refine ev_iconst 77 dX9_isSo_76 rfl ?_
        refine ev_istore_n 78 dX9_isSo_77 rfl (Nat.le_of_ble_eq_true rfl) ?_
        refine ev_iinc 81 dX9_isSo_78 rfl rfl ?_
        refine ev_goto 27 dX9_isSo_81 rfl ?_
        exact K
      · have d37 := b2i_n.mp c37
        refine ev_aload_n 41 dX9_isSo_40 rfl rfl ?_
        refine ev_getR 44 fX9_32 rfl dX9_isSo_41 rfl rfl rfl ?_
        refine ev_iconst 45 dX9_isSo_44 rfl ?_
        refine ev_iload 47 dX9_isSo_45 rfl rfl ?_
        refine ev_imul 48 dX9_isSo_47 rfl ?_
        refine ev_iald' 49 (h 8 (2 * k)) dX9_isSo_48 rfl rfl (by decide) (by omega) rfl ?_
        refine ev_iload_n 50 dX9_isSo_49 rfl rfl ?_
        refine ev_icmp_ne 53 72 dX9_isSo_50 rfl rfl (by omega) (by omega) (fun c50 => ?_) (fun c50 => ?_)
        · have hb : (!(anyB (bdB (h 8) c (aloneS h (up (h 4) 10 v) c)) k.toNat || bdB (h 8) c (aloneS h (up (h 4) 10 v) c) k)) = true := by
            rw [Bool.not_eq_true'] at d37 ⊢
            rw [d37]
            unfold bdB
            first | (simp [c50]; done) | (simp [c69]; done)
          rw [hb] at K
          refine ev_iconst 73 dX9_isSo_72 rfl ?_
          refine ev_goto 77 dX9_isSo_73 rfl ?_
          refine ev_istore_n 78 dX9_isSo_77 rfl (Nat.le_of_ble_eq_true rfl) ?_
          refine ev_iinc 81 dX9_isSo_78 rfl rfl ?_
          refine ev_goto 27 dX9_isSo_81 rfl ?_
          exact K
        · refine ev_aload_n 54 dX9_isSo_53 rfl rfl ?_
          refine ev_getR 57 fX9_32 rfl dX9_isSo_54 rfl rfl rfl ?_
          refine ev_iconst 58 dX9_isSo_57 rfl ?_
          refine ev_iload 60 dX9_isSo_58 rfl rfl ?_
          refine ev_imul 61 dX9_isSo_60 rfl ?_
          refine ev_iconst 62 dX9_isSo_61 rfl ?_
          refine ev_iadd 63 dX9_isSo_62 rfl ?_
          refine ev_iald' 64 (h 8 (2 * k + 1)) dX9_isSo_63 rfl rfl (by decide) (by omega) rfl ?_
          refine ev_aload_n 65 dX9_isSo_64 rfl rfl ?_
          refine ev_iload_n 66 dX9_isSo_65 rfl rfl ?_
          refine cVi1 69 kX9_isSo_181 dX9_isSo_66 rfl rfl rfl rfl rfl (by decide) rfl (Nat.le_of_ble_eq_true rfl) (m_aloneOf (h := hG h v) hG2.1.1 hG2.1.2 hG2.2 hc) ?_
          rintro x _ ⟨e66, rfl⟩
          rw [aloneS_G hn hc] at e66
          rw [e66]
          refine ev_icmp_ne 72 76 dX9_isSo_69 rfl rfl (by omega) (by omega) (fun c69 => ?_) (fun c69 => ?_)
          · have hb : (!(anyB (bdB (h 8) c (aloneS h (up (h 4) 10 v) c)) k.toNat || bdB (h 8) c (aloneS h (up (h 4) 10 v) c) k)) = false := by
              first | (rw [Bool.not_eq_false'] at d37 ⊢; rw [d37]; rfl) | (rw [Bool.not_eq_false', Bool.or_eq_true]; right; unfold bdB; simp [c50, c69]; done)
            rw [hb] at K
            refine ev_iconst 77 dX9_isSo_76 rfl ?_
            refine ev_istore_n 78 dX9_isSo_77 rfl (Nat.le_of_ble_eq_true rfl) ?_
            refine ev_iinc 81 dX9_isSo_78 rfl rfl ?_
            refine ev_goto 27 dX9_isSo_81 rfl ?_
            exact K
          · have hb : (!(anyB (bdB (h 8) c (aloneS h (up (h 4) 10 v) c)) k.toNat || bdB (h 8) c (aloneS h (up (h 4) 10 v) c) k)) = true := by
              rw [Bool.not_eq_true'] at d37 ⊢
              rw [d37]
              unfold bdB
              first | (simp [c50]; done) | (simp [c69]; done)
            rw [hb] at K
            refine ev_iconst 73 dX9_isSo_72 rfl ?_
            refine ev_goto 77 dX9_isSo_73 rfl ?_
            refine ev_istore_n 78 dX9_isSo_77 rfl (Nat.le_of_ble_eq_true rfl) ?_
            refine ev_iinc 81 dX9_isSo_78 rfl rfl ?_
            refine ev_goto 27 dX9_isSo_81 rfl ?_
            exact K
theorem m_isSo {g : Int} (hW : MW h) (hs : NW (h 0 2) (h 4)) (hc : 0 ≤ c ∧ c < h 0 2) (hg : g = 0 ∨ g = 1) (hm : 0 ≤ h 0 10 ∧ h 0 10 ≤ 6) (ht : ∀ k, 0 ≤ k → k < h 0 10 → R32 (h 8 (2 * k)) ∧ R32 (h 8 (2 * k + 1))) : Ev shM mX9_isSo 0 [some (vr 0), some (vi c), some (vi g), none, none] [] h (RI fun x h' => x = b2i (!anyB (bdB (h 8) c (aloneS h (up (h 4) 10 (if g = 0 then 0 else 2 ^ c.toNat)) c)) (h 0 10).toNat) ∧ PsM h h') := by
  have hn := hW.1.2.1
  have hpw : (0 : Int) ≤ 2 ^ c.toNat ∧ (2 : Int) ^ c.toNat < 32 := by
    have : c = 0 ∨ c = 1 ∨ c = 2 ∨ c = 3 ∨ c = 4 := by omega
    rcases this with rfl | rfl | rfl | rfl | rfl <;> decide
  refine ev_aload_n 1 dX9_isSo_0 rfl rfl ?_
  refine cVv0 4 kX9_isSo_178 dX9_isSo_1 rfl rfl rfl rfl rfl (by decide) rfl (Nat.le_of_ble_eq_true rfl) (m_asItIs) ?_
  rintro _ rfl
  refine ev_aload_n 5 dX9_isSo_4 rfl rfl ?_
  refine ev_getR 8 fX9_47 rfl dX9_isSo_5 rfl rfl rfl ?_
  refine ev_bipush 10 dX9_isSo_8 rfl (by decide +kernel) ?_
  refine ev_iload_n 11 dX9_isSo_10 rfl rfl ?_
  refine ev_if_eq 14 20 dX9_isSo_11 rfl rfl (by omega) (fun c11 => ?_) (fun c11 => ?_)
  · rw [if_pos c11]
    refine ev_iconst 21 dX9_isSo_20 rfl ?_
    refine ev_iast' 22 (hG h _) dX9_isSo_21 rfl rfl (by decide) (by omega) hput_hput ?_
    refine ev_iconst 23 dX9_isSo_22 rfl ?_
    refine ev_istore_n 24 dX9_isSo_23 rfl (Nat.le_of_ble_eq_true rfl) ?_
    refine ev_iconst 25 dX9_isSo_24 rfl ?_
    refine ev_istore 27 dX9_isSo_25 rfl (Nat.le_of_ble_eq_true rfl) ?_
    refine ev_wk (m_isSo_loop hW hs (by omega) hc hm ht (h 0 10).toNat 0 (by omega) (by omega)) ?_
    rintro _ _ ⟨x, rfl, e1, rfl⟩
    exact ⟨x, rfl, e1, PsM.N⟩
  · rw [if_neg c11]
    refine ev_iconst 15 dX9_isSo_14 rfl ?_
    refine ev_iload_n 16 dX9_isSo_15 rfl rfl ?_
    refine ev_ishl 17 dX9_isSo_16 rfl (by omega) (by omega) (by omega) ?_
    rw [Int.one_mul]
    refine ev_goto 21 dX9_isSo_17 rfl ?_
    refine ev_iast' 22 (hG h _) dX9_isSo_21 rfl rfl (by decide) (by omega) hput_hput ?_
    refine ev_iconst 23 dX9_isSo_22 rfl ?_
    refine ev_istore_n 24 dX9_isSo_23 rfl (Nat.le_of_ble_eq_true rfl) ?_
    refine ev_iconst 25 dX9_isSo_24 rfl ?_
    refine ev_istore 27 dX9_isSo_25 rfl (Nat.le_of_ble_eq_true rfl) ?_
    refine ev_wk (m_isSo_loop hW hs (by omega) hc hm ht (h 0 10).toNat 0 (by omega) (by omega)) ?_
    rintro _ _ ⟨x, rfl, e1, rfl⟩
    exact ⟨x, rfl, e1, PsM.N⟩
end AS
