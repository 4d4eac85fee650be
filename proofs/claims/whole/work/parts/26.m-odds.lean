def wF (x ill : Int) : Nat → Int → Int → Int
  | 0, _, w => w
  | k + 1, p, w => wF x ill k (p + 1) (w * (if bit ill p = 0 then 10 - x else x))
theorem wF_r {x ill : Int} (hx : 0 ≤ x ∧ x ≤ 10) : ∀ (k : Nat) (p w : Int), 0 ≤ w → 0 ≤ wF x ill k p w ∧ wF x ill k p w ≤ w * 10 ^ k := by
  intro k
  induction k with
  | zero => intro p w hw; exact ⟨hw, by show w ≤ w * 10 ^ 0; omega⟩
  | succ k ih =>
    intro p w hw
    unfold wF
    generalize hv : (if bit ill p = 0 then 10 - x else x) = v
    have hv2 : 0 ≤ v ∧ v ≤ 10 := by rw [← hv]; split <;> omega
    have h1 : 0 ≤ w * v := Int.mul_nonneg hw hv2.1
    have h2 : w * v ≤ w * 10 := Int.mul_le_mul_of_nonneg_left hv2.2 hw
    have h3 := ih (p + 1) (w * v) h1
    refine ⟨h3.1, Int.le_trans h3.2 ?_⟩
    have h4 : w * v * 10 ^ k ≤ w * 10 * 10 ^ k := Int.mul_le_mul_of_nonneg_right h2 (Int.le_of_lt (Int.pow_pos (by decide)))
    rw [Int.pow_succ]
    have e : w * (10 ^ k * 10) = w * 10 * 10 ^ k := by rw [Int.mul_comm (10 ^ k) 10, Int.mul_assoc]
    omega
theorem wF_b {x ill n : Int} (hx : 0 ≤ x ∧ x ≤ 10) (hn : 0 ≤ n ∧ n ≤ 5) : 0 ≤ wF x ill n.toNat 0 1 ∧ wF x ill n.toNat 0 1 ≤ 100000 := by
  have h := wF_r (ill := ill) hx n.toNat 0 1 (by omega)
  refine ⟨h.1, Int.le_trans h.2 ?_⟩
  have : n = 0 ∨ n = 1 ∨ n = 2 ∨ n = 3 ∨ n = 4 ∨ n = 5 := by omega
  rcases this with rfl | rfl | rfl | rfl | rfl | rfl <;> decide
def winI (h : Hp) (ill : Int) : Int := (raceS h (h 4) ill).2.2.2.1 0
def oddF (n : Int) (win : Int → Int) (c x : Int) : Nat → Int
  | 0 => 0
  | i + 1 => oddF n win c x i + (if win i = c then wF x i n.toNat 0 1 else 0)
theorem oddF_s {n : Int} {win : Int → Int} {c x : Int} {i : Nat} : oddF n win c x (i + 1) = oddF n win c x i + (if win i = c then wF x i n.toNat 0 1 else 0) := rfl
theorem oddF_r {n : Int} {win : Int → Int} {c x : Int} (hx : 0 ≤ x ∧ x ≤ 10) (hn : 0 ≤ n ∧ n ≤ 5) : ∀ i : Nat, 0 ≤ oddF n win c x i ∧ oddF n win c x i ≤ 100000 * i := by
  intro i
  induction i with
  | zero => exact ⟨Int.le_refl _, Int.le_refl _⟩
  | succ i ih =>
    unfold oddF
    have := wF_b (ill := i) hx hn
    split <;> omega
section OD
variable {h : Hp}
theorem m_odds_w {H : Hp} {post : Option AV → Hp → Prop} {c x wh be ab ill : Int} (hn : 0 ≤ H 0 2 ∧ H 0 2 ≤ 5) (hi : 0 ≤ ill ∧ ill < 32) : ∀ (k : Nat) (p w : Int), 0 ≤ p → p + k = H 0 2 → Ev shM mX9_odds 132 [some (vr 0), some (vi c), some (vi x), some (vi wh), some (vi be), some (vi ab), some (vi ill), some (vi (wF x ill k p w)), some (vi (H 0 2))] [] H post → Ev shM mX9_odds 94 [some (vr 0), some (vi c), some (vi x), some (vi wh), some (vi be), some (vi ab), some (vi ill), some (vi w), some (vi p)] [] H post := by
  intro k
  induction k with
  | zero =>
    intro p w h0 h1 K
    have he : p = H 0 2 := by omega
    subst he
    refine ev_iload 96 dX9_odds_94 rfl rfl ?_
    refine ev_aload_n 97 dX9_odds_96 rfl rfl ?_
    refine ev_getI 100 2 fX9_74 rfl dX9_odds_97 rfl rfl rfl (by decide) rfl ?_
    refine ev_icmp_ge 103 132 dX9_odds_100 rfl rfl (by omega) (by omega) (fun c100 => ?_) (fun c100 => ?_)
    · exact K
    · omega --done
  | succ k ih =>
    intro p w h0 h1 K
    have hz := bit_z ill p
    unfold wF at K
    refine ev_iload 96 dX9_odds_94 rfl rfl ?_
    refine ev_aload_n 97 dX9_odds_96 rfl rfl ?_
    refine ev_getI 100 2 fX9_74 rfl dX9_odds_97 rfl rfl rfl (by decide) rfl ?_
    refine ev_icmp_ge 103 132 dX9_odds_100 rfl rfl (by omega) (by omega) (fun c100 => ?_) (fun c100 => ?_)
    · omega --done
    · refine ev_iload 105 dX9_odds_103 rfl rfl ?_
      refine ev_iload 107 dX9_odds_105 rfl rfl ?_
      refine ev_iload 109 dX9_odds_107 rfl rfl ?_
      refine cSi2 112 kX9_odds_158 dX9_odds_109 rfl rfl (by decide) rfl (Nat.le_of_ble_eq_true rfl) (m_has ⟨hi.1, by omega⟩ (by omega)) ?_
      rintro y _ ⟨e109, rfl⟩
      rw [show y = bit ill p from e109]
      refine ev_if_eq 115 119 dX9_odds_112 rfl rfl (by omega) (fun c112 => ?_) (fun c112 => ?_)
      · rw [if_pos c112] at K
        refine ev_bipush 121 dX9_odds_119 rfl (by decide +kernel) ?_
        refine ev_iload_n 122 dX9_odds_121 rfl rfl ?_
        refine ev_isub 123 dX9_odds_122 rfl ?_
        refine ev_imul 124 dX9_odds_123 rfl ?_
        refine ev_istore 126 dX9_odds_124 rfl (Nat.le_of_ble_eq_true rfl) ?_
        refine ev_iinc 129 dX9_odds_126 rfl rfl ?_
        refine ev_goto 94 dX9_odds_129 rfl ?_
        exact ih (p + 1) _ (by omega) (by omega) K
      · rw [if_neg c112] at K
        refine ev_iload_n 116 dX9_odds_115 rfl rfl ?_
        refine ev_goto 123 dX9_odds_116 rfl ?_
        refine ev_imul 124 dX9_odds_123 rfl ?_
        refine ev_istore 126 dX9_odds_124 rfl (Nat.le_of_ble_eq_true rfl) ?_
        refine ev_iinc 129 dX9_odds_126 rfl rfl ?_
        refine ev_goto 94 dX9_odds_129 rfl ?_
        exact ih (p + 1) _ (by omega) (by omega) K
theorem m_odds_be (hn : 0 ≤ h 0 2 ∧ h 0 2 ≤ 5) {post : Option AV → Hp → Prop} {x1 x2 x3 : Option AV} : ∀ (k : Nat) (e : Int), 0 ≤ e → e + k = h 0 2 → Ev shM mX9_odds 67 [some (vr 0), x1, x2, x3, some (vi (pw 10 (h 0 2).toNat)), some (vi (h 0 2)), none, none, none] [] h post → Ev shM mX9_odds 45 [some (vr 0), x1, x2, x3, some (vi (pw 10 e.toNat)), some (vi e), none, none, none] [] h post := by
  intro k
  induction k with
  | zero =>
    intro e h0 h1 K
    have he : e = h 0 2 := by omega
    subst he
    refine ev_iload 47 dX9_odds_45 rfl rfl ?_
    refine ev_aload_n 48 dX9_odds_47 rfl rfl ?_
    refine ev_getI 51 2 fX9_74 rfl dX9_odds_48 rfl rfl rfl (by decide) rfl ?_
    refine ev_icmp_ge 54 67 dX9_odds_51 rfl rfl (by omega) (by omega) (fun c51 => ?_) (fun c51 => ?_)
    · exact K
    · omega --done
  | succ k ih =>
    intro e h0 h1 K
    have K2 := ih (e + 1) (by omega) (by omega) K
    rw [show (e + 1).toNat = e.toNat + 1 by omega] at K2
    refine ev_iload 47 dX9_odds_45 rfl rfl ?_
    refine ev_aload_n 48 dX9_odds_47 rfl rfl ?_
    refine ev_getI 51 2 fX9_74 rfl dX9_odds_48 rfl rfl rfl (by decide) rfl ?_
    refine ev_icmp_ge 54 67 dX9_odds_51 rfl rfl (by omega) (by omega) (fun c51 => ?_) (fun c51 => ?_)
    · omega --done
    · refine ev_iload 56 dX9_odds_54 rfl rfl ?_
      refine ev_bipush 58 dX9_odds_56 rfl (by decide +kernel) ?_
      refine ev_imul 59 dX9_odds_58 rfl ?_
      refine ev_istore 61 dX9_odds_59 rfl (Nat.le_of_ble_eq_true rfl) ?_
      refine ev_iinc 64 dX9_odds_61 rfl rfl ?_
      refine ev_goto 45 dX9_odds_64 rfl ?_
      exact K2
theorem m_odds_g {H : Hp} {c x wh be ab : Int} (hab : 0 ≤ ab ∧ ab < 2147483648) (hbe : 0 < be ∧ be < 2147483648) : ∀ (k : Nat) (y z : Int) (o8 : Option AV), 0 ≤ y ∧ y < 2147483648 → 0 ≤ z ∧ z < 2147483648 → z ≤ k → Nat.gcd y.toNat z.toNat = Nat.gcd ab.toNat be.toNat → Ev shM mX9_odds 173 [some (vr 0), some (vi c), some (vi x), some (vi wh), some (vi be), some (vi ab), some (vi y), some (vi z), o8] [] H (RI fun r h' => r = (if wh = 0 then ab else be) / ((Nat.gcd ab.toNat be.toNat : Nat) : Int) ∧ H = h') ∨ ¬ R32 wh := by
  intro k
  induction k with
  | zero =>
    intro y z o8 hy hz hk hg
    by_cases hwh : R32 wh
    · left
      have hz0 : z = 0 := by omega
      subst hz0
      have hy2 : y = ((Nat.gcd ab.toNat be.toNat : Nat) : Int) := by
        rw [← hg, show (0 : Int).toNat = 0 from rfl, Nat.gcd_zero_right, Int.toNat_of_nonneg hy.1]
      have hpos : 0 < y := by
        have : 0 < Nat.gcd ab.toNat be.toNat := Nat.gcd_pos_of_pos_right _ (by omega)
        omega
      rw [← hy2]
      refine ev_iload 175 dX9_odds_173 rfl rfl ?_
      refine ev_if_le 178 196 dX9_odds_175 rfl rfl (by omega) (fun c175 => ?_) (fun c175 => ?_)
      · refine ev_iload_n 197 dX9_odds_196 rfl rfl ?_
        refine ev_if_ne 200 205 dX9_odds_197 rfl rfl (by omega) (fun c197 => ?_) (fun c197 => ?_)
        · rw [if_neg c197]
          refine ev_iload 207 dX9_odds_205 rfl rfl ?_
          refine ev_iload 209 dX9_odds_207 rfl rfl ?_
          refine ev_idiv 210 dX9_odds_209 rfl (by omega) (by omega) ?_
          exact ev_iret rfl dX9_odds_210 (⟨rfl, rfl⟩)
        · rw [if_pos c197]
          refine ev_iload 202 dX9_odds_200 rfl rfl ?_
          refine ev_goto 207 dX9_odds_202 rfl ?_
          refine ev_iload 209 dX9_odds_207 rfl rfl ?_
          refine ev_idiv 210 dX9_odds_209 rfl (by omega) (by omega) ?_
          exact ev_iret rfl dX9_odds_210 (⟨rfl, rfl⟩)
      · omega --done
    · right; exact hwh
  | succ k ih =>
    intro y z o8 hy hz hk hg
    by_cases hwh : R32 wh
    · left
      by_cases hz0 : z = 0
      · exact (ih y z o8 hy hz (by omega) hg).resolve_right (fun q => q hwh)
      · have hd := q_dr hy (show 0 < z by omega)
        refine ev_iload 175 dX9_odds_173 rfl rfl ?_
        refine ev_if_le 178 196 dX9_odds_175 rfl rfl (by omega) (fun c175 => ?_) (fun c175 => ?_)
        · omega --done
        · refine ev_iload 180 dX9_odds_178 rfl rfl ?_
          refine ev_iload 182 dX9_odds_180 rfl rfl ?_
          refine ev_irem 183 dX9_odds_182 rfl (by omega) (by omega) ?_
          refine ev_istore 185 dX9_odds_183 rfl (Nat.le_of_ble_eq_true rfl) ?_
          refine ev_iload 187 dX9_odds_185 rfl rfl ?_
          refine ev_istore 189 dX9_odds_187 rfl (Nat.le_of_ble_eq_true rfl) ?_
          refine ev_iload 191 dX9_odds_189 rfl rfl ?_
          refine ev_istore 193 dX9_odds_191 rfl (Nat.le_of_ble_eq_true rfl) ?_
          refine ev_goto 173 dX9_odds_193 rfl ?_
          exact (ih z (y % z) _ hz ⟨hd.2.1, by omega⟩ (by omega) (by rw [← hg, Nat.gcd_comm y.toNat, Nat.gcd_rec z.toNat y.toNat, Nat.gcd_comm z.toNat, show (y % z).toNat = y.toNat % z.toNat by rw [Int.toNat_emod hy.1 hz.1]])).resolve_right (fun q => q hwh)
    · right; exact hwh
theorem m_odds_loop (hW : MW h) (hs : NW (h 0 2) (h 4)) {c x wh : Int} (hc : 0 ≤ c ∧ c < h 0 2) (hx : 0 ≤ x ∧ x ≤ 10) (hwh : R32 wh) : ∀ (k : Nat) (i : Nat) (H : Hp) (o7 o8 : Option AV), i + k = 2 ^ (h 0 2).toNat → PsM h H → H 13 = hN h 13 → Ev shM mX9_odds 77 [some (vr 0), some (vi c), some (vi x), some (vi wh), some (vi (pw 10 (h 0 2).toNat)), some (vi (oddF (h 0 2) (winI h) c x i)), some (vi (i : Int)), o7, o8] [] H (RI fun r h' => PsM h h' ∧ r = (if wh = 0 then oddF (h 0 2) (winI h) c x (2 ^ (h 0 2).toNat) else pw 10 (h 0 2).toNat) / ((Nat.gcd (oddF (h 0 2) (winI h) c x (2 ^ (h 0 2).toNat)).toNat (pw 10 (h 0 2).toNat).toNat : Nat) : Int)) := by
  have hn : 0 < h 0 2 ∧ h 0 2 ≤ 5 := ⟨hW.1.1, hW.1.2.1⟩
  have hp2 : (1 : Int) * 2 ^ (h 0 2).toNat = ((2 ^ (h 0 2).toNat : Nat) : Int) := by rw [Int.one_mul, Int.natCast_pow]; rfl
  have hpb : (2 ^ (h 0 2).toNat : Nat) ≤ 32 ∧ 1 ≤ pw 10 (h 0 2).toNat ∧ pw 10 (h 0 2).toNat ≤ 100000 := by
    have : h 0 2 = 1 ∨ h 0 2 = 2 ∨ h 0 2 = 3 ∨ h 0 2 = 4 ∨ h 0 2 = 5 := by omega
    rcases this with e | e | e | e | e <;> rw [e] <;> decide
  intro k
  induction k with
  | zero =>
    intro i H o7 o8 h1 p h13
    have e02 : H 0 2 = h 0 2 := p.2 2 (by omega)
    have hi : i = 2 ^ (h 0 2).toNat := by omega
    have hab := oddF_r (win := winI h) (c := c) hx ⟨by omega, hn.2⟩ i
    rw [← hi] at hpb ⊢
    have K := (m_odds_g (H := H) (c := c) (x := x) (wh := wh) (be := pw 10 (h 0 2).toNat) (ab := oddF (h 0 2) (winI h) c x i) (by omega) (by omega) (pw 10 (h 0 2).toNat).toNat (oddF (h 0 2) (winI h) c x i) (pw 10 (h 0 2).toNat) o8 (by omega) (by omega) (by omega) rfl).resolve_right (fun q => q hwh)
    refine ev_iload 79 dX9_odds_77 rfl rfl ?_
    refine ev_iconst 80 dX9_odds_79 rfl ?_
    refine ev_aload_n 81 dX9_odds_80 rfl rfl ?_
    refine ev_getI' 84 2 (h 0 2) fX9_74 rfl dX9_odds_81 rfl rfl rfl (by decide) rfl e02 ?_
    refine ev_ishl 85 dX9_odds_84 rfl (by omega) (by omega) (by omega) ?_
    rw [hp2, ← hi]
    refine ev_icmp_ge 88 165 dX9_odds_85 rfl rfl (by omega) (by omega) (fun c85 => ?_) (fun c85 => ?_)
    · refine ev_iload 167 dX9_odds_165 rfl rfl ?_
      refine ev_istore 169 dX9_odds_167 rfl (Nat.le_of_ble_eq_true rfl) ?_
      refine ev_iload 171 dX9_odds_169 rfl rfl ?_
      refine ev_istore 173 dX9_odds_171 rfl (Nat.le_of_ble_eq_true rfl) ?_
      refine ev_wk K ?_
      rintro _ _ ⟨r, rfl, e1, rfl⟩
      exact ⟨r, rfl, p, e1⟩
    · omega --done
  | succ k ih =>
    intro i H o7 o8 h1 p h13
    have e02 : H 0 2 = h 0 2 := p.2 2 (by omega)
    have hM : MW H := p.W hW
    have hNf : NW (H 0 2) (H 13) := by rw [e02, h13]; exact (hN_W hW hs).2
    have hab := oddF_r (win := winI h) (c := c) hx ⟨by omega, hn.2⟩ i
    have hwb := wF_b (ill := (i : Int)) hx ⟨by omega, hn.2⟩
    have hO2 : (raceS h (hN h 13) i).2.2.2.2 = h 0 2 := (raceS_ok (hN_W hW hs).1 (hN_W hW hs).2 i).2
    have hA := raceS_ag (h := h) (s := h 4) (s' := hN h 13) (ill := (i : Int)) ⟨by omega, hn.2⟩ (fun i a b => hN_at a b)
    have hwr := (raceS_ok hW hs i).1.2.2 0 (by omega) (by have := (raceS_ok hW hs i).2; omega)
    have hwr : 0 ≤ winI h i ∧ winI h i < h 0 2 := hwr
    refine ev_iload 79 dX9_odds_77 rfl rfl ?_
    refine ev_iconst 80 dX9_odds_79 rfl ?_
    refine ev_aload_n 81 dX9_odds_80 rfl rfl ?_
    refine ev_getI' 84 2 (h 0 2) fX9_74 rfl dX9_odds_81 rfl rfl rfl (by decide) rfl e02 ?_
    refine ev_ishl 85 dX9_odds_84 rfl (by omega) (by omega) (by omega) ?_
    rw [hp2]
    refine ev_icmp_ge 88 165 dX9_odds_85 rfl rfl (by omega) (by omega) (fun c85 => ?_) (fun c85 => ?_)
    · omega --done
    · refine ev_iconst 89 dX9_odds_88 rfl ?_
      refine ev_istore 91 dX9_odds_89 rfl (Nat.le_of_ble_eq_true rfl) ?_
      refine ev_iconst 92 dX9_odds_91 rfl ?_
      refine ev_istore 94 dX9_odds_92 rfl (Nat.le_of_ble_eq_true rfl) ?_
      refine m_odds_w (by rw [e02]; omega) (by omega) (h 0 2).toNat 0 1 (by omega) (by rw [e02]; omega) ?_
      refine ev_aload_n 133 dX9_odds_132 rfl rfl ?_
      refine ev_iload 135 dX9_odds_133 rfl rfl ?_
      refine cVv1 138 kX9_odds_192 dX9_odds_135 rfl rfl rfl rfl rfl (by decide) rfl (Nat.le_of_ble_eq_true rfl) (m_racesS hM hNf (by omega)) ?_
      rintro H2 ⟨p1, q13, -, -, q17⟩
      have q17 : H2 17 0 = winI h i := by
        rw [q17 0 (by omega) (by rw [e02]; omega), raceS_P p, h13]
        exact hA.2.2.2.1 0 (by omega) (by omega)
      have K2 := ih (i + 1) H2 (some (vi (wF x i (h 0 2).toNat 0 1))) (some (vi (H 0 2))) (by omega) (p.tr p1) (q13.trans h13)
      rw [oddF_s (i := i)] at K2
      refine ev_iload 140 dX9_odds_138 rfl rfl ?_
      refine ev_aload_n 141 dX9_odds_140 rfl rfl ?_
      refine ev_getR 144 fX9_59 rfl dX9_odds_141 rfl rfl rfl ?_
      refine ev_iconst 145 dX9_odds_144 rfl ?_
      refine ev_iald' 146 (winI h i) dX9_odds_145 rfl rfl (by decide) (by omega) q17 ?_
      refine ev_iload_n 147 dX9_odds_146 rfl rfl ?_
      refine ev_icmp_ne 150 155 dX9_odds_147 rfl rfl (by omega) (by omega) (fun c147 => ?_) (fun c147 => ?_)
      · rw [if_neg c147] at K2
        refine ev_iconst 156 dX9_odds_155 rfl ?_
        refine ev_iadd 157 dX9_odds_156 rfl ?_
        refine ev_istore 159 dX9_odds_157 rfl (Nat.le_of_ble_eq_true rfl) ?_
        refine ev_iinc 162 dX9_odds_159 rfl rfl ?_
        exact ev_goto 77 dX9_odds_162 rfl K2
      · rw [if_pos c147] at K2
        refine ev_iload 152 dX9_odds_150 rfl rfl ?_
        refine ev_goto 156 dX9_odds_152 rfl ?_
        refine ev_iadd 157 dX9_odds_156 rfl ?_
        refine ev_istore 159 dX9_odds_157 rfl (Nat.le_of_ble_eq_true rfl) ?_
        refine ev_iinc 162 dX9_odds_159 rfl rfl ?_
        exact ev_goto 77 dX9_odds_162 rfl K2
def oddsM (n : Int) (win : Int → Int) (c x wh : Int) : Int := (if wh = 0 then oddF n win c x (2 ^ n.toNat) else pw 10 n.toNat) / ((Nat.gcd (oddF n win c x (2 ^ n.toNat)).toNat (pw 10 n.toNat).toNat : Nat) : Int)
theorem m_odds {c x wh : Int} (hc : R32 c) (hx : R32 x) (hwh : R32 wh) (hl : 0 ≤ h 0 0 ∧ h 0 0 ≤ 16) (hn : 0 ≤ h 0 2 ∧ h 0 2 ≤ 5) (hW : 0 < h 0 0 ∧ 0 < h 0 2 → MW h) (hs : NW (h 0 2) (h 4)) : Ev shM mX9_odds 0 [some (vr 0), some (vi c), some (vi x), some (vi wh), none, none, none, none, none] [] h (RI fun r h' => PsM h h' ∧ r = (if (0 ≤ c ∧ c < h 0 2) ∧ (0 ≤ x ∧ x ≤ 10) ∧ 0 ≤ wh ∧ wh ≤ 1 then (if 0 < h 0 0 ∧ 0 < h 0 2 then oddsM (h 0 2) (winI h) c x wh else -2) else -1)) := by
  refine ev_aload_n 1 dX9_odds_0 rfl rfl ?_
  refine ev_iload_n 2 dX9_odds_1 rfl rfl ?_
  refine cVi1 5 kX9_odds_175 dX9_odds_2 rfl rfl rfl rfl rfl (by decide) rfl (Nat.le_of_ble_eq_true rfl) (m_isChair hc hn) ?_
  rintro y _ ⟨rfl, rfl⟩
  refine ev_if_eq 8 27 dX9_odds_5 rfl rfl it_r (fun c5 => ?_) (fun c5 => ?_)
  · have d5 := it_0.mp c5
    rw [if_neg (by omega)]
    refine ev_iconst 28 dX9_odds_27 rfl ?_
    exact ev_iret rfl dX9_odds_28 (⟨PsM.rf, rfl⟩)
  · have d5 := it_1.mp c5
    refine ev_iload_n 9 dX9_odds_8 rfl rfl ?_
    refine ev_iconst 10 dX9_odds_9 rfl ?_
    refine ev_bipush 12 dX9_odds_10 rfl (by decide +kernel) ?_
    refine cSi3 15 kX9_odds_78 dX9_odds_12 rfl rfl (by decide) rfl (Nat.le_of_ble_eq_true rfl) (m_in hx ⟨by decide, by decide⟩ ⟨by decide, by decide⟩) ?_
    rintro y _ ⟨rfl, rfl⟩
    refine ev_if_eq 18 27 dX9_odds_15 rfl rfl it_r (fun c15 => ?_) (fun c15 => ?_)
    · have d15 := it_0.mp c15
      rw [if_neg (by omega)]
      refine ev_iconst 28 dX9_odds_27 rfl ?_
      exact ev_iret rfl dX9_odds_28 (⟨PsM.rf, rfl⟩)
    · have d15 := it_1.mp c15
      refine ev_iload_n 19 dX9_odds_18 rfl rfl ?_
      refine ev_iconst 20 dX9_odds_19 rfl ?_
      refine ev_iconst 21 dX9_odds_20 rfl ?_
      refine cSi3 24 kX9_odds_78 dX9_odds_21 rfl rfl (by decide) rfl (Nat.le_of_ble_eq_true rfl) (m_in hwh ⟨by decide, by decide⟩ ⟨by decide, by decide⟩) ?_
      rintro y _ ⟨rfl, rfl⟩
      refine ev_if_ne 27 29 dX9_odds_24 rfl rfl it_r (fun c24 => ?_) (fun c24 => ?_)
      · have d24 := it_1.mp c24
        rw [if_pos (by omega)]
        refine ev_aload_n 30 dX9_odds_29 rfl rfl ?_
        refine cVi0 33 kX9_odds_184 dX9_odds_30 rfl rfl rfl rfl rfl (by decide) rfl (Nat.le_of_ble_eq_true rfl) (m_isRace (by omega) (by omega)) ?_
        rintro y _ ⟨rfl, rfl⟩
        refine ev_if_ne 36 39 dX9_odds_33 rfl rfl it_r (fun c33 => ?_) (fun c33 => ?_)
        · have d33 := it_1.mp c33
          rw [if_pos d33]
          refine ev_iconst 40 dX9_odds_39 rfl ?_
          refine ev_istore 42 dX9_odds_40 rfl (Nat.le_of_ble_eq_true rfl) ?_
          refine ev_iconst 43 dX9_odds_42 rfl ?_
          refine ev_istore 45 dX9_odds_43 rfl (Nat.le_of_ble_eq_true rfl) ?_
          refine m_odds_be hn (h 0 2).toNat 0 (by omega) (by omega) ?_
          refine ev_iconst 68 dX9_odds_67 rfl ?_
          refine ev_istore 70 dX9_odds_68 rfl (Nat.le_of_ble_eq_true rfl) ?_
          refine ev_aload_n 71 dX9_odds_70 rfl rfl ?_
          refine cVv0 74 kX9_odds_178 dX9_odds_71 rfl rfl rfl rfl rfl (by decide) rfl (Nat.le_of_ble_eq_true rfl) m_asItIs ?_
          rintro _ rfl
          refine ev_iconst 75 dX9_odds_74 rfl ?_
          refine ev_istore 77 dX9_odds_75 rfl (Nat.le_of_ble_eq_true rfl) ?_
          exact m_odds_loop (hW d33) hs d5 d15 hwh (2 ^ (h 0 2).toNat) 0 (hN h) none none (by omega) PsM.N rfl
        · have d33 := it_0.mp c33
          rw [if_neg d33]
          refine ev_bipush 38 dX9_odds_36 rfl (by decide +kernel) ?_
          exact ev_iret rfl dX9_odds_38 (⟨PsM.rf, rfl⟩)
      · have d24 := it_0.mp c24
        rw [if_neg (by omega)]
        refine ev_iconst 28 dX9_odds_27 rfl ?_
        exact ev_iret rfl dX9_odds_28 (⟨PsM.rf, rfl⟩)
end OD
