def TT (t : Int → Int) (L : Int) : Prop := (0 ≤ L ∧ L ≤ 120) ∧ ∀ i, 0 ≤ i → i < L → 0 ≤ t i ∧ t i ≤ 255
theorem tK_r {t : Int → Int} {L : Int} (hT : TT t L) {p : Int} (hp : 0 ≤ p ∧ p ≤ L) : -2 ≤ tK t L p ∧ tK t L p ≤ 255 := by
  have h1 := tS_r (t := t) hp.2
  unfold tK eK
  by_cases q : tS t L p < L
  · have := hT.2 (tS t L p) (by omega) q
    rw [if_pos q]
    split <;> omega
  · rw [if_neg q]; omega
theorem tV_r {t : Int → Int} {L : Int} (hT : TT t L) {p : Int} (hp : 0 ≤ p ∧ p ≤ L) (hk : tK t L p = -2) : -1 ≤ tV t L p ∧ tV t L p ≤ 99 := by
  have h1 := tS_r (t := t) hp.2
  have h2 := eE_r (t := t) h1.2
  have q : tS t L p < L := by
    apply Classical.byContradiction
    intro q
    unfold tK eK at hk
    rw [if_neg q] at hk
    omega
  have h3 := h2.2.2 q
  have hd : digB (t (tS t L p)) = true := by
    cases d : digB (t (tS t L p)) with
    | true => rfl
    | false =>
      have := hT.2 (tS t L p) (by omega) q
      unfold tK eK at hk
      rw [if_pos q, d, if_neg (by decide)] at hk
      omega
  have e : eE t L (tS t L p) = dge t L (L - tS t L p).toNat (tS t L p) := by unfold eE; rw [if_pos q, if_pos hd]
  have := nvP_r (t := t) (s := tS t L p) (p := eE t L (tS t L p)) (by omega) (fun z a b => dge_dig (L := L) (L - tS t L p).toNat (tS t L p) z (by omega) a (by rw [← e]; exact b))
  unfold nvP at this
  rw [if_neg (by omega)] at this
  exact this
/-- the token at q is at hand -/
def AT (h : Hp) (t : Int → Int) (L q : Int) : Prop := h 12 = t ∧ h 1 1 = L ∧ h 1 2 = tE t L q ∧ h 1 3 = tK t L q ∧ h 1 4 = tS t L q ∧ (tK t L q = -2 → h 1 5 = tV t L q)
def PD (h h' : Hp) : Prop := (∀ k, k ≠ 1 → k ≠ 3 → (k < 17 ∨ 20 < k) → h' k = h k) ∧ h' 1 1 = h 1 1
theorem PD.rf {h : Hp} : PD h h := ⟨fun _ _ _ _ => rfl, rfl⟩
theorem PD.tr {h h1 h2 : Hp} (a : PD h h1) (b : PD h1 h2) : PD h h2 := ⟨fun k x y z => (b.1 k x y z).trans (a.1 k x y z), b.2.trans a.2⟩
theorem PD.h1 {h : Hp} {f : Int → Int} (e : f 1 = h 1 1) : PD h (hput h 1 f) := ⟨fun _ a _ _ => hput_n a, e⟩
theorem PD.h20 {h : Hp} {f : Int → Int} : PD h (hput h 20 f) := ⟨fun _ _ _ c => hput_n (by omega), rfl⟩
theorem PD.spE {h : Hp} : PD h (spE h) := ⟨fun _ _ b _ => hput_n b, rfl⟩
theorem PD.spC {h : Hp} {x : Int} : PD h (spC h x) := ⟨fun k a b c => by
  show cond (Nat.beq k 17) _ (cond (Nat.beq k 3) _ (h k)) = h k
  rw [nbf (by omega), nbf (by omega)]
  rfl, rfl⟩
theorem PD.spR {h : Hp} {w p : Int} : PD h (spR h w p) := ⟨fun k a b c => by
  show cond (Nat.beq k 18) _ (cond (Nat.beq k 19) _ (cond (Nat.beq k 20) _ (cond (Nat.beq k 3) _ (h k)))) = h k
  rw [nbf (by omega), nbf (by omega), nbf (by omega), nbf (by omega)]
  rfl, rfl⟩
/-- the draft is what was read -/
def SD (h : Hp) (S : PS) : Prop := h 3 4 = S.1 ∧ (∀ i, 0 ≤ i → i < S.1 → h 17 i = S.2.1 i) ∧ h 3 5 = S.2.2.1 ∧ (∀ c, 0 ≤ c → c < S.2.2.1 → h 18 c = S.2.2.2.1 c ∧ h 19 c = S.2.2.2.2.1 c ∧ h 20 c = S.2.2.2.2.2 c) ∧ h 3 6 = sumZ S.2.1 S.1.toNat
def RES (r : Int ⊕ (PS × Int)) (x : Int) (h' : Hp) : Prop := match r with
  | .inl f => x = 0 ∧ h' 1 4 = f
  | .inr q => x = 1 ∧ SD h' q.1 ∧ h' 1 2 = q.2
section CR
variable {h : Hp} {t : Int → Int} {L : Int}
theorem c_rT (hT : TT t L) {p : Int} (e12 : h 12 = t) (e1 : h 1 1 = L) (e2 : h 1 2 = p) (hp : 0 ≤ p ∧ p ≤ L) : Ev shC mX5_readToken 0 [some (vr 1)] [] h (RV fun h' => ∃ f, h' = hput h 1 f ∧ f 1 = L ∧ AT h' t L p) := by
  subst e12 e1 e2
  refine ev_wk (c_readToken hT.1 hp hT.2) ?_
  rintro _ _ ⟨rfl, f, rfl, a1, a2, a3, a4, a5⟩
  exact ⟨rfl, f, rfl, a1, rfl, a1, a2, a3, a4, fun z => a5 (a3.trans z)⟩
theorem c_readNumber (hT : TT t L) {p lo hi : Int} (e12 : h 12 = t) (e1 : h 1 1 = L) (e2 : h 1 2 = p) (hp : 0 ≤ p ∧ p ≤ L) (hlo : R32 lo) (hhi : R32 hi) : Ev shC mX5_readNumber 0 [some (vr 1), some (vi lo), some (vi hi)] [] h (RI fun x h' => x = b2i (numB t L p lo hi) ∧ ∃ f, h' = hput h 1 f ∧ f 1 = L ∧ AT h' t L p) := by
  have hk := tK_r hT hp
  have hv := tV_r hT hp
  refine ev_aload_n 1 dX5_readNumber_0 rfl rfl ?_
  refine cVv0 4 kX5_readNumber_27 dX5_readNumber_1 rfl rfl rfl rfl rfl (by decide) rfl (Nat.le_of_ble_eq_true rfl) (c_rT hT e12 e1 e2 hp) ?_
  rintro _ ⟨f, rfl, f1, A⟩
  refine ev_aload_n 5 dX5_readNumber_4 rfl rfl ?_
  refine ev_getI' 8 3 (tK t L p) fX5_30 rfl dX5_readNumber_5 rfl rfl rfl (by decide) rfl A.2.2.2.1 ?_
  refine ev_bipush 10 dX5_readNumber_8 rfl (by decide +kernel) ?_
  refine ev_icmp_ne 13 33 dX5_readNumber_10 rfl rfl (by omega) (by omega) (fun c10 => ?_) (fun c10 => ?_)
  · have e : numB t L p lo hi = false := by
      cases z : numB t L p lo hi with
      | false => rfl
      | true =>
        have z := numB_t.mp z
        omega
    rw [e]
    refine ev_iconst 34 dX5_readNumber_33 rfl ?_
    exact ev_zret rfl dX5_readNumber_34 (by omega) (⟨rfl, f, rfl, f1, A⟩)
  · have hv := hv c10
    refine ev_aload_n 14 dX5_readNumber_13 rfl rfl ?_
    refine ev_getI' 17 5 (tV t L p) fX5_67 rfl dX5_readNumber_14 rfl rfl rfl (by decide) rfl (A.2.2.2.2.2 c10) ?_
    refine ev_iload_n 18 dX5_readNumber_17 rfl rfl ?_
    refine ev_icmp_lt 21 33 dX5_readNumber_18 rfl rfl (by omega) (by omega) (fun c18 => ?_) (fun c18 => ?_)
    · have e : numB t L p lo hi = false := by
        cases z : numB t L p lo hi with
        | false => rfl
        | true =>
          have z := numB_t.mp z
          omega
      rw [e]
      refine ev_iconst 34 dX5_readNumber_33 rfl ?_
      exact ev_zret rfl dX5_readNumber_34 (by omega) (⟨rfl, f, rfl, f1, A⟩)
    · refine ev_aload_n 22 dX5_readNumber_21 rfl rfl ?_
      refine ev_getI' 25 5 (tV t L p) fX5_67 rfl dX5_readNumber_22 rfl rfl rfl (by decide) rfl (A.2.2.2.2.2 c10) ?_
      refine ev_iload_n 26 dX5_readNumber_25 rfl rfl ?_
      refine ev_icmp_gt 29 33 dX5_readNumber_26 rfl rfl (by omega) (by omega) (fun c26 => ?_) (fun c26 => ?_)
      · have e : numB t L p lo hi = false := by
          cases z : numB t L p lo hi with
          | false => rfl
          | true =>
            have z := numB_t.mp z
            omega
        rw [e]
        refine ev_iconst 34 dX5_readNumber_33 rfl ?_
        exact ev_zret rfl dX5_readNumber_34 (by omega) (⟨rfl, f, rfl, f1, A⟩)
      · rw [numB_t.mpr ⟨c10, by omega, by omega⟩]
        refine ev_iconst 30 dX5_readNumber_29 rfl ?_
        refine ev_goto 34 dX5_readNumber_30 rfl ?_
        exact ev_zret rfl dX5_readNumber_34 (by omega) (⟨rfl, f, rfl, f1, A⟩)
theorem c_readEnd (hT : TT t L) {p : Int} (e12 : h 12 = t) (e1 : h 1 1 = L) (e2 : h 1 2 = p) (hp : 0 ≤ p ∧ p ≤ L) : Ev shC mX5_readEnd 0 [some (vr 1)] [] h (RI fun x h' => x = b2i (decide (tK t L p = 59)) ∧ ∃ f, h' = hput h 1 f ∧ f 1 = L ∧ AT h' t L p) := by
  have hk := tK_r hT hp
  refine ev_aload_n 1 dX5_readEnd_0 rfl rfl ?_
  refine cVv0 4 kX5_readEnd_27 dX5_readEnd_1 rfl rfl rfl rfl rfl (by decide) rfl (Nat.le_of_ble_eq_true rfl) (c_rT hT e12 e1 e2 hp) ?_
  rintro _ ⟨f, rfl, f1, A⟩
  refine ev_aload_n 5 dX5_readEnd_4 rfl rfl ?_
  refine ev_getI' 8 3 (tK t L p) fX5_30 rfl dX5_readEnd_5 rfl rfl rfl (by decide) rfl A.2.2.2.1 ?_
  refine ev_bipush 10 dX5_readEnd_8 rfl (by decide +kernel) ?_
  refine ev_icmp_ne 13 17 dX5_readEnd_10 rfl rfl (by omega) (by omega) (fun c10 => ?_) (fun c10 => ?_)
  · rw [decide_eq_false c10]
    refine ev_iconst 18 dX5_readEnd_17 rfl ?_
    exact ev_zret rfl dX5_readEnd_18 (by omega) (⟨rfl, f, rfl, f1, A⟩)
  · rw [decide_eq_true c10]
    refine ev_iconst 14 dX5_readEnd_13 rfl ?_
    refine ev_goto 18 dX5_readEnd_14 rfl ?_
    exact ev_zret rfl dX5_readEnd_18 (by omega) (⟨rfl, f, rfl, f1, A⟩)
theorem c_costOfToken {c : Int} (hc : R32 c) (e3 : h 1 3 = c) : Ev shC mX5_costOfToken 0 [some (vr 1)] [] h (RI fun x h' => x = costZ c ∧ h = h') := by
  unfold costZ
  refine ev_aload_n 1 dX5_costOfToken_0 rfl rfl ?_
  refine ev_getI' 4 3 c fX5_30 rfl dX5_costOfToken_1 rfl rfl rfl (by decide) rfl e3 ?_
  clear e3
  by_cases k1 : c = 98
  · subst k1
    refine ev_lsw 55 dX5_costOfToken_4 (by omega) (by decide) rfl rfl ?_
    refine ev_bipush 57 dX5_costOfToken_55 rfl (by decide +kernel) ?_
    exact ev_iret rfl dX5_costOfToken_57 (⟨rfl, rfl⟩)
  · by_cases k2 : c = 100
    · subst k2
      refine ev_lsw 53 dX5_costOfToken_4 (by omega) (by decide) rfl rfl ?_
      refine ev_iconst 54 dX5_costOfToken_53 rfl ?_
      exact ev_iret rfl dX5_costOfToken_54 (⟨rfl, rfl⟩)
    · by_cases k3 : c = 102
      · subst k3
        refine ev_lsw 48 dX5_costOfToken_4 (by omega) (by decide) rfl rfl ?_
        refine ev_iconst 49 dX5_costOfToken_48 rfl ?_
        exact ev_iret rfl dX5_costOfToken_49 (⟨rfl, rfl⟩)
      · by_cases k4 : c = 117
        · subst k4
          refine ev_lsw 50 dX5_costOfToken_4 (by omega) (by decide) rfl rfl ?_
          refine ev_bipush 52 dX5_costOfToken_50 rfl (by decide +kernel) ?_
          exact ev_iret rfl dX5_costOfToken_52 (⟨rfl, rfl⟩)
        · refine ev_lsw 58 dX5_costOfToken_4 (off := 54) (by omega) (by decide) (by simp [Op.lookupswitch.offset]; rw [if_neg (by omega), if_neg (by omega), if_neg (by omega), if_neg (by omega)]) rfl ?_
          rw [if_neg k1, if_neg k2, if_neg k3, if_neg k4]
          refine ev_iconst 59 dX5_costOfToken_58 rfl ?_
          exact ev_iret rfl dX5_costOfToken_59 (⟨rfl, rfl⟩)
end CR
