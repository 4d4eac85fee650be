/-- places of the class that calls show; the rest is written on the way -/
def perC (k : Nat) : Bool := Nat.beq k 2 || (Nat.ble 4 k && Nat.ble k 8) || Nat.beq k 10 || (Nat.ble 12 k && Nat.ble k 16) || (Nat.ble 21 k && Nat.ble k 37)
def PsC (h h' : Hp) : Prop := (∀ k, perC k = true → h' k = h k) ∧ h' 1 1 = h 1 1
theorem PsC.rf {h : Hp} : PsC h h := ⟨fun _ _ => rfl, rfl⟩
theorem PsC.tr {h h1 h2 : Hp} (a : PsC h h1) (b : PsC h1 h2) : PsC h h2 := ⟨fun k p => (b.1 k p).trans (a.1 k p), b.2.trans a.2⟩
theorem PsC.hp {h H : Hp} {f : Int → Int} (p : PsC h H) {k : Nat} (hk : perC k = false) (h1 : k ≠ 1) : PsC h (hput H k f) := ⟨fun j a => by
  rw [hput_n (fun e => by subst e; rw [hk] at a; cases a)]
  exact p.1 j a, by rw [hput_n (fun e => h1 e.symm)]; exact p.2⟩
theorem PsC.cR {h H : Hp} {cell pts tm plc : Int → Int} {many : Int} (p : PsC h H) : PsC h (cR H cell pts tm plc many) := ⟨fun k a => by
  refine (hq_out ?_).trans (p.1 k a)
  have hk : ∀ j : Nat, perC j = false → Nat.beq k j = false := fun j hj => nbf (fun e => by subst e; rw [hj] at a; cases a)
  simp only [List.all_cons, List.all_nil, Bool.and_true]
  rw [hk 11 rfl, hk 42 rfl, hk 43 rfl, hk 44 rfl, hk 45 rfl]
  rfl, p.2⟩
def cGain (h : Hp) (a : Nat) (ill c : Int) : Int := gainZ (if bit ill (h a c) = 0 then h 16 (h a c) else 1) (h 14 c) (h 23 c)
/-- the class's numbers in order, with a race -/
def CCh (h : Hp) : Prop := ∀ c, 0 ≤ c → c < h 2 5 → (1 ≤ h 14 c ∧ h 14 c ≤ 9) ∧ (1 ≤ h 16 c ∧ h 16 c ≤ 9) ∧ (0 ≤ h 22 c ∧ h 22 c ≤ 5) ∧ (h 23 c = 0 ∨ h 23 c = 1)
def CW (h : Hp) : Prop := CP (h 13) (h 2 4) (h 2 5) ∧ CCh h
def WY (h : Hp) (a : Nat) : Prop := ∀ c, 0 ≤ c → c < h 2 5 → 0 ≤ h a c ∧ h a c < h 2 5
theorem cGain_r {h : Hp} (hC : CCh h) {a : Nat} (hw : WY h a) (ill : Int) {c : Int} (hc : 0 ≤ c ∧ c < h 2 5) : 1 ≤ cGain h a ill c ∧ cGain h a ill c ≤ 20 := by
  have h1 := hw c hc.1 hc.2
  have h2 := hC (h a c) h1.1 h1.2
  have h3 := hC c hc.1 hc.2
  unfold cGain
  refine gainZ_r ?_ h3.1
  split <;> omega
theorem c_isIll {sh : List CS} {h : Hp} {a k : Int} (ha : 0 ≤ a ∧ a < 2147483648) (hk : 0 ≤ k ∧ k < 32) : Ev sh mX2_isIll 0 [some (vi a), some (vi k)] [] h (RI fun x h' => x = bit a k ∧ h = h') := by
  have h0 : 0 ≤ a / 2 ^ k.toNat := Int.ediv_nonneg ha.1 (Int.le_of_lt (Int.pow_pos (by decide)))
  have h1 : (((a / 2 ^ k.toNat).toNat &&& (1 : Int).toNat : Nat) : Int) = a / 2 ^ k.toNat % 2 := by
    rw [show (1 : Int).toNat = 1 from rfl, Nat.and_one_is_mod, Int.natCast_emod, Int.toNat_of_nonneg h0]
    rfl
  unfold bit
  refine ev_iload_n 1 dX2_isIll_0 rfl rfl ?_
  refine ev_iload_n 2 dX2_isIll_1 rfl rfl ?_
  refine ev_ishr 3 dX2_isIll_2 rfl (by omega) (by omega) ?_
  generalize a / 2 ^ k.toNat = z at h0 h1 ⊢
  refine ev_iconst 4 dX2_isIll_3 rfl ?_
  refine ev_iand 5 dX2_isIll_4 rfl (by omega) (by omega) ?_
  refine ev_iconst 6 dX2_isIll_5 rfl ?_
  refine ev_icmp_ne 9 13 dX2_isIll_6 rfl rfl (by omega) (by omega) (fun c6 => ?_) (fun c6 => ?_)
  · refine ev_iconst 14 dX2_isIll_13 rfl ?_
    exact ev_zret rfl dX2_isIll_14 (by omega) (⟨by omega, rfl⟩)
  · refine ev_iconst 10 dX2_isIll_9 rfl ?_
    refine ev_goto 14 dX2_isIll_10 rfl ?_
    exact ev_zret rfl dX2_isIll_14 (by omega) (⟨by omega, rfl⟩)
section FC
variable {h : Hp}
theorem c_raceBy_loop {a : Nat} (ha : shC[a]? = some (.inl (0, 5))) (ha2 : a ≠ 41) {post : Option AV → Hp → Prop} (hn : 0 ≤ h 2 5 ∧ h 2 5 ≤ 5) (hC : CCh h) (hw : WY h a) {ill w : Int} (hi : 0 ≤ ill ∧ ill < 32) : ∀ (k : Nat) (c : Int) (g : Int → Int) (o5 o6 : Option AV), 0 ≤ c → c + k = h 2 5 → (∀ e, 0 ≤ e → e < c → g e = cGain h a ill e) → (∀ g' o5 o6, (∀ e, 0 ≤ e → e < h 2 5 → g' e = cGain h a ill e) → Ev shC mX2_raceBy 82 [some (vr 9), some (vr a), some (vi ill), some (vi w), some (vi (h 2 5)), o5, o6] [] (hput h 41 g') post) → Ev shC mX2_raceBy 3 [some (vr 9), some (vr a), some (vi ill), some (vi w), some (vi c), o5, o6] [] (hput h 41 g) post := by
  intro k
  induction k with
  | zero =>
    intro c g o5 o6 h0 h1 hg K
    have he : c = h 2 5 := by omega
    subst he
    refine ev_iload 5 dX2_raceBy_3 rfl rfl ?_
    refine ev_aload_n 6 dX2_raceBy_5 rfl rfl ?_
    refine ev_getR 9 fX2_12 rfl dX2_raceBy_6 rfl rfl rfl ?_
    refine ev_getI' 12 5 (h 2 5) fX2_49 rfl dX2_raceBy_9 rfl rfl rfl (by decide) rfl rfl ?_
    refine ev_icmp_ge 15 82 dX2_raceBy_12 rfl rfl (by omega) (by omega) (fun c12 => ?_) (fun c12 => ?_)
    · exact K g o5 o6 hg
    · omega --done
  | succ k ih =>
    intro c g o5 o6 h0 h1 hg K
    have hwc := hw c h0 (by omega)
    have hCc := hC c h0 (by omega)
    have hCp := hC (h a c) hwc.1 hwc.2
    have hz := bit_z ill (h a c)
    have fin : ∀ s, s = (if bit ill (h a c) = 0 then h 16 (h a c) else 1) → Ev shC mX2_raceBy 43 [some (vr 9), some (vr a), some (vi ill), some (vi w), some (vi c), some (vi (h a c)), o6] [vi s] (hput h 41 g) post := by
      intro s hs
      have hsr : 1 ≤ s ∧ s ≤ 9 := by rw [hs]; split <;> omega
      refine ev_istore 45 dX2_raceBy_43 rfl (Nat.le_of_ble_eq_true rfl) ?_
      refine ev_aload_n 46 dX2_raceBy_45 rfl rfl ?_
      refine ev_getR 49 fX2_28 rfl dX2_raceBy_46 rfl rfl rfl ?_
      refine ev_getR 52 fX2_113 rfl dX2_raceBy_49 rfl rfl rfl ?_
      refine ev_iload 54 dX2_raceBy_52 rfl rfl ?_
      refine ev_aload_n 55 dX2_raceBy_54 rfl rfl ?_
      refine ev_getR 58 fX2_12 rfl dX2_raceBy_55 rfl rfl rfl ?_
      refine ev_iload 60 dX2_raceBy_58 rfl rfl ?_
      refine ev_iload 62 dX2_raceBy_60 rfl rfl ?_
      refine ev_aload_n 63 dX2_raceBy_62 rfl rfl ?_
      refine ev_getR 66 fX2_21 rfl dX2_raceBy_63 rfl rfl rfl ?_
      refine ev_getR 69 fX2_116 rfl dX2_raceBy_66 rfl rfl rfl ?_
      refine ev_iload 71 dX2_raceBy_69 rfl rfl ?_
      refine ev_zald' 72 (h 23 c) dX2_raceBy_71 rfl rfl (by decide) (by omega) rfl ?_
      refine cVi3 75 kX2_raceBy_120 dX2_raceBy_72 rfl rfl rfl rfl rfl (by decide) rfl (Nat.le_of_ble_eq_true rfl) (c_gainBy (h := hput h 41 g) ⟨h0, by omega⟩ ⟨by omega, by omega⟩ ⟨by show 0 ≤ h 14 c; omega, by show h 14 c ≤ 9; omega⟩ (by omega)) ?_
      rintro x _ ⟨e72, rfl⟩
      rw [show x = cGain h a ill c by { rw [e72, hs]; rfl }]
      refine ev_iast' 76 (hput h 41 (up g c (cGain h a ill c))) dX2_raceBy_75 rfl rfl (by decide) (by omega) hput_hput ?_
      refine ev_iinc 79 dX2_raceBy_76 rfl rfl ?_
      refine ev_goto 3 dX2_raceBy_79 rfl ?_
      refine ih (c + 1) _ _ _ (by omega) (by omega) (fun e a1 b1 => ?_) K
      by_cases q : e = c
      · subst q; rw [up_s]
      · rw [up_n q]; exact hg e a1 (by omega)
    refine ev_iload 5 dX2_raceBy_3 rfl rfl ?_
    refine ev_aload_n 6 dX2_raceBy_5 rfl rfl ?_
    refine ev_getR 9 fX2_12 rfl dX2_raceBy_6 rfl rfl rfl ?_
    refine ev_getI' 12 5 (h 2 5) fX2_49 rfl dX2_raceBy_9 rfl rfl rfl (by decide) rfl rfl ?_
    refine ev_icmp_ge 15 82 dX2_raceBy_12 rfl rfl (by omega) (by omega) (fun c12 => ?_) (fun c12 => ?_)
    · omega --done
    · refine ev_aload_n 16 dX2_raceBy_15 rfl rfl ?_
      refine ev_iload 18 dX2_raceBy_16 rfl rfl ?_
      refine ev_iald' 19 (h a c) dX2_raceBy_18 rfl ha (by decide) (by omega) (by rw [hput_n ha2]) ?_
      refine ev_istore 21 dX2_raceBy_19 rfl (Nat.le_of_ble_eq_true rfl) ?_
      refine ev_iload_n 22 dX2_raceBy_21 rfl rfl ?_
      refine ev_iload 24 dX2_raceBy_22 rfl rfl ?_
      refine cSi2 27 kX2_raceBy_106 dX2_raceBy_24 rfl rfl (by decide) rfl (Nat.le_of_ble_eq_true rfl) (c_isIll ⟨hi.1, by omega⟩ (by omega)) ?_
      rintro x _ ⟨rfl, rfl⟩
      refine ev_if_eq 30 34 dX2_raceBy_27 rfl rfl (by omega) (fun c27 => ?_) (fun c27 => ?_)
      · refine ev_aload_n 35 dX2_raceBy_34 rfl rfl ?_
        refine ev_getR 38 fX2_12 rfl dX2_raceBy_35 rfl rfl rfl ?_
        refine ev_iload 40 dX2_raceBy_38 rfl rfl ?_
        refine cVi1 43 kX2_raceBy_110 dX2_raceBy_40 rfl rfl rfl rfl rfl (by decide) rfl (Nat.le_of_ble_eq_true rfl) (c_strengthOf (h := hput h 41 g) (by omega) hn) ?_
        rintro x _ ⟨e40, rfl⟩
        rw [show x = h 16 (h a c) from e40.trans (if_pos hwc)]
        exact fin _ (by rw [if_pos c27])
      · refine ev_iconst 31 dX2_raceBy_30 rfl ?_
        exact ev_goto 43 dX2_raceBy_31 rfl (fin 1 (by rw [if_neg c27]))
/-- the class's race as a value -/
def raceK (h : Hp) (a : Nat) (ill w : Int) : RS := raceC (h 13) (h 2 4) (h 2 5) (h 22) (cGain h a ill) w
theorem c_raceBy {a : Nat} (ha : shC[a]? = some (.inl (0, 5))) (ha2 : a ≠ 41) (hW : CW h) (hw : WY h a) {ill w : Int} (hi : 0 ≤ ill ∧ ill < 32) (hw2 : 0 ≤ w ∧ w ≤ h 2 5) : Ev shC mX2_raceBy 0 [some (vr 9), some (vr a), some (vi ill), some (vi w), none, none, none] [] h (RV fun h' => PsC h h' ∧ (∀ k, 38 ≤ k → k ≤ 40 → h' k = h k) ∧ ag (h 2 5) (h' 42) (raceK h a ill w).2.2.1 ∧ (∀ k, 0 ≤ k → k < h' 11 5 → h' 45 k = (raceK h a ill w).2.2.2.1 k) ∧ h' 11 5 = (raceK h a ill w).2.2.2.2) := by
  have hn : 0 < h 2 5 ∧ h 2 5 ≤ 5 := ⟨hW.1.1, hW.1.2.1⟩
  have K := c_raceBy_loop ha ha2 (h := h) ⟨by omega, hn.2⟩ hW.2 hw hi (w := w) (post := RV fun h' => PsC h h' ∧ (∀ k, 38 ≤ k → k ≤ 40 → h' k = h k) ∧ ag (h 2 5) (h' 42) (raceK h a ill w).2.2.1 ∧ (∀ k, 0 ≤ k → k < h' 11 5 → h' 45 k = (raceK h a ill w).2.2.2.1 k) ∧ h' 11 5 = (raceK h a ill w).2.2.2.2) (h 2 5).toNat 0 (h 41) none none (by omega) (by omega) (fun e a b => by omega) (fun g o5 o6 hg => by
    have hA := race_ag (w := w) (cost := h 13) (cl := h 2 4) (n := h 2 5) (hand := h 22) (hand' := h 22) (g := g) (g' := cGain h a ill) (by omega) ag_rf hg 1000 1 ((fun _ => 0, fun _ => 0, fun _ => 0, fun _ => 0, 0) : RS) ((fun _ => 0, fun _ => 0, fun _ => 0, fun _ => 0, 0) : RS) ⟨ag_rf, ag_rf, ag_rf, fun _ _ _ => rfl, rfl⟩
    refine ev_aload_n 83 dX2_raceBy_82 rfl rfl ?_
    refine ev_getR 86 fX2_28 rfl dX2_raceBy_83 rfl rfl rfl ?_
    refine ev_aload_n 87 dX2_raceBy_86 rfl rfl ?_
    refine ev_getR 90 fX2_12 rfl dX2_raceBy_87 rfl rfl rfl ?_
    refine ev_aload_n 91 dX2_raceBy_90 rfl rfl ?_
    refine ev_getR 94 fX2_21 rfl dX2_raceBy_91 rfl rfl rfl ?_
    refine ev_getR 97 fX2_124 rfl dX2_raceBy_94 rfl rfl rfl ?_
    refine ev_iload_n 98 dX2_raceBy_97 rfl rfl ?_
    refine cVv3 101 kX2_raceBy_127 dX2_raceBy_98 rfl rfl rfl rfl rfl (by decide) rfl (Nat.le_of_ble_eq_true rfl) (c_go (h := hput h 41 g) hW.1 (fun c a1 b1 => by have := cGain_r hW.2 hw ill ⟨a1, b1⟩; show 1 ≤ g c ∧ g c ≤ 20; rw [hg c a1 b1]; exact this) (fun c a1 b1 => (hW.2 c a1 b1).2.2.1) hw2) ?_
    rintro _ ⟨cell, pts, tm, plc, many, rfl, q1, q2, q3⟩
    exact ev_vret rfl dX2_raceBy_101 (⟨(PsC.rf.hp rfl (by decide)).cR, fun k a1 b1 => (hq_out (by simp only [List.all_cons, List.all_nil, Bool.and_true]; rw [nbf (by omega), nbf (by omega), nbf (by omega), nbf (by omega), nbf (by omega)]; rfl)).trans (hput_n (by omega)), fun e a1 b1 => (q1 e a1 b1).trans (hA.2.2.1 e a1 b1), fun k a1 b1 => (q2 k a1 b1).trans (hA.2.2.2.1 k a1 (Int.lt_of_lt_of_le b1 (Int.le_of_eq q3))), q3.trans hA.2.2.2.2⟩)
    )
  rw [hput_id] at K
  refine ev_iconst 1 dX2_raceBy_0 rfl ?_
  refine ev_istore 3 dX2_raceBy_1 rfl (Nat.le_of_ble_eq_true rfl) ?_
  exact K
theorem c_inAs {k : Int} (hk : R32 k) (hm : 0 ≤ h 11 5 ∧ h 11 5 ≤ 5) : Ev shC mX4_inAs 0 [some (vr 11), some (vi k)] [] h (RI fun x h' => x = (if 0 ≤ k ∧ k < h 11 5 then h 45 k else -9) ∧ h = h') := by
  refine ev_iload_n 1 dX4_inAs_0 rfl rfl ?_
  refine ev_if_lt 4 21 dX4_inAs_1 rfl rfl (by omega) (fun c1 => ?_) (fun c1 => ?_)
  · refine ev_bipush 23 dX4_inAs_21 rfl (by decide +kernel) ?_
    exact ev_iret rfl dX4_inAs_23 (⟨by first | rw [if_pos (by omega)] | rw [if_neg (by omega)], rfl⟩)
  · refine ev_iload_n 5 dX4_inAs_4 rfl rfl ?_
    refine ev_aload_n 6 dX4_inAs_5 rfl rfl ?_
    refine ev_getI 9 5 fX4_27 rfl dX4_inAs_6 rfl rfl rfl (by decide) rfl ?_
    refine ev_icmp_ge 12 21 dX4_inAs_9 rfl rfl (by omega) (by omega) (fun c9 => ?_) (fun c9 => ?_)
    · refine ev_bipush 23 dX4_inAs_21 rfl (by decide +kernel) ?_
      exact ev_iret rfl dX4_inAs_23 (⟨by first | rw [if_pos (by omega)] | rw [if_neg (by omega)], rfl⟩)
    · refine ev_aload_n 13 dX4_inAs_12 rfl rfl ?_
      refine ev_getR 16 fX4_24 rfl dX4_inAs_13 rfl rfl rfl ?_
      refine ev_iload_n 17 dX4_inAs_16 rfl rfl ?_
      refine ev_iald 18 dX4_inAs_17 rfl rfl (by decide) (by omega) ?_
      refine ev_goto 23 dX4_inAs_18 rfl ?_
      exact ev_iret rfl dX4_inAs_23 (⟨by first | rw [if_pos (by omega)] | rw [if_neg (by omega)], rfl⟩)
theorem raceK_ok {a : Nat} (hW : CW h) (hw : WY h a) (ill : Int) {w : Int} (hw2 : w ≤ h 2 5) : rOK (h 13) (h 2 4) (h 2 5) (raceK h a ill w) ∧ w ≤ (raceK h a ill w).2.2.2.2 ∧ (0 ≤ (raceK h a ill w).2.2.2.2 ∧ (raceK h a ill w).2.2.2.2 ≤ h 2 5) := by
  have h1 := raceC_full hW.1 (hand := h 22) (g := cGain h a ill) (fun c a1 b1 => cGain_r hW.2 hw ill ⟨a1, b1⟩) (fun c a1 b1 => (hW.2 c a1 b1).2.2.1.2) hw2
  have h2 := cntB_rng (inB (h 2 4) (raceK h a ill w)) (h 2 5).toNat
  have h3 : (raceK h a ill w).2.2.2.2 = cntB (inB (h 2 4) (raceK h a ill w)) (h 2 5).toNat := h1.1.2.1
  have h5 := hW.1.1
  exact ⟨h1.1, h1.2, by omega⟩
def winK (h : Hp) (a : Nat) (ill : Int) : Int := (raceK h a ill (h 2 5)).2.2.2.1 0
theorem winK_r {a : Nat} (hW : CW h) (hw : WY h a) (ill : Int) : 0 ≤ winK h a ill ∧ winK h a ill < h 2 5 := by
  have h1 := raceK_ok hW hw ill (Int.le_refl _)
  have h2 := hW.1.1
  exact h1.1.2.2 0 (by omega) (by omega)
theorem c_winnerBy {a : Nat} (ha : shC[a]? = some (.inl (0, 5))) (ha2 : a ≠ 41) (hW : CW h) (hw : WY h a) {ill : Int} (hi : 0 ≤ ill ∧ ill < 32) : Ev shC mX2_winnerBy 0 [some (vr 9), some (vr a), some (vi ill)] [] h (RI fun x h' => x = winK h a ill ∧ PsC h h' ∧ ∀ k, 38 ≤ k → k ≤ 40 → h' k = h k) := by
  have hn := hW.1.1
  have hn5 := hW.1.2.1
  have hO := raceK_ok hW hw ill (w := 1) (by omega)
  have h1 : winK h a ill = (raceK h a ill 1).2.2.2.1 0 := race_1 (by omega) 1000 1 _ hO.2.1
  refine ev_aload_n 1 dX2_winnerBy_0 rfl rfl ?_
  refine ev_aload_n 2 dX2_winnerBy_1 rfl rfl ?_
  refine ev_iload_n 3 dX2_winnerBy_2 rfl rfl ?_
  refine ev_iconst 4 dX2_winnerBy_3 rfl ?_
  refine cVv3 7 kX2_winnerBy_53 dX2_winnerBy_4 rfl rfl rfl rfl rfl (by decide) rfl (Nat.le_of_ble_eq_true rfl) (c_raceBy ha ha2 hW hw hi (by omega)) ?_
  rintro H ⟨p, q1, q2, q3, q4⟩
  refine ev_aload_n 8 dX2_winnerBy_7 rfl rfl ?_
  refine ev_getR 11 fX2_28 rfl dX2_winnerBy_8 rfl rfl rfl ?_
  refine ev_iconst 12 dX2_winnerBy_11 rfl ?_
  refine cVi1 15 kX2_winnerBy_60 dX2_winnerBy_12 rfl rfl rfl rfl rfl (by decide) rfl (Nat.le_of_ble_eq_true rfl) (c_inAs (by omega) (by omega)) ?_
  rintro x _ ⟨e12, rfl⟩
  rw [if_pos (by omega), q3 0 (by omega) (by omega)] at e12
  exact ev_iret rfl dX2_winnerBy_15 (⟨e12.trans h1.symm, p, q1⟩)
theorem c_winner (hW : CW h) (hw : WY h 21) : Ev shC mX2_winner 0 [some (vr 9)] [] h (RI fun x h' => x = winK h 21 0 ∧ PsC h h') := by
  refine ev_aload_n 1 dX2_winner_0 rfl rfl ?_
  refine ev_aload_n 2 dX2_winner_1 rfl rfl ?_
  refine ev_getR 5 fX2_21 rfl dX2_winner_2 rfl rfl rfl ?_
  refine ev_getR 8 fX2_42 rfl dX2_winner_5 rfl rfl rfl ?_
  refine ev_iconst 9 dX2_winner_8 rfl ?_
  refine cVi2 12 kX2_winner_45 dX2_winner_9 rfl rfl rfl rfl rfl (by decide) rfl (Nat.le_of_ble_eq_true rfl) (c_winnerBy (a := 21) rfl (by decide) hW hw (by omega)) ?_
  rintro x H ⟨e1, p, -⟩
  exact ev_iret rfl dX2_winner_12 (⟨e1, p⟩)
theorem c_timeOf {c : Int} (hW : CW h) (hw : WY h 21) (hc : 0 ≤ c ∧ c < h 2 5) : Ev shC mX2_timeOf 0 [some (vr 9), some (vi c)] [] h (RI fun x h' => x = (raceK h 21 0 (h 2 5)).2.2.1 c ∧ PsC h h') := by
  have hn := hW.1.1
  have hn5 := hW.1.2.1
  refine ev_aload_n 1 dX2_timeOf_0 rfl rfl ?_
  refine ev_aload_n 2 dX2_timeOf_1 rfl rfl ?_
  refine ev_getR 5 fX2_21 rfl dX2_timeOf_2 rfl rfl rfl ?_
  refine ev_getR 8 fX2_42 rfl dX2_timeOf_5 rfl rfl rfl ?_
  refine ev_iconst 9 dX2_timeOf_8 rfl ?_
  refine ev_aload_n 10 dX2_timeOf_9 rfl rfl ?_
  refine ev_getR 13 fX2_12 rfl dX2_timeOf_10 rfl rfl rfl ?_
  refine ev_getI 16 5 fX2_49 rfl dX2_timeOf_13 rfl rfl rfl (by decide) rfl ?_
  refine cVv3 19 kX2_timeOf_53 dX2_timeOf_16 rfl rfl rfl rfl rfl (by decide) rfl (Nat.le_of_ble_eq_true rfl) (c_raceBy (a := 21) rfl (by decide) hW hw (by omega) (by omega)) ?_
  rintro H ⟨p, q1, q2, q3, q4⟩
  refine ev_aload_n 20 dX2_timeOf_19 rfl rfl ?_
  refine ev_getR 23 fX2_28 rfl dX2_timeOf_20 rfl rfl rfl ?_
  refine ev_getR 26 fX2_57 rfl dX2_timeOf_23 rfl rfl rfl ?_
  refine ev_iload_n 27 dX2_timeOf_26 rfl rfl ?_
  refine ev_iald' 28 ((raceK h 21 0 (h 2 5)).2.2.1 c) dX2_timeOf_27 rfl rfl (by decide) (by omega) (q2 c hc.1 hc.2) ?_
  exact ev_iret rfl dX2_timeOf_28 (⟨rfl, p⟩)
theorem c_placed {k : Int} (hW : CW h) (hw : WY h 21) (hc : 0 ≤ k ∧ k < h 2 5) : Ev shC mX2_placed 0 [some (vr 9), some (vi k)] [] h (RI fun x h' => x = (raceK h 21 0 (h 2 5)).2.2.2.1 k ∧ PsC h h') := by
  have hn := hW.1.1
  have hn5 := hW.1.2.1
  have hO := raceK_ok hW hw 0 (w := h 2 5) (by omega)
  refine ev_aload_n 1 dX2_placed_0 rfl rfl ?_
  refine ev_aload_n 2 dX2_placed_1 rfl rfl ?_
  refine ev_getR 5 fX2_21 rfl dX2_placed_2 rfl rfl rfl ?_
  refine ev_getR 8 fX2_42 rfl dX2_placed_5 rfl rfl rfl ?_
  refine ev_iconst 9 dX2_placed_8 rfl ?_
  refine ev_aload_n 10 dX2_placed_9 rfl rfl ?_
  refine ev_getR 13 fX2_12 rfl dX2_placed_10 rfl rfl rfl ?_
  refine ev_getI 16 5 fX2_49 rfl dX2_placed_13 rfl rfl rfl (by decide) rfl ?_
  refine cVv3 19 kX2_placed_53 dX2_placed_16 rfl rfl rfl rfl rfl (by decide) rfl (Nat.le_of_ble_eq_true rfl) (c_raceBy (a := 21) rfl (by decide) hW hw (by omega) (by omega)) ?_
  rintro H ⟨p, q1, q2, q3, q4⟩
  refine ev_aload_n 20 dX2_placed_19 rfl rfl ?_
  refine ev_getR 23 fX2_28 rfl dX2_placed_20 rfl rfl rfl ?_
  refine ev_iload_n 24 dX2_placed_23 rfl rfl ?_
  refine cVi1 27 kX2_placed_60 dX2_placed_24 rfl rfl rfl rfl rfl (by decide) rfl (Nat.le_of_ble_eq_true rfl) (c_inAs (by omega) (by omega)) ?_
  rintro x _ ⟨e12, rfl⟩
  rw [if_pos (by omega), q3 k (by omega) (by omega)] at e12
  exact ev_iret rfl dX2_placed_27 (⟨e12, p⟩)
end FC
