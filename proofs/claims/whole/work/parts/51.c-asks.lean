def rmF (f : Int → Int) : Nat → Int
  | 0 => 0
  | k + 1 => if f (rmF f k) < f (k + 1) then k + 1 else rmF f k
theorem rsum_r {n : Int} {pol reg : Int → Int} (hn : 0 ≤ n ∧ n ≤ 5) (hreg : ∀ c, 0 ≤ c → c < n → 0 ≤ reg c ∧ reg c ≤ 1000) (p : Int) : 0 ≤ rsum n pol reg p ∧ rsum n pol reg p ≤ 5000 := by
  have h1 := sumZ_nn (f := fun c => if pol c = p then reg c else 0) (k := n.toNat) (fun c a b => by have := hreg c a (by omega); split <;> omega)
  have h2 := sumZ_bd (f := fun c => if pol c = p then reg c else 0) (b := 1000) (k := n.toNat) (fun c a b => by have := hreg c a (by omega); split <;> omega)
  exact ⟨h1, by show sumZ (fun c => if pol c = p then reg c else 0) n.toNat ≤ 5000; omega⟩
theorem rmF_r (f : Int → Int) : ∀ k : Nat, 0 ≤ rmF f k ∧ rmF f k ≤ k := by
  intro k
  induction k with
  | zero => exact ⟨Int.le_refl _, Int.le_refl _⟩
  | succ k ih => unfold rmF; split <;> omega
def cBd (h : Hp) (c t : Int) : Int → Bool := fun k => decide (h 36 k = c) && decide (h 37 k ≠ t)
def soC (h : Hp) (c g : Int) : Bool := !anyB (cBd h c (cAl h c g)) (h 8 2).toNat
def susC (h : Hp) (gu c : Int) : Bool := !(soC h c 0) && (soC h c 1 == decide (gu = 1))
section CA
variable {h : Hp}
theorem c_gc_loop {n : Int} (hn : 0 ≤ n ∧ n ≤ 5) (hz : ∀ c, 0 ≤ c → c < n → h 23 c = 0 ∨ h 23 c = 1) : ∀ (k : Nat) (c : Int), 0 ≤ c → c + k = n → Ev shC mX0_greasedCount 4 [some (vr 4), some (vi n), some (vi (sumZ (h 23) c.toNat)), some (vi c)] [] h (RI fun x h' => x = sumZ (h 23) n.toNat ∧ h = h') := by
  intro k
  induction k with
  | zero =>
    intro c h0 h1
    have he : c = n := by omega
    subst he
    refine ev_iload_n 5 dX0_greasedCount_4 rfl rfl ?_
    refine ev_iload_n 6 dX0_greasedCount_5 rfl rfl ?_
    refine ev_icmp_ge 9 27 dX0_greasedCount_6 rfl rfl (by omega) (by omega) (fun c6 => ?_) (fun c6 => ?_)
    · refine ev_iload_n 28 dX0_greasedCount_27 rfl rfl ?_
      exact ev_iret rfl dX0_greasedCount_28 (⟨rfl, rfl⟩)
    · omega --done
  | succ k ih =>
    intro c h0 h1
    have hzc := hz c h0 (by omega)
    have K := ih (c + 1) (by omega) (by omega)
    rw [sumZ_1 h0] at K
    refine ev_iload_n 5 dX0_greasedCount_4 rfl rfl ?_
    refine ev_iload_n 6 dX0_greasedCount_5 rfl rfl ?_
    refine ev_icmp_ge 9 27 dX0_greasedCount_6 rfl rfl (by omega) (by omega) (fun c6 => ?_) (fun c6 => ?_)
    · omega --done
    · refine ev_aload_n 10 dX0_greasedCount_9 rfl rfl ?_
      refine ev_getR 13 fX0_18 rfl dX0_greasedCount_10 rfl rfl rfl ?_
      refine ev_iload_n 14 dX0_greasedCount_13 rfl rfl ?_
      refine ev_zald 15 dX0_greasedCount_14 rfl rfl (by decide) (by omega) ?_
      refine ev_if_eq 18 21 dX0_greasedCount_15 rfl rfl (by omega) (fun c15 => ?_) (fun c15 => ?_)
      · rw [c15, Int.add_zero] at K
        refine ev_iinc 24 dX0_greasedCount_21 rfl rfl ?_
        refine ev_goto 4 dX0_greasedCount_24 rfl ?_
        exact K
      · rw [hzc.resolve_left c15] at K
        refine ev_iinc 21 dX0_greasedCount_18 rfl rfl ?_
        refine ev_iinc 24 dX0_greasedCount_21 rfl rfl ?_
        refine ev_goto 4 dX0_greasedCount_24 rfl ?_
        exact K
theorem c_greasedCount {n : Int} (hn : 0 ≤ n ∧ n ≤ 5) (hz : ∀ c, 0 ≤ c → c < n → h 23 c = 0 ∨ h 23 c = 1) : Ev shC mX0_greasedCount 0 [some (vr 4), some (vi n), none, none] [] h (RI fun x h' => x = sumZ (h 23) n.toNat ∧ h = h') := by
  refine ev_iconst 1 dX0_greasedCount_0 rfl ?_
  refine ev_istore_n 2 dX0_greasedCount_1 rfl (Nat.le_of_ble_eq_true rfl) ?_
  refine ev_iconst 3 dX0_greasedCount_2 rfl ?_
  refine ev_istore_n 4 dX0_greasedCount_3 rfl (Nat.le_of_ble_eq_true rfl) ?_
  exact c_gc_loop hn hz n.toNat 0 (by omega) (by omega)
theorem c_wo_loop {p : Int} (hp : R32 p) (hn : 0 ≤ h 2 5 ∧ h 2 5 ≤ 5) (hpol : ∀ c, 0 ≤ c → c < h 2 5 → R32 (h 15 c)) : ∀ (k : Nat) (c : Int), 0 ≤ c → c + k = h 2 5 → Ev shC mX0_weeksOf 5 [some (vr 4), some (vr 2), some (vi p), some (vi (sumZ (fun c => if h 15 c = p then h 24 c else 0) c.toNat)), some (vi c)] [] h (RI fun x h' => x = rsum (h 2 5) (h 15) (h 24) p ∧ h = h') := by
  intro k
  induction k with
  | zero =>
    intro c h0 h1
    have he : c = h 2 5 := by omega
    subst he
    refine ev_iload 7 dX0_weeksOf_5 rfl rfl ?_
    refine ev_aload_n 8 dX0_weeksOf_7 rfl rfl ?_
    refine ev_getI 11 5 fX0_46 rfl dX0_weeksOf_8 rfl rfl rfl (by decide) rfl ?_
    refine ev_icmp_ge 14 41 dX0_weeksOf_11 rfl rfl (by omega) (by omega) (fun c11 => ?_) (fun c11 => ?_)
    · refine ev_iload_n 42 dX0_weeksOf_41 rfl rfl ?_
      exact ev_iret rfl dX0_weeksOf_42 (⟨rfl, rfl⟩)
    · omega --done
  | succ k ih =>
    intro c h0 h1
    have hzc := hpol c h0 (by omega)
    have K := ih (c + 1) (by omega) (by omega)
    rw [sumZ_1 h0] at K
    refine ev_iload 7 dX0_weeksOf_5 rfl rfl ?_
    refine ev_aload_n 8 dX0_weeksOf_7 rfl rfl ?_
    refine ev_getI 11 5 fX0_46 rfl dX0_weeksOf_8 rfl rfl rfl (by decide) rfl ?_
    refine ev_icmp_ge 14 41 dX0_weeksOf_11 rfl rfl (by omega) (by omega) (fun c11 => ?_) (fun c11 => ?_)
    · omega --done
    · refine ev_aload_n 15 dX0_weeksOf_14 rfl rfl ?_
      refine ev_getR 18 fX0_49 rfl dX0_weeksOf_15 rfl rfl rfl ?_
      refine ev_iload 20 dX0_weeksOf_18 rfl rfl ?_
      refine ev_iald 21 dX0_weeksOf_20 rfl rfl (by decide) (by omega) ?_
      refine ev_iload_n 22 dX0_weeksOf_21 rfl rfl ?_
      refine ev_icmp_ne 25 35 dX0_weeksOf_22 rfl rfl (by omega) (by omega) (fun c22 => ?_) (fun c22 => ?_)
      · rw [if_neg c22, Int.add_zero] at K
        refine ev_iinc 38 dX0_weeksOf_35 rfl rfl ?_
        refine ev_goto 5 dX0_weeksOf_38 rfl ?_
        exact K
      · rw [if_pos c22] at K
        refine ev_iload_n 26 dX0_weeksOf_25 rfl rfl ?_
        refine ev_aload_n 27 dX0_weeksOf_26 rfl rfl ?_
        refine ev_getR 30 fX0_22 rfl dX0_weeksOf_27 rfl rfl rfl ?_
        refine ev_iload 32 dX0_weeksOf_30 rfl rfl ?_
        refine ev_iald 33 dX0_weeksOf_32 rfl rfl (by decide) (by omega) ?_
        refine ev_iadd 34 dX0_weeksOf_33 rfl ?_
        refine ev_istore_n 35 dX0_weeksOf_34 rfl (Nat.le_of_ble_eq_true rfl) ?_
        refine ev_iinc 38 dX0_weeksOf_35 rfl rfl ?_
        refine ev_goto 5 dX0_weeksOf_38 rfl ?_
        exact K
theorem c_weeksOf {p : Int} (hp : R32 p) (hn : 0 ≤ h 2 5 ∧ h 2 5 ≤ 5) (hpol : ∀ c, 0 ≤ c → c < h 2 5 → R32 (h 15 c)) : Ev shC mX0_weeksOf 0 [some (vr 4), some (vr 2), some (vi p), none, none] [] h (RI fun x h' => x = rsum (h 2 5) (h 15) (h 24) p ∧ h = h') := by
  refine ev_iconst 1 dX0_weeksOf_0 rfl ?_
  refine ev_istore_n 2 dX0_weeksOf_1 rfl (Nat.le_of_ble_eq_true rfl) ?_
  refine ev_iconst 3 dX0_weeksOf_2 rfl ?_
  refine ev_istore 5 dX0_weeksOf_3 rfl (Nat.le_of_ble_eq_true rfl) ?_
  exact c_wo_loop hp hn hpol (h 2 5).toNat 0 (by omega) (by omega)
theorem c_rm_loop (hn : 0 ≤ h 2 5 ∧ h 2 5 ≤ 5) (hpol : ∀ c, 0 ≤ c → c < h 2 5 → R32 (h 15 c)) (hreg : ∀ c, 0 ≤ c → c < h 2 5 → 0 ≤ h 24 c ∧ h 24 c ≤ 1000) : ∀ (k : Nat) (i : Nat), (i : Int) + k = 3 → Ev shC mX0_ruledMost 14 [some (vr 4), some (vr 2), some (vi (rmF (rsum (h 2 5) (h 15) (h 24)) i)), some (vi ((i : Int) + 1))] [] h (RI fun x h' => x = rmF (rsum (h 2 5) (h 15) (h 24)) 3 ∧ h = h') := by
  intro k
  induction k with
  | zero =>
    intro i h1
    have he : i = 3 := by omega
    subst he
    refine ev_iload_n 15 dX0_ruledMost_14 rfl rfl ?_
    refine ev_iconst 16 dX0_ruledMost_15 rfl ?_
    refine ev_icmp_ge 19 42 dX0_ruledMost_16 rfl rfl (by omega) (by omega) (fun c16 => ?_) (fun c16 => ?_)
    · refine ev_iload_n 43 dX0_ruledMost_42 rfl rfl ?_
      exact ev_iret rfl dX0_ruledMost_43 (⟨rfl, rfl⟩)
    · omega --done
  | succ k ih =>
    intro i h1
    have hr := rmF_r (rsum (h 2 5) (h 15) (h 24)) i
    have s1 := rsum_r (pol := h 15) hn hreg (rmF (rsum (h 2 5) (h 15) (h 24)) i)
    have s2 := rsum_r (pol := h 15) hn hreg ((i : Int) + 1)
    have K := ih (i + 1) (by omega)
    rw [show rmF (rsum (h 2 5) (h 15) (h 24)) (i + 1) = if rsum (h 2 5) (h 15) (h 24) (rmF (rsum (h 2 5) (h 15) (h 24)) i) < rsum (h 2 5) (h 15) (h 24) ((i : Int) + 1) then (i : Int) + 1 else rmF (rsum (h 2 5) (h 15) (h 24)) i from rfl] at K
    refine ev_iload_n 15 dX0_ruledMost_14 rfl rfl ?_
    refine ev_iconst 16 dX0_ruledMost_15 rfl ?_
    refine ev_icmp_ge 19 42 dX0_ruledMost_16 rfl rfl (by omega) (by omega) (fun c16 => ?_) (fun c16 => ?_)
    · omega --done
    · refine ev_aload_n 20 dX0_ruledMost_19 rfl rfl ?_
      refine ev_aload_n 21 dX0_ruledMost_20 rfl rfl ?_
      refine ev_iload_n 22 dX0_ruledMost_21 rfl rfl ?_
      refine cVi2 25 kX0_ruledMost_42 dX0_ruledMost_22 rfl rfl rfl rfl rfl (by decide) rfl (Nat.le_of_ble_eq_true rfl) (c_weeksOf (by omega) hn hpol) ?_
      rintro x _ ⟨rfl, rfl⟩
      refine ev_aload_n 26 dX0_ruledMost_25 rfl rfl ?_
      refine ev_aload_n 27 dX0_ruledMost_26 rfl rfl ?_
      refine ev_iload_n 28 dX0_ruledMost_27 rfl rfl ?_
      refine cVi2 31 kX0_ruledMost_42 dX0_ruledMost_28 rfl rfl rfl rfl rfl (by decide) rfl (Nat.le_of_ble_eq_true rfl) (c_weeksOf (by omega) hn hpol) ?_
      rintro x _ ⟨rfl, rfl⟩
      refine ev_icmp_le 34 36 dX0_ruledMost_31 rfl rfl (by omega) (by omega) (fun c31 => ?_) (fun c31 => ?_)
      · rw [if_neg (by omega)] at K
        refine ev_iinc 39 dX0_ruledMost_36 rfl rfl ?_
        refine ev_goto 14 dX0_ruledMost_39 rfl ?_
        exact K
      · rw [if_pos (by omega)] at K
        refine ev_iload_n 35 dX0_ruledMost_34 rfl rfl ?_
        refine ev_istore_n 36 dX0_ruledMost_35 rfl (Nat.le_of_ble_eq_true rfl) ?_
        refine ev_iinc 39 dX0_ruledMost_36 rfl rfl ?_
        refine ev_goto 14 dX0_ruledMost_39 rfl ?_
        exact K
theorem c_ruledMost (hn : 0 ≤ h 2 5 ∧ h 2 5 ≤ 5) (hpol : ∀ c, 0 ≤ c → c < h 2 5 → R32 (h 15 c)) (hreg : ∀ c, 0 ≤ c → c < h 2 5 → 0 ≤ h 24 c ∧ h 24 c ≤ 1000) (hwk : R32 (h 4 4)) : Ev shC mX0_ruledMost 0 [some (vr 4), some (vr 2), none, none] [] h (RI fun x h' => x = (if h 4 4 = 0 then -9 else rmF (rsum (h 2 5) (h 15) (h 24)) 3) ∧ h = h') := by
  refine ev_aload_n 1 dX0_ruledMost_0 rfl rfl ?_
  refine ev_getI 4 4 fX0_25 rfl dX0_ruledMost_1 rfl rfl rfl (by decide) rfl ?_
  refine ev_if_ne 7 10 dX0_ruledMost_4 rfl rfl (by omega) (fun c4 => ?_) (fun c4 => ?_)
  · rw [if_neg c4]
    refine ev_iconst 11 dX0_ruledMost_10 rfl ?_
    refine ev_istore_n 12 dX0_ruledMost_11 rfl (Nat.le_of_ble_eq_true rfl) ?_
    refine ev_iconst 13 dX0_ruledMost_12 rfl ?_
    refine ev_istore_n 14 dX0_ruledMost_13 rfl (Nat.le_of_ble_eq_true rfl) ?_
    exact c_rm_loop hn hpol hreg 3 0 (by omega)
  · rw [if_pos c4]
    refine ev_bipush 9 dX0_ruledMost_7 rfl (by decide +kernel) ?_
    exact ev_iret rfl dX0_ruledMost_9 (⟨rfl, rfl⟩)
theorem cAl_r (hC : CCh h) (hw : WY h 21) {c : Int} (hc : 0 ≤ c ∧ c < h 2 5) (hl : 0 ≤ h 2 6 ∧ h 2 6 ≤ 128) (b : Int) : 0 ≤ cAl h c b ∧ cAl h c b ≤ 133 := by
  have h1 := ceil_r hl (cG_r hC hw hc b).1
  have h2 := (hC c hc.1 hc.2).2.2.1
  unfold cAl
  omega
theorem c_all_loop {c t : Int} {g : Option AV} (hc : R32 c) (ht : R32 t) (hm : 0 ≤ h 8 2 ∧ h 8 2 ≤ 6) (hr : ∀ k, 0 ≤ k → k < h 8 2 → R32 (h 36 k) ∧ R32 (h 37 k)) : ∀ (n : Nat) (k : Int), 0 ≤ k → k + n = h 8 2 → anyB (cBd h c t) k.toNat = false → Ev shC mX7_isAllAsIf 13 [some (vr 8), g, some (vr 2), some (vr 4), some (vi c), some (vi t), some (vi k)] [] h (RI fun x h' => x = b2i (!anyB (cBd h c t) (h 8 2).toNat) ∧ h = h') := by
  intro n
  induction n with
  | zero =>
    intro k h0 h1 hb
    have he : k = h 8 2 := by omega
    subst he
    rw [hb]
    refine ev_iload 15 dX7_isAllAsIf_13 rfl rfl ?_
    refine ev_aload_n 16 dX7_isAllAsIf_15 rfl rfl ?_
    refine ev_getI 19 2 fX7_18 rfl dX7_isAllAsIf_16 rfl rfl rfl (by decide) rfl ?_
    refine ev_icmp_ge 22 54 dX7_isAllAsIf_19 rfl rfl (by omega) (by omega) (fun c19 => ?_) (fun c19 => ?_)
    · refine ev_iconst 55 dX7_isAllAsIf_54 rfl ?_
      exact ev_zret rfl dX7_isAllAsIf_55 (by omega) (⟨rfl, rfl⟩)
    · omega --done
  | succ n ih =>
    intro k h0 h1 hb
    have hrk := hr k h0 (by omega)
    have K := ih (k + 1) (by omega) (by omega)
    rw [anyB_1 h0, hb, Bool.false_or] at K
    refine ev_iload 15 dX7_isAllAsIf_13 rfl rfl ?_
    refine ev_aload_n 16 dX7_isAllAsIf_15 rfl rfl ?_
    refine ev_getI 19 2 fX7_18 rfl dX7_isAllAsIf_16 rfl rfl rfl (by decide) rfl ?_
    refine ev_icmp_ge 22 54 dX7_isAllAsIf_19 rfl rfl (by omega) (by omega) (fun c19 => ?_) (fun c19 => ?_)
    · omega --done
    · refine ev_aload_n 23 dX7_isAllAsIf_22 rfl rfl ?_
      refine ev_getR 26 fX7_9 rfl dX7_isAllAsIf_23 rfl rfl rfl ?_
      refine ev_iload 28 dX7_isAllAsIf_26 rfl rfl ?_
      refine ev_iald 29 dX7_isAllAsIf_28 rfl rfl (by decide) (by omega) ?_
      refine ev_iload 31 dX7_isAllAsIf_29 rfl rfl ?_
      refine ev_icmp_ne 34 48 dX7_isAllAsIf_31 rfl rfl (by omega) (by omega) (fun c31 => ?_) (fun c31 => ?_)
      · refine ev_iinc 51 dX7_isAllAsIf_48 rfl rfl ?_
        refine ev_goto 13 dX7_isAllAsIf_51 rfl ?_
        refine K ?_
        unfold cBd
        first | (rw [decide_eq_false c31]; rfl) | (rw [decide_eq_false (p := h 37 k ≠ t) (fun z => z c43), Bool.and_false])
      · refine ev_aload_n 35 dX7_isAllAsIf_34 rfl rfl ?_
        refine ev_getR 38 fX7_15 rfl dX7_isAllAsIf_35 rfl rfl rfl ?_
        refine ev_iload 40 dX7_isAllAsIf_38 rfl rfl ?_
        refine ev_iald 41 dX7_isAllAsIf_40 rfl rfl (by decide) (by omega) ?_
        refine ev_iload 43 dX7_isAllAsIf_41 rfl rfl ?_
        refine ev_icmp_eq 46 48 dX7_isAllAsIf_43 rfl rfl (by omega) (by omega) (fun c43 => ?_) (fun c43 => ?_)
        · refine ev_iinc 51 dX7_isAllAsIf_48 rfl rfl ?_
          refine ev_goto 13 dX7_isAllAsIf_51 rfl ?_
          refine K ?_
          unfold cBd
          first | (rw [decide_eq_false c31]; rfl) | (rw [decide_eq_false (p := h 37 k ≠ t) (fun z => z c43), Bool.and_false])
        · have e : anyB (cBd h c t) (h 8 2).toNat = true := anyB_iff.mpr ⟨k, h0, by omega, by unfold cBd; rw [decide_eq_true c31, decide_eq_true c43]; rfl⟩
          rw [e]
          refine ev_iconst 47 dX7_isAllAsIf_46 rfl ?_
          exact ev_zret rfl dX7_isAllAsIf_47 (by omega) (⟨rfl, rfl⟩)
theorem c_isAllAsIf {c g : Int} (hn : 0 ≤ h 2 5 ∧ h 2 5 ≤ 5) (hC : CCh h) (hw : WY h 21) (hc : 0 ≤ c ∧ c < h 2 5) (hg : g = 0 ∨ g = 1) (hl : 0 ≤ h 2 6 ∧ h 2 6 ≤ 128) (hm : 0 ≤ h 8 2 ∧ h 8 2 ≤ 6) (hr : ∀ k, 0 ≤ k → k < h 8 2 → R32 (h 36 k) ∧ R32 (h 37 k)) : Ev shC mX7_isAllAsIf 0 [some (vr 8), some (vi g), some (vr 2), some (vr 4), some (vi c), none, none] [] h (RI fun x h' => x = b2i (soC h c g) ∧ h = h') := by
  have ha := cAl_r hC hw hc hl g
  refine ev_aload_n 1 dX7_isAllAsIf_0 rfl rfl ?_
  refine ev_aload_n 2 dX7_isAllAsIf_1 rfl rfl ?_
  refine ev_iload 4 dX7_isAllAsIf_2 rfl rfl ?_
  refine ev_iload_n 5 dX7_isAllAsIf_4 rfl rfl ?_
  refine cVi3 8 kX7_isAllAsIf_31 dX7_isAllAsIf_5 rfl rfl rfl rfl rfl (by decide) rfl (Nat.le_of_ble_eq_true rfl) (c_aloneOf hn hC hw hc (by omega) ⟨hl.1, by omega⟩) ?_
  rintro x _ ⟨rfl, rfl⟩
  refine ev_istore 10 dX7_isAllAsIf_8 rfl (Nat.le_of_ble_eq_true rfl) ?_
  refine ev_iconst 11 dX7_isAllAsIf_10 rfl ?_
  refine ev_istore 13 dX7_isAllAsIf_11 rfl (Nat.le_of_ble_eq_true rfl) ?_
  exact c_all_loop (by omega) (by omega) hm hr (h 8 2).toNat 0 (by omega) (by omega) rfl
theorem c_sus_loop {gu : Int} (hg : gu = 0 ∨ gu = 1) (hn : 0 ≤ h 2 5 ∧ h 2 5 ≤ 5) (hC : CCh h) (hw : WY h 21) (hl : 0 ≤ h 2 6 ∧ h 2 6 ≤ 128) (hm : 0 ≤ h 8 2 ∧ h 8 2 ≤ 6) (hr : ∀ k, 0 ≤ k → k < h 8 2 → R32 (h 36 k) ∧ R32 (h 37 k)) : ∀ (k : Nat) (c set : Int) (o6 : Option AV), 0 ≤ c → c + k = h 2 5 → 0 ≤ set ∧ set < 32 → (∀ d, 0 ≤ d → d < 5 → bit set d = b2i (decide (d < c) && susC h gu d)) → Ev shC mX7_suspects 6 [some (vr 8), some (vi gu), some (vr 2), some (vr 4), some (vi set), some (vi c), o6] [] h (RI fun x h' => (0 ≤ x ∧ x < 32) ∧ (∀ d, 0 ≤ d → d < 5 → bit x d = b2i (decide (d < h 2 5) && susC h gu d)) ∧ h = h') := by
  intro k
  induction k with
  | zero =>
    intro c set o6 h0 h1 hset hb
    have he : c = h 2 5 := by omega
    subst he
    refine ev_iload 8 dX7_suspects_6 rfl rfl ?_
    refine ev_aload_n 9 dX7_suspects_8 rfl rfl ?_
    refine ev_getI 12 5 fX7_22 rfl dX7_suspects_9 rfl rfl rfl (by decide) rfl ?_
    refine ev_icmp_ge 15 59 dX7_suspects_12 rfl rfl (by omega) (by omega) (fun c12 => ?_) (fun c12 => ?_)
    · refine ev_iload 61 dX7_suspects_59 rfl rfl ?_
      exact ev_iret rfl dX7_suspects_61 (⟨hset, hb, rfl⟩)
    · omega --done
  | succ k ih =>
    intro c set o6 h0 h1 hset hb
    have hp := pw_r (c := c) (by omega)
    have no : susC h gu c = false → ∀ d, 0 ≤ d → d < 5 → bit set d = b2i (decide (d < c + 1) && susC h gu d) := fun q d a b => by
      rw [hb d a b]
      by_cases e : d = c
      · subst e; rw [q, Bool.and_false, Bool.and_false]
      · by_cases e2 : d < c
        · rw [decide_eq_true e2, decide_eq_true (show d < c + 1 by omega)]
        · rw [decide_eq_false e2, decide_eq_false (show ¬ d < c + 1 by omega)]
    have yes : susC h gu c = true → ∀ d, 0 ≤ d → d < 5 → bit (orc set c) d = b2i (decide (d < c + 1) && susC h gu d) := fun q d a b => by
      rw [orc_b hset (by omega) ⟨a, b⟩, hb d a b]
      by_cases e : d = c
      · subst e; rw [if_pos rfl, q, decide_eq_true (show d < d + 1 by omega)]; rfl
      · rw [if_neg e]
        by_cases e2 : d < c
        · rw [decide_eq_true e2, decide_eq_true (show d < c + 1 by omega)]
        · rw [decide_eq_false e2, decide_eq_false (show ¬ d < c + 1 by omega)]
    refine ev_iload 8 dX7_suspects_6 rfl rfl ?_
    refine ev_aload_n 9 dX7_suspects_8 rfl rfl ?_
    refine ev_getI 12 5 fX7_22 rfl dX7_suspects_9 rfl rfl rfl (by decide) rfl ?_
    refine ev_icmp_ge 15 59 dX7_suspects_12 rfl rfl (by omega) (by omega) (fun c12 => ?_) (fun c12 => ?_)
    · omega --done
    · refine ev_aload_n 16 dX7_suspects_15 rfl rfl ?_
      refine ev_iconst 17 dX7_suspects_16 rfl ?_
      refine ev_aload_n 18 dX7_suspects_17 rfl rfl ?_
      refine ev_aload_n 19 dX7_suspects_18 rfl rfl ?_
      refine ev_iload 21 dX7_suspects_19 rfl rfl ?_
      refine cVi4 24 kX7_suspects_27 dX7_suspects_21 rfl rfl rfl rfl rfl (by decide) rfl (Nat.le_of_ble_eq_true rfl) (c_isAllAsIf hn hC hw ⟨h0, by omega⟩ (by omega) hl hm hr) ?_
      rintro x _ ⟨rfl, rfl⟩
      refine ev_istore 26 dX7_suspects_24 rfl (Nat.le_of_ble_eq_true rfl) ?_
      refine ev_iload 28 dX7_suspects_26 rfl rfl ?_
      refine ev_if_ne 31 53 dX7_suspects_28 rfl rfl (b2i_r _) (fun c28 => ?_) (fun c28 => ?_)
      · have q : susC h gu c = false := by unfold susC; rw [b2i_n.mp c28]; rfl
        have no := no q
        refine ev_iinc 56 dX7_suspects_53 rfl rfl ?_
        refine ev_goto 6 dX7_suspects_56 rfl ?_
        exact ih (c + 1) _ _ (by omega) (by omega) (by first | exact hset | exact orc_r hset (by omega)) no
      · have d28 := b2i_0.mp c28
        refine ev_aload_n 32 dX7_suspects_31 rfl rfl ?_
        refine ev_iconst 33 dX7_suspects_32 rfl ?_
        refine ev_aload_n 34 dX7_suspects_33 rfl rfl ?_
        refine ev_aload_n 35 dX7_suspects_34 rfl rfl ?_
        refine ev_iload 37 dX7_suspects_35 rfl rfl ?_
        refine cVi4 40 kX7_suspects_27 dX7_suspects_37 rfl rfl rfl rfl rfl (by decide) rfl (Nat.le_of_ble_eq_true rfl) (c_isAllAsIf hn hC hw ⟨h0, by omega⟩ (by omega) hl hm hr) ?_
        rintro x _ ⟨rfl, rfl⟩
        refine ev_iload_n 41 dX7_suspects_40 rfl rfl ?_
        refine ev_icmp_ne 44 53 dX7_suspects_41 rfl rfl (b2i_r _) (by omega) (fun c41 => ?_) (fun c41 => ?_)
        · have q : susC h gu c = false := by unfold susC; rw [d28]; cases q2 : soC h c 1 <;> rcases hg with rfl | rfl <;> first | rfl | (rw [q2] at c41; exact absurd rfl c41)
          have no := no q
          refine ev_iinc 56 dX7_suspects_53 rfl rfl ?_
          refine ev_goto 6 dX7_suspects_56 rfl ?_
          exact ih (c + 1) _ _ (by omega) (by omega) (by first | exact hset | exact orc_r hset (by omega)) no
        · have q : susC h gu c = true := by unfold susC; rw [d28]; cases q2 : soC h c 1 <;> rcases hg with rfl | rfl <;> first | rfl | (rw [q2] at c41; exact absurd c41 (by decide))
          have no := yes q
          refine ev_iload 46 dX7_suspects_44 rfl rfl ?_
          refine ev_iconst 47 dX7_suspects_46 rfl ?_
          refine ev_iload 49 dX7_suspects_47 rfl rfl ?_
          refine ev_ishl 50 dX7_suspects_49 rfl (by omega) (by omega) (by omega) ?_
          refine ev_ior 51 dX7_suspects_50 rfl (by omega) (by omega) ?_
          refine ev_topi (show _ = orc set c from rfl) ?_
          refine ev_istore 53 dX7_suspects_51 rfl (Nat.le_of_ble_eq_true rfl) ?_
          refine ev_iinc 56 dX7_suspects_53 rfl rfl ?_
          refine ev_goto 6 dX7_suspects_56 rfl ?_
          exact ih (c + 1) _ _ (by omega) (by omega) (by first | exact hset | exact orc_r hset (by omega)) no
theorem c_suspects {gu : Int} (hg : gu = 0 ∨ gu = 1) (hn : 0 ≤ h 2 5 ∧ h 2 5 ≤ 5) (hC : CCh h) (hw : WY h 21) (hl : 0 ≤ h 2 6 ∧ h 2 6 ≤ 128) (hm : 0 ≤ h 8 2 ∧ h 8 2 ≤ 6) (hr : ∀ k, 0 ≤ k → k < h 8 2 → R32 (h 36 k) ∧ R32 (h 37 k)) : Ev shC mX7_suspects 0 [some (vr 8), some (vi gu), some (vr 2), some (vr 4), none, none, none] [] h (RI fun x h' => (0 ≤ x ∧ x < 32) ∧ (∀ d, 0 ≤ d → d < 5 → bit x d = b2i (decide (d < h 2 5) && susC h gu d)) ∧ h = h') := by
  refine ev_iconst 1 dX7_suspects_0 rfl ?_
  refine ev_istore 3 dX7_suspects_1 rfl (Nat.le_of_ble_eq_true rfl) ?_
  refine ev_iconst 4 dX7_suspects_3 rfl ?_
  refine ev_istore 6 dX7_suspects_4 rfl (Nat.le_of_ble_eq_true rfl) ?_
  refine c_sus_loop hg hn hC hw hl hm hr (h 2 5).toNat 0 0 none (by omega) (by omega) (by omega) (fun d a b => ?_)
  rw [bit_0, decide_eq_false (show ¬ d < 0 by omega)]
  rfl
end CA
