def clZ (m : Int) : Int := if m < 0 then 0 else if 5 < m then 5 else m
def loU (v : Int → Int) : Nat → Int
  | 0 => 133
  | k + 1 => if v k < loU v k then v k else loU v k
def hiU (v : Int → Int) : Nat → Int
  | 0 => 0
  | k + 1 => if hiU v k < v k then v k else hiU v k
def vG (u : Int → Int) (g c : Int) : Int := u c + clZ (g - u c)
def spU (u : Int → Int) (n g : Int) : Int := hiU (vG u g) n.toNat - loU (vG u g) n.toNat
def fgF (sp : Int → Int) : Nat → Int × Int
  | 0 => (0, sp 0)
  | i + 1 => if sp (i + 1) < (fgF sp i).2 then (i + 1, sp (i + 1)) else fgF sp i
theorem clZ_r (m : Int) : 0 ≤ clZ m ∧ clZ m ≤ 5 := by unfold clZ; repeat' split <;> omega
theorem loU_r {v : Int → Int} : ∀ k : Nat, (∀ c : Int, 0 ≤ c → c < k → 0 ≤ v c ∧ v c ≤ 1000) → 0 ≤ loU v k ∧ loU v k ≤ 2147483647 := by
  intro k
  induction k with
  | zero => intro _; exact ⟨by show (0 : Int) ≤ 133; decide, by show (133 : Int) ≤ 2147483647; decide⟩
  | succ k ih =>
    intro h
    have h1 := ih (fun c a b => h c a (by omega))
    have h2 := h k (by omega) (by omega)
    unfold loU
    split <;> omega
theorem hiU_r {v : Int → Int} : ∀ k : Nat, (∀ c : Int, 0 ≤ c → c < k → 0 ≤ v c ∧ v c ≤ 1000) → 0 ≤ hiU v k ∧ hiU v k ≤ 1000 := by
  intro k
  induction k with
  | zero => intro _; exact ⟨Int.le_refl _, by show (0 : Int) ≤ 1000; decide⟩
  | succ k ih =>
    intro h
    have h1 := ih (fun c a b => h c a (by omega))
    have h2 := h k (by omega) (by omega)
    unfold hiU
    split <;> omega
/-- a chair's gain, and its time alone, as the class has them -/
def cG (h : Hp) (c b : Int) : Int := gainZ (h 16 (h 21 c)) (h 14 c) b
theorem cG_r {h : Hp} (hC : CCh h) (hw : WY h 21) {c : Int} (hc : 0 ≤ c ∧ c < h 2 5) (b : Int) : 1 ≤ cG h c b ∧ cG h c b ≤ 20 := by
  have h1 := hw c hc.1 hc.2
  exact gainZ_r (hC (h 21 c) h1.1 h1.2).2.1 (hC c hc.1 hc.2).1
def cAl (h : Hp) (c b : Int) : Int := h 22 c + ceilD (h 2 6) (cG h c b)
section CF
variable {h : Hp}
theorem c_gainOf {c : Int} (hn : 0 ≤ h 2 5 ∧ h 2 5 ≤ 5) (hC : CCh h) (hw : WY h 21) (hc : 0 ≤ c ∧ c < h 2 5) : Ev shC mX0_gainOf 0 [some (vr 4), some (vr 2), some (vi c)] [] h (RI fun x h' => x = cG h c (h 23 c) ∧ h = h') := by
  have h1 := hw c hc.1 hc.2
  have h2 := hC (h 21 c) h1.1 h1.2
  have h3 := hC c hc.1 hc.2
  refine ev_aload_n 1 dX0_gainOf_0 rfl rfl ?_
  refine ev_iload_n 2 dX0_gainOf_1 rfl rfl ?_
  refine ev_aload_n 3 dX0_gainOf_2 rfl rfl ?_
  refine ev_aload_n 4 dX0_gainOf_3 rfl rfl ?_
  refine ev_getR 7 fX0_9 rfl dX0_gainOf_4 rfl rfl rfl ?_
  refine ev_iload_n 8 dX0_gainOf_7 rfl rfl ?_
  refine ev_iald 9 dX0_gainOf_8 rfl rfl (by decide) (by omega) ?_
  refine cVi1 12 kX0_gainOf_29 dX0_gainOf_9 rfl rfl rfl rfl rfl (by decide) rfl (Nat.le_of_ble_eq_true rfl) (c_strengthOf (by omega) hn) ?_
  rintro x _ ⟨e9, rfl⟩
  rw [if_pos h1] at e9
  rw [e9]
  refine ev_aload_n 13 dX0_gainOf_12 rfl rfl ?_
  refine ev_getR 16 fX0_18 rfl dX0_gainOf_13 rfl rfl rfl ?_
  refine ev_iload_n 17 dX0_gainOf_16 rfl rfl ?_
  refine ev_zald 18 dX0_gainOf_17 rfl rfl (by decide) (by omega) ?_
  refine cVi3 21 kX0_gainOf_35 dX0_gainOf_18 rfl rfl rfl rfl rfl (by decide) rfl (Nat.le_of_ble_eq_true rfl) (c_gainBy ⟨hc.1, by omega⟩ ⟨by omega, by omega⟩ ⟨by omega, by omega⟩ (by omega)) ?_
  rintro x _ ⟨rfl, rfl⟩
  exact ev_iret rfl dX0_gainOf_21 (⟨rfl, rfl⟩)
theorem c_aloneOf {c b : Int} (hn : 0 ≤ h 2 5 ∧ h 2 5 ≤ 5) (hC : CCh h) (hw : WY h 21) (hc : 0 ≤ c ∧ c < h 2 5) (hb : R32 b) (hl : 0 ≤ h 2 6 ∧ h 2 6 ≤ 1000) : Ev shC mX0_aloneOf 0 [some (vr 4), some (vr 2), some (vi c), some (vi b), none] [] h (RI fun x h' => x = cAl h c b ∧ h = h') := by
  have h1 := hw c hc.1 hc.2
  have h2 := hC (h 21 c) h1.1 h1.2
  have h3 := hC c hc.1 hc.2
  have hg := cG_r hC hw hc b
  refine ev_aload_n 1 dX0_aloneOf_0 rfl rfl ?_
  refine ev_iload_n 2 dX0_aloneOf_1 rfl rfl ?_
  refine ev_aload_n 3 dX0_aloneOf_2 rfl rfl ?_
  refine ev_aload_n 4 dX0_aloneOf_3 rfl rfl ?_
  refine ev_getR 7 fX0_9 rfl dX0_aloneOf_4 rfl rfl rfl ?_
  refine ev_iload_n 8 dX0_aloneOf_7 rfl rfl ?_
  refine ev_iald 9 dX0_aloneOf_8 rfl rfl (by decide) (by omega) ?_
  refine cVi1 12 kX0_aloneOf_29 dX0_aloneOf_9 rfl rfl rfl rfl rfl (by decide) rfl (Nat.le_of_ble_eq_true rfl) (c_strengthOf (by omega) hn) ?_
  rintro x _ ⟨e9, rfl⟩
  rw [if_pos h1] at e9
  rw [e9]
  refine ev_iload_n 13 dX0_aloneOf_12 rfl rfl ?_
  refine cVi3 16 kX0_aloneOf_35 dX0_aloneOf_13 rfl rfl rfl rfl rfl (by decide) rfl (Nat.le_of_ble_eq_true rfl) (c_gainBy ⟨hc.1, by omega⟩ ⟨by omega, by omega⟩ ⟨by omega, by omega⟩ hb) ?_
  rintro x _ ⟨e13, rfl⟩
  have e13 : x = cG h c b := e13
  rw [e13]
  refine ev_istore 18 dX0_aloneOf_16 rfl (Nat.le_of_ble_eq_true rfl) ?_
  refine ev_aload_n 19 dX0_aloneOf_18 rfl rfl ?_
  refine ev_getR 22 fX0_15 rfl dX0_aloneOf_19 rfl rfl rfl ?_
  refine ev_iload_n 23 dX0_aloneOf_22 rfl rfl ?_
  refine ev_iald 24 dX0_aloneOf_23 rfl rfl (by decide) (by omega) ?_
  refine ev_aload_n 25 dX0_aloneOf_24 rfl rfl ?_
  refine ev_iload 27 dX0_aloneOf_25 rfl rfl ?_
  refine cVi1 30 kX0_aloneOf_39 dX0_aloneOf_27 rfl rfl rfl rfl rfl (by decide) rfl (Nat.le_of_ble_eq_true rfl) (c_minutesBy (by omega) (by omega) hl) ?_
  rintro x _ ⟨e27, rfl⟩
  rw [if_neg (by omega)] at e27
  rw [e27]
  refine ev_iadd 31 dX0_aloneOf_30 rfl ?_
  exact ev_iret rfl dX0_aloneOf_31 (⟨rfl, rfl⟩)
theorem c_handicapFor {g c : Int} (hc : 0 ≤ c ∧ c < 5) (hg : 0 ≤ g ∧ g ≤ 1000) (hu : 0 ≤ h 40 c ∧ h 40 c ≤ 1000) : Ev shC mX2_handicapFor 0 [some (vr 9), some (vi g), some (vi c), none] [] h (RI fun x h' => x = clZ (g - h 40 c) ∧ h = h') := by
  unfold clZ
  refine ev_iload_n 1 dX2_handicapFor_0 rfl rfl ?_
  refine ev_aload_n 2 dX2_handicapFor_1 rfl rfl ?_
  refine ev_getR 5 fX2_39 rfl dX2_handicapFor_2 rfl rfl rfl ?_
  refine ev_iload_n 6 dX2_handicapFor_5 rfl rfl ?_
  refine ev_iald 7 dX2_handicapFor_6 rfl rfl (by decide) (by omega) ?_
  refine ev_isub 8 dX2_handicapFor_7 rfl ?_
  refine ev_istore_n 9 dX2_handicapFor_8 rfl (Nat.le_of_ble_eq_true rfl) ?_
  refine ev_iconst 10 dX2_handicapFor_9 rfl ?_
  refine ev_iconst 11 dX2_handicapFor_10 rfl ?_
  refine ev_iload_n 12 dX2_handicapFor_11 rfl rfl ?_
  refine ev_min 15 kX2_handicapFor_91 dX2_handicapFor_12 rfl (by omega) (by omega) (Nat.le_of_ble_eq_true rfl) ?_
  refine ev_max 18 kX2_handicapFor_97 dX2_handicapFor_15 rfl (by omega) (by split <;> omega) (Nat.le_of_ble_eq_true rfl) ?_
  exact ev_iret rfl dX2_handicapFor_18 (⟨by repeat' split <;> omega, rfl⟩)
theorem c_sp_loop {g : Int} (hn : 0 ≤ h 2 5 ∧ h 2 5 ≤ 5) (hg : 0 ≤ g ∧ g ≤ 900) (hu : ∀ c, 0 ≤ c → c < h 2 5 → 0 ≤ h 40 c ∧ h 40 c ≤ 900) : ∀ (k : Nat) (c : Int) (o5 : Option AV), 0 ≤ c → c + k = h 2 5 → Ev shC mX2_spreadFor 9 [some (vr 9), some (vi g), some (vi (loU (vG (h 40) g) c.toNat)), some (vi (hiU (vG (h 40) g) c.toNat)), some (vi c), o5] [] h (RI fun x h' => x = spU (h 40) (h 2 5) g ∧ h = h') := by
  have hv : ∀ c, 0 ≤ c → c < h 2 5 → 0 ≤ vG (h 40) g c ∧ vG (h 40) g c ≤ 1000 := fun c a b => by
    have := hu c a b
    have := clZ_r (g - h 40 c)
    unfold vG
    omega
  intro k
  induction k with
  | zero =>
    intro c o5 h0 h1
    have he : c = h 2 5 := by omega
    subst he
    refine ev_iload 11 dX2_spreadFor_9 rfl rfl ?_
    refine ev_aload_n 12 dX2_spreadFor_11 rfl rfl ?_
    refine ev_getR 15 fX2_12 rfl dX2_spreadFor_12 rfl rfl rfl ?_
    refine ev_getI 18 5 fX2_49 rfl dX2_spreadFor_15 rfl rfl rfl (by decide) rfl ?_
    refine ev_icmp_ge 21 58 dX2_spreadFor_18 rfl rfl (by omega) (by omega) (fun c18 => ?_) (fun c18 => ?_)
    · refine ev_iload_n 59 dX2_spreadFor_58 rfl rfl ?_
      refine ev_iload_n 60 dX2_spreadFor_59 rfl rfl ?_
      refine ev_isub 61 dX2_spreadFor_60 rfl ?_
      exact ev_iret rfl dX2_spreadFor_61 (⟨rfl, rfl⟩)
    · omega --done
  | succ k ih =>
    intro c o5 h0 h1
    have hvc := hv c h0 (by omega)
    have huc := hu c h0 (by omega)
    have hl := loU_r (v := vG (h 40) g) c.toNat (fun e a b => hv e a (by omega))
    have hh := hiU_r (v := vG (h 40) g) c.toNat (fun e a b => hv e a (by omega))
    have K := ih (c + 1) (some (vi (vG (h 40) g c))) (by omega) (by omega)
    have e1 : loU (vG (h 40) g) (c + 1).toNat = if vG (h 40) g c < loU (vG (h 40) g) c.toNat then vG (h 40) g c else loU (vG (h 40) g) c.toNat := by
      rw [show (c + 1).toNat = c.toNat + 1 by omega]
      show (if vG (h 40) g (c.toNat : Int) < _ then vG (h 40) g (c.toNat : Int) else _) = _
      rw [Int.toNat_of_nonneg h0]
    have e2 : hiU (vG (h 40) g) (c + 1).toNat = if hiU (vG (h 40) g) c.toNat < vG (h 40) g c then vG (h 40) g c else hiU (vG (h 40) g) c.toNat := by
      rw [show (c + 1).toNat = c.toNat + 1 by omega]
      show (if _ < vG (h 40) g (c.toNat : Int) then vG (h 40) g (c.toNat : Int) else _) = _
      rw [Int.toNat_of_nonneg h0]
    rw [e1, e2] at K
    refine ev_iload 11 dX2_spreadFor_9 rfl rfl ?_
    refine ev_aload_n 12 dX2_spreadFor_11 rfl rfl ?_
    refine ev_getR 15 fX2_12 rfl dX2_spreadFor_12 rfl rfl rfl ?_
    refine ev_getI 18 5 fX2_49 rfl dX2_spreadFor_15 rfl rfl rfl (by decide) rfl ?_
    refine ev_icmp_ge 21 58 dX2_spreadFor_18 rfl rfl (by omega) (by omega) (fun c18 => ?_) (fun c18 => ?_)
    · omega --done
    · refine ev_aload_n 22 dX2_spreadFor_21 rfl rfl ?_
      refine ev_getR 25 fX2_39 rfl dX2_spreadFor_22 rfl rfl rfl ?_
      refine ev_iload 27 dX2_spreadFor_25 rfl rfl ?_
      refine ev_iald 28 dX2_spreadFor_27 rfl rfl (by decide) (by omega) ?_
      refine ev_aload_n 29 dX2_spreadFor_28 rfl rfl ?_
      refine ev_iload_n 30 dX2_spreadFor_29 rfl rfl ?_
      refine ev_iload 32 dX2_spreadFor_30 rfl rfl ?_
      refine cVi2 35 kX2_spreadFor_100 dX2_spreadFor_32 rfl rfl rfl rfl rfl (by decide) rfl (Nat.le_of_ble_eq_true rfl) (c_handicapFor ⟨h0, by omega⟩ ⟨hg.1, by omega⟩ ⟨huc.1, by omega⟩) ?_
      rintro x _ ⟨rfl, rfl⟩
      refine ev_iadd 36 dX2_spreadFor_35 rfl ?_
      refine ev_topi (show _ = vG (h 40) g c from rfl) ?_
      refine ev_istore 38 dX2_spreadFor_36 rfl (Nat.le_of_ble_eq_true rfl) ?_
      refine ev_iload_n 39 dX2_spreadFor_38 rfl rfl ?_
      refine ev_iload 41 dX2_spreadFor_39 rfl rfl ?_
      refine ev_min 44 kX2_spreadFor_91 dX2_spreadFor_41 rfl (by omega) (by omega) (Nat.le_of_ble_eq_true rfl) ?_
      refine ev_istore_n 45 dX2_spreadFor_44 rfl (Nat.le_of_ble_eq_true rfl) ?_
      refine ev_iload_n 46 dX2_spreadFor_45 rfl rfl ?_
      refine ev_iload 48 dX2_spreadFor_46 rfl rfl ?_
      refine ev_max 51 kX2_spreadFor_97 dX2_spreadFor_48 rfl (by omega) (by omega) (Nat.le_of_ble_eq_true rfl) ?_
      refine ev_istore_n 52 dX2_spreadFor_51 rfl (Nat.le_of_ble_eq_true rfl) ?_
      refine ev_iinc 55 dX2_spreadFor_52 rfl rfl ?_
      refine ev_goto 9 dX2_spreadFor_55 rfl ?_
      exact K
theorem c_spreadFor {g : Int} (hn : 0 ≤ h 2 5 ∧ h 2 5 ≤ 5) (hg : 0 ≤ g ∧ g ≤ 900) (hu : ∀ c, 0 ≤ c → c < h 2 5 → 0 ≤ h 40 c ∧ h 40 c ≤ 900) : Ev shC mX2_spreadFor 0 [some (vr 9), some (vi g), none, none, none, none] [] h (RI fun x h' => x = spU (h 40) (h 2 5) g ∧ h = h') := by
  refine ev_sipush 3 dX2_spreadFor_0 rfl (by decide +kernel) ?_
  refine ev_istore_n 4 dX2_spreadFor_3 rfl (Nat.le_of_ble_eq_true rfl) ?_
  refine ev_iconst 5 dX2_spreadFor_4 rfl ?_
  refine ev_istore_n 6 dX2_spreadFor_5 rfl (Nat.le_of_ble_eq_true rfl) ?_
  refine ev_iconst 7 dX2_spreadFor_6 rfl ?_
  refine ev_istore 9 dX2_spreadFor_7 rfl (Nat.le_of_ble_eq_true rfl) ?_
  exact c_sp_loop hn hg hu (h 2 5).toNat 0 none (by omega) (by omega)
theorem spU_r {u : Int → Int} {n g : Int} (hn : 0 ≤ n ∧ n ≤ 5) (hg : 0 ≤ g ∧ g ≤ 900) (hu : ∀ c, 0 ≤ c → c < n → 0 ≤ u c ∧ u c ≤ 900) : R32 (spU u n g) := by
  have hv : ∀ c, 0 ≤ c → c < n → 0 ≤ vG u g c ∧ vG u g c ≤ 1000 := fun c a b => by
    have := hu c a b
    have := clZ_r (g - u c)
    unfold vG
    omega
  have hl := loU_r (v := vG u g) n.toNat (fun e a b => hv e a (by omega))
  have hh := hiU_r (v := vG u g) n.toNat (fun e a b => hv e a (by omega))
  unfold spU
  omega
theorem c_fg_loop (hn : 0 ≤ h 2 5 ∧ h 2 5 ≤ 5) (hu : ∀ c, 0 ≤ c → c < h 2 5 → 0 ≤ h 40 c ∧ h 40 c ≤ 900) : ∀ (k : Nat) (i : Nat) (o4 : Option AV), (i : Int) + k = 133 → Ev shC mX2_fairGoal 54 [some (vr 9), some (vi (fgF (spU (h 40) (h 2 5)) i).1), some (vi (fgF (spU (h 40) (h 2 5)) i).2), some (vi ((i : Int) + 1)), o4] [] h (RI fun x h' => x = (fgF (spU (h 40) (h 2 5)) 133).1 ∧ h = h') := by
  have hf : ∀ i : Nat, i ≤ 133 → R32 (fgF (spU (h 40) (h 2 5)) i).2 := by
    intro i
    induction i with
    | zero => intro _; exact spU_r hn (by omega) hu
    | succ i ih =>
      intro hi
      unfold fgF
      split
      · exact spU_r hn (by omega) hu
      · exact ih (by omega)
  intro k
  induction k with
  | zero =>
    intro i o4 h1
    have hi : i = 133 := by omega
    subst hi
    refine ev_iload_n 55 dX2_fairGoal_54 rfl rfl ?_
    refine ev_sipush 58 dX2_fairGoal_55 rfl (by decide +kernel) ?_
    refine ev_icmp_gt 61 85 dX2_fairGoal_58 rfl rfl (by omega) (by omega) (fun c58 => ?_) (fun c58 => ?_)
    · refine ev_iload_n 86 dX2_fairGoal_85 rfl rfl ?_
      exact ev_iret rfl dX2_fairGoal_86 (⟨rfl, rfl⟩)
    · omega --done
  | succ k ih =>
    intro i o4 h1
    have hfi := hf i (by omega)
    have hsp := spU_r (u := h 40) (n := h 2 5) (g := (i : Int) + 1) hn (by omega) hu
    have K := ih (i + 1) (some (vi (spU (h 40) (h 2 5) ((i : Int) + 1)))) (by omega)
    rw [show fgF (spU (h 40) (h 2 5)) (i + 1) = if spU (h 40) (h 2 5) ((i : Int) + 1) < (fgF (spU (h 40) (h 2 5)) i).2 then ((i : Int) + 1, spU (h 40) (h 2 5) ((i : Int) + 1)) else fgF (spU (h 40) (h 2 5)) i from rfl] at K
    refine ev_iload_n 55 dX2_fairGoal_54 rfl rfl ?_
    refine ev_sipush 58 dX2_fairGoal_55 rfl (by decide +kernel) ?_
    refine ev_icmp_gt 61 85 dX2_fairGoal_58 rfl rfl (by omega) (by omega) (fun c58 => ?_) (fun c58 => ?_)
    · omega --done
    · refine ev_aload_n 62 dX2_fairGoal_61 rfl rfl ?_
      refine ev_iload_n 63 dX2_fairGoal_62 rfl rfl ?_
      refine cVi1 66 kX2_fairGoal_88 dX2_fairGoal_63 rfl rfl rfl rfl rfl (by decide) rfl (Nat.le_of_ble_eq_true rfl) (c_spreadFor hn (by omega) hu) ?_
      rintro x _ ⟨rfl, rfl⟩
      refine ev_istore 68 dX2_fairGoal_66 rfl (Nat.le_of_ble_eq_true rfl) ?_
      refine ev_iload 70 dX2_fairGoal_68 rfl rfl ?_
      refine ev_iload_n 71 dX2_fairGoal_70 rfl rfl ?_
      refine ev_icmp_ge 74 79 dX2_fairGoal_71 rfl rfl (by omega) (by omega) (fun c71 => ?_) (fun c71 => ?_)
      · rw [if_neg (by omega)] at K
        refine ev_iinc 82 dX2_fairGoal_79 rfl rfl ?_
        refine ev_goto 54 dX2_fairGoal_82 rfl ?_
        exact K
      · rw [if_pos (by omega)] at K
        refine ev_iload_n 75 dX2_fairGoal_74 rfl rfl ?_
        refine ev_istore_n 76 dX2_fairGoal_75 rfl (Nat.le_of_ble_eq_true rfl) ?_
        refine ev_iload 78 dX2_fairGoal_76 rfl rfl ?_
        refine ev_istore_n 79 dX2_fairGoal_78 rfl (Nat.le_of_ble_eq_true rfl) ?_
        refine ev_iinc 82 dX2_fairGoal_79 rfl rfl ?_
        refine ev_goto 54 dX2_fairGoal_82 rfl ?_
        exact K
def unh (h : Hp) (c : Int) : Int := ceilD (h 2 6) (cG h c (h 23 c))
theorem c_fairGoal (hW : CW h) (hw : WY h 21) (hl : 0 ≤ h 2 6 ∧ h 2 6 ≤ 128) : Ev shC mX2_fairGoal 0 [some (vr 9), none, none, none, none] [] h (RI fun x h' => PsC h h' ∧ (∀ c, 0 ≤ c → c < h 2 5 → h' 40 c = unh h c) ∧ x = (fgF (spU (h' 40) (h 2 5)) 133).1) := by
  have hn : 0 < h 2 5 ∧ h 2 5 ≤ 5 := ⟨hW.1.1, hW.1.2.1⟩
  have hur : ∀ c, 0 ≤ c → c < h 2 5 → 0 ≤ unh h c ∧ unh h c ≤ 128 := fun c a b => ceil_r hl (cG_r hW.2 hw ⟨a, b⟩ _).1
  have lp : ∀ (k : Nat) (c : Int) (g : Int → Int), 0 ≤ c → c + k = h 2 5 → (∀ e, 0 ≤ e → e < c → g e = unh h e) → Ev shC mX2_fairGoal 2 [some (vr 9), some (vi c), none, none, none] [] (hput h 40 g) (RI fun x h' => PsC h h' ∧ (∀ c, 0 ≤ c → c < h 2 5 → h' 40 c = unh h c) ∧ x = (fgF (spU (h' 40) (h 2 5)) 133).1) := by
    intro k
    induction k with
    | zero =>
      intro c g h0 h1 hg
      have he : c = h 2 5 := by omega
      subst he
      have hu : ∀ c, 0 ≤ c → c < (hput h 40 g) 2 5 → 0 ≤ (hput h 40 g) 40 c ∧ (hput h 40 g) 40 c ≤ 900 := fun c a b => by
        rw [hput_s, hg c a b]
        have := hur c a b
        omega
      refine ev_iload_n 3 dX2_fairGoal_2 rfl rfl ?_
      refine ev_aload_n 4 dX2_fairGoal_3 rfl rfl ?_
      refine ev_getR 7 fX2_12 rfl dX2_fairGoal_4 rfl rfl rfl ?_
      refine ev_getI' 10 5 (h 2 5) fX2_49 rfl dX2_fairGoal_7 rfl rfl rfl (by decide) rfl rfl ?_
      refine ev_icmp_ge 13 44 dX2_fairGoal_10 rfl rfl (by omega) (by omega) (fun c10 => ?_) (fun c10 => ?_)
      · refine ev_iconst 45 dX2_fairGoal_44 rfl ?_
        refine ev_istore_n 46 dX2_fairGoal_45 rfl (Nat.le_of_ble_eq_true rfl) ?_
        refine ev_aload_n 47 dX2_fairGoal_46 rfl rfl ?_
        refine ev_iload_n 48 dX2_fairGoal_47 rfl rfl ?_
        refine cVi1 51 kX2_fairGoal_88 dX2_fairGoal_48 rfl rfl rfl rfl rfl (by decide) rfl (Nat.le_of_ble_eq_true rfl) (c_spreadFor (h := hput h 40 g) ⟨by show 0 ≤ h 2 5; omega, hn.2⟩ (by omega) hu) ?_
        rintro x _ ⟨rfl, rfl⟩
        refine ev_istore_n 52 dX2_fairGoal_51 rfl (Nat.le_of_ble_eq_true rfl) ?_
        refine ev_iconst 53 dX2_fairGoal_52 rfl ?_
        refine ev_istore_n 54 dX2_fairGoal_53 rfl (Nat.le_of_ble_eq_true rfl) ?_
        refine ev_wk (c_fg_loop (h := hput h 40 g) ⟨by show 0 ≤ h 2 5; omega, hn.2⟩ hu 133 0 none (by omega)) ?_
        rintro _ _ ⟨x, rfl, e1, rfl⟩
        exact ⟨x, rfl, PsC.rf.hp rfl (by decide), fun c a b => by rw [hput_s]; exact hg c a b, e1⟩
      · omega --done
    | succ k ih =>
      intro c g h0 h1 hg
      have hgr := cG_r hW.2 hw (c := c) ⟨h0, by omega⟩ (h 23 c)
      refine ev_iload_n 3 dX2_fairGoal_2 rfl rfl ?_
      refine ev_aload_n 4 dX2_fairGoal_3 rfl rfl ?_
      refine ev_getR 7 fX2_12 rfl dX2_fairGoal_4 rfl rfl rfl ?_
      refine ev_getI' 10 5 (h 2 5) fX2_49 rfl dX2_fairGoal_7 rfl rfl rfl (by decide) rfl rfl ?_
      refine ev_icmp_ge 13 44 dX2_fairGoal_10 rfl rfl (by omega) (by omega) (fun c10 => ?_) (fun c10 => ?_)
      · omega --done
      · refine ev_aload_n 14 dX2_fairGoal_13 rfl rfl ?_
        refine ev_getR 17 fX2_39 rfl dX2_fairGoal_14 rfl rfl rfl ?_
        refine ev_iload_n 18 dX2_fairGoal_17 rfl rfl ?_
        refine ev_aload_n 19 dX2_fairGoal_18 rfl rfl ?_
        refine ev_getR 22 fX2_12 rfl dX2_fairGoal_19 rfl rfl rfl ?_
        refine ev_aload_n 23 dX2_fairGoal_22 rfl rfl ?_
        refine ev_getR 26 fX2_21 rfl dX2_fairGoal_23 rfl rfl rfl ?_
        refine ev_aload_n 27 dX2_fairGoal_26 rfl rfl ?_
        refine ev_getR 30 fX2_12 rfl dX2_fairGoal_27 rfl rfl rfl ?_
        refine ev_iload_n 31 dX2_fairGoal_30 rfl rfl ?_
        refine cVi2 34 kX2_fairGoal_81 dX2_fairGoal_31 rfl rfl rfl rfl rfl (by decide) rfl (Nat.le_of_ble_eq_true rfl) (c_gainOf (h := hput h 40 g) ⟨by show 0 ≤ h 2 5; omega, hn.2⟩ hW.2 hw ⟨h0, by show c < h 2 5; omega⟩) ?_
        rintro x _ ⟨e31, rfl⟩
        have e31 : x = cG h c (h 23 c) := e31
        rw [e31]
        refine cVi1 37 kX2_fairGoal_85 dX2_fairGoal_34 rfl rfl rfl rfl rfl (by decide) rfl (Nat.le_of_ble_eq_true rfl) (c_minutesBy (h := hput h 40 g) (by omega) (by omega) ⟨hl.1, by show h 2 6 ≤ 1000; omega⟩) ?_
        rintro x _ ⟨e34, rfl⟩
        have e34 : x = unh h c := by rw [e34, if_neg (by omega)]; rfl
        rw [e34]
        refine ev_iast' 38 (hput h 40 (up g c (unh h c))) dX2_fairGoal_37 rfl rfl (by decide) (by omega) hput_hput ?_
        refine ev_iinc 41 dX2_fairGoal_38 rfl rfl ?_
        refine ev_goto 2 dX2_fairGoal_41 rfl ?_
        refine ih (c + 1) _ (by omega) (by omega) (fun e a b => ?_)
        by_cases q : e = c
        · subst q; rw [up_s]
        · rw [up_n q]; exact hg e a (by omega)
  have K := lp (h 2 5).toNat 0 (h 40) (by omega) (by omega) (fun e a b => by omega)
  rw [hput_id] at K
  refine ev_iconst 1 dX2_fairGoal_0 rfl ?_
  refine ev_istore_n 2 dX2_fairGoal_1 rfl (Nat.le_of_ble_eq_true rfl) ?_
  exact K
end CF
