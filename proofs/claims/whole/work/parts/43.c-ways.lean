/-! the class's next way -/
def raF (w : Int → Int) : Nat → Int
  | 0 => -1
  | k + 1 => if w (k + 1) < w k then raF w k else k
def laF (w : Int → Int) (ra : Int) : Nat → Int → Int
  | 0, l => l
  | k + 1, l => if ra + 1 < l ∧ w l < w ra then laF w ra k (l - 1) else l
def swF (w : Int → Int) (c e : Int) : Int → Int := up (up w c (w e)) e (w c)
def reF : Nat → Int → Int → (Int → Int) → (Int → Int)
  | 0, _, _, w => w
  | k + 1, l, r, w => if l < r then reF k (l + 1) (r - 1) (swF w l r) else w
def nextP (n : Int) (w : Int → Int) : Bool × (Int → Int) := if raF w (n - 1).toNat < 0 then (false, w) else (true, reF 5 (raF w (n - 1).toNat + 1) (n - 1) (swF w (raF w (n - 1).toNat) (laF w (raF w (n - 1).toNat) 5 (n - 1))))
theorem raF_r {w : Int → Int} : ∀ k : Nat, -1 ≤ raF w k ∧ raF w k < k := by
  intro k
  induction k with
  | zero => exact ⟨Int.le_refl _, by show (-1 : Int) < 0; decide⟩
  | succ k ih =>
    unfold raF
    split <;> omega
theorem laF_r {w : Int → Int} {ra : Int} : ∀ (k : Nat) (l : Int), ra < l → ra < laF w ra k l ∧ laF w ra k l ≤ l := by
  intro k
  induction k with
  | zero => intro l h; exact ⟨h, Int.le_refl _⟩
  | succ k ih =>
    intro l h
    unfold laF
    split
    · rename_i q
      have := ih (l - 1) (by omega)
      omega
    · exact ⟨h, Int.le_refl _⟩
theorem swF_in {w : Int → Int} {c e n : Int} {P : Int → Prop} (hc : 0 ≤ c ∧ c < n) (he : 0 ≤ e ∧ e < n) (h : ∀ i, 0 ≤ i → i < n → P (w i)) : ∀ i, 0 ≤ i → i < n → P (swF w c e i) := by
  intro i a b
  unfold swF up
  split
  · exact h c hc.1 hc.2
  · split
    · exact h e he.1 he.2
    · exact h i a b
theorem reF_in {n : Int} {P : Int → Prop} : ∀ (k : Nat) (l r : Int) (w : Int → Int), 0 ≤ l → r < n → (∀ i, 0 ≤ i → i < n → P (w i)) → ∀ i, 0 ≤ i → i < n → P (reF k l r w i) := by
  intro k
  induction k with
  | zero => intro l r w _ _ h; exact h
  | succ k ih =>
    intro l r w h0 h1 h
    unfold reF
    split
    · exact ih _ _ _ (by omega) (by omega) (swF_in ⟨by omega, by omega⟩ ⟨by omega, by omega⟩ h)
    · exact h
section NW2
variable {h : Hp}
theorem c_swapInWay {c e : Int} (hc : 0 ≤ c ∧ c < 5) (he : 0 ≤ e ∧ e < 5) : Ev shC mX2_swapInWay 0 [some (vr 9), some (vi c), some (vi e), none] [] h (RV fun h' => h' = hput h 38 (swF (h 38) c e)) := by
  refine ev_aload_n 1 dX2_swapInWay_0 rfl rfl ?_
  refine ev_getR 4 fX2_32 rfl dX2_swapInWay_1 rfl rfl rfl ?_
  refine ev_iload_n 5 dX2_swapInWay_4 rfl rfl ?_
  refine ev_iald 6 dX2_swapInWay_5 rfl rfl (by decide) (by omega) ?_
  refine ev_istore_n 7 dX2_swapInWay_6 rfl (Nat.le_of_ble_eq_true rfl) ?_
  refine ev_aload_n 8 dX2_swapInWay_7 rfl rfl ?_
  refine ev_getR 11 fX2_32 rfl dX2_swapInWay_8 rfl rfl rfl ?_
  refine ev_iload_n 12 dX2_swapInWay_11 rfl rfl ?_
  refine ev_aload_n 13 dX2_swapInWay_12 rfl rfl ?_
  refine ev_getR 16 fX2_32 rfl dX2_swapInWay_13 rfl rfl rfl ?_
  refine ev_iload_n 17 dX2_swapInWay_16 rfl rfl ?_
  refine ev_iald 18 dX2_swapInWay_17 rfl rfl (by decide) (by omega) ?_
  refine ev_iast 19 dX2_swapInWay_18 rfl rfl (by decide) (by omega) ?_
  refine ev_aload_n 20 dX2_swapInWay_19 rfl rfl ?_
  refine ev_getR 23 fX2_32 rfl dX2_swapInWay_20 rfl rfl rfl ?_
  refine ev_iload_n 24 dX2_swapInWay_23 rfl rfl ?_
  refine ev_iload_n 25 dX2_swapInWay_24 rfl rfl ?_
  refine ev_iast' 26 (hput h 38 (swF (h 38) c e)) dX2_swapInWay_25 rfl rfl (by decide) (by omega) hput_hput ?_
  exact ev_vret rfl dX2_swapInWay_26 (rfl)
theorem c_nx_ra {post : Option AV → Hp → Prop} (hn : 0 < h 2 5 ∧ h 2 5 ≤ 5) (hr : ∀ i, 0 ≤ i → i < h 2 5 → R32 (h 38 i)) : ∀ (k : Nat), (k : Int) < h 2 5 → Ev shC mX2_toNextWay 37 [some (vr 9), some (vi (raF (h 38) k)), none, none, none] [] h post → Ev shC mX2_toNextWay 10 [some (vr 9), some (vi ((k : Int) - 1)), none, none, none] [] h post := by
  intro k
  induction k with
  | zero =>
    intro hk K
    refine ev_iload_n 11 dX2_toNextWay_10 rfl rfl ?_
    refine ev_if_lt 14 37 dX2_toNextWay_11 rfl rfl (by omega) (fun c11 => ?_) (fun c11 => ?_)
    · exact K
    · omega --done
  | succ k ih =>
    intro hk K
    have e1 : ((k + 1 : Nat) : Int) - 1 = k := by omega
    have h1 := hr k (by omega) (by omega)
    have h2 := hr (k + 1) (by omega) (by omega)
    rw [e1]
    unfold raF at K
    refine ev_iload_n 11 dX2_toNextWay_10 rfl rfl ?_
    refine ev_if_lt 14 37 dX2_toNextWay_11 rfl rfl (by omega) (fun c11 => ?_) (fun c11 => ?_)
    · omega --done
    · refine ev_aload_n 15 dX2_toNextWay_14 rfl rfl ?_
      refine ev_getR 18 fX2_32 rfl dX2_toNextWay_15 rfl rfl rfl ?_
      refine ev_iload_n 19 dX2_toNextWay_18 rfl rfl ?_
      refine ev_iald 20 dX2_toNextWay_19 rfl rfl (by decide) (by omega) ?_
      refine ev_aload_n 21 dX2_toNextWay_20 rfl rfl ?_
      refine ev_getR 24 fX2_32 rfl dX2_toNextWay_21 rfl rfl rfl ?_
      refine ev_iload_n 25 dX2_toNextWay_24 rfl rfl ?_
      refine ev_iconst 26 dX2_toNextWay_25 rfl ?_
      refine ev_iadd 27 dX2_toNextWay_26 rfl ?_
      refine ev_iald 28 dX2_toNextWay_27 rfl rfl (by decide) (by omega) ?_
      refine ev_icmp_le 31 37 dX2_toNextWay_28 rfl rfl (by omega) (by omega) (fun c28 => ?_) (fun c28 => ?_)
      · rw [if_neg (by omega)] at K
        exact K --done
      · rw [if_pos (by omega)] at K
        refine ev_iinc 34 dX2_toNextWay_31 rfl rfl ?_
        refine ev_goto 10 dX2_toNextWay_34 rfl ?_
        exact ih (by omega) K
theorem c_nx_la {post : Option AV → Hp → Prop} (hn : 0 < h 2 5 ∧ h 2 5 ≤ 5) (hr : ∀ i, 0 ≤ i → i < h 2 5 → R32 (h 38 i)) {ra : Int} (hra : 0 ≤ ra ∧ ra < h 2 5 - 1) : ∀ (k : Nat) (l : Int), ra < l → l < h 2 5 → l - ra ≤ k + 1 → Ev shC mX2_toNextWay 81 [some (vr 9), some (vi ra), some (vi (laF (h 38) ra k l)), none, none] [] h post → Ev shC mX2_toNextWay 53 [some (vr 9), some (vi ra), some (vi l), none, none] [] h post := by
  have hra2 := hr ra hra.1 (by omega)
  intro k
  induction k with
  | zero =>
    intro l h0 h1 h2 K
    refine ev_iload_n 54 dX2_toNextWay_53 rfl rfl ?_
    refine ev_iload_n 55 dX2_toNextWay_54 rfl rfl ?_
    refine ev_iconst 56 dX2_toNextWay_55 rfl ?_
    refine ev_iadd 57 dX2_toNextWay_56 rfl ?_
    refine ev_icmp_le 60 81 dX2_toNextWay_57 rfl rfl (by omega) (by omega) (fun c57 => ?_) (fun c57 => ?_)
    · exact K
    · omega --done
  | succ k ih =>
    intro l h0 h1 h2 K
    have hl2 := hr l (by omega) h1
    unfold laF at K
    refine ev_iload_n 54 dX2_toNextWay_53 rfl rfl ?_
    refine ev_iload_n 55 dX2_toNextWay_54 rfl rfl ?_
    refine ev_iconst 56 dX2_toNextWay_55 rfl ?_
    refine ev_iadd 57 dX2_toNextWay_56 rfl ?_
    refine ev_icmp_le 60 81 dX2_toNextWay_57 rfl rfl (by omega) (by omega) (fun c57 => ?_) (fun c57 => ?_)
    · rw [if_neg (by omega)] at K
      exact K --done
    · refine ev_aload_n 61 dX2_toNextWay_60 rfl rfl ?_
      refine ev_getR 64 fX2_32 rfl dX2_toNextWay_61 rfl rfl rfl ?_
      refine ev_iload_n 65 dX2_toNextWay_64 rfl rfl ?_
      refine ev_iald 66 dX2_toNextWay_65 rfl rfl (by decide) (by omega) ?_
      refine ev_aload_n 67 dX2_toNextWay_66 rfl rfl ?_
      refine ev_getR 70 fX2_32 rfl dX2_toNextWay_67 rfl rfl rfl ?_
      refine ev_iload_n 71 dX2_toNextWay_70 rfl rfl ?_
      refine ev_iald 72 dX2_toNextWay_71 rfl rfl (by decide) (by omega) ?_
      refine ev_icmp_ge 75 81 dX2_toNextWay_72 rfl rfl (by omega) (by omega) (fun c72 => ?_) (fun c72 => ?_)
      · rw [if_neg (by omega)] at K
        exact K --done
      · rw [if_pos (by omega)] at K
        refine ev_iinc 78 dX2_toNextWay_75 rfl rfl ?_
        refine ev_goto 53 dX2_toNextWay_78 rfl ?_
        exact ih (l - 1) (by omega) (by omega) (by omega) K
theorem c_nx_re {ra la : Int} : ∀ (k : Nat) (l r : Int) (w : Int → Int), 0 ≤ l → r < 5 → r - l < k → -1 ≤ r → l ≤ 10 → Ev shC mX2_toNextWay 102 [some (vr 9), some (vi ra), some (vi la), some (vi r), some (vi l)] [] (hput h 38 w) (RI fun x h' => x = 1 ∧ h' = hput h 38 (reF k l r w)) := by
  intro k
  induction k with
  | zero =>
    intro l r w h0 h1 h2 h3 h4
    refine ev_iload 104 dX2_toNextWay_102 rfl rfl ?_
    refine ev_iload_n 105 dX2_toNextWay_104 rfl rfl ?_
    refine ev_icmp_ge 108 124 dX2_toNextWay_105 rfl rfl (by omega) (by omega) (fun c105 => ?_) (fun c105 => ?_)
    · refine ev_iconst 125 dX2_toNextWay_124 rfl ?_
      exact ev_zret rfl dX2_toNextWay_125 (by omega) (⟨rfl, rfl⟩)
    · omega --done
  | succ k ih =>
    intro l r w h0 h1 h2 h3 h4
    unfold reF
    refine ev_iload 104 dX2_toNextWay_102 rfl rfl ?_
    refine ev_iload_n 105 dX2_toNextWay_104 rfl rfl ?_
    refine ev_icmp_ge 108 124 dX2_toNextWay_105 rfl rfl (by omega) (by omega) (fun c105 => ?_) (fun c105 => ?_)
    · rw [if_neg (by omega)]
      refine ev_iconst 125 dX2_toNextWay_124 rfl ?_
      exact ev_zret rfl dX2_toNextWay_125 (by omega) (⟨rfl, rfl⟩)
    · rw [if_pos (by omega)]
      refine ev_aload_n 109 dX2_toNextWay_108 rfl rfl ?_
      refine ev_iload 111 dX2_toNextWay_109 rfl rfl ?_
      refine ev_iload_n 112 dX2_toNextWay_111 rfl rfl ?_
      refine cVv2 115 kX2_toNextWay_131 dX2_toNextWay_112 rfl rfl rfl rfl rfl (by decide) rfl (Nat.le_of_ble_eq_true rfl) (c_swapInWay ⟨h0, by omega⟩ ⟨by omega, h1⟩) ?_
      rintro _ rfl
      refine ev_heap (show _ = hput h 38 (swF w l r) from hput_hput) ?_
      refine ev_iinc 118 dX2_toNextWay_115 rfl rfl ?_
      refine ev_iinc 121 dX2_toNextWay_118 rfl rfl ?_
      refine ev_goto 102 dX2_toNextWay_121 rfl ?_
      exact ih (l + 1) (r - 1) _ (by omega) (by omega) (by omega) (by omega) (by omega)
theorem c_nx_t (hn : 0 < h 2 5 ∧ h 2 5 ≤ 5) (hr : ∀ i, 0 ≤ i → i < h 2 5 → R32 (h 38 i)) {ra : Int} (hra : 0 ≤ ra ∧ ra < h 2 5 - 1) (hla : ra < laF (h 38) ra 5 (h 2 5 - 1) ∧ laF (h 38) ra 5 (h 2 5 - 1) ≤ h 2 5 - 1) : Ev shC mX2_toNextWay 43 [some (vr 9), some (vi ra), none, none, none] [] h (RI fun x h' => x = b2i (true, reF 5 (ra + 1) (h 2 5 - 1) (swF (h 38) ra (laF (h 38) ra 5 (h 2 5 - 1)))).1 ∧ h' = hput h 38 (true, reF 5 (ra + 1) (h 2 5 - 1) (swF (h 38) ra (laF (h 38) ra 5 (h 2 5 - 1)))).2) := by
  refine ev_aload_n 44 dX2_toNextWay_43 rfl rfl ?_
  refine ev_getR 47 fX2_12 rfl dX2_toNextWay_44 rfl rfl rfl ?_
  refine ev_getI 50 5 fX2_49 rfl dX2_toNextWay_47 rfl rfl rfl (by decide) rfl ?_
  refine ev_iconst 51 dX2_toNextWay_50 rfl ?_
  refine ev_isub 52 dX2_toNextWay_51 rfl ?_
  refine ev_istore_n 53 dX2_toNextWay_52 rfl (Nat.le_of_ble_eq_true rfl) ?_
  refine c_nx_la hn hr hra 5 (h 2 5 - 1) (by omega) (by omega) (by omega) ?_
  refine ev_aload_n 82 dX2_toNextWay_81 rfl rfl ?_
  refine ev_iload_n 83 dX2_toNextWay_82 rfl rfl ?_
  refine ev_iload_n 84 dX2_toNextWay_83 rfl rfl ?_
  refine cVv2 87 kX2_toNextWay_131 dX2_toNextWay_84 rfl rfl rfl rfl rfl (by decide) rfl (Nat.le_of_ble_eq_true rfl) (c_swapInWay ⟨hra.1, by omega⟩ ⟨by omega, by omega⟩) ?_
  rintro _ rfl
  refine ev_aload_n 88 dX2_toNextWay_87 rfl rfl ?_
  refine ev_getR 91 fX2_12 rfl dX2_toNextWay_88 rfl rfl rfl ?_
  refine ev_getI' 94 5 (h 2 5) fX2_49 rfl dX2_toNextWay_91 rfl rfl rfl (by decide) rfl rfl ?_
  refine ev_iconst 95 dX2_toNextWay_94 rfl ?_
  refine ev_isub 96 dX2_toNextWay_95 rfl ?_
  refine ev_istore_n 97 dX2_toNextWay_96 rfl (Nat.le_of_ble_eq_true rfl) ?_
  refine ev_iload_n 98 dX2_toNextWay_97 rfl rfl ?_
  refine ev_iconst 99 dX2_toNextWay_98 rfl ?_
  refine ev_iadd 100 dX2_toNextWay_99 rfl ?_
  refine ev_istore 102 dX2_toNextWay_100 rfl (Nat.le_of_ble_eq_true rfl) ?_
  exact c_nx_re 5 (ra + 1) (h 2 5 - 1) _ (by omega) (by omega) (by omega) (by omega) (by omega)
theorem c_toNextWay (hn : 0 < h 2 5 ∧ h 2 5 ≤ 5) (hr : ∀ i, 0 ≤ i → i < h 2 5 → R32 (h 38 i)) : Ev shC mX2_toNextWay 0 [some (vr 9), none, none, none, none] [] h (RI fun x h' => x = b2i (nextP (h 2 5) (h 38)).1 ∧ h' = hput h 38 (nextP (h 2 5) (h 38)).2) := by
  have hra := raF_r (w := h 38) (h 2 5 - 1).toNat
  unfold nextP
  refine ev_aload_n 1 dX2_toNextWay_0 rfl rfl ?_
  refine ev_getR 4 fX2_12 rfl dX2_toNextWay_1 rfl rfl rfl ?_
  refine ev_getI 7 5 fX2_49 rfl dX2_toNextWay_4 rfl rfl rfl (by decide) rfl ?_
  refine ev_iconst 8 dX2_toNextWay_7 rfl ?_
  refine ev_isub 9 dX2_toNextWay_8 rfl ?_
  refine ev_istore_n 10 dX2_toNextWay_9 rfl (Nat.le_of_ble_eq_true rfl) ?_
  refine ev_loc ?_ (c_nx_ra hn hr (h 2 5 - 1).toNat (by omega) ?_)
  · show [some (vr 9), some (vi (h 2 5 - 2)), none, none, none] = _
    rw [show (((h 2 5 - 1).toNat : Nat) : Int) - 1 = h 2 5 - 2 by omega]
  generalize hrg : raF (h 38) (h 2 5 - 1).toNat = ra at *
  have hla := laF_r (w := h 38) (ra := ra) 5 (h 2 5 - 1) (by omega)
  refine ev_iload_n 38 dX2_toNextWay_37 rfl rfl ?_
  refine ev_if_ge 41 43 dX2_toNextWay_38 rfl rfl (by omega) (fun c38 => ?_) (fun c38 => ?_)
  · rw [if_neg (by omega)]
    exact c_nx_t hn hr ⟨c38, by omega⟩ hla
  · rw [if_pos (by omega)]
    refine ev_iconst 42 dX2_toNextWay_41 rfl ?_
    exact ev_zret rfl dX2_toNextWay_42 (by omega) ⟨rfl, hput_id.symm⟩
end NW2
