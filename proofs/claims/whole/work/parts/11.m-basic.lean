/-! the model's small methods -/
theorem hput_hput {h : Hp} {k : Nat} {f g : Int → Int} : hput (hput h k f) k g = hput h k g := by
  funext a
  by_cases e : a = k
  · subst e; rw [hput_s, hput_s]
  · rw [hput_n e, hput_n e, hput_n e]
theorem hput_id {h : Hp} {k : Nat} : hput h k (h k) = h := by
  funext a
  by_cases e : a = k
  · subst e; rw [hput_s]
  · rw [hput_n e]
theorem hput_comm {h : Hp} {k j : Nat} {f g : Int → Int} (e : k ≠ j) : hput (hput h k f) j g = hput (hput h j g) k f := by
  funext a
  by_cases e1 : a = j
  · subst e1; rw [hput_s, hput_n (fun q => e q.symm), hput_s]
  · rw [hput_n e1]
    by_cases e2 : a = k
    · subst e2; rw [hput_s, hput_s]
    · rw [hput_n e2, hput_n e2, hput_n e1]
theorem cpy_0 {f g : Int → Int} {sp dp : Int} : cpy f g sp dp 0 = g := by
  funext k
  unfold cpy
  rw [if_neg (by omega)]
theorem cpy_1 {f g : Int → Int} {sp dp n : Int} (hn : 0 ≤ n) : up (cpy f g sp dp n) (dp + n) (f (sp + n)) = cpy f g sp dp (n + 1) := by
  funext k
  unfold up cpy
  by_cases e : k = dp + n
  · subst e
    rw [if_pos rfl, if_pos (by omega)]
    congr 1
    omega
  · rw [if_neg e]
    by_cases q : dp ≤ k ∧ k < dp + n
    · rw [if_pos q, if_pos (by omega)]
    · rw [if_neg q, if_neg (by omega)]
section MB
variable {sh : List CS} {h : Hp}
theorem m_in {v a b : Int} (hv : R32 v) (ha : R32 a) (hb : R32 b) : Ev sh mX9_in 0 [some (vi v), some (vi a), some (vi b)] [] h (RI fun x h' => x = (if a ≤ v ∧ v ≤ b then 1 else 0) ∧ h = h') := by
  refine ev_iload_n 1 dX9_in_0 rfl rfl ?_
  refine ev_iload_n 2 dX9_in_1 rfl rfl ?_
  refine ev_icmp_lt 5 14 dX9_in_2 rfl rfl (by omega) (by omega) (fun c2 => ?_) (fun c2 => ?_)
  · refine ev_iconst 15 dX9_in_14 rfl ?_
    exact ev_zret rfl dX9_in_15 (by omega) (⟨by split <;> omega, rfl⟩)
  · refine ev_iload_n 6 dX9_in_5 rfl rfl ?_
    refine ev_iload_n 7 dX9_in_6 rfl rfl ?_
    refine ev_icmp_gt 10 14 dX9_in_7 rfl rfl (by omega) (by omega) (fun c7 => ?_) (fun c7 => ?_)
    · refine ev_iconst 15 dX9_in_14 rfl ?_
      exact ev_zret rfl dX9_in_15 (by omega) (⟨by split <;> omega, rfl⟩)
    · refine ev_iconst 11 dX9_in_10 rfl ?_
      refine ev_goto 15 dX9_in_11 rfl ?_
      exact ev_zret rfl dX9_in_15 (by omega) (⟨by split <;> omega, rfl⟩)
theorem m_has {a k : Int} (ha : 0 ≤ a ∧ a < 2147483648) (hk : 0 ≤ k ∧ k < 32) : Ev sh mX9_has 0 [some (vi a), some (vi k)] [] h (RI fun x h' => x = a / 2 ^ k.toNat % 2 ∧ h = h') := by
  have h0 : 0 ≤ a / 2 ^ k.toNat := Int.ediv_nonneg ha.1 (Int.le_of_lt (Int.pow_pos (by decide)))
  have h1 : (((a / 2 ^ k.toNat).toNat &&& (1 : Int).toNat : Nat) : Int) = a / 2 ^ k.toNat % 2 := by
    rw [show (1 : Int).toNat = 1 from rfl, Nat.and_one_is_mod, Int.natCast_emod, Int.toNat_of_nonneg h0]
    rfl
  refine ev_iload_n 1 dX9_has_0 rfl rfl ?_
  refine ev_iload_n 2 dX9_has_1 rfl rfl ?_
  refine ev_ishr 3 dX9_has_2 rfl (by omega) (by omega) ?_
  generalize a / 2 ^ k.toNat = z at h0 h1 ⊢
  refine ev_iconst 4 dX9_has_3 rfl ?_
  refine ev_iand 5 dX9_has_4 rfl (by omega) (by omega) ?_
  refine ev_iconst 6 dX9_has_5 rfl ?_
  refine ev_icmp_ne 9 13 dX9_has_6 rfl rfl (by omega) (by omega) (fun c6 => ?_) (fun c6 => ?_)
  · refine ev_iconst 14 dX9_has_13 rfl ?_
    exact ev_zret rfl dX9_has_14 (by omega) (⟨by omega, rfl⟩)
  · refine ev_iconst 10 dX9_has_9 rfl ?_
    refine ev_goto 14 dX9_has_10 rfl ?_
    exact ev_zret rfl dX9_has_14 (by omega) (⟨by omega, rfl⟩)
theorem m_isRace {h : Hp} (h1 : R32 (h 0 0)) (h2 : R32 (h 0 2)) : Ev shM mX9_isRace 0 [some (vr 0)] [] h (RI fun x h' => x = (if 0 < h 0 0 ∧ 0 < h 0 2 then 1 else 0) ∧ h = h') := by
  refine ev_aload_n 1 dX9_isRace_0 rfl rfl ?_
  refine ev_getI 4 0 fX9_81 rfl dX9_isRace_1 rfl rfl rfl (by decide) rfl ?_
  refine ev_if_le 7 18 dX9_isRace_4 rfl rfl (by omega) (fun c4 => ?_) (fun c4 => ?_)
  · refine ev_iconst 19 dX9_isRace_18 rfl ?_
    exact ev_zret rfl dX9_isRace_19 (by omega) (⟨by split <;> omega, rfl⟩)
  · refine ev_aload_n 8 dX9_isRace_7 rfl rfl ?_
    refine ev_getI 11 2 fX9_74 rfl dX9_isRace_8 rfl rfl rfl (by decide) rfl ?_
    refine ev_if_le 14 18 dX9_isRace_11 rfl rfl (by omega) (fun c11 => ?_) (fun c11 => ?_)
    · refine ev_iconst 19 dX9_isRace_18 rfl ?_
      exact ev_zret rfl dX9_isRace_19 (by omega) (⟨by split <;> omega, rfl⟩)
    · refine ev_iconst 15 dX9_isRace_14 rfl ?_
      refine ev_goto 19 dX9_isRace_15 rfl ?_
      exact ev_zret rfl dX9_isRace_19 (by omega) (⟨by split <;> omega, rfl⟩)
theorem m_isChair {h : Hp} {c : Int} (hc : R32 c) (h2 : 0 ≤ h 0 2 ∧ h 0 2 ≤ 5) : Ev shM mX9_isChair 0 [some (vr 0), some (vi c)] [] h (RI fun x h' => x = (if 0 ≤ c ∧ c < h 0 2 then 1 else 0) ∧ h = h') := by
  refine ev_iload_n 1 dX9_isChair_0 rfl rfl ?_
  refine ev_iconst 2 dX9_isChair_1 rfl ?_
  refine ev_aload_n 3 dX9_isChair_2 rfl rfl ?_
  refine ev_getI 6 2 fX9_74 rfl dX9_isChair_3 rfl rfl rfl (by decide) rfl ?_
  refine ev_iconst 7 dX9_isChair_6 rfl ?_
  refine ev_isub 8 dX9_isChair_7 rfl ?_
  refine cSi3 11 kX9_isChair_78 dX9_isChair_8 rfl rfl (by decide) rfl (Nat.le_of_ble_eq_true rfl) (m_in hc (by omega) (by omega)) ?_
  rintro x _ ⟨rfl, rfl⟩
  exact ev_zret rfl dX9_isChair_11 (by split <;> omega) (⟨by split <;> split <;> omega, rfl⟩)
theorem m_copy_loop {a b Na Nb : Nat} (ha : sh[a]? = some (.inl (0, Na))) (hb : sh[b]? = some (.inl (0, Nb))) (hab : a ≠ b) {at' fr : Int} (hN : Na < 2147483648) (hM : Nb < 2147483648) (h1 : 0 ≤ at' ∧ at' + 17 ≤ Na) (h2 : 0 ≤ fr ∧ fr + 17 ≤ Nb) : ∀ (n : Nat) (k : Int), 0 ≤ k → k ≤ 17 → 17 - k < n → Ev sh mX9_copy 3 [some (vr a), some (vi at'), some (vr b), some (vi fr), some (vi k)] [] (hput h a (cpy (h b) (h a) fr at' k)) (RV fun h' => h' = hput h a (cpy (h b) (h a) fr at' 17)) := by
  intro n
  induction n with
  | zero => intro k a1 a2 a3; omega
  | succ n ih =>
    intro k a1 a2 a3
    refine ev_iload 5 dX9_copy_3 rfl rfl ?_
    refine ev_bipush 7 dX9_copy_5 rfl (by decide +kernel) ?_
    refine ev_icmp_ge 10 28 dX9_copy_7 rfl rfl (by omega) (by omega) (fun c7 => ?_) (fun c7 => ?_)
    · have e : k = 17 := by omega
      subst e
      exact ev_vret rfl dX9_copy_28 (rfl)
    · refine ev_aload_n 11 dX9_copy_10 rfl rfl ?_
      refine ev_iload_n 12 dX9_copy_11 rfl rfl ?_
      refine ev_iload 14 dX9_copy_12 rfl rfl ?_
      refine ev_iadd 15 dX9_copy_14 rfl ?_
      refine ev_aload_n 16 dX9_copy_15 rfl rfl ?_
      refine ev_iload_n 17 dX9_copy_16 rfl rfl ?_
      refine ev_iload 19 dX9_copy_17 rfl rfl ?_
      refine ev_iadd 20 dX9_copy_19 rfl ?_
      refine ev_iald 21 dX9_copy_20 rfl hb hM (by omega) ?_
      refine ev_iast 22 dX9_copy_21 rfl ha hN (by omega) ?_
      rw [hput_s, hput_n (fun q => hab q.symm), hput_hput, cpy_1 a1]
      refine ev_iinc 25 dX9_copy_22 rfl rfl ?_
      refine ev_goto 3 dX9_copy_25 rfl ?_
      exact ih (k + 1) (by omega) (by omega) (by omega)
theorem m_copy {a b Na Nb : Nat} (ha : sh[a]? = some (.inl (0, Na))) (hb : sh[b]? = some (.inl (0, Nb))) (hab : a ≠ b) {at' fr : Int} (hN : Na < 2147483648) (hM : Nb < 2147483648) (h1 : 0 ≤ at' ∧ at' + 17 ≤ Na) (h2 : 0 ≤ fr ∧ fr + 17 ≤ Nb) : Ev sh mX9_copy 0 [some (vr a), some (vi at'), some (vr b), some (vi fr), none] [] h (RV fun h' => h' = hput h a (cpy (h b) (h a) fr at' 17)) := by
  refine ev_iconst 1 dX9_copy_0 rfl ?_
  refine ev_istore 3 dX9_copy_1 rfl (Nat.le_of_ble_eq_true rfl) ?_
  have K := m_copy_loop (h := h) ha hb hab hN hM h1 h2 18 0 (by omega) (by omega) (by omega)
  rw [cpy_0, hput_id] at K
  exact K
end MB
