def sfn (v : Int) (f : Int → Int) (n : Int) : Int → Int := fun e => if 0 ≤ e ∧ e < n then v else f e
theorem sfn_0 {v : Int} {f : Int → Int} : sfn v f 0 = f := by
  funext e
  unfold sfn
  rw [if_neg (by omega)]
theorem sfn_1 {v : Int} {f : Int → Int} {n : Int} (h : 0 ≤ n) : up (sfn v f n) n v = sfn v f (n + 1) := by
  funext e
  unfold up
  by_cases q : e = n
  · subst q
    unfold sfn
    rw [if_pos rfl, if_pos (by omega)]
  · rw [if_neg q]
    unfold sfn
    by_cases q2 : 0 ≤ e ∧ e < n
    · rw [if_pos q2, if_pos (by omega)]
    · rw [if_neg q2, if_neg (by omega)]
section KG
variable {h : Hp}
theorem m_fk_init (hn : 0 ≤ h 0 2 ∧ h 0 2 ≤ 5) {post : Option AV → Hp → Prop} : ∀ (k : Nat) (c : Int), 0 ≤ c → c + k = h 0 2 → Ev shM mX9_findKings 33 [some (vr 0), some (vi (pw (h 0 2) (h 0 2).toNat)), some (vi (h 0 2)), none, none, none, none] [] (hput h 19 (sfn (-9) (h 19) (h 0 2))) post → Ev shM mX9_findKings 4 [some (vr 0), some (vi (pw (h 0 2) c.toNat)), some (vi c), none, none, none, none] [] (hput h 19 (sfn (-9) (h 19) c)) post := by
  intro k
  induction k with
  | zero =>
    intro c h0 h1 K
    have he : c = h 0 2 := by omega
    subst he
    refine ev_iload_n 5 dX9_findKings_4 rfl rfl ?_
    refine ev_aload_n 6 dX9_findKings_5 rfl rfl ?_
    refine ev_getI' 9 2 (h 0 2) fX9_74 rfl dX9_findKings_6 rfl rfl rfl (by decide) rfl rfl ?_
    refine ev_icmp_ge 12 33 dX9_findKings_9 rfl rfl (by omega) (by omega) (fun c9 => ?_) (fun c9 => ?_)
    · exact K
    · omega --done
  | succ k ih =>
    intro c h0 h1 K
    have K2 := ih (c + 1) (by omega) (by omega) K
    rw [show (c + 1).toNat = c.toNat + 1 by omega] at K2
    refine ev_iload_n 5 dX9_findKings_4 rfl rfl ?_
    refine ev_aload_n 6 dX9_findKings_5 rfl rfl ?_
    refine ev_getI' 9 2 (h 0 2) fX9_74 rfl dX9_findKings_6 rfl rfl rfl (by decide) rfl rfl ?_
    refine ev_icmp_ge 12 33 dX9_findKings_9 rfl rfl (by omega) (by omega) (fun c9 => ?_) (fun c9 => ?_)
    · omega --done
    · refine ev_iload_n 13 dX9_findKings_12 rfl rfl ?_
      refine ev_aload_n 14 dX9_findKings_13 rfl rfl ?_
      refine ev_getI' 17 2 (h 0 2) fX9_74 rfl dX9_findKings_14 rfl rfl rfl (by decide) rfl rfl ?_
      refine ev_imul 18 dX9_findKings_17 rfl ?_
      refine ev_istore_n 19 dX9_findKings_18 rfl (Nat.le_of_ble_eq_true rfl) ?_
      refine ev_aload_n 20 dX9_findKings_19 rfl rfl ?_
      refine ev_getR 23 fX9_65 rfl dX9_findKings_20 rfl rfl rfl ?_
      refine ev_iload_n 24 dX9_findKings_23 rfl rfl ?_
      refine ev_bipush 26 dX9_findKings_24 rfl (by decide +kernel) ?_
      refine ev_iast' 27 (hput h 19 (sfn (-9) (h 19) (c + 1))) dX9_findKings_26 rfl rfl (by decide) (by omega) (by rw [hput_hput, hput_s, sfn_1 h0]) ?_
      refine ev_iinc 30 dX9_findKings_27 rfl rfl ?_
      refine ev_goto 4 dX9_findKings_30 rfl ?_
      exact K2
theorem m_findKings (hW : MW h) (hs : NW (h 0 2) (h 4)) : Ev shM mX9_findKings 0 [some (vr 0), none, none, none, none, none, none] [] h (RV fun h' => FK h h' (pw (h 0 2) (h 0 2).toNat).toNat) := by
  have hn : 0 < h 0 2 ∧ h 0 2 ≤ 5 := ⟨hW.1.1, hW.1.2.1⟩
  have hpw := pw_b hn
  have K := m_fk_init (h := h) ⟨by omega, hn.2⟩ (post := RV fun h' => FK h h' (pw (h 0 2) (h 0 2).toNat).toNat) (h 0 2).toNat 0 (by omega) (by omega) (by
    have hF : FK h (hN (hput h 19 (sfn (-9) (h 19) (h 0 2)))) 0 := by
      refine ⟨(PsM.rf.hp (by decide)).hp (by decide), fun j a b => ?_, fun c a b => ⟨?_, fun z => ?_⟩⟩
      · exact hN_at (by omega) b
      · show sfn (-9) (h 19) (h 0 2) c = -9
        unfold sfn
        rw [if_pos ⟨a, b⟩]
      · have z : (0 : Int) ≤ -9 := z
        omega
    refine ev_aload_n 34 dX9_findKings_33 rfl rfl ?_
    refine cVv0 37 kX9_findKings_178 dX9_findKings_34 rfl rfl rfl rfl rfl (by decide) rfl (Nat.le_of_ble_eq_true rfl) (m_asItIs) ?_
    rintro _ rfl
    refine ev_iconst 38 dX9_findKings_37 rfl ?_
    refine ev_istore_n 39 dX9_findKings_38 rfl (Nat.le_of_ble_eq_true rfl) ?_
    exact m_fk_loop hW hs (pw (h 0 2) (h 0 2).toNat).toNat 0 _ none none none none (by omega) hF
    )
  rw [sfn_0, hput_id] at K
  refine ev_iconst 1 dX9_findKings_0 rfl ?_
  refine ev_istore_n 2 dX9_findKings_1 rfl (Nat.le_of_ble_eq_true rfl) ?_
  refine ev_iconst 3 dX9_findKings_2 rfl ?_
  refine ev_istore_n 4 dX9_findKings_3 rfl (Nat.le_of_ble_eq_true rfl) ?_
  exact K
/-- the king of a chair: behind all codes -/
def kingM (h : Hp) (c : Int) : Int × (Int → Int) := kfold h c (pw (h 0 2) (h 0 2).toNat).toNat
theorem m_kings_loop {H : Hp} (hn : 0 < h 0 2 ∧ h 0 2 ≤ 5) (hF : FK h H (pw (h 0 2) (h 0 2).toNat).toNat) : ∀ (n : Nat) (c set : Int), 0 ≤ c → c + n = h 0 2 → 0 ≤ set ∧ set < 32 → (∀ d, 0 ≤ d → d < 5 → bit set d = if d < c ∧ 0 ≤ (kingM h d).1 then 1 else 0) → Ev shM mX9_kings 15 [some (vr 0), some (vi set), some (vi c)] [] H (RI fun x h' => (0 ≤ x ∧ x < 32) ∧ (∀ d, 0 ≤ d → d < 5 → bit x d = if d < h 0 2 ∧ 0 ≤ (kingM h d).1 then 1 else 0) ∧ PsM h h') := by
  have e02 : H 0 2 = h 0 2 := hF.1.2 2 (by omega)
  intro n
  induction n with
  | zero =>
    intro c set h0 h1 hset hb
    have he : c = h 0 2 := by omega
    subst he
    refine ev_iload_n 16 dX9_kings_15 rfl rfl ?_
    refine ev_aload_n 17 dX9_kings_16 rfl rfl ?_
    refine ev_getI' 20 2 (h 0 2) fX9_74 rfl dX9_kings_17 rfl rfl rfl (by decide) rfl e02 ?_
    refine ev_icmp_ge 23 48 dX9_kings_20 rfl rfl (by omega) (by omega) (fun c20 => ?_) (fun c20 => ?_)
    · refine ev_iload_n 49 dX9_kings_48 rfl rfl ?_
      exact ev_iret rfl dX9_kings_49 (⟨hset, hb, hF.1⟩)
    · omega --done
  | succ n ih =>
    intro c set h0 h1 hset hb
    have hk := (hF.2.2 c h0 (by omega)).1
    have hkr := kfold_r (h := h) ⟨by omega, hn.2⟩ (c := c) (pw (h 0 2) (h 0 2).toNat).toNat
    have hk : H 19 c = (kingM h c).1 := hk
    have hkr : -9 ≤ (kingM h c).1 ∧ (kingM h c).1 ≤ 5 := hkr
    refine ev_iload_n 16 dX9_kings_15 rfl rfl ?_
    refine ev_aload_n 17 dX9_kings_16 rfl rfl ?_
    refine ev_getI' 20 2 (h 0 2) fX9_74 rfl dX9_kings_17 rfl rfl rfl (by decide) rfl e02 ?_
    refine ev_icmp_ge 23 48 dX9_kings_20 rfl rfl (by omega) (by omega) (fun c20 => ?_) (fun c20 => ?_)
    · omega --done
    · refine ev_iload_n 24 dX9_kings_23 rfl rfl ?_
      refine ev_aload_n 25 dX9_kings_24 rfl rfl ?_
      refine ev_getR 28 fX9_65 rfl dX9_kings_25 rfl rfl rfl ?_
      refine ev_iload_n 29 dX9_kings_28 rfl rfl ?_
      refine ev_iald' 30 ((kingM h c).1) dX9_kings_29 rfl rfl (by decide) (by omega) hk ?_
      refine ev_if_lt 33 39 dX9_kings_30 rfl rfl (by omega) (fun c30 => ?_) (fun c30 => ?_)
      · refine ev_iconst 40 dX9_kings_39 rfl ?_
        refine ev_ior 41 dX9_kings_40 rfl hset.1 (by omega) ?_
        refine ev_topi (or_z hset.1) ?_
        refine ev_istore_n 42 dX9_kings_41 rfl (Nat.le_of_ble_eq_true rfl) ?_
        refine ev_iinc 45 dX9_kings_42 rfl rfl ?_
        refine ev_goto 15 dX9_kings_45 rfl ?_
        refine ih (c + 1) set (by omega) (by omega) hset (fun d a b => ?_)
        rw [hb d a b]
        by_cases q : d = c
        · subst q; rw [if_neg (by omega), if_neg (by omega)]
        · by_cases q2 : d < c ∧ 0 ≤ (kingM h d).1
          · rw [if_pos q2, if_pos ⟨by omega, q2.2⟩]
          · rw [if_neg q2, if_neg (fun w => q2 ⟨by omega, w.2⟩)]
      · refine ev_iconst 34 dX9_kings_33 rfl ?_
        refine ev_iload_n 35 dX9_kings_34 rfl rfl ?_
        refine ev_ishl 36 dX9_kings_35 rfl (by omega) (by omega) (pw_r (c := c) ⟨h0, by omega⟩).2 ?_
        refine ev_goto 40 dX9_kings_36 rfl ?_
        refine ev_ior 41 dX9_kings_40 rfl hset.1 (pw_r (c := c) ⟨h0, by omega⟩).1 ?_
        refine ev_istore_n 42 dX9_kings_41 rfl (Nat.le_of_ble_eq_true rfl) ?_
        refine ev_iinc 45 dX9_kings_42 rfl rfl ?_
        refine ev_goto 15 dX9_kings_45 rfl ?_
        refine ih (c + 1) (orc set c) (by omega) (by omega) (orc_r hset ⟨h0, by omega⟩) (fun d a b => ?_)
        rw [orc_b hset ⟨h0, by omega⟩ ⟨a, b⟩, hb d a b]
        by_cases q : d = c
        · subst q; rw [if_pos rfl, if_pos ⟨by omega, by omega⟩]
        · rw [if_neg q]
          by_cases q2 : d < c ∧ 0 ≤ (kingM h d).1
          · rw [if_pos q2, if_pos ⟨by omega, q2.2⟩]
          · rw [if_neg q2, if_neg (fun w => q2 ⟨by omega, w.2⟩)]
theorem m_kings (hl : 0 ≤ h 0 0 ∧ h 0 0 ≤ 16) (hn : 0 ≤ h 0 2 ∧ h 0 2 ≤ 5) (hW : 0 < h 0 0 ∧ 0 < h 0 2 → MW h) (hs : NW (h 0 2) (h 4)) : Ev shM mX9_kings 0 [some (vr 0), none, none] [] h (RI fun x h' => PsM h h' ∧ ((¬ (0 < h 0 0 ∧ 0 < h 0 2) ∧ x = 0) ∨ ((0 < h 0 0 ∧ 0 < h 0 2) ∧ (0 ≤ x ∧ x < 32) ∧ ∀ d, 0 ≤ d → d < 5 → bit x d = if d < h 0 2 ∧ 0 ≤ (kingM h d).1 then 1 else 0))) := by
  refine ev_iconst 1 dX9_kings_0 rfl ?_
  refine ev_istore_n 2 dX9_kings_1 rfl (Nat.le_of_ble_eq_true rfl) ?_
  refine ev_aload_n 3 dX9_kings_2 rfl rfl ?_
  refine cVi0 6 kX9_kings_184 dX9_kings_3 rfl rfl rfl rfl rfl (by decide) rfl (Nat.le_of_ble_eq_true rfl) (m_isRace (by omega) (by omega)) ?_
  rintro x _ ⟨rfl, rfl⟩
  refine ev_if_eq 9 48 dX9_kings_6 rfl rfl it_r (fun c6 => ?_) (fun c6 => ?_)
  · have d6 := it_0.mp c6
    refine ev_iload_n 49 dX9_kings_48 rfl rfl ?_
    exact ev_iret rfl dX9_kings_49 (⟨PsM.rf, Or.inl ⟨d6, rfl⟩⟩)
  · have d6 := it_1.mp c6
    refine ev_aload_n 10 dX9_kings_9 rfl rfl ?_
    refine cVv0 13 kX9_kings_216 dX9_kings_10 rfl rfl rfl rfl rfl (by decide) rfl (Nat.le_of_ble_eq_true rfl) (m_findKings (hW d6) hs) ?_
    rintro H hF
    refine ev_iconst 14 dX9_kings_13 rfl ?_
    refine ev_istore_n 15 dX9_kings_14 rfl (Nat.le_of_ble_eq_true rfl) ?_
    refine ev_wk (m_kings_loop ⟨d6.2, hn.2⟩ hF (h 0 2).toNat 0 0 (by omega) (by omega) (by omega) (fun d a b => by rw [bit_0, if_neg (by omega)])) ?_
    rintro _ _ ⟨x, rfl, e1, e2, p⟩
    exact ⟨x, rfl, p, Or.inr ⟨d6, e1, e2⟩⟩
theorem m_king {c k : Int} (hc : R32 c) (hk : R32 k) (hl : 0 ≤ h 0 0 ∧ h 0 0 ≤ 16) (hn : 0 ≤ h 0 2 ∧ h 0 2 ≤ 5) (hW : 0 < h 0 0 ∧ 0 < h 0 2 → MW h) (hs : NW (h 0 2) (h 4)) : Ev shM mX9_king 0 [some (vr 0), some (vi c), some (vi k)] [] h (RI fun x h' => PsM h h' ∧ x = (if (0 ≤ c ∧ c < h 0 2) ∧ -1 ≤ k ∧ k < h 0 2 then (if 0 < h 0 0 ∧ 0 < h 0 2 then (if (kingM h c).1 < 0 then -9 else if k < 0 then (kingM h c).1 else (kingM h c).2 k) else -2) else -1)) := by
  refine ev_aload_n 1 dX9_king_0 rfl rfl ?_
  refine ev_iload_n 2 dX9_king_1 rfl rfl ?_
  refine cVi1 5 kX9_king_175 dX9_king_2 rfl rfl rfl rfl rfl (by decide) rfl (Nat.le_of_ble_eq_true rfl) (m_isChair hc hn) ?_
  rintro x _ ⟨rfl, rfl⟩
  refine ev_if_eq 8 22 dX9_king_5 rfl rfl it_r (fun c5 => ?_) (fun c5 => ?_)
  · have d5 := it_0.mp c5
    rw [if_neg (by omega)]
    refine ev_iconst 23 dX9_king_22 rfl ?_
    exact ev_iret rfl dX9_king_23 (⟨PsM.rf, rfl⟩)
  · have d5 := it_1.mp c5
    refine ev_iload_n 9 dX9_king_8 rfl rfl ?_
    refine ev_iconst 10 dX9_king_9 rfl ?_
    refine ev_aload_n 11 dX9_king_10 rfl rfl ?_
    refine ev_getI 14 2 fX9_74 rfl dX9_king_11 rfl rfl rfl (by decide) rfl ?_
    refine ev_iconst 15 dX9_king_14 rfl ?_
    refine ev_isub 16 dX9_king_15 rfl ?_
    refine cSi3 19 kX9_king_78 dX9_king_16 rfl rfl (by decide) rfl (Nat.le_of_ble_eq_true rfl) (m_in hk ⟨by decide, by decide⟩ (by omega)) ?_
    rintro x _ ⟨rfl, rfl⟩
    refine ev_if_ne 22 24 dX9_king_19 rfl rfl it_r (fun c19 => ?_) (fun c19 => ?_)
    · have d19 := it_1.mp c19
      rw [if_pos (by omega)]
      refine ev_aload_n 25 dX9_king_24 rfl rfl ?_
      refine cVi0 28 kX9_king_184 dX9_king_25 rfl rfl rfl rfl rfl (by decide) rfl (Nat.le_of_ble_eq_true rfl) (m_isRace (by omega) (by omega)) ?_
      rintro x _ ⟨rfl, rfl⟩
      refine ev_if_ne 31 34 dX9_king_28 rfl rfl it_r (fun c28 => ?_) (fun c28 => ?_)
      · have d28 := it_1.mp c28
        rw [if_pos d28]
        refine ev_aload_n 35 dX9_king_34 rfl rfl ?_
        refine cVv0 38 kX9_king_216 dX9_king_35 rfl rfl rfl rfl rfl (by decide) rfl (Nat.le_of_ble_eq_true rfl) (m_findKings (hW d28) hs) ?_
        rintro H hF
        have hk1 : H 19 c = (kingM h c).1 := (hF.2.2 c d5.1 d5.2).1
        have hk2 : 0 ≤ (kingM h c).1 → ∀ k, 0 ≤ k → k < h 0 2 → H 18 (5 * c + k) = (kingM h c).2 k := (hF.2.2 c d5.1 d5.2).2
        have hkr : -9 ≤ (kingM h c).1 ∧ (kingM h c).1 ≤ 5 := kfold_r (h := h) hn (c := c) _
        refine ev_aload_n 39 dX9_king_38 rfl rfl ?_
        refine ev_getR 42 fX9_65 rfl dX9_king_39 rfl rfl rfl ?_
        refine ev_iload_n 43 dX9_king_42 rfl rfl ?_
        refine ev_iald' 44 ((kingM h c).1) dX9_king_43 rfl rfl (by decide) (by omega) hk1 ?_
        refine ev_if_ge 47 52 dX9_king_44 rfl rfl (by omega) (fun c44 => ?_) (fun c44 => ?_)
        · rw [if_neg (by omega)]
          refine ev_iload_n 53 dX9_king_52 rfl rfl ?_
          refine ev_if_ge 56 65 dX9_king_53 rfl rfl (by omega) (fun c53 => ?_) (fun c53 => ?_)
          · rw [if_neg (by omega)]
            refine ev_aload_n 66 dX9_king_65 rfl rfl ?_
            refine ev_getR 69 fX9_62 rfl dX9_king_66 rfl rfl rfl ?_
            refine ev_iconst 70 dX9_king_69 rfl ?_
            refine ev_iload_n 71 dX9_king_70 rfl rfl ?_
            refine ev_imul 72 dX9_king_71 rfl ?_
            refine ev_iload_n 73 dX9_king_72 rfl rfl ?_
            refine ev_iadd 74 dX9_king_73 rfl ?_
            refine ev_iald' 75 ((kingM h c).2 k) dX9_king_74 rfl rfl (by decide) (by omega) (hk2 (by omega) k (by omega) (by omega)) ?_
            exact ev_iret rfl dX9_king_75 (⟨hF.1, rfl⟩)
          · rw [if_pos (by omega)]
            refine ev_aload_n 57 dX9_king_56 rfl rfl ?_
            refine ev_getR 60 fX9_65 rfl dX9_king_57 rfl rfl rfl ?_
            refine ev_iload_n 61 dX9_king_60 rfl rfl ?_
            refine ev_iald' 62 ((kingM h c).1) dX9_king_61 rfl rfl (by decide) (by omega) hk1 ?_
            refine ev_goto 75 dX9_king_62 rfl ?_
            exact ev_iret rfl dX9_king_75 (⟨hF.1, rfl⟩)
        · rw [if_pos (by omega)]
          refine ev_bipush 49 dX9_king_47 rfl (by decide +kernel) ?_
          refine ev_goto 75 dX9_king_49 rfl ?_
          exact ev_iret rfl dX9_king_75 (⟨hF.1, rfl⟩)
      · have d28 := it_0.mp c28
        rw [if_neg d28]
        refine ev_bipush 33 dX9_king_31 rfl (by decide +kernel) ?_
        exact ev_iret rfl dX9_king_33 (⟨PsM.rf, rfl⟩)
    · have d19 := it_0.mp c19
      rw [if_neg (by omega)]
      refine ev_iconst 23 dX9_king_22 rfl ?_
      exact ev_iret rfl dX9_king_23 (⟨PsM.rf, rfl⟩)
end KG
