section CG
variable {h : Hp}
theorem c_go_in {post : Option AV → Hp → Prop} (hC : CP (h 13) (h 2 4) (h 2 5)) (hg : ∀ c, 0 ≤ c → c < h 2 5 → 1 ≤ h 41 c ∧ h 41 c ≤ 20) (hh : ∀ c, 0 ≤ c → c < h 2 5 → 0 ≤ h 22 c ∧ h 22 c ≤ 5) {m w : Int} (hm : 1 ≤ m ∧ m < 2147483648) : ∀ (k : Nat) (c : Int) (r : RS) (o : Option AV), 0 ≤ c → c + k = h 2 5 → rOK (h 13) (h 2 4) (h 2 5) r → (∀ o, Ev shC mX4_go 128 [some (vr 11), some (vr 2), some (vr 22), some (vi w), some (vi m), some (vi (h 2 5)), o] [] (cR h (minF (h 13) (h 2 4) (h 2 5) (h 22) (h 41) k c m r).1 (minF (h 13) (h 2 4) (h 2 5) (h 22) (h 41) k c m r).2.1 (minF (h 13) (h 2 4) (h 2 5) (h 22) (h 41) k c m r).2.2.1 (minF (h 13) (h 2 4) (h 2 5) (h 22) (h 41) k c m r).2.2.2.1 (minF (h 13) (h 2 4) (h 2 5) (h 22) (h 41) k c m r).2.2.2.2) post) → Ev shC mX4_go 69 [some (vr 11), some (vr 2), some (vr 22), some (vi w), some (vi m), some (vi c), o] [] (cR h r.1 r.2.1 r.2.2.1 r.2.2.2.1 r.2.2.2.2) post := by
  have hC1 := hC.2.1
  have hC2 := hC.2.2.2.1
  intro k
  induction k with
  | zero =>
    intro c r o h0 h1 hr K
    have he : c = h 2 5 := by omega
    subst he
    refine ev_iload 71 dX4_go_69 rfl rfl ?_
    refine ev_aload_n 72 dX4_go_71 rfl rfl ?_
    refine ev_getI' 75 5 (h 2 5) fX4_31 rfl dX4_go_72 rfl rfl rfl (by decide) rfl rfl ?_
    refine ev_icmp_ge 78 128 dX4_go_75 rfl rfl (by omega) (by omega) (fun c75 => ?_) (fun c75 => ?_)
    · exact K o
    · omega --done
  | succ k ih =>
    intro c r o h0 h1 hr K
    have hk := hr.1 c h0 (by omega)
    unfold okC at hk
    have hhc := hh c h0 (by omega)
    unfold minF at K
    have nx : ¬ (r.1 c < h 2 4 ∧ h 22 c < m) → ∀ o, Ev shC mX4_go 122 [some (vr 11), some (vr 2), some (vr 22), some (vi w), some (vi m), some (vi c), o] [] (cR h r.1 r.2.1 r.2.2.1 r.2.2.2.1 r.2.2.2.2) post := by
      intro hq o
      rw [if_neg hq] at K
      refine ev_iinc 125 dX4_go_122 rfl rfl ?_
      refine ev_goto 69 dX4_go_125 rfl ?_
      exact ih (c + 1) r o (by omega) (by omega) hr K
    refine ev_iload 71 dX4_go_69 rfl rfl ?_
    refine ev_aload_n 72 dX4_go_71 rfl rfl ?_
    refine ev_getI' 75 5 (h 2 5) fX4_31 rfl dX4_go_72 rfl rfl rfl (by decide) rfl rfl ?_
    refine ev_icmp_ge 78 128 dX4_go_75 rfl rfl (by omega) (by omega) (fun c75 => ?_) (fun c75 => ?_)
    · omega --done
    · refine ev_aload_n 79 dX4_go_78 rfl rfl ?_
      refine ev_getR 82 fX4_18 rfl dX4_go_79 rfl rfl rfl ?_
      refine ev_iload 84 dX4_go_82 rfl rfl ?_
      refine ev_iald' 85 (r.1 c) dX4_go_84 rfl rfl (by decide) (by omega) rfl ?_
      refine ev_aload_n 86 dX4_go_85 rfl rfl ?_
      refine ev_getI' 89 4 (h 2 4) fX4_36 rfl dX4_go_86 rfl rfl rfl (by decide) rfl rfl ?_
      refine ev_icmp_ge 92 96 dX4_go_89 rfl rfl (by omega) (by omega) (fun c89 => ?_) (fun c89 => ?_)
      · refine ev_iconst 97 dX4_go_96 rfl ?_
        refine ev_istore 99 dX4_go_97 rfl (Nat.le_of_ble_eq_true rfl) ?_
        refine ev_iload 101 dX4_go_99 rfl rfl ?_
        exact ev_if_eq 104 122 dX4_go_101 rfl rfl (by omega) (fun _ => nx (by omega) _) (fun q => absurd rfl q) --done
      · refine ev_iconst 93 dX4_go_92 rfl ?_
        refine ev_goto 97 dX4_go_93 rfl ?_
        refine ev_istore 99 dX4_go_97 rfl (Nat.le_of_ble_eq_true rfl) ?_
        refine ev_iload 101 dX4_go_99 rfl rfl ?_
        refine ev_if_eq 104 122 dX4_go_101 rfl rfl (by omega) (fun c101 => ?_) (fun c101 => ?_)
        · exact nx (by omega) _ --done
        · refine ev_aload_n 105 dX4_go_104 rfl rfl ?_
          refine ev_iload 107 dX4_go_105 rfl rfl ?_
          refine ev_iald' 108 (h 22 c) dX4_go_107 rfl rfl (by decide) (by omega) rfl ?_
          refine ev_iload 110 dX4_go_108 rfl rfl ?_
          refine ev_icmp_ge 113 122 dX4_go_110 rfl rfl (by omega) (by omega) (fun c110 => ?_) (fun c110 => ?_)
          · exact nx (by omega) _ --done
          · rw [if_pos (by omega)] at K
            refine ev_aload_n 114 dX4_go_113 rfl rfl ?_
            refine ev_aload_n 115 dX4_go_114 rfl rfl ?_
            refine ev_iload 117 dX4_go_115 rfl rfl ?_
            refine ev_iload 119 dX4_go_117 rfl rfl ?_
            refine cVv3 122 kX4_go_39 dX4_go_119 rfl rfl rfl rfl rfl (by decide) rfl (Nat.le_of_ble_eq_true rfl) (c_move hC ⟨h0, by omega⟩ hm (hg c h0 (by omega)) hr (by omega)) ?_
            rintro _ rfl
            refine ev_iinc 125 dX4_go_122 rfl rfl ?_
            refine ev_goto 69 dX4_go_125 rfl ?_
            exact ih (c + 1) _ _ (by omega) (by omega) (move_ok hC ⟨h0, by omega⟩ hm (hg c h0 (by omega)) hr (by omega)).2 K
theorem c_go_out (hC : CP (h 13) (h 2 4) (h 2 5)) (hg : ∀ c, 0 ≤ c → c < h 2 5 → 1 ≤ h 41 c ∧ h 41 c ≤ 20) (hh : ∀ c, 0 ≤ c → c < h 2 5 → 0 ≤ h 22 c ∧ h 22 c ≤ 5) {w : Int} (hw : R32 w) : ∀ (k : Nat) (m : Int) (r : RS) (o1 o2 : Option AV), 1 ≤ m → m + k = 1001 → rOK (h 13) (h 2 4) (h 2 5) r → Ev shC mX4_go 50 [some (vr 11), some (vr 2), some (vr 22), some (vi w), some (vi m), o1, o2] [] (cR h r.1 r.2.1 r.2.2.1 r.2.2.2.1 r.2.2.2.2) (RV fun h' => ∃ r', r' = raceF (h 13) (h 2 4) (h 2 5) (h 22) (h 41) k m w r ∧ h' = cR h r'.1 r'.2.1 r'.2.2.1 r'.2.2.2.1 r'.2.2.2.2) := by
  have hC1 := hC.2.1
  have hC0 := hC.1
  intro k
  induction k with
  | zero =>
    intro m r o1 o2 h1 h2 hr
    refine ev_iload 52 dX4_go_50 rfl rfl ?_
    refine ev_sipush 55 dX4_go_52 rfl (by decide +kernel) ?_
    refine ev_icmp_gt 58 134 dX4_go_55 rfl rfl (by omega) (by omega) (fun c55 => ?_) (fun c55 => ?_)
    · exact ev_vret rfl dX4_go_134 (⟨r, rfl, rfl⟩)
    · omega --done
  | succ k ih =>
    intro m r o1 o2 h1 h2 hr
    have hmr := cntB_rng (inB (h 2 4) r) (h 2 5).toNat
    have hm2 := hr.2.1
    unfold raceF
    refine ev_iload 52 dX4_go_50 rfl rfl ?_
    refine ev_sipush 55 dX4_go_52 rfl (by decide +kernel) ?_
    refine ev_icmp_gt 58 134 dX4_go_55 rfl rfl (by omega) (by omega) (fun c55 => ?_) (fun c55 => ?_)
    · omega --done
    · refine ev_aload_n 59 dX4_go_58 rfl rfl ?_
      refine ev_getI' 62 5 (r.2.2.2.2) fX4_27 rfl dX4_go_59 rfl rfl rfl (by decide) rfl rfl ?_
      refine ev_iload_n 63 dX4_go_62 rfl rfl ?_
      refine ev_icmp_ge 66 134 dX4_go_63 rfl rfl (by omega) (by omega) (fun c63 => ?_) (fun c63 => ?_)
      · rw [if_neg (by omega)]
        exact ev_vret rfl dX4_go_134 (⟨r, rfl, rfl⟩)
      · rw [if_pos (by omega)]
        refine ev_iconst 67 dX4_go_66 rfl ?_
        refine ev_istore 69 dX4_go_67 rfl (Nat.le_of_ble_eq_true rfl) ?_
        refine c_go_in hC hg hh ⟨h1, by omega⟩ (h 2 5).toNat 0 r _ (Int.le_refl _) (by omega) hr (fun o => ?_)
        refine ev_iinc 131 dX4_go_128 rfl rfl ?_
        refine ev_goto 50 dX4_go_131 rfl ?_
        exact ih (m + 1) _ _ _ (by omega) (by omega) (min_ok hC ⟨h1, by omega⟩ hg _ _ _ (Int.le_refl _) (by omega) hr)
theorem c_go_init (hn : 0 ≤ h 2 5 ∧ h 2 5 ≤ 5) {post : Option AV → Hp → Prop} {w : Int} : ∀ (k : Nat) (c : Int), 0 ≤ c → c + k = h 2 5 → Ev shC mX4_go 47 [some (vr 11), some (vr 2), some (vr 22), some (vi w), some (vi (h 2 5)), none, none] [] (cR h (zf (h 43) (h 2 5)) (zf (h 44) (h 2 5)) (zf (h 42) (h 2 5)) (h 45) 0) post → Ev shC mX4_go 8 [some (vr 11), some (vr 2), some (vr 22), some (vi w), some (vi c), none, none] [] (cR h (zf (h 43) c) (zf (h 44) c) (zf (h 42) c) (h 45) 0) post := by
  intro k
  induction k with
  | zero =>
    intro c h0 h1 K
    have he : c = h 2 5 := by omega
    subst he
    refine ev_iload 10 dX4_go_8 rfl rfl ?_
    refine ev_aload_n 11 dX4_go_10 rfl rfl ?_
    refine ev_getI' 14 5 (h 2 5) fX4_31 rfl dX4_go_11 rfl rfl rfl (by decide) rfl rfl ?_
    refine ev_icmp_ge 17 47 dX4_go_14 rfl rfl (by omega) (by omega) (fun c14 => ?_) (fun c14 => ?_)
    · exact K
    · omega --done
  | succ k ih =>
    intro c h0 h1 K
    refine ev_iload 10 dX4_go_8 rfl rfl ?_
    refine ev_aload_n 11 dX4_go_10 rfl rfl ?_
    refine ev_getI' 14 5 (h 2 5) fX4_31 rfl dX4_go_11 rfl rfl rfl (by decide) rfl rfl ?_
    refine ev_icmp_ge 17 47 dX4_go_14 rfl rfl (by omega) (by omega) (fun c14 => ?_) (fun c14 => ?_)
    · omega --done
    · refine ev_aload_n 18 dX4_go_17 rfl rfl ?_
      refine ev_getR 21 fX4_18 rfl dX4_go_18 rfl rfl rfl ?_
      refine ev_iload 23 dX4_go_21 rfl rfl ?_
      refine ev_iconst 24 dX4_go_23 rfl ?_
      refine ev_iast' 25 (cR h (up (zf (h 43) c) c 0) (zf (h 44) c) (zf (h 42) c) (h 45) 0) dX4_go_24 rfl rfl (by decide) (by omega) cR_43 ?_
      refine ev_aload_n 26 dX4_go_25 rfl rfl ?_
      refine ev_getR 29 fX4_21 rfl dX4_go_26 rfl rfl rfl ?_
      refine ev_iload 31 dX4_go_29 rfl rfl ?_
      refine ev_iconst 32 dX4_go_31 rfl ?_
      refine ev_iast' 33 (cR h (up (zf (h 43) c) c 0) (up (zf (h 44) c) c 0) (zf (h 42) c) (h 45) 0) dX4_go_32 rfl rfl (by decide) (by omega) cR_44 ?_
      refine ev_aload_n 34 dX4_go_33 rfl rfl ?_
      refine ev_getR 37 fX4_15 rfl dX4_go_34 rfl rfl rfl ?_
      refine ev_iload 39 dX4_go_37 rfl rfl ?_
      refine ev_iconst 40 dX4_go_39 rfl ?_
      refine ev_iast' 41 (cR h (up (zf (h 43) c) c 0) (up (zf (h 44) c) c 0) (up (zf (h 42) c) c 0) (h 45) 0) dX4_go_40 rfl rfl (by decide) (by omega) cR_42 ?_
      rw [zf_1 h0, zf_1 h0, zf_1 h0]
      refine ev_iinc 44 dX4_go_41 rfl rfl ?_
      refine ev_goto 8 dX4_go_44 rfl ?_
      exact ih (c + 1) (by omega) (by omega) K
/-- go(told, handicaps, wanted): the race as a value -/
theorem c_go (hC : CP (h 13) (h 2 4) (h 2 5)) (hg : ∀ c, 0 ≤ c → c < h 2 5 → 1 ≤ h 41 c ∧ h 41 c ≤ 20) (hh : ∀ c, 0 ≤ c → c < h 2 5 → 0 ≤ h 22 c ∧ h 22 c ≤ 5) {w : Int} (hw : 0 ≤ w ∧ w ≤ h 2 5) : Ev shC mX4_go 0 [some (vr 11), some (vr 2), some (vr 22), some (vi w), none, none, none] [] h (RV fun h' => ∃ cell pts tm plc many, h' = cR h cell pts tm plc many ∧ ag (h 2 5) tm (raceC (h 13) (h 2 4) (h 2 5) (h 22) (h 41) w).2.2.1 ∧ (∀ k, 0 ≤ k → k < many → plc k = (raceC (h 13) (h 2 4) (h 2 5) (h 22) (h 41) w).2.2.2.1 k) ∧ many = (raceC (h 13) (h 2 4) (h 2 5) (h 22) (h 41) w).2.2.2.2) := by
  have hn := hC.2.1
  have hn0 := hC.1
  have hA := race_ag (w := w) (cost := h 13) (cl := h 2 4) (by omega) (ag_rf (n := h 2 5) (f := h 22)) (ag_rf (n := h 2 5) (f := h 41)) 1000 1 _ _ (rZ_ag (f1 := h 43) (f2 := h 44) (f3 := h 42) (f4 := h 45) (n := h 2 5))
  have K2 := c_go_out hC hg hh (w := w) (by omega) 1000 1 (rZ (h 43) (h 44) (h 42) (h 45) (h 2 5)) none none (by omega) (by omega) (rZ_ok hC)
  have K3 := ev_wk K2 (Q := RV fun h' => ∃ cell pts tm plc many, h' = cR h cell pts tm plc many ∧ ag (h 2 5) tm (raceC (h 13) (h 2 4) (h 2 5) (h 22) (h 41) w).2.2.1 ∧ (∀ k, 0 ≤ k → k < many → plc k = (raceC (h 13) (h 2 4) (h 2 5) (h 22) (h 41) w).2.2.2.1 k) ∧ many = (raceC (h 13) (h 2 4) (h 2 5) (h 22) (h 41) w).2.2.2.2) (by
    rintro v h' ⟨e1, r', rfl, rfl⟩
    exact ⟨e1, _, _, _, _, _, rfl, hA.2.2.1, hA.2.2.2.1, hA.2.2.2.2⟩)
  have K0 := c_go_init ⟨by omega, hn⟩ (w := w) (h 2 5).toNat 0 (Int.le_refl _) (by omega) (h := h) (post := RV fun h' => ∃ cell pts tm plc many, h' = cR h cell pts tm plc many ∧ ag (h 2 5) tm (raceC (h 13) (h 2 4) (h 2 5) (h 22) (h 41) w).2.2.1 ∧ (∀ k, 0 ≤ k → k < many → plc k = (raceC (h 13) (h 2 4) (h 2 5) (h 22) (h 41) w).2.2.2.1 k) ∧ many = (raceC (h 13) (h 2 4) (h 2 5) (h 22) (h 41) w).2.2.2.2) (by
    refine ev_iconst 48 dX4_go_47 rfl ?_
    refine ev_istore 50 dX4_go_48 rfl (Nat.le_of_ble_eq_true rfl) ?_
    exact K3
    )
  rw [zf_0, zf_0, zf_0] at K0
  refine ev_aload_n 1 dX4_go_0 rfl rfl ?_
  refine ev_iconst 2 dX4_go_1 rfl ?_
  refine ev_putI' 5 5 (cR h (h 43) (h 44) (h 42) (h 45) 0) pX4_27 rfl dX4_go_2 rfl rfl rfl rfl ((congrArg (fun z => hput z 11 (up (z 11) 5 0)) (cR_e (h := h)).symm).trans cR_0) ?_
  refine ev_iconst 6 dX4_go_5 rfl ?_
  refine ev_istore 8 dX4_go_6 rfl (Nat.le_of_ble_eq_true rfl) ?_
  exact K0
end CG
