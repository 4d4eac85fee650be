/-- what the model has said so far -/
def SR (H : Hp) (S : PS) : Prop := H 0 21 = S.1 ∧ (∀ i, 0 ≤ i → i < S.1 → H 10 i = S.2.1 i) ∧ H 0 23 = S.2.2.1 ∧ ∀ c, 0 ≤ c → c < S.2.2.1 → H 11 (2 * c) = S.2.2.2.1 c ∧ H 11 (2 * c + 1) = S.2.2.2.2.1 c ∧ H 12 c = S.2.2.2.2.2 c
section IT
variable {h : Hp}
theorem PsM.s0 {H : Hp} {f : Int → Int} (p : PsM h H) (hf : ∀ i, (i < 15 ∨ 31 < i) → f i = H 0 i) : PsM h (hput H 0 f) := ⟨fun k a b => by rw [hput_n (by omega)]; exact p.1 k a b, fun i hi => by rw [hput_s, hf i hi]; exact p.2 i hi⟩
/-- a mistake: where -/
def Wr (h : Hp) (f : Int) (h' : Hp) : Prop := PsM h h' ∧ h' 0 19 = 1 ∧ h' 0 16 = f ∧ h' 0 17 = h' 0 17
theorem m_cells (hT : TX h) : ∀ (k : Nat) (nc : Int) (cost : Int → Int) (q : Int) (H : Hp) (o : Option AV), 0 ≤ nc → nc ≤ 16 → nc + k = 17 → 0 ≤ q ∧ q ≤ h 0 14 → PsM h H → TKs H (h 9) (h 0 14) q → H 0 19 = 0 → H 0 21 = nc → (∀ i, 0 ≤ i → i < nc → H 10 i = cost i) → Ev shM mX9_readCells 0 [some (vr 0), o] [] H (RV fun h' => PsM h h' ∧ (∀ k, 11 ≤ k → h' k = H k) ∧ (h' 0 20 = H 0 20 ∧ h' 0 23 = H 0 23) ∧ ((∃ f, cellsF (h 9) (h 0 14) k nc cost q = .inl f ∧ h' 0 19 = 1 ∧ h' 0 16 = f) ∨ (∃ r, cellsF (h 9) (h 0 14) k nc cost q = .inr r ∧ h' 0 19 = 0 ∧ h' 0 21 = r.1.1 ∧ (∀ i, 0 ≤ i → i < r.1.1 → h' 10 i = r.1.2 i) ∧ TKs h' (h 9) (h 0 14) r.2))) := by
  intro k
  induction k with
  | zero => intro nc cost q H o h0 h00 h1; omega
  | succ k ih =>
    intro nc cost q H o h0 h00 h1 hq p hk hw hn hc
    have hk0 := hk
    obtain ⟨k1, k2, k3, k4, k5, k6⟩ := hk
    have hE := tE_r (t := h 9) hq.2
    have htr := mTok_r (k := tK (h 9) (h 0 14) q) (v := tV (h 9) (h 0 14) q)
    have hcz := costZ_r (tK (h 9) (h 0 14) q)
    unfold cellsF
    have stopK : tK (h 9) (h 0 14) q = 59 ∧ 0 < nc → Ev shM mX9_readCells 98 [some (vr 0), o] [] H (RV fun h' => PsM h h' ∧ (∀ k, 11 ≤ k → h' k = H k) ∧ (h' 0 20 = H 0 20 ∧ h' 0 23 = H 0 23) ∧ ((∃ f, (if tK (h 9) (h 0 14) q = 59 ∧ 0 < nc then Sum.inr ((nc, cost), q) else if costZ (tK (h 9) (h 0 14) q) = 0 ∨ nc = 16 then Sum.inl (tS (h 9) (h 0 14) q) else cellsF (h 9) (h 0 14) k (nc + 1) (up cost nc (costZ (tK (h 9) (h 0 14) q))) (tE (h 9) (h 0 14) q)) = .inl f ∧ h' 0 19 = 1 ∧ h' 0 16 = f) ∨ (∃ r, (if tK (h 9) (h 0 14) q = 59 ∧ 0 < nc then Sum.inr ((nc, cost), q) else if costZ (tK (h 9) (h 0 14) q) = 0 ∨ nc = 16 then Sum.inl (tS (h 9) (h 0 14) q) else cellsF (h 9) (h 0 14) k (nc + 1) (up cost nc (costZ (tK (h 9) (h 0 14) q))) (tE (h 9) (h 0 14) q)) = .inr r ∧ h' 0 19 = 0 ∧ h' 0 21 = r.1.1 ∧ (∀ i, 0 ≤ i → i < r.1.1 → h' 10 i = r.1.2 i) ∧ TKs h' (h 9) (h 0 14) r.2))) := by
      intro hs
      rw [if_pos hs]
      exact ev_vret rfl dX9_readCells_98 ⟨p, fun _ _ => rfl, ⟨rfl, rfl⟩, Or.inr ⟨_, rfl, hw, hn, hc, hk0⟩⟩
    have goK : ∀ v, v = costZ (tK (h 9) (h 0 14) q) → ¬ (tK (h 9) (h 0 14) q = 59 ∧ 0 < nc) → Ev shM mX9_readCells 42 [some (vr 0), some (vi v)] [] H (RV fun h' => PsM h h' ∧ (∀ k, 11 ≤ k → h' k = H k) ∧ (h' 0 20 = H 0 20 ∧ h' 0 23 = H 0 23) ∧ ((∃ f, (if tK (h 9) (h 0 14) q = 59 ∧ 0 < nc then Sum.inr ((nc, cost), q) else if costZ (tK (h 9) (h 0 14) q) = 0 ∨ nc = 16 then Sum.inl (tS (h 9) (h 0 14) q) else cellsF (h 9) (h 0 14) k (nc + 1) (up cost nc (costZ (tK (h 9) (h 0 14) q))) (tE (h 9) (h 0 14) q)) = .inl f ∧ h' 0 19 = 1 ∧ h' 0 16 = f) ∨ (∃ r, (if tK (h 9) (h 0 14) q = 59 ∧ 0 < nc then Sum.inr ((nc, cost), q) else if costZ (tK (h 9) (h 0 14) q) = 0 ∨ nc = 16 then Sum.inl (tS (h 9) (h 0 14) q) else cellsF (h 9) (h 0 14) k (nc + 1) (up cost nc (costZ (tK (h 9) (h 0 14) q))) (tE (h 9) (h 0 14) q)) = .inr r ∧ h' 0 19 = 0 ∧ h' 0 21 = r.1.1 ∧ (∀ i, 0 ≤ i → i < r.1.1 → h' 10 i = r.1.2 i) ∧ TKs h' (h 9) (h 0 14) r.2))) := by
      intro v hv hs
      rw [if_neg hs, ← hv]
      rw [← hv] at hcz
      have wrK : (v = 0 ∨ nc = 16) → Ev shM mX9_readCells 56 [some (vr 0), some (vi v)] [vr 0] H (RV fun h' => PsM h h' ∧ (∀ k, 11 ≤ k → h' k = H k) ∧ (h' 0 20 = H 0 20 ∧ h' 0 23 = H 0 23) ∧ ((∃ f, (if v = 0 ∨ nc = 16 then Sum.inl (tS (h 9) (h 0 14) q) else cellsF (h 9) (h 0 14) k (nc + 1) (up cost nc v) (tE (h 9) (h 0 14) q)) = .inl f ∧ h' 0 19 = 1 ∧ h' 0 16 = f) ∨ (∃ r, (if v = 0 ∨ nc = 16 then Sum.inl (tS (h 9) (h 0 14) q) else cellsF (h 9) (h 0 14) k (nc + 1) (up cost nc v) (tE (h 9) (h 0 14) q)) = .inr r ∧ h' 0 19 = 0 ∧ h' 0 21 = r.1.1 ∧ (∀ i, 0 ≤ i → i < r.1.1 → h' 10 i = r.1.2 i) ∧ TKs h' (h 9) (h 0 14) r.2))) := by
        intro hz
        rw [if_pos hz]
        refine ev_iconst 57 dX9_readCells_56 rfl ?_
        refine ev_goto 61 dX9_readCells_57 rfl ?_
        refine ev_putZ' 64 19 (hput H 0 (up (H 0) 19 1)) pX9_113 rfl dX9_readCells_61 rfl rfl rfl (by omega) rfl rfl ?_
        refine ev_aload_n 65 dX9_readCells_64 rfl rfl ?_
        refine ev_getI' 68 19 (1) fX9_113 rfl dX9_readCells_65 rfl rfl rfl (by decide) rfl rfl ?_
        refine ev_if_ne 71 95 dX9_readCells_68 rfl rfl (by omega) (fun c68 => ?_) (fun c68 => ?_)
        · refine ev_goto 0 dX9_readCells_95 rfl ?_
          refine ev_aload_n 1 dX9_readCells_0 rfl rfl ?_
          refine ev_getI' 4 19 1 fX9_113 rfl dX9_readCells_1 rfl rfl rfl (by decide) rfl rfl ?_
          refine ev_if_ne 7 98 dX9_readCells_4 rfl rfl (by omega) (fun _ => ?_) (fun w => by omega)
          exact ev_vret rfl dX9_readCells_98 ⟨p.s0 (fun i hi => up_n (by omega)), fun k a => hput_n (by omega), ⟨by rw [hput_s, up_n (by decide)], by rw [hput_s, up_n (by decide)]⟩, Or.inl ⟨_, rfl, by rw [hput_s, up_s], by rw [hput_s, up_n (by decide)]; exact k2⟩⟩
        · omega --done
      refine ev_aload_n 43 dX9_readCells_42 rfl rfl ?_
      refine ev_iload_n 44 dX9_readCells_43 rfl rfl ?_
      refine ev_if_eq 47 56 dX9_readCells_44 rfl rfl (by omega) (fun c44 => ?_) (fun c44 => ?_)
      · exact wrK (by omega)
      · refine ev_aload_n 48 dX9_readCells_47 rfl rfl ?_
        refine ev_getI' 51 21 (nc) fX9_120 rfl dX9_readCells_48 rfl rfl rfl (by decide) rfl hn ?_
        refine ev_bipush 53 dX9_readCells_51 rfl (by decide +kernel) ?_
        refine ev_icmp_ne 56 60 dX9_readCells_53 rfl rfl (by omega) (by omega) (fun c53 => ?_) (fun c53 => ?_)
        · rw [if_neg (by omega)]
          refine ev_iconst 61 dX9_readCells_60 rfl ?_
          refine ev_putZ' 64 19 (hput H 0 (up (H 0) 19 0)) pX9_113 rfl dX9_readCells_61 rfl rfl rfl (by omega) rfl rfl ?_
          refine ev_aload_n 65 dX9_readCells_64 rfl rfl ?_
          refine ev_getI' 68 19 (0) fX9_113 rfl dX9_readCells_65 rfl rfl rfl (by decide) rfl rfl ?_
          refine ev_if_ne 71 95 dX9_readCells_68 rfl rfl (by omega) (fun c68 => ?_) (fun c68 => ?_)
          · omega --done
          · refine ev_aload_n 72 dX9_readCells_71 rfl rfl ?_
            refine ev_getR 75 fX9_38 rfl dX9_readCells_72 rfl rfl rfl ?_
            refine ev_aload_n 76 dX9_readCells_75 rfl rfl ?_
            refine ev_getI' 79 21 (nc) fX9_120 rfl dX9_readCells_76 rfl rfl rfl (by decide) rfl (by rw [hput_s, up_n (by decide)]; exact hn) ?_
            refine ev_iload_n 80 dX9_readCells_79 rfl rfl ?_
            refine ev_iast' 81 (hput (hput H 0 (up (H 0) 19 0)) 10 (up (H 10) nc v)) dX9_readCells_80 rfl rfl (by decide) (by omega) rfl ?_
            refine ev_aload_n 82 dX9_readCells_81 rfl rfl ?_
            refine ev_dup_r 83 dX9_readCells_82 rfl ?_
            refine ev_getI' 86 21 (nc) fX9_120 rfl dX9_readCells_83 rfl rfl rfl (by decide) rfl (by rw [hput_n (by decide), hput_s, up_n (by decide)]; exact hn) ?_
            refine ev_iconst 87 dX9_readCells_86 rfl ?_
            refine ev_iadd 88 dX9_readCells_87 rfl ?_
            refine ev_putI' 91 21 (hput (hput H 10 (up (H 10) nc v)) 0 (up (up (H 0) 19 0) 21 (nc + 1))) pX9_120 rfl dX9_readCells_88 rfl rfl rfl rfl (by rw [hput_comm (by decide : 10 ≠ 0), hput_hput, hput_comm (by decide : 0 ≠ 10)]; rfl) ?_
            refine ev_aload_n 92 dX9_readCells_91 rfl rfl ?_
            refine cVv0 95 kX9_readCells_117 dX9_readCells_92 rfl rfl rfl rfl rfl (by decide) rfl (Nat.le_of_ble_eq_true rfl) (m_nextP hT (q := tE (h 9) (h 0 14) q) ((p.hp (by decide)).s0 (fun i hi => by rw [up_n (by omega), up_n (by omega)]; rfl)) (by rw [hput_s, up_n (by decide), up_n (by decide)]; exact k1) (by omega)) ?_
            rintro H2 ⟨p2, t2, f2, g2⟩
            refine ev_goto 0 dX9_readCells_95 rfl (ev_wk (ih (nc + 1) (up cost nc v) (tE (h 9) (h 0 14) q) H2 _ (by omega) (by omega) (by omega) (by omega) p2 t2 ?_ ?_ (fun i a b => ?_)) ?_)
            · rw [g2 19 (by omega), hput_s, up_n (by decide), up_s]
            · rw [g2 21 (by omega), hput_s, up_s]
            · rw [f2 10 (by decide), hput_n (by decide), hput_s]
              by_cases e : i = nc
              · subst e; rw [up_s, up_s]
              · rw [up_n e, up_n e]; exact hc i a (by omega)
            · rintro _ h' ⟨rfl, a1, a2, a3, a4⟩
              refine ⟨rfl, a1, fun k a => (a2 k a).trans ((f2 k (by omega)).trans ((hput_n (by omega)).trans (hput_n (by omega)))), ⟨a3.1.trans ((g2 20 (by omega)).trans (by rw [hput_s, up_n (by decide), up_n (by decide)])), a3.2.trans ((g2 23 (by omega)).trans (by rw [hput_s, up_n (by decide), up_n (by decide)]))⟩, a4⟩
        · exact wrK (by omega)
    refine ev_aload_n 1 dX9_readCells_0 rfl rfl ?_
    refine ev_getI' 4 19 (0) fX9_113 rfl dX9_readCells_1 rfl rfl rfl (by decide) rfl hw ?_
    refine ev_if_ne 7 98 dX9_readCells_4 rfl rfl (by omega) (fun c4 => ?_) (fun c4 => ?_)
    · omega --done
    · refine ev_aload_n 8 dX9_readCells_7 rfl rfl ?_
      refine ev_getI' 11 17 (mTok (tK (h 9) (h 0 14) q) (tV (h 9) (h 0 14) q)) fX9_103 rfl dX9_readCells_8 rfl rfl rfl (by decide) rfl k3 ?_
      refine ev_iconst 12 dX9_readCells_11 rfl ?_
      refine ev_icmp_ne 15 22 dX9_readCells_12 rfl rfl (by omega) (by omega) (fun c12 => ?_) (fun c12 => ?_)
      · refine ev_aload_n 23 dX9_readCells_22 rfl rfl ?_
        refine ev_getI' 26 17 (mTok (tK (h 9) (h 0 14) q) (tV (h 9) (h 0 14) q)) fX9_103 rfl dX9_readCells_23 rfl rfl rfl (by decide) rfl k3 ?_
        refine ev_iconst 27 dX9_readCells_26 rfl ?_
        refine ev_icmp_ne 30 40 dX9_readCells_27 rfl rfl (by omega) (by omega) (fun c27 => ?_) (fun c27 => ?_)
        · have hz : costZ (tK (h 9) (h 0 14) q) = 0 := by
            apply Classical.byContradiction
            intro w
            have hp := costZ_v w
            have e1 : tK (h 9) (h 0 14) q = 98 ∨ tK (h 9) (h 0 14) q = 100 ∨ tK (h 9) (h 0 14) q = 102 ∨ tK (h 9) (h 0 14) q = 117 := by
              unfold costZ at w
              repeat' split at w <;> first | omega | skip
            exact c27 (mTok_1.mpr ⟨⟨by omega, by omega⟩, decide_eq_true (by omega)⟩)
          refine ev_iconst 41 dX9_readCells_40 rfl ?_
          refine ev_istore_n 42 dX9_readCells_41 rfl (Nat.le_of_ble_eq_true rfl) ?_
          first | exact goK _ hz.symm (fun w => by first | exact c12 (mTok_3.mpr w.1) | omega) | exact goK _ rfl (fun w => by first | exact c12 (mTok_3.mpr w.1) | omega)
        · have e27 := mTok_1.mp c27
          refine ev_aload_n 31 dX9_readCells_30 rfl rfl ?_
          refine ev_getI' 34 18 (tK (h 9) (h 0 14) q) fX9_100 rfl dX9_readCells_31 rfl rfl rfl (by decide) rfl (k6 (by have e := e27.2; unfold letB at e; have := of_decide_eq_true e; unfold costZ at this; repeat' split at this <;> omega)) ?_
          refine cSi1 37 kX9_readCells_87 dX9_readCells_34 rfl rfl (by decide) rfl (Nat.le_of_ble_eq_true rfl) (m_costOf (by have e := e27.2; unfold letB at e; have := of_decide_eq_true e; unfold costZ at this; repeat' split at this <;> omega)) ?_
          rintro x _ ⟨rfl, rfl⟩
          refine ev_goto 41 dX9_readCells_37 rfl ?_
          refine ev_istore_n 42 dX9_readCells_41 rfl (Nat.le_of_ble_eq_true rfl) ?_
          first | exact goK _ hz.symm (fun w => by first | exact c12 (mTok_3.mpr w.1) | omega) | exact goK _ rfl (fun w => by first | exact c12 (mTok_3.mpr w.1) | omega)
      · refine ev_aload_n 16 dX9_readCells_15 rfl rfl ?_
        refine ev_getI' 19 21 (nc) fX9_120 rfl dX9_readCells_16 rfl rfl rfl (by decide) rfl hn ?_
        refine ev_if_ne 22 98 dX9_readCells_19 rfl rfl (by omega) (fun c19 => ?_) (fun c19 => ?_)
        · exact stopK ⟨mTok_3.mp c12, by omega⟩
        · refine ev_aload_n 23 dX9_readCells_22 rfl rfl ?_
          refine ev_getI' 26 17 (mTok (tK (h 9) (h 0 14) q) (tV (h 9) (h 0 14) q)) fX9_103 rfl dX9_readCells_23 rfl rfl rfl (by decide) rfl k3 ?_
          refine ev_iconst 27 dX9_readCells_26 rfl ?_
          refine ev_icmp_ne 30 40 dX9_readCells_27 rfl rfl (by omega) (by omega) (fun c27 => ?_) (fun c27 => ?_)
          · have hz : costZ (tK (h 9) (h 0 14) q) = 0 := by
              apply Classical.byContradiction
              intro w
              have hp := costZ_v w
              have e1 : tK (h 9) (h 0 14) q = 98 ∨ tK (h 9) (h 0 14) q = 100 ∨ tK (h 9) (h 0 14) q = 102 ∨ tK (h 9) (h 0 14) q = 117 := by
                unfold costZ at w
                repeat' split at w <;> first | omega | skip
              exact c27 (mTok_1.mpr ⟨⟨by omega, by omega⟩, decide_eq_true (by omega)⟩)
            refine ev_iconst 41 dX9_readCells_40 rfl ?_
            refine ev_istore_n 42 dX9_readCells_41 rfl (Nat.le_of_ble_eq_true rfl) ?_
            first | exact goK _ hz.symm (fun w => by first | exact c12 (mTok_3.mpr w.1) | omega) | exact goK _ rfl (fun w => by first | exact c12 (mTok_3.mpr w.1) | omega)
          · have e27 := mTok_1.mp c27
            refine ev_aload_n 31 dX9_readCells_30 rfl rfl ?_
            refine ev_getI' 34 18 (tK (h 9) (h 0 14) q) fX9_100 rfl dX9_readCells_31 rfl rfl rfl (by decide) rfl (k6 (by have e := e27.2; unfold letB at e; have := of_decide_eq_true e; unfold costZ at this; repeat' split at this <;> omega)) ?_
            refine cSi1 37 kX9_readCells_87 dX9_readCells_34 rfl rfl (by decide) rfl (Nat.le_of_ble_eq_true rfl) (m_costOf (by have e := e27.2; unfold letB at e; have := of_decide_eq_true e; unfold costZ at this; repeat' split at this <;> omega)) ?_
            rintro x _ ⟨rfl, rfl⟩
            refine ev_goto 41 dX9_readCells_37 rfl ?_
            refine ev_istore_n 42 dX9_readCells_41 rfl (Nat.le_of_ble_eq_true rfl) ?_
            first | exact goK _ hz.symm (fun w => by first | exact c12 (mTok_3.mpr w.1) | omega) | exact goK _ rfl (fun w => by first | exact c12 (mTok_3.mpr w.1) | omega)
end IT
