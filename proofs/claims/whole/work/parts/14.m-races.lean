theorem MW_R {h : Hp} {ic pts tm plc : Int → Int} {many : Int} (hW : MW h) : MW (hR h ic pts tm plc many) := hW
theorem NW_R {h : Hp} {ic pts tm plc : Int → Int} {many : Int} (hN : NW (h 0 2) (h 13)) : NW ((hR h ic pts tm plc many) 0 2) ((hR h ic pts tm plc many) 13) := hN
def zf (f : Int → Int) (n : Int) : Int → Int := fun e => if 0 ≤ e ∧ e < n then 0 else f e
theorem zf_0 {f : Int → Int} : zf f 0 = f := by
  funext e
  unfold zf
  rw [if_neg (by omega)]
theorem zf_1 {f : Int → Int} {n : Int} (h : 0 ≤ n) : up (zf f n) n 0 = zf f (n + 1) := by
  funext e
  unfold zf up
  by_cases q : e = n
  · rw [if_pos q, if_pos (by omega)]
  · rw [if_neg q]
    show (if 0 ≤ e ∧ e < n then 0 else f e) = _
    by_cases q2 : 0 ≤ e ∧ e < n
    · rw [if_pos q2, if_pos (by omega)]
    · rw [if_neg q2, if_neg (by omega)]
theorem zf_z {f : Int → Int} {n e : Int} (h : 0 ≤ e) (h2 : e < n) : zf f n e = 0 := if_pos ⟨h, h2⟩
def rZ (f1 f2 f3 f4 : Int → Int) (n : Int) : RS := (zf f1 n, zf f2 n, zf f3 n, f4, 0)
theorem rZ_ok {cost : Int → Int} {cl n : Int} (hC : CP cost cl n) {f1 f2 f3 f4 : Int → Int} : rOK cost cl n (rZ f1 f2 f3 f4 n) := by
  have h0 := hC.2.2.1
  refine ⟨fun c a b => ?_, ?_, fun k a b => ?_⟩
  · have := hC.2.2.2.2 0 (by omega) h0
    unfold okC rZ
    dsimp only
    rw [zf_z a b, zf_z a b, zf_z a b]
    omega
  · show (0 : Int) = cntB (inB cl (rZ f1 f2 f3 f4 n)) n.toNat
    have hz : ∀ k : Nat, (k : Int) ≤ n → cntB (inB cl (rZ f1 f2 f3 f4 n)) k = 0 := by
      intro k
      induction k with
      | zero => intro _; rfl
      | succ k ih =>
        intro hk
        unfold cntB
        rw [ih (by omega), inB_f (by show ¬ zf f1 n k = cl; rw [zf_z (by omega) (by omega)]; omega)]
        rfl
    rw [hz _ (by have := hC.1; omega)]
  · have b : k < 0 := b
    omega
section MRC
variable {h : Hp} (hW : MW h) (hN : NW (h 0 2) (h 13)) {ill : Int} (hi : 0 ≤ ill ∧ ill < 32)
theorem m_races_in {post : Option AV → Hp → Prop} (hW : MW h) (hN : NW (h 0 2) (h 13)) (hi : 0 ≤ ill ∧ ill < 32) {m : Int} (hm : 1 ≤ m ∧ m < 2147483648) : ∀ (k : Nat) (c : Int) (r : RS) (ic : Int → Int), 0 ≤ c → c + k = h 0 2 → rOK (h 1) (h 0 0) (h 0 2) r → MR (h 0 2) ic r →
    (∀ ic', MR (h 0 2) ic' (minF (h 1) (h 0 0) (h 0 2) (fun c => h 13 (5 + c)) (mGain h ill) k c m r) → Ev shM mX9_races 104 [some (vr 0), some (vi ill), some (vi m), some (vi (h 0 2))] [] (hR h ic' (minF (h 1) (h 0 0) (h 0 2) (fun c => h 13 (5 + c)) (mGain h ill) k c m r).2.1 (minF (h 1) (h 0 0) (h 0 2) (fun c => h 13 (5 + c)) (mGain h ill) k c m r).2.2.1 (minF (h 1) (h 0 0) (h 0 2) (fun c => h 13 (5 + c)) (mGain h ill) k c m r).2.2.2.1 (minF (h 1) (h 0 0) (h 0 2) (fun c => h 13 (5 + c)) (mGain h ill) k c m r).2.2.2.2) post) →
    Ev shM mX9_races 57 [some (vr 0), some (vi ill), some (vi m), some (vi c)] [] (hR h ic r.2.1 r.2.2.1 r.2.2.2.1 r.2.2.2.2) post := by
  intro k
  induction k with
  | zero =>
    intro c r ic h0 h1 hr hM K
    have he : c = h 0 2 := by omega
    subst he
    have hn := hW.1.2.1
    refine ev_iload_n 58 dX9_races_57 rfl rfl ?_
    refine ev_aload_n 59 dX9_races_58 rfl rfl ?_
    refine ev_getI' 62 2 (h 0 2) fX9_74 rfl dX9_races_59 rfl rfl rfl (by decide) rfl rfl ?_
    refine ev_icmp_ge 65 104 dX9_races_62 rfl rfl (by omega) (by omega) (fun c62 => ?_) (fun c62 => ?_)
    · exact K ic hM
    · omega --done
  | succ k ih =>
    intro c r ic h0 h1 hr hM K
    have hn := hW.1.2.1
    have hk := hr.1 c h0 (by omega)
    unfold okC at hk
    have hnc := hN.1 c h0 (by omega)
    unfold minF at K
    refine ev_iload_n 58 dX9_races_57 rfl rfl ?_
    refine ev_aload_n 59 dX9_races_58 rfl rfl ?_
    refine ev_getI' 62 2 (h 0 2) fX9_74 rfl dX9_races_59 rfl rfl rfl (by decide) rfl rfl ?_
    refine ev_icmp_ge 65 104 dX9_races_62 rfl rfl (by omega) (by omega) (fun c62 => ?_) (fun c62 => ?_)
    · omega --done
    · refine ev_aload_n 66 dX9_races_65 rfl rfl ?_
      refine ev_getR 69 fX9_56 rfl dX9_races_66 rfl rfl rfl ?_
      refine ev_iload_n 70 dX9_races_69 rfl rfl ?_
      refine ev_iald' 71 (r.2.2.1 c) dX9_races_70 rfl rfl (by decide) (by omega) rfl ?_
      refine ev_if_ne 74 98 dX9_races_71 rfl rfl (by omega) (fun c71 => ?_) (fun c71 => ?_)
      · rw [if_neg (by omega)] at K
        refine ev_iinc 101 dX9_races_98 rfl rfl ?_
        refine ev_goto 57 dX9_races_101 rfl ?_
        exact ih (c + 1) r ic (by omega) (by omega) hr hM K --done
      · refine ev_aload_n 75 dX9_races_74 rfl rfl ?_
        refine ev_getR 78 fX9_47 rfl dX9_races_75 rfl rfl rfl ?_
        refine ev_iconst 79 dX9_races_78 rfl ?_
        refine ev_iload_n 80 dX9_races_79 rfl rfl ?_
        refine ev_iadd 81 dX9_races_80 rfl ?_
        refine ev_iald' 82 (h 13 (5 + c)) dX9_races_81 rfl rfl (by decide) (by omega) rfl ?_
        refine ev_iload_n 83 dX9_races_82 rfl rfl ?_
        refine ev_icmp_ge 86 98 dX9_races_83 rfl rfl (by omega) (by omega) (fun c83 => ?_) (fun c83 => ?_)
        · rw [if_neg (by omega)] at K
          refine ev_iinc 101 dX9_races_98 rfl rfl ?_
          refine ev_goto 57 dX9_races_101 rfl ?_
          exact ih (c + 1) r ic (by omega) (by omega) hr hM K --done
        · rw [if_pos (by omega)] at K
          refine ev_aload_n 87 dX9_races_86 rfl rfl ?_
          refine ev_iload_n 88 dX9_races_87 rfl rfl ?_
          refine ev_iload_n 89 dX9_races_88 rfl rfl ?_
          refine ev_aload_n 90 dX9_races_89 rfl rfl ?_
          refine ev_iload_n 91 dX9_races_90 rfl rfl ?_
          refine ev_iload_n 92 dX9_races_91 rfl rfl ?_
          refine cVi2 95 kX9_races_168 dX9_races_92 rfl rfl rfl rfl rfl (by decide) rfl (Nat.le_of_ble_eq_true rfl) (m_gainOf (MW_R hW).1.2.1 (MW_R hW).2 (NW_R hN) hi ⟨h0, by show c < h 0 2; omega⟩) ?_
          rintro x _ ⟨e92, rfl⟩
          rw [show x = mGain h ill c from e92]
          refine cVv3 98 kX9_races_171 dX9_races_95 rfl rfl rfl rfl rfl (by decide) rfl (Nat.le_of_ble_eq_true rfl) (m_goes hW.1 ⟨h0, by omega⟩ hm (mGain_r hW hN ill ⟨h0, by omega⟩) hr (by omega) hM) ?_
          rintro _ ⟨ic', hM', rfl⟩
          refine ev_iinc 101 dX9_races_98 rfl rfl ?_
          refine ev_goto 57 dX9_races_101 rfl ?_
          exact ih (c + 1) _ ic' (by omega) (by omega) (move_ok hW.1 ⟨h0, by omega⟩ hm (mGain_r hW hN ill ⟨h0, by omega⟩) hr (by omega)).2 hM' K
theorem m_races_out (hW : MW h) (hN : NW (h 0 2) (h 13)) (hi : 0 ≤ ill ∧ ill < 32) : ∀ (k : Nat) (m : Int) (r : RS) (ic : Int → Int) (o : Option AV), 1 ≤ m → m + k < 2147483648 → rOK (h 1) (h 0 0) (h 0 2) r → MR (h 0 2) ic r → h 0 2 ≤ (raceF (h 1) (h 0 0) (h 0 2) (fun c => h 13 (5 + c)) (mGain h ill) k m (h 0 2) r).2.2.2.2 → Ev shM mX9_races 44 [some (vr 0), some (vi ill), some (vi m), o] [] (hR h ic r.2.1 r.2.2.1 r.2.2.2.1 r.2.2.2.2) (RV fun h' => ∃ ic' r', r' = raceF (h 1) (h 0 0) (h 0 2) (fun c => h 13 (5 + c)) (mGain h ill) k m (h 0 2) r ∧ h' = hR h ic' r'.2.1 r'.2.2.1 r'.2.2.2.1 r'.2.2.2.2) := by
  intro k
  induction k with
  | zero =>
    intro m r ic o h1 h2 hr hM hE
    have hE : h 0 2 ≤ r.2.2.2.2 := hE
    have hn := hW.1.2.1
    have hn0 := hW.1.1
    have hmr := cntB_rng (inB (h 0 0) r) (h 0 2).toNat
    have hm2 := hr.2.1
    refine ev_aload_n 45 dX9_races_44 rfl rfl ?_
    refine ev_getI' 48 31 (r.2.2.2.2) fX9_162 rfl dX9_races_45 rfl rfl rfl (by decide) rfl rfl ?_
    refine ev_aload_n 49 dX9_races_48 rfl rfl ?_
    refine ev_getI' 52 2 (h 0 2) fX9_74 rfl dX9_races_49 rfl rfl rfl (by decide) rfl rfl ?_
    refine ev_icmp_ge 55 110 dX9_races_52 rfl rfl (by omega) (by omega) (fun c52 => ?_) (fun c52 => ?_)
    · exact ev_vret rfl dX9_races_110 (⟨ic, r, rfl, rfl⟩)
    · omega --done
  | succ k ih =>
    intro m r ic o h1 h2 hr hM hE
    have hn := hW.1.2.1
    have hn0 := hW.1.1
    have hmr := cntB_rng (inB (h 0 0) r) (h 0 2).toNat
    have hm2 := hr.2.1
    unfold raceF at hE ⊢
    refine ev_aload_n 45 dX9_races_44 rfl rfl ?_
    refine ev_getI' 48 31 (r.2.2.2.2) fX9_162 rfl dX9_races_45 rfl rfl rfl (by decide) rfl rfl ?_
    refine ev_aload_n 49 dX9_races_48 rfl rfl ?_
    refine ev_getI' 52 2 (h 0 2) fX9_74 rfl dX9_races_49 rfl rfl rfl (by decide) rfl rfl ?_
    refine ev_icmp_ge 55 110 dX9_races_52 rfl rfl (by omega) (by omega) (fun c52 => ?_) (fun c52 => ?_)
    · rw [if_neg (by omega)]
      exact ev_vret rfl dX9_races_110 (⟨ic, r, rfl, rfl⟩)
    · rw [if_pos (by omega)] at hE ⊢
      refine ev_iconst 56 dX9_races_55 rfl ?_
      refine ev_istore_n 57 dX9_races_56 rfl (Nat.le_of_ble_eq_true rfl) ?_
      refine m_races_in hW hN hi ⟨h1, by omega⟩ (h 0 2).toNat 0 r ic (Int.le_refl _) (by omega) hr hM (fun ic' hM' => ?_)
      refine ev_iinc 107 dX9_races_104 rfl rfl ?_
      refine ev_goto 44 dX9_races_107 rfl ?_
      exact ih (m + 1) _ ic' _ (by omega) (by omega) (min_ok hW.1 ⟨h1, by omega⟩ (fun c a b => mGain_r hW hN ill ⟨a, b⟩) _ _ _ (Int.le_refl _) (by omega) hr) hM' hE
theorem m_races_init (hn : 0 ≤ h 0 2 ∧ h 0 2 ≤ 5) {post : Option AV → Hp → Prop} : ∀ (k : Nat) (c : Int), 0 ≤ c → c + k = h 0 2 → Ev shM mX9_races 37 [some (vr 0), some (vi ill), some (vi (h 0 2)), none] [] (hR h (zf (h 14) (h 0 2)) (zf (h 15) (h 0 2)) (zf (h 16) (h 0 2)) (h 17) (h 0 31)) post → Ev shM mX9_races 2 [some (vr 0), some (vi ill), some (vi c), none] [] (hR h (zf (h 14) c) (zf (h 15) c) (zf (h 16) c) (h 17) (h 0 31)) post := by
  intro k
  induction k with
  | zero =>
    intro c h0 h1 K
    have he : c = h 0 2 := by omega
    subst he
    refine ev_iload_n 3 dX9_races_2 rfl rfl ?_
    refine ev_aload_n 4 dX9_races_3 rfl rfl ?_
    refine ev_getI' 7 2 (h 0 2) fX9_74 rfl dX9_races_4 rfl rfl rfl (by decide) rfl rfl ?_
    refine ev_icmp_ge 10 37 dX9_races_7 rfl rfl (by omega) (by omega) (fun c7 => ?_) (fun c7 => ?_)
    · exact K
    · omega --done
  | succ k ih =>
    intro c h0 h1 K
    refine ev_iload_n 3 dX9_races_2 rfl rfl ?_
    refine ev_aload_n 4 dX9_races_3 rfl rfl ?_
    refine ev_getI' 7 2 (h 0 2) fX9_74 rfl dX9_races_4 rfl rfl rfl (by decide) rfl rfl ?_
    refine ev_icmp_ge 10 37 dX9_races_7 rfl rfl (by omega) (by omega) (fun c7 => ?_) (fun c7 => ?_)
    · omega --done
    · refine ev_aload_n 11 dX9_races_10 rfl rfl ?_
      refine ev_getR 14 fX9_50 rfl dX9_races_11 rfl rfl rfl ?_
      refine ev_iload_n 15 dX9_races_14 rfl rfl ?_
      refine ev_iconst 16 dX9_races_15 rfl ?_
      refine ev_iast' 17 (hR h (up (zf (h 14) c) c 0) (zf (h 15) c) (zf (h 16) c) (h 17) (h 0 31)) dX9_races_16 rfl rfl (by decide) (by omega) hR_14 ?_
      refine ev_aload_n 18 dX9_races_17 rfl rfl ?_
      refine ev_getR 21 fX9_53 rfl dX9_races_18 rfl rfl rfl ?_
      refine ev_iload_n 22 dX9_races_21 rfl rfl ?_
      refine ev_iconst 23 dX9_races_22 rfl ?_
      refine ev_iast' 24 (hR h (up (zf (h 14) c) c 0) (up (zf (h 15) c) c 0) (zf (h 16) c) (h 17) (h 0 31)) dX9_races_23 rfl rfl (by decide) (by omega) hR_15 ?_
      refine ev_aload_n 25 dX9_races_24 rfl rfl ?_
      refine ev_getR 28 fX9_56 rfl dX9_races_25 rfl rfl rfl ?_
      refine ev_iload_n 29 dX9_races_28 rfl rfl ?_
      refine ev_iconst 30 dX9_races_29 rfl ?_
      refine ev_iast' 31 (hR h (up (zf (h 14) c) c 0) (up (zf (h 15) c) c 0) (up (zf (h 16) c) c 0) (h 17) (h 0 31)) dX9_races_30 rfl rfl (by decide) (by omega) hR_16 ?_
      rw [zf_1 h0, zf_1 h0, zf_1 h0]
      refine ev_iinc 34 dX9_races_31 rfl rfl ?_
      refine ev_goto 2 dX9_races_34 rfl ?_
      exact ih (c + 1) (by omega) (by omega) K
/-- the race as a value: from nothing, to w chairs in -/
def raceC (cost : Int → Int) (cl n : Int) (hand g : Int → Int) (w : Int) : RS := raceF cost cl n hand g 1000 1 w (fun _ => 0, fun _ => 0, fun _ => 0, fun _ => 0, 0)
theorem rZ_ag {f1 f2 f3 f4 : Int → Int} {n : Int} : rAg n (rZ f1 f2 f3 f4 n) (fun _ => 0, fun _ => 0, fun _ => 0, fun _ => 0, 0) := ⟨fun _ a b => zf_z a b, fun _ a b => zf_z a b, fun _ a b => zf_z a b, fun k a b => by have b : k < 0 := b; omega, rfl⟩
theorem raceZ_end {cost : Int → Int} {cl n : Int} (hC : CP cost cl n) {hand g : Int → Int} (hg : ∀ c, 0 ≤ c → c < n → 1 ≤ g c ∧ g c ≤ 20) (hh : ∀ c, 0 ≤ c → c < n → hand c ≤ 5) {w : Int} (hw : w ≤ n) {f1 f2 f3 f4 : Int → Int} : rOK cost cl n (raceF cost cl n hand g 1000 1 w (rZ f1 f2 f3 f4 n)) ∧ w ≤ (raceF cost cl n hand g 1000 1 w (rZ f1 f2 f3 f4 n)).2.2.2.2 :=
  race_end hC hg hh hw 1000 1 _ (by omega) (by omega) (rZ_ok hC) (fun q => by omega) (fun _ => by omega)
theorem m_races (hW : MW h) (hN : NW (h 0 2) (h 13)) (hi : 0 ≤ ill ∧ ill < 32) : Ev shM mX9_races 0 [some (vr 0), some (vi ill), none, none] [] h (RV fun h' => ∃ ic pts tm plc, h' = hR h ic pts tm plc (h 0 2) ∧ ag (h 0 2) tm (raceC (h 1) (h 0 0) (h 0 2) (fun c => h 13 (5 + c)) (mGain h ill) (h 0 2)).2.2.1 ∧ ag (h 0 2) plc (raceC (h 1) (h 0 0) (h 0 2) (fun c => h 13 (5 + c)) (mGain h ill) (h 0 2)).2.2.2.1) := by
  have hn := hW.1.2.1
  have hn0 := hW.1.1
  have hE := raceZ_end hW.1 (hand := fun c => h 13 (5 + c)) (g := mGain h ill) (fun c a b => mGain_r hW hN ill ⟨a, b⟩) (fun c a b => (hN.1 c a b).2.2.2) (Int.le_refl _) (f1 := h 14) (f2 := h 15) (f3 := h 16) (f4 := h 17)
  have hmr := cntB_rng (inB (h 0 0) (raceF (h 1) (h 0 0) (h 0 2) (fun c => h 13 (5 + c)) (mGain h ill) 1000 1 (h 0 2) (rZ (h 14) (h 15) (h 16) (h 17) (h 0 2)))) (h 0 2).toNat
  have hm2 := hE.1.2.1
  have hA := race_ag (w := h 0 2) (cost := h 1) (cl := h 0 0) (by omega) (ag_rf (n := h 0 2) (f := fun c => h 13 (5 + c))) (ag_rf (n := h 0 2) (f := mGain h ill)) 1000 1 _ _ (rZ_ag (f1 := h 14) (f2 := h 15) (f3 := h 16) (f4 := h 17) (n := h 0 2))
  have K2 := m_races_out hW hN hi 1000 1 (rZ (h 14) (h 15) (h 16) (h 17) (h 0 2)) (zf (h 14) (h 0 2)) none (by omega) (by omega) (rZ_ok hW.1) (fun e a b => ⟨fun _ => rfl, by rw [zf_z a b]; omega⟩) hE.2
  have K3 := ev_wk K2 (Q := RV fun h' => ∃ ic pts tm plc, h' = hR h ic pts tm plc (h 0 2) ∧ ag (h 0 2) tm (raceC (h 1) (h 0 0) (h 0 2) (fun c => h 13 (5 + c)) (mGain h ill) (h 0 2)).2.2.1 ∧ ag (h 0 2) plc (raceC (h 1) (h 0 0) (h 0 2) (fun c => h 13 (5 + c)) (mGain h ill) (h 0 2)).2.2.2.1) (by
    rintro v h' ⟨e1, ic', r', rfl, rfl⟩
    have e2 : (raceF (h 1) (h 0 0) (h 0 2) (fun c => h 13 (5 + c)) (mGain h ill) 1000 1 (h 0 2) (rZ (h 14) (h 15) (h 16) (h 17) (h 0 2))).2.2.2.2 = h 0 2 := by omega
    refine ⟨e1, ic', _, _, _, by rw [e2], hA.2.2.1, fun k a b => hA.2.2.2.1 k a (by omega)⟩)
  have K0 := m_races_init (ill := ill) ⟨by omega, hn⟩ (h 0 2).toNat 0 (Int.le_refl _) (by omega) (h := h) (post := RV fun h' => ∃ ic pts tm plc, h' = hR h ic pts tm plc (h 0 2) ∧ ag (h 0 2) tm (raceC (h 1) (h 0 0) (h 0 2) (fun c => h 13 (5 + c)) (mGain h ill) (h 0 2)).2.2.1 ∧ ag (h 0 2) plc (raceC (h 1) (h 0 0) (h 0 2) (fun c => h 13 (5 + c)) (mGain h ill) (h 0 2)).2.2.2.1) (by
    refine ev_aload_n 38 dX9_races_37 rfl rfl ?_
    refine ev_iconst 39 dX9_races_38 rfl ?_
    refine ev_putI' 42 31 (hR h (zf (h 14) (h 0 2)) (zf (h 15) (h 0 2)) (zf (h 16) (h 0 2)) (h 17) 0) pX9_162 rfl dX9_races_39 rfl rfl rfl rfl hR_0 ?_
    refine ev_iconst 43 dX9_races_42 rfl ?_
    refine ev_istore_n 44 dX9_races_43 rfl (Nat.le_of_ble_eq_true rfl) ?_
    exact K3
    )
  rw [zf_0, zf_0, zf_0, hR_e] at K0
  refine ev_iconst 1 dX9_races_0 rfl ?_
  refine ev_istore_n 2 dX9_races_1 rfl (Nat.le_of_ble_eq_true rfl) ?_
  exact K0
end MRC
