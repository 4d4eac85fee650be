theorem sumZ_up {f : Int → Int} {i v : Int} : ∀ (k : Nat), (k : Int) ≤ i → sumZ (up f i v) k = sumZ f k := by
  intro k
  induction k with
  | zero => intro _; rfl
  | succ k ih =>
    intro hk
    show sumZ (up f i v) k + up f i v (k : Int) = sumZ f k + f (k : Int)
    rw [ih (by omega), up_n (by omega)]
theorem SD_C {h : Hp} {nc : Int} {cost : Int → Int} {R : Int × (Int → Int) × (Int → Int) × (Int → Int)} (s : SD h (nc, cost, R)) (h0 : 0 ≤ nc) (x : Int) : SD (spC h x) (nc + 1, up cost nc x, R) := by
  obtain ⟨s1, s2, s3, s4, s5⟩ := s
  dsimp only at s1 s2 s5
  refine ⟨?_, fun i a b => ?_, s3, s4, ?_⟩
  · show h 3 4 + 1 = nc + 1
    rw [s1]
  · dsimp only at b ⊢
    show up (h 17) (h 3 4) x i = up cost nc x i
    rw [s1]
    by_cases q : i = nc
    · subst q; rw [up_s, up_s]
    · rw [up_n q, up_n q]; exact s2 i a (by omega)
  · dsimp only
    show h 3 6 + x = _
    rw [sumZ_1 h0, sumZ_up _ (by omega), up_s, s5]
theorem RES_z {r : Int ⊕ (PS × Int)} {x : Int} {h : Hp} (q : RES r x h) : x = 0 ∨ x = 1 := by
  cases r with
  | inl f => exact Or.inl q.1
  | inr r => exact Or.inr q.1
section CJ
variable {h : Hp} {t : Int → Int} {L : Int}
theorem c_pr_37 (hT : TT t L) {H : Hp} {p nc : Int} {cost : Int → Int} {R : Int × (Int → Int) × (Int → Int) × (Int → Int)} {r : Int ⊕ (PS × Int)} (hA : AT H t L p) (hp : 0 ≤ p ∧ p ≤ L) (hS : SD H (nc, cost, R)) (hn : 0 ≤ nc ∧ nc ≤ 16) (hD : PD h H) (r1 : tK t L p = 59 ∧ 0 < nc → r = .inr ((nc, cost, R), tE t L p)) (r2 : ¬ (tK t L p = 59 ∧ 0 < nc) → r = .inl (tS t L p)) {o2 : Option AV} : Ev shC mX5_readPromenade 37 [some (vr 1), some (vr 3), o2] [] H (RI fun x h' => RES r x h' ∧ PD h h') := by
  have hk := tK_r hT hp
  obtain ⟨a12, a1, a2, a3, a4, a5⟩ := hA
  refine ev_aload_n 38 dX5_readPromenade_37 rfl rfl ?_
  refine ev_getI' 41 4 (nc) fX5_40 rfl dX5_readPromenade_38 rfl rfl rfl (by decide) rfl hS.1 ?_
  refine ev_if_le 44 57 dX5_readPromenade_41 rfl rfl (by omega) (fun c41 => ?_) (fun c41 => ?_)
  · rw [r2 (by omega)]
    refine ev_iconst 58 dX5_readPromenade_57 rfl ?_
    exact ev_zret rfl dX5_readPromenade_58 (by omega) (by first | exact ⟨⟨rfl, hS, a2⟩, hD⟩ | exact ⟨⟨rfl, a4⟩, hD⟩)
  · refine ev_aload_n 45 dX5_readPromenade_44 rfl rfl ?_
    refine ev_getI' 48 3 (tK t L p) fX5_30 rfl dX5_readPromenade_45 rfl rfl rfl (by decide) rfl a3 ?_
    refine ev_bipush 50 dX5_readPromenade_48 rfl (by decide +kernel) ?_
    refine ev_icmp_ne 53 57 dX5_readPromenade_50 rfl rfl (by omega) (by omega) (fun c50 => ?_) (fun c50 => ?_)
    · rw [r2 (by omega)]
      refine ev_iconst 58 dX5_readPromenade_57 rfl ?_
      exact ev_zret rfl dX5_readPromenade_58 (by omega) (by first | exact ⟨⟨rfl, hS, a2⟩, hD⟩ | exact ⟨⟨rfl, a4⟩, hD⟩)
    · rw [r1 (by omega)]
      refine ev_iconst 54 dX5_readPromenade_53 rfl ?_
      refine ev_goto 58 dX5_readPromenade_54 rfl ?_
      exact ev_zret rfl dX5_readPromenade_58 (by omega) (by first | exact ⟨⟨rfl, hS, a2⟩, hD⟩ | exact ⟨⟨rfl, a4⟩, hD⟩)
def cRes (R : Int × (Int → Int) × (Int → Int) × (Int → Int)) (t : Int → Int) (L : Int) (r : Int ⊕ ((Int × (Int → Int)) × Int)) : Int ⊕ (PS × Int) := match r with
  | .inl f => .inl f
  | .inr r => .inr ((r.1.1, r.1.2, R), tE t L r.2)
theorem c_pr_loop (hT : TT t L) {R : Int × (Int → Int) × (Int → Int) × (Int → Int)} : ∀ (n : Nat) (nc : Int) (cost : Int → Int) (p : Int) (H : Hp), 0 ≤ nc ∧ nc ≤ 16 → nc + n = 17 → 0 ≤ p ∧ p ≤ L → AT H t L p → SD H (nc, cost, R) → PD h H → Ev shC mX5_readPromenade 6 [some (vr 1), some (vr 3), some (vi nc)] [] H (RI fun x h' => RES (cRes R t L (cellsF t L n nc cost p)) x h' ∧ PD h h') := by
  intro n
  induction n with
  | zero => intro nc cost p H h0 h1; omega
  | succ n ih =>
    intro nc cost p H h0 h1 hp hA hS hD
    have hk := tK_r hT hp
    have hE := tE_r (t := t) hp.2
    have hz := costZ_r (tK t L p)
    unfold cellsF
    by_cases c1 : tK t L p = 59 ∧ 0 < nc
    · rw [if_pos c1]
      have hz0 : costZ (tK t L p) = 0 := by rw [c1.1]; decide
      have K := fun o2 => c_pr_37 (h := h) hT hA hp hS h0 hD (r := cRes R t L (.inr ((nc, cost), p))) (fun _ => rfl) (fun z => absurd c1 z) (o2 := o2)
      refine ev_iload_n 7 dX5_readPromenade_6 rfl rfl ?_
      refine ev_bipush 9 dX5_readPromenade_7 rfl (by decide +kernel) ?_
      refine ev_icmp_ge 12 37 dX5_readPromenade_9 rfl rfl (by omega) (by omega) (fun c9 => ?_) (fun c9 => ?_)
      · exact K _
      · refine ev_aload_n 13 dX5_readPromenade_12 rfl rfl ?_
        refine cVi0 16 kX5_readPromenade_55 dX5_readPromenade_13 rfl rfl rfl rfl rfl (by decide) rfl (Nat.le_of_ble_eq_true rfl) (c_costOfToken (by omega) hA.2.2.2.1) ?_
        rintro x _ ⟨rfl, rfl⟩
        refine ev_if_le 19 37 dX5_readPromenade_16 rfl rfl (by omega) (fun c16 => ?_) (fun c16 => ?_)
        · exact K _
        · omega --done
    · rw [if_neg c1]
      by_cases c2 : costZ (tK t L p) = 0 ∨ nc = 16
      · rw [if_pos c2]
        have K := fun o2 => c_pr_37 (h := h) hT hA hp hS h0 hD (r := cRes R t L (.inl (tS t L p))) (fun z => absurd z c1) (fun _ => rfl) (o2 := o2)
        refine ev_iload_n 7 dX5_readPromenade_6 rfl rfl ?_
        refine ev_bipush 9 dX5_readPromenade_7 rfl (by decide +kernel) ?_
        refine ev_icmp_ge 12 37 dX5_readPromenade_9 rfl rfl (by omega) (by omega) (fun c9 => ?_) (fun c9 => ?_)
        · exact K _
        · refine ev_aload_n 13 dX5_readPromenade_12 rfl rfl ?_
          refine cVi0 16 kX5_readPromenade_55 dX5_readPromenade_13 rfl rfl rfl rfl rfl (by decide) rfl (Nat.le_of_ble_eq_true rfl) (c_costOfToken (by omega) hA.2.2.2.1) ?_
          rintro x _ ⟨rfl, rfl⟩
          refine ev_if_le 19 37 dX5_readPromenade_16 rfl rfl (by omega) (fun c16 => ?_) (fun c16 => ?_)
          · exact K _
          · omega --done
      · rw [if_neg c2]
        have hcv := costZ_v (fun w => c2 (Or.inl w))
        have hS2 := SD_C hS h0.1 (costZ (tK t L p))
        have h34 : H 3 4 = nc := hS.1
        refine ev_iload_n 7 dX5_readPromenade_6 rfl rfl ?_
        refine ev_bipush 9 dX5_readPromenade_7 rfl (by decide +kernel) ?_
        refine ev_icmp_ge 12 37 dX5_readPromenade_9 rfl rfl (by omega) (by omega) (fun c9 => ?_) (fun c9 => ?_)
        · omega --done
        · refine ev_aload_n 13 dX5_readPromenade_12 rfl rfl ?_
          refine cVi0 16 kX5_readPromenade_55 dX5_readPromenade_13 rfl rfl rfl rfl rfl (by decide) rfl (Nat.le_of_ble_eq_true rfl) (c_costOfToken (by omega) hA.2.2.2.1) ?_
          rintro x _ ⟨rfl, rfl⟩
          refine ev_if_le 19 37 dX5_readPromenade_16 rfl rfl (by omega) (fun c16 => ?_) (fun c16 => ?_)
          · omega --done
          · refine ev_aload_n 20 dX5_readPromenade_19 rfl rfl ?_
            refine ev_aload_n 21 dX5_readPromenade_20 rfl rfl ?_
            refine cVi0 24 kX5_readPromenade_55 dX5_readPromenade_21 rfl rfl rfl rfl rfl (by decide) rfl (Nat.le_of_ble_eq_true rfl) (c_costOfToken (by omega) hA.2.2.2.1) ?_
            rintro x _ ⟨rfl, rfl⟩
            refine cVv1 27 kX5_readPromenade_59 dX5_readPromenade_24 rfl rfl rfl rfl rfl (by decide) rfl (Nat.le_of_ble_eq_true rfl) (c_addCell (by omega)) ?_
            rintro _ rfl
            refine ev_aload_n 28 dX5_readPromenade_27 rfl rfl ?_
            refine cVv0 31 kX5_readPromenade_27 dX5_readPromenade_28 rfl rfl rfl rfl rfl (by decide) rfl (Nat.le_of_ble_eq_true rfl) (c_rT (h := spC H (costZ (tK t L p))) hT hA.1 hA.2.1 hA.2.2.1 (by omega)) ?_
            rintro _ ⟨f, rfl, f1, A2⟩
            refine ev_iinc 34 dX5_readPromenade_31 rfl rfl ?_
            refine ev_goto 6 dX5_readPromenade_34 rfl ?_
            exact ih (nc + 1) _ (tE t L p) _ (by omega) (by omega) (by omega) A2 hS2 (hD.tr (PD.spC.tr (PD.h1 (f1.trans hA.2.1.symm))))
theorem c_readPromenade (hT : TT t L) {q : Int} {S : PS} (hA : AT h t L q) (hq : 0 ≤ q ∧ q ≤ L) (hS : SD h S) (hk : tK t L q = 108) (h0 : S.1 = 0) : Ev shC mX5_readPromenade 0 [some (vr 1), some (vr 3), none] [] h (RI fun x h' => RES (itemF t L S q) x h' ∧ PD h h') := by
  have e1 := tE_r (t := t) hq.2
  have er : itemF t L S q = cRes S.2.2 t L (cellsF t L 17 0 S.2.1 (tE t L q)) := by
    unfold itemF
    rw [if_pos hk, if_pos h0]
    rfl
  rw [er]
  have hS0 : SD h (0, S.2.1, S.2.2) := by
    rw [← h0]
    exact hS
  refine ev_aload_n 1 dX5_readPromenade_0 rfl rfl ?_
  refine cVv0 4 kX5_readPromenade_27 dX5_readPromenade_1 rfl rfl rfl rfl rfl (by decide) rfl (Nat.le_of_ble_eq_true rfl) (c_rT hT hA.1 hA.2.1 hA.2.2.1 (by omega)) ?_
  rintro _ ⟨f, rfl, f1, A2⟩
  refine ev_iconst 5 dX5_readPromenade_4 rfl ?_
  refine ev_istore_n 6 dX5_readPromenade_5 rfl (Nat.le_of_ble_eq_true rfl) ?_
  exact c_pr_loop (h := h) hT 17 0 _ (tE t L q) _ (by omega) (by omega) (by omega) A2 hS0 (PD.h1 (f1.trans hA.2.1.symm))
end CJ
