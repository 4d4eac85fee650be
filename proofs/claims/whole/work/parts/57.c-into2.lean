section CL2
variable {h : Hp} {t : Int → Int} {L : Int}
theorem c_readItem (hT : TT t L) {q : Int} {S : PS} (hA : AT h t L q) (hq : 0 ≤ q ∧ q ≤ L) (hS : SD h S) (hSo : PSok S) : Ev shC mX5_readItem 0 [some (vr 1), some (vr 3)] [] h (RI fun x h' => RES (itemF t L S q) x h' ∧ PD h h') := by
  have hk := tK_r hT hq
  have s1 := hSo.1
  have s3 := hSo.2.2.1
  refine ev_aload_n 1 dX5_readItem_0 rfl rfl ?_
  refine ev_getI' 4 3 (tK t L q) fX5_30 rfl dX5_readItem_1 rfl rfl rfl (by decide) rfl hA.2.2.2.1 ?_
  by_cases k1 : tK t L q = 108
  · refine ev_topi k1 ?_
    refine ev_lsw 40 dX5_readItem_4 (by omega) (by decide) rfl rfl ?_
    by_cases z : S.1 = 0
    · have hP := c_readPromenade hT hA hq hS k1 z
      refine ev_aload_n 41 dX5_readItem_40 rfl rfl ?_
      refine ev_getI' 44 4 (S.1) fX5_40 rfl dX5_readItem_41 rfl rfl rfl (by decide) rfl hS.1 ?_
      refine ev_if_ne 47 59 dX5_readItem_44 rfl rfl (by omega) (fun c44 => ?_) (fun c44 => ?_)
      · omega --done
      · refine ev_aload_n 48 dX5_readItem_47 rfl rfl ?_
        refine ev_aload_n 49 dX5_readItem_48 rfl rfl ?_
        refine cVi1 52 kX5_readItem_43 dX5_readItem_49 rfl rfl rfl rfl rfl (by decide) rfl (Nat.le_of_ble_eq_true rfl) (hP) ?_
        rintro x H ⟨r, d⟩
        have hx := RES_z r
        refine ev_if_eq 55 59 dX5_readItem_52 rfl rfl (by omega) (fun c52 => ?_) (fun c52 => ?_)
        · rw [c52] at r
          refine ev_iconst 60 dX5_readItem_59 rfl ?_
          exact ev_zret rfl dX5_readItem_60 (by omega) (⟨r, d⟩)
        · rw [hx.resolve_left c52] at r
          refine ev_iconst 56 dX5_readItem_55 rfl ?_
          refine ev_goto 60 dX5_readItem_56 rfl ?_
          exact ev_zret rfl dX5_readItem_60 (by omega) (⟨r, d⟩)
    · have er : itemF t L S q = .inl (tS t L q) := by
        unfold itemF
        rw [if_pos k1, if_neg z]
      rw [er]
      refine ev_aload_n 41 dX5_readItem_40 rfl rfl ?_
      refine ev_getI' 44 4 (S.1) fX5_40 rfl dX5_readItem_41 rfl rfl rfl (by decide) rfl hS.1 ?_
      refine ev_if_ne 47 59 dX5_readItem_44 rfl rfl (by omega) (fun c44 => ?_) (fun c44 => ?_)
      · refine ev_iconst 60 dX5_readItem_59 rfl ?_
        exact ev_zret rfl dX5_readItem_60 (by omega) (⟨⟨rfl, hA.2.2.2.2.1⟩, PD.rf⟩)
      · omega --done
  · by_cases k2 : tK t L q = 99
    · refine ev_topi k2 ?_
      refine ev_lsw 61 dX5_readItem_4 (by omega) (by decide) rfl rfl ?_
      by_cases z : S.2.2.1 < 5
      · have hP := c_readChair hT hA hq hS hSo k2 z
        refine ev_aload_n 62 dX5_readItem_61 rfl rfl ?_
        refine ev_getI' 65 5 (S.2.2.1) fX5_46 rfl dX5_readItem_62 rfl rfl rfl (by decide) rfl hS.2.2.1 ?_
        refine ev_iconst 66 dX5_readItem_65 rfl ?_
        refine ev_icmp_ge 69 81 dX5_readItem_66 rfl rfl (by omega) (by omega) (fun c66 => ?_) (fun c66 => ?_)
        · omega --done
        · refine ev_aload_n 70 dX5_readItem_69 rfl rfl ?_
          refine ev_aload_n 71 dX5_readItem_70 rfl rfl ?_
          refine cVi1 74 kX5_readItem_49 dX5_readItem_71 rfl rfl rfl rfl rfl (by decide) rfl (Nat.le_of_ble_eq_true rfl) (hP) ?_
          rintro x H ⟨r, d⟩
          have hx := RES_z r
          refine ev_if_eq 77 81 dX5_readItem_74 rfl rfl (by omega) (fun c74 => ?_) (fun c74 => ?_)
          · rw [c74] at r
            refine ev_iconst 82 dX5_readItem_81 rfl ?_
            exact ev_zret rfl dX5_readItem_82 (by omega) (⟨r, d⟩)
          · rw [hx.resolve_left c74] at r
            refine ev_iconst 78 dX5_readItem_77 rfl ?_
            refine ev_goto 82 dX5_readItem_78 rfl ?_
            exact ev_zret rfl dX5_readItem_82 (by omega) (⟨r, d⟩)
      · have er : itemF t L S q = .inl (tS t L q) := by
          unfold itemF
          rw [if_neg k1, if_pos k2, if_neg z]
        rw [er]
        refine ev_aload_n 62 dX5_readItem_61 rfl rfl ?_
        refine ev_getI' 65 5 (S.2.2.1) fX5_46 rfl dX5_readItem_62 rfl rfl rfl (by decide) rfl hS.2.2.1 ?_
        refine ev_iconst 66 dX5_readItem_65 rfl ?_
        refine ev_icmp_ge 69 81 dX5_readItem_66 rfl rfl (by omega) (by omega) (fun c66 => ?_) (fun c66 => ?_)
        · refine ev_iconst 82 dX5_readItem_81 rfl ?_
          exact ev_zret rfl dX5_readItem_82 (by omega) (⟨⟨rfl, hA.2.2.2.2.1⟩, PD.rf⟩)
        · omega --done
    · by_cases k3 : tK t L q = 112
      · refine ev_topi k3 ?_
        refine ev_lsw 83 dX5_readItem_4 (by omega) (by decide) rfl rfl ?_
        refine ev_aload_n 84 dX5_readItem_83 rfl rfl ?_
        refine ev_aload_n 85 dX5_readItem_84 rfl rfl ?_
        refine cVi1 88 kX5_readItem_52 dX5_readItem_85 rfl rfl rfl rfl rfl (by decide) rfl (Nat.le_of_ble_eq_true rfl) (c_readPusher hT hA hq hS hSo k3) ?_
        rintro x H ⟨r, d⟩
        have hx := RES_z r
        exact ev_zret rfl dX5_readItem_88 hx (⟨r, d⟩)
      · have er : itemF t L S q = .inl (tS t L q) := by
          unfold itemF
          rw [if_neg k1, if_neg k2, if_neg k3]
        rw [er]
        refine ev_lsw 89 dX5_readItem_4 (off := 85) (by omega) (by decide) (by simp [Op.lookupswitch.offset]; rw [if_neg (by omega), if_neg (by omega), if_neg (by omega)]) rfl ?_
        refine ev_iconst 90 dX5_readItem_89 rfl ?_
        exact ev_zret rfl dX5_readItem_90 (by omega) (⟨⟨rfl, hA.2.2.2.2.1⟩, PD.rf⟩)
def REI (r : Int ⊕ (PS × Int)) (x : Int) (h' : Hp) : Prop := match r with
  | .inl f => x = -10 - f
  | .inr q => x = q.2 ∧ SD h' q.1 ∧ PSok q.1
theorem c_into_loop (hT : TT t L) : ∀ (n : Nat) (S : PS) (p it : Int) (H : Hp), L - p < n → 0 ≤ p ∧ p ≤ L → 0 ≤ it ∧ it ≤ p → AT H t L p → SD H S → PSok S → PD h H → Ev shC mX5_readInto 15 [some (vr 1), some (vr 3), some (vi it)] [] H (RI fun x h' => REI (parseF t L n S p it) x h' ∧ PD h h') := by
  intro n
  induction n with
  | zero => intro S p it H h0 h1; omega
  | succ n ih =>
    intro S p it H h0 hp hit hA hS hSo hD
    have hk := tK_r hT hp
    have hTL := hT.1
    unfold parseF
    by_cases k1 : tK t L p = -1
    · rw [if_pos k1]
      refine ev_aload_n 16 dX5_readInto_15 rfl rfl ?_
      refine ev_getI' 19 3 (tK t L p) fX5_30 rfl dX5_readInto_16 rfl rfl rfl (by decide) rfl hA.2.2.2.1 ?_
      refine ev_iconst 20 dX5_readInto_19 rfl ?_
      refine ev_icmp_eq 23 55 dX5_readInto_20 rfl rfl (by omega) (by omega) (fun c20 => ?_) (fun c20 => ?_)
      · refine ev_iload_n 56 dX5_readInto_55 rfl rfl ?_
        exact ev_iret rfl dX5_readInto_56 (⟨⟨rfl, hS, hSo⟩, hD⟩)
      · omega --done
    · rw [if_neg k1]
      have hlt := tK_lt hp.2 k1
      have hl2 := tS_r (t := t) hp.2
      have hI := c_readItem hT hA hp hS hSo
      have hok := fun r => item_ok (t := t) (r := r) hp hSo
      generalize itemF t L S p = R at *
      refine ev_aload_n 16 dX5_readInto_15 rfl rfl ?_
      refine ev_getI' 19 3 (tK t L p) fX5_30 rfl dX5_readInto_16 rfl rfl rfl (by decide) rfl hA.2.2.2.1 ?_
      refine ev_iconst 20 dX5_readInto_19 rfl ?_
      refine ev_icmp_eq 23 55 dX5_readInto_20 rfl rfl (by omega) (by omega) (fun c20 => ?_) (fun c20 => ?_)
      · omega --done
      · refine ev_iload_n 24 dX5_readInto_23 rfl rfl ?_
        refine ev_bipush 26 dX5_readInto_24 rfl (by decide +kernel) ?_
        refine ev_icmp_ge 29 55 dX5_readInto_26 rfl rfl (by omega) (by omega) (fun c26 => ?_) (fun c26 => ?_)
        · omega --done
        · refine ev_aload_n 30 dX5_readInto_29 rfl rfl ?_
          refine ev_aload_n 31 dX5_readInto_30 rfl rfl ?_
          refine cVi1 34 kX5_readInto_33 dX5_readInto_31 rfl rfl rfl rfl rfl (by decide) rfl (Nat.le_of_ble_eq_true rfl) (hI) ?_
          rintro x H2 ⟨r, d⟩
          have hx := RES_z r
          have hD2 := hD.tr d
          refine ev_if_ne 37 45 dX5_readInto_34 rfl rfl (by omega) (fun c34 => ?_) (fun c34 => ?_)
          · cases R with
            | inl f => exact absurd r.1 c34
            | inr q => ?_
            obtain ⟨r0, rS, r2⟩ := r
            have ho := hok q rfl
            refine ev_iinc 48 dX5_readInto_45 rfl rfl ?_
            refine ev_aload_n 49 dX5_readInto_48 rfl rfl ?_
            refine cVv0 52 kX5_readInto_27 dX5_readInto_49 rfl rfl rfl rfl rfl (by decide) rfl (Nat.le_of_ble_eq_true rfl) (c_rT (h := H2) hT ((d.1 12 (by decide) (by decide) (Or.inl (by decide))).trans hA.1) (d.2.trans hA.2.1) r2 (by omega)) ?_
            rintro _ ⟨f, rfl, f1, A2⟩
            refine ev_goto 15 dX5_readInto_52 rfl ?_
            exact ih q.1 q.2 (it + 1) _ (by omega) (by omega) (by omega) A2 rS ho.1 (hD2.tr (PD.h1 (f1.trans (d.2.trans hA.2.1).symm)))
            skip
          · refine ev_bipush 39 dX5_readInto_37 rfl (by decide +kernel) ?_
            refine ev_aload_n 40 dX5_readInto_39 rfl rfl ?_
            have e4 : H2 1 4 = H2 1 4 := rfl
            refine ev_getI 43 4 fX5_37 rfl dX5_readInto_40 rfl rfl rfl (by decide) rfl ?_
            refine ev_isub 44 dX5_readInto_43 rfl ?_
            exact ev_iret rfl dX5_readInto_44 (by cases R with | inl f => exact ⟨by show -10 - H2 1 4 = -10 - f; rw [r.2], hD2⟩ | inr q => exact absurd r.1 (by rw [c34]; decide))
theorem c_readInto (hT : TT (h 12) (h 1 1)) : Ev shC mX5_readInto 0 [some (vr 1), some (vr 3), none] [] h (RI fun x h' => REI (parseF (h 12) (h 1 1) ((h 1 1).toNat + 1) PS0 0 0) x h' ∧ PD h h') := by
  have hL := hT.1
  have hS0 : ∀ f, SD (hput (hput (spE h) 1 (up (h 1) 2 0)) 1 f) PS0 := fun f => ⟨rfl, fun i a b => absurd b (by show ¬ i < 0; omega), rfl, fun c a b => absurd b (by show ¬ c < 0; omega), rfl⟩
  have hO : PSok PS0 := ⟨⟨Int.le_refl _, by decide⟩, fun i a b => absurd b (by show ¬ i < 0; omega), ⟨Int.le_refl _, by decide⟩, fun c a b => absurd b (by show ¬ c < 0; omega)⟩
  refine ev_aload_n 1 dX5_readInto_0 rfl rfl ?_
  refine cVv0 4 kX5_readInto_19 dX5_readInto_1 rfl rfl rfl rfl rfl (by decide) rfl (Nat.le_of_ble_eq_true rfl) (c_empty) ?_
  rintro _ rfl
  refine ev_aload_n 5 dX5_readInto_4 rfl rfl ?_
  refine ev_iconst 6 dX5_readInto_5 rfl ?_
  refine ev_putI' 9 2 (hput (spE h) 1 (up (h 1) 2 0)) pX5_24 rfl dX5_readInto_6 rfl rfl rfl rfl rfl ?_
  refine ev_iconst 10 dX5_readInto_9 rfl ?_
  refine ev_istore_n 11 dX5_readInto_10 rfl (Nat.le_of_ble_eq_true rfl) ?_
  refine ev_aload_n 12 dX5_readInto_11 rfl rfl ?_
  refine cVv0 15 kX5_readInto_27 dX5_readInto_12 rfl rfl rfl rfl rfl (by decide) rfl (Nat.le_of_ble_eq_true rfl) (c_rT (h := hput (spE h) 1 (up (h 1) 2 0)) (t := h 12) (L := h 1 1) (p := 0) hT rfl rfl rfl (by omega)) ?_
  rintro _ ⟨f, rfl, f1, A2⟩
  exact c_into_loop (h := h) hT ((h 1 1).toNat + 1) PS0 0 0 _ (by omega) (by omega) (by omega) A2 (hS0 f) hO (PD.spE.tr ((PD.h1 (h := spE h) (f := up (h 1) 2 0) rfl).tr (PD.h1 (h := hput (spE h) 1 (up (h 1) 2 0)) f1)))
end CL2
