theorem SD_R {h : Hp} {S : PS} (s : SD h S) (w p : Int) : SD (spR h w p) (S.1, S.2.1, S.2.2.1 + 1, up S.2.2.2.1 S.2.2.1 w, up S.2.2.2.2.1 S.2.2.1 p, up S.2.2.2.2.2 S.2.2.1 5) := by
  obtain ⟨s1, s2, s3, s4, s5⟩ := s
  refine ⟨s1, s2, ?_, fun c a b => ?_, s5⟩
  · show h 3 5 + 1 = S.2.2.1 + 1
    rw [s3]
  · dsimp only at b ⊢
    show up (h 18) (h 3 5) w c = _ ∧ up (h 19) (h 3 5) p c = _ ∧ up (h 20) (h 3 5) 5 c = _
    rw [s3]
    by_cases q : c = S.2.2.1
    · subst q
      rw [up_s, up_s, up_s, up_s, up_s, up_s]
      exact ⟨rfl, rfl, rfl⟩
    · rw [up_n q, up_n q, up_n q, up_n q, up_n q, up_n q]
      exact s4 c a (by omega)
theorem SD_P {h : Hp} {S : PS} (s : SD h S) (p v : Int) : SD (hput h 20 (up (h 20) p v)) (S.1, S.2.1, S.2.2.1, S.2.2.2.1, S.2.2.2.2.1, up S.2.2.2.2.2 p v) := by
  obtain ⟨s1, s2, s3, s4, s5⟩ := s
  refine ⟨s1, s2, s3, fun c a b => ?_, s5⟩
  show h 18 c = _ ∧ h 19 c = _ ∧ up (h 20) p v c = up S.2.2.2.2.2 p v c
  have := s4 c a b
  by_cases q : c = p
  · subst q; rw [up_s, up_s]; exact ⟨this.1, this.2.1, rfl⟩
  · rw [up_n q, up_n q]; exact this
section CI
variable {h : Hp} {t : Int → Int} {L : Int}
theorem c_readChair (hT : TT t L) {q : Int} {S : PS} (hA : AT h t L q) (hq : 0 ≤ q ∧ q ≤ L) (hS : SD h S) (hSo : PSok S) (hk : tK t L q = 99) (h5 : S.2.2.1 < 5) : Ev shC mX5_readChair 0 [some (vr 1), some (vr 3), none] [] h (RI fun x h' => RES (itemF t L S q) x h' ∧ PD h h') := by
  obtain ⟨a12, a1, a2, a3, a4, a5⟩ := hA
  have e1 := tE_r (t := t) hq.2
  have e2 := tE_r (t := t) e1.2
  have e3 := tE_r (t := t) e2.2
  have s3 := hSo.2.2.1
  unfold itemF
  rw [if_neg (by omega), if_pos hk, if_pos h5]
  generalize tE t L q = p1 at *
  generalize hp2 : tE t L p1 = p2 at *
  generalize hp3 : tE t L p2 = p3 at *
  refine ev_aload_n 1 dX5_readChair_0 rfl rfl ?_
  refine ev_iconst 2 dX5_readChair_1 rfl ?_
  refine ev_bipush 4 dX5_readChair_2 rfl (by decide +kernel) ?_
  refine cVi2 7 kX5_readChair_63 dX5_readChair_4 rfl rfl rfl rfl rfl (by decide) rfl (Nat.le_of_ble_eq_true rfl) (c_readNumber hT a12 a1 a2 (by omega) (by omega) (by omega)) ?_
  rintro x _ ⟨rfl, f, rfl, f1, A1⟩
  refine ev_if_ne 10 12 dX5_readChair_7 rfl rfl (b2i_r _) (fun c7 => ?_) (fun c7 => ?_)
  · have d7 := b2i_n.mp c7
    rw [if_pos d7]
    have d7 := numB_t.mp d7
    refine ev_aload_n 13 dX5_readChair_12 rfl rfl ?_
    refine ev_getI' 16 5 (tV t L p1) fX5_67 rfl dX5_readChair_13 rfl rfl rfl (by decide) rfl (A1.2.2.2.2.2 d7.1) ?_
    refine ev_istore_n 17 dX5_readChair_16 rfl (Nat.le_of_ble_eq_true rfl) ?_
    refine ev_aload_n 18 dX5_readChair_17 rfl rfl ?_
    refine ev_iconst 19 dX5_readChair_18 rfl ?_
    refine ev_iconst 20 dX5_readChair_19 rfl ?_
    refine cVi2 23 kX5_readChair_63 dX5_readChair_20 rfl rfl rfl rfl rfl (by decide) rfl (Nat.le_of_ble_eq_true rfl) (c_readNumber hT A1.1 A1.2.1 (A1.2.2.1.trans hp2) (by omega) (by omega) (by omega)) ?_
    rintro x _ ⟨rfl, g, rfl, g1, A2⟩
    refine ev_if_ne 26 28 dX5_readChair_23 rfl rfl (b2i_r _) (fun c23 => ?_) (fun c23 => ?_)
    · have d23 := b2i_n.mp c23
      rw [if_pos d23]
      have d23 := numB_t.mp d23
      refine ev_aload_n 29 dX5_readChair_28 rfl rfl ?_
      refine ev_iload_n 30 dX5_readChair_29 rfl rfl ?_
      refine ev_aload_n 31 dX5_readChair_30 rfl rfl ?_
      refine ev_getI' 34 5 (tV t L p2) fX5_67 rfl dX5_readChair_31 rfl rfl rfl (by decide) rfl (A2.2.2.2.2.2 d23.1) ?_
      refine cVv2 37 kX5_readChair_70 dX5_readChair_34 rfl rfl rfl rfl rfl (by decide) rfl (Nat.le_of_ble_eq_true rfl) (c_addChair ⟨by show 0 ≤ h 3 5; rw [hS.2.2.1]; exact s3.1, by show h 3 5 < 5; rw [hS.2.2.1]; exact h5⟩) ?_
      rintro _ rfl
      refine ev_aload_n 38 dX5_readChair_37 rfl rfl ?_
      refine cVi0 41 kX5_readChair_74 dX5_readChair_38 rfl rfl rfl rfl rfl (by decide) rfl (Nat.le_of_ble_eq_true rfl) (c_readEnd hT (h := spR (hput (hput h 1 f) 1 g) (tV t L p1) (tV t L p2)) A2.1 A2.2.1 (A2.2.2.1.trans hp3) (by omega)) ?_
      rintro x _ ⟨rfl, k, rfl, k1, A3⟩
      have hP : PD h (hput (spR (hput (hput h 1 f) 1 g) (tV t L p1) (tV t L p2)) 1 k) := ((PD.h1 (f1.trans a1.symm)).tr (PD.h1 (g1.trans f1.symm))).tr (PD.spR.tr (PD.h1 (k1.trans g1.symm)))
      by_cases z : tK t L p3 = 59
      · rw [if_pos z, decide_eq_true z]
        exact ev_zret rfl dX5_readChair_41 (Or.inr rfl) ⟨⟨rfl, SD_R (h := hput (hput h 1 f) 1 g) hS _ _, A3.2.2.1⟩, hP⟩
      · rw [if_neg z, decide_eq_false z]
        exact ev_zret rfl dX5_readChair_41 (Or.inl rfl) ⟨⟨rfl, A3.2.2.2.2.1⟩, hP⟩
    · have d23 := b2i_0.mp c23
      rw [if_neg (by rw [d23]; decide)]
      refine ev_iconst 27 dX5_readChair_26 rfl ?_
      exact ev_zret rfl dX5_readChair_27 (by omega) (⟨⟨rfl, A2.2.2.2.2.1⟩, (PD.h1 (f1.trans a1.symm)).tr (PD.h1 (g1.trans f1.symm))⟩)
  · have d7 := b2i_0.mp c7
    rw [if_neg (by rw [d7]; decide)]
    refine ev_iconst 11 dX5_readChair_10 rfl ?_
    exact ev_zret rfl dX5_readChair_11 (by omega) (⟨⟨rfl, A1.2.2.2.2.1⟩, PD.h1 (f1.trans a1.symm)⟩)
theorem c_readPusher (hT : TT t L) {q : Int} {S : PS} (hA : AT h t L q) (hq : 0 ≤ q ∧ q ≤ L) (hS : SD h S) (hSo : PSok S) (hk : tK t L q = 112) : Ev shC mX5_readPusher 0 [some (vr 1), some (vr 3), none] [] h (RI fun x h' => RES (itemF t L S q) x h' ∧ PD h h') := by
  obtain ⟨a12, a1, a2, a3, a4, a5⟩ := hA
  have e1 := tE_r (t := t) hq.2
  have e2 := tE_r (t := t) e1.2
  have e3 := tE_r (t := t) e2.2
  have s3 := hSo.2.2.1
  have h35 : h 3 5 = S.2.2.1 := hS.2.2.1
  unfold itemF
  rw [if_neg (by omega), if_neg (by omega), if_pos hk]
  generalize tE t L q = p1 at *
  generalize hp2 : tE t L p1 = p2 at *
  generalize hp3 : tE t L p2 = p3 at *
  refine ev_aload_n 1 dX5_readPusher_0 rfl rfl ?_
  refine ev_iconst 2 dX5_readPusher_1 rfl ?_
  refine ev_aload_n 3 dX5_readPusher_2 rfl rfl ?_
  refine ev_getI' 6 5 (S.2.2.1) fX5_46 rfl dX5_readPusher_3 rfl rfl rfl (by decide) rfl h35 ?_
  refine ev_iconst 7 dX5_readPusher_6 rfl ?_
  refine ev_isub 8 dX5_readPusher_7 rfl ?_
  refine cVi2 11 kX5_readPusher_63 dX5_readPusher_8 rfl rfl rfl rfl rfl (by decide) rfl (Nat.le_of_ble_eq_true rfl) (c_readNumber hT a12 a1 a2 (by omega) (by omega) (by omega)) ?_
  rintro x _ ⟨rfl, f, rfl, f1, A1⟩
  refine ev_if_ne 14 16 dX5_readPusher_11 rfl rfl (b2i_r _) (fun c11 => ?_) (fun c11 => ?_)
  · have d7 := b2i_n.mp c11
    rw [if_pos d7]
    have d7 := numB_t.mp d7
    refine ev_aload_n 17 dX5_readPusher_16 rfl rfl ?_
    refine ev_getI' 20 5 (tV t L p1) fX5_67 rfl dX5_readPusher_17 rfl rfl rfl (by decide) rfl (A1.2.2.2.2.2 d7.1) ?_
    refine ev_istore_n 21 dX5_readPusher_20 rfl (Nat.le_of_ble_eq_true rfl) ?_
    refine ev_aload_n 22 dX5_readPusher_21 rfl rfl ?_
    refine ev_iconst 23 dX5_readPusher_22 rfl ?_
    refine ev_bipush 25 dX5_readPusher_23 rfl (by decide +kernel) ?_
    refine cVi2 28 kX5_readPusher_63 dX5_readPusher_25 rfl rfl rfl rfl rfl (by decide) rfl (Nat.le_of_ble_eq_true rfl) (c_readNumber hT A1.1 A1.2.1 (A1.2.2.1.trans hp2) (by omega) (by omega) (by omega)) ?_
    rintro x _ ⟨rfl, g, rfl, g1, A2⟩
    refine ev_if_ne 31 33 dX5_readPusher_28 rfl rfl (b2i_r _) (fun c28 => ?_) (fun c28 => ?_)
    · have d23 := b2i_n.mp c28
      rw [if_pos d23]
      have d23 := numB_t.mp d23
      refine ev_iload_n 34 dX5_readPusher_33 rfl rfl ?_
      refine ev_if_lt 37 55 dX5_readPusher_34 rfl rfl (by omega) (fun c34 => ?_) (fun c34 => ?_)
      · omega --done
      · refine ev_iload_n 38 dX5_readPusher_37 rfl rfl ?_
        refine ev_aload_n 39 dX5_readPusher_38 rfl rfl ?_
        refine ev_getI' 42 5 (S.2.2.1) fX5_46 rfl dX5_readPusher_39 rfl rfl rfl (by decide) rfl h35 ?_
        refine ev_icmp_ge 45 55 dX5_readPusher_42 rfl rfl (by omega) (by omega) (fun c42 => ?_) (fun c42 => ?_)
        · omega --done
        · refine ev_aload_n 46 dX5_readPusher_45 rfl rfl ?_
          refine ev_getR 49 fX5_78 rfl dX5_readPusher_46 rfl rfl rfl ?_
          refine ev_iload_n 50 dX5_readPusher_49 rfl rfl ?_
          refine ev_aload_n 51 dX5_readPusher_50 rfl rfl ?_
          refine ev_getI' 54 5 (tV t L p2) fX5_67 rfl dX5_readPusher_51 rfl rfl rfl (by decide) rfl (A2.2.2.2.2.2 d23.1) ?_
          refine ev_iast 55 dX5_readPusher_54 rfl rfl (by decide) (by omega) ?_
          refine ev_aload_n 56 dX5_readPusher_55 rfl rfl ?_
          refine cVi0 59 kX5_readPusher_74 dX5_readPusher_56 rfl rfl rfl rfl rfl (by decide) rfl (Nat.le_of_ble_eq_true rfl) (c_readEnd hT (h := hput (hput (hput h 1 f) 1 g) 20 (up (h 20) (tV t L p1) (tV t L p2))) A2.1 A2.2.1 (A2.2.2.1.trans hp3) (by omega)) ?_
          rintro x _ ⟨rfl, k, rfl, k1, A3⟩
          have hP : PD h (hput (hput (hput (hput h 1 f) 1 g) 20 (up (h 20) (tV t L p1) (tV t L p2))) 1 k) := ((PD.h1 (f1.trans a1.symm)).tr (PD.h1 (g1.trans f1.symm))).tr (PD.h20.tr (PD.h1 (k1.trans g1.symm)))
          by_cases z : tK t L p3 = 59
          · rw [if_pos z, decide_eq_true z]
            exact ev_zret rfl dX5_readPusher_59 (Or.inr rfl) ⟨⟨rfl, SD_P (h := hput (hput h 1 f) 1 g) hS _ _, A3.2.2.1⟩, hP⟩
          · rw [if_neg z, decide_eq_false z]
            exact ev_zret rfl dX5_readPusher_59 (Or.inl rfl) ⟨⟨rfl, A3.2.2.2.2.1⟩, hP⟩
    · have d23 := b2i_0.mp c28
      rw [if_neg (by rw [d23]; decide)]
      refine ev_iconst 32 dX5_readPusher_31 rfl ?_
      exact ev_zret rfl dX5_readPusher_32 (by omega) (⟨⟨rfl, A2.2.2.2.2.1⟩, (PD.h1 (f1.trans a1.symm)).tr (PD.h1 (g1.trans f1.symm))⟩)
  · have d7 := b2i_0.mp c11
    rw [if_neg (by rw [d7]; decide)]
    refine ev_iconst 15 dX5_readPusher_14 rfl ?_
    exact ev_zret rfl dX5_readPusher_15 (by omega) (⟨⟨rfl, A1.2.2.2.2.1⟩, PD.h1 (f1.trans a1.symm)⟩)
end CI
