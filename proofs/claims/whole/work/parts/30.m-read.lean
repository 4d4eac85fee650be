theorem mTok_2 {k v : Int} : mTok k v = 2 ↔ k = -2 ∧ 0 ≤ v := by
  unfold mTok
  constructor
  · intro h
    repeat' split at h <;> first | omega | skip
  · rintro ⟨rfl, h⟩
    rw [if_neg (by decide), if_pos rfl, if_neg (by omega)]
theorem mTok_3 {k v : Int} : mTok k v = 3 ↔ k = 59 := by
  unfold mTok
  constructor
  · intro h
    repeat' split at h <;> first | omega | skip
  · rintro rfl
    rw [if_neg (by decide), if_neg (by decide), if_neg (by decide), if_pos rfl]
theorem mTok_1 {k v : Int} : mTok k v = 1 ↔ (¬ k = -1 ∧ ¬ k = -2) ∧ letB k = true := by
  unfold mTok
  constructor
  · intro h
    repeat' split at h <;> first | omega | skip
    rename_i a b c
    exact ⟨⟨a, b⟩, c⟩
  · rintro ⟨⟨a, b⟩, c⟩
    rw [if_neg a, if_neg b, if_pos c]
theorem mTok_0 {k v : Int} : mTok k v = 0 ↔ k = -1 := by
  unfold mTok
  constructor
  · intro h
    repeat' split at h <;> first | omega | skip
  · rintro rfl
    rfl
theorem mTok_r {k v : Int} : 0 ≤ mTok k v ∧ mTok k v ≤ 4 := by
  unfold mTok
  repeat' split <;> omega
def TKs (H : Hp) (t : Int → Int) (L p : Int) : Prop := H 0 15 = tE t L p ∧ H 0 16 = tS t L p ∧ H 0 17 = mTok (tK t L p) (tV t L p) ∧ (0 ≤ H 0 18 ∧ H 0 18 ≤ 999) ∧ (tK t L p = -2 → 0 ≤ tV t L p → H 0 18 = tV t L p) ∧ (0 ≤ tK t L p → H 0 18 = tK t L p)
theorem TKs_c {H H' : Hp} {t : Int → Int} {L p : Int} (e : ∀ i, 15 ≤ i → i ≤ 18 → H' 0 i = H 0 i) (hk : TKs H t L p) : TKs H' t L p := by
  unfold TKs at hk ⊢
  rw [e 15 (by omega) (by omega), e 16 (by omega) (by omega), e 17 (by omega) (by omega), e 18 (by omega) (by omega)]
  exact hk
/-- a text in order -/
def TX (h : Hp) : Prop := (0 ≤ h 0 14 ∧ h 0 14 ≤ 120) ∧ ∀ i, 0 ≤ i → i < h 0 14 → 0 ≤ h 9 i ∧ h 9 i ≤ 255
section RD
variable {h : Hp}
theorem m_nextP (hT : TX h) {H : Hp} {q : Int} (p : PsM h H) (hq : H 0 15 = q) (hq2 : 0 ≤ q ∧ q ≤ h 0 14) : Ev shM mX9_next 0 [some (vr 0), none] [] H (RV fun h' => PsM h h' ∧ TKs h' (h 9) (h 0 14) q ∧ (∀ k, 1 ≤ k → h' k = H k) ∧ ∀ i, 18 < i → h' 0 i = H 0 i) := by
  have e9 : H 9 = h 9 := p.1 9 (by decide) (by decide)
  have e14 : H 0 14 = h 0 14 := p.2 14 (by omega)
  refine ev_wk (m_next (by rw [e14]; exact hT.1) (by rw [e14, e9]; exact hT.2) hq (by rw [e14]; exact hq2)) ?_
  rintro v h' ⟨e, f, rfl, f1, f2, f3, f4, f5, f6, f7⟩
  rw [e9, e14] at f2 f3 f4 f6 f7
  refine ⟨e, ⟨fun k a b => by rw [hput_n (by omega)]; exact p.1 k a b, fun i hi => by rw [hput_s, f1 i (by omega)]; exact p.2 i hi⟩, ⟨by rw [hput_s]; exact f2, by rw [hput_s]; exact f3, by rw [hput_s]; exact f4, by rw [hput_s]; exact f5, by rw [hput_s]; exact f6, by rw [hput_s]; exact f7⟩, fun k a => hput_n (by omega), fun i a => by rw [hput_s]; exact f1 i (by omega)⟩
theorem m_takes (hT : TX h) {H : Hp} {q lo hi : Int} (p : PsM h H) (hk : TKs H (h 9) (h 0 14) q) (hq2 : 0 ≤ q ∧ q ≤ h 0 14) (hw : H 0 19 = 0 ∨ H 0 19 = 1) (hlo : 0 ≤ lo ∧ lo ≤ 100) (hhi : -1 ≤ hi ∧ hi ≤ 100) : Ev shM mX9_takes 0 [some (vr 0), some (vi lo), some (vi hi), none, none] [] H (RI fun r h' => PsM h h' ∧ (∀ k, 1 ≤ k → h' k = H k) ∧ (∀ i, 19 < i → h' 0 i = H 0 i) ∧ (((H 0 19 = 0 ∧ numB (h 9) (h 0 14) q lo hi = true) ∧ r = tV (h 9) (h 0 14) q ∧ TKs h' (h 9) (h 0 14) (tE (h 9) (h 0 14) q) ∧ h' 0 19 = 0) ∨ (¬ (H 0 19 = 0 ∧ numB (h 9) (h 0 14) q lo hi = true) ∧ r = 0 ∧ h' 0 19 = 1 ∧ TKs h' (h 9) (h 0 14) q))) := by
  have hk0 := hk
  obtain ⟨k1, k2, k3, k4, k5, k6⟩ := hk
  have hE := tE_r (t := h 9) hq2.2
  have htr := mTok_r (k := tK (h 9) (h 0 14) q) (v := tV (h 9) (h 0 14) q)
  have pf : ∀ w : Int, PsM h (hput H 0 (up (H 0) 19 w)) := fun w => ⟨fun k a b => by rw [hput_n (by omega)]; exact p.1 k a b, fun i hi => by rw [hput_s, up_n (by omega)]; exact p.2 i hi⟩
  have kf : ¬ (H 0 19 = 0 ∧ numB (h 9) (h 0 14) q lo hi = true) → Ev shM mX9_takes 31 [some (vr 0), some (vi lo), some (vi hi), none, none] [] H (RI fun r h' => PsM h h' ∧ (∀ k, 1 ≤ k → h' k = H k) ∧ (∀ i, 19 < i → h' 0 i = H 0 i) ∧ (((H 0 19 = 0 ∧ numB (h 9) (h 0 14) q lo hi = true) ∧ r = tV (h 9) (h 0 14) q ∧ TKs h' (h 9) (h 0 14) (tE (h 9) (h 0 14) q) ∧ h' 0 19 = 0) ∨ (¬ (H 0 19 = 0 ∧ numB (h 9) (h 0 14) q lo hi = true) ∧ r = 0 ∧ h' 0 19 = 1 ∧ TKs h' (h 9) (h 0 14) q))) := by
    intro hno
    refine ev_iconst 32 dX9_takes_31 rfl ?_
    refine ev_istore_n 33 dX9_takes_32 rfl (Nat.le_of_ble_eq_true rfl) ?_
    refine ev_aload_n 34 dX9_takes_33 rfl rfl ?_
    refine ev_iload_n 35 dX9_takes_34 rfl rfl ?_
    refine ev_if_ne 38 42 dX9_takes_35 rfl rfl (by omega) (fun c35 => ?_) (fun c35 => ?_)
    · omega --done
    · refine ev_iconst 39 dX9_takes_38 rfl ?_
      refine ev_goto 43 dX9_takes_39 rfl ?_
      refine ev_putZ' 46 19 (hput H 0 (up (H 0) 19 1)) pX9_113 rfl dX9_takes_43 rfl rfl rfl (by omega) rfl rfl ?_
      refine ev_aload_n 47 dX9_takes_46 rfl rfl ?_
      refine ev_getI 50 18 fX9_100 rfl dX9_takes_47 rfl rfl rfl (by decide) rfl ?_
      refine ev_istore 52 dX9_takes_50 rfl (Nat.le_of_ble_eq_true rfl) ?_
      refine ev_iload_n 53 dX9_takes_52 rfl rfl ?_
      refine ev_if_eq 56 60 dX9_takes_53 rfl rfl (by omega) (fun c53 => ?_) (fun c53 => ?_)
      · refine ev_iload_n 61 dX9_takes_60 rfl rfl ?_
        refine ev_if_eq 64 69 dX9_takes_61 rfl rfl (by omega) (fun c61 => ?_) (fun c61 => ?_)
        · refine ev_iconst 70 dX9_takes_69 rfl ?_
          exact ev_iret rfl dX9_takes_70 (⟨pf 1, fun k a => hput_n (by omega), fun i a => by rw [hput_s, up_n (by omega)], Or.inr ⟨hno, rfl, by rw [hput_s, up_s], TKs_c (fun i a b => by rw [hput_s, up_n (by omega)]) hk0⟩⟩)
        · omega --done
      · omega --done
  refine ev_aload_n 1 dX9_takes_0 rfl rfl ?_
  refine ev_getI 4 19 fX9_113 rfl dX9_takes_1 rfl rfl rfl (by decide) rfl ?_
  refine ev_if_ne 7 31 dX9_takes_4 rfl rfl (by omega) (fun c4 => ?_) (fun c4 => ?_)
  · exact kf (fun w => by have := numB_t.mp w.2; omega)
  · refine ev_aload_n 8 dX9_takes_7 rfl rfl ?_
    refine ev_getI' 11 17 (mTok (tK (h 9) (h 0 14) q) (tV (h 9) (h 0 14) q)) fX9_103 rfl dX9_takes_8 rfl rfl rfl (by decide) rfl k3 ?_
    refine ev_iconst 12 dX9_takes_11 rfl ?_
    refine ev_icmp_ne 15 31 dX9_takes_12 rfl rfl (by omega) (by omega) (fun c12 => ?_) (fun c12 => ?_)
    · have e12 : ¬ (tK (h 9) (h 0 14) q = -2 ∧ 0 ≤ tV (h 9) (h 0 14) q) := fun w => c12 (mTok_2.mpr w)
      exact kf (fun w => by have := numB_t.mp w.2; omega)
    · have e12 := mTok_2.mp c12
      refine ev_aload_n 16 dX9_takes_15 rfl rfl ?_
      refine ev_getI' 19 18 (tV (h 9) (h 0 14) q) fX9_100 rfl dX9_takes_16 rfl rfl rfl (by decide) rfl (k5 e12.1 e12.2) ?_
      refine ev_iload_n 20 dX9_takes_19 rfl rfl ?_
      refine ev_iload_n 21 dX9_takes_20 rfl rfl ?_
      refine cSi3 24 kX9_takes_78 dX9_takes_21 rfl rfl (by decide) rfl (Nat.le_of_ble_eq_true rfl) (m_in (by have := k5 e12.1 e12.2; omega) (by omega) (by omega)) ?_
      rintro x _ ⟨rfl, rfl⟩
      refine ev_if_eq 27 31 dX9_takes_24 rfl rfl it_r (fun c24 => ?_) (fun c24 => ?_)
      · have d24 := it_0.mp c24
        exact kf (fun w => by have := numB_t.mp w.2; omega)
      · have d24 := it_1.mp c24
        have hyes : H 0 19 = 0 ∧ numB (h 9) (h 0 14) q lo hi = true := ⟨by omega, numB_t.mpr ⟨e12.1, d24⟩⟩
        refine ev_iconst 28 dX9_takes_27 rfl ?_
        refine ev_goto 32 dX9_takes_28 rfl ?_
        refine ev_istore_n 33 dX9_takes_32 rfl (Nat.le_of_ble_eq_true rfl) ?_
        refine ev_aload_n 34 dX9_takes_33 rfl rfl ?_
        refine ev_iload_n 35 dX9_takes_34 rfl rfl ?_
        refine ev_if_ne 38 42 dX9_takes_35 rfl rfl (by omega) (fun c35 => ?_) (fun c35 => ?_)
        · refine ev_iconst 43 dX9_takes_42 rfl ?_
          refine ev_putZ' 46 19 (hput H 0 (up (H 0) 19 0)) pX9_113 rfl dX9_takes_43 rfl rfl rfl (by omega) rfl rfl ?_
          refine ev_aload_n 47 dX9_takes_46 rfl rfl ?_
          refine ev_getI' 50 18 (tV (h 9) (h 0 14) q) fX9_100 rfl dX9_takes_47 rfl rfl rfl (by decide) rfl (by rw [hput_s, up_n (by decide)]; exact k5 e12.1 e12.2) ?_
          refine ev_istore 52 dX9_takes_50 rfl (Nat.le_of_ble_eq_true rfl) ?_
          refine ev_iload_n 53 dX9_takes_52 rfl rfl ?_
          refine ev_if_eq 56 60 dX9_takes_53 rfl rfl (by omega) (fun c53 => ?_) (fun c53 => ?_)
          · omega --done
          · refine ev_aload_n 57 dX9_takes_56 rfl rfl ?_
            refine cVv0 60 kX9_takes_117 dX9_takes_57 rfl rfl rfl rfl rfl (by decide) rfl (Nat.le_of_ble_eq_true rfl) (m_nextP hT (q := tE (h 9) (h 0 14) q) (pf 0) (by rw [hput_s, up_n (by decide)]; exact k1) (by omega)) ?_
            rintro H2 ⟨p2, t2, f2, g2⟩
            refine ev_iload_n 61 dX9_takes_60 rfl rfl ?_
            refine ev_if_eq 64 69 dX9_takes_61 rfl rfl (by omega) (fun c61 => ?_) (fun c61 => ?_)
            · omega --done
            · refine ev_iload 66 dX9_takes_64 rfl rfl ?_
              refine ev_goto 70 dX9_takes_66 rfl ?_
              exact ev_iret rfl dX9_takes_70 (⟨p2, fun k a => (f2 k a).trans (hput_n (by omega)), fun i a => (g2 i (by omega)).trans (by rw [hput_s, up_n (by omega)]), Or.inl ⟨hyes, rfl, t2, by rw [g2 19 (by omega), hput_s, up_s]⟩⟩)
        · omega --done
end RD
