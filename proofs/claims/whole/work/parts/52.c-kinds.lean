def mk (h : Hp) (d : Int) : Hp := hput h 10 (up (h 10) 0 (h 10 0 + d))
theorem mk_mk {h : Hp} {a b : Int} : mk (mk h a) b = mk h (a + b) := by
  unfold mk
  rw [hput_hput, hput_s, up_up, up_s, Int.add_assoc]
section CK
variable {h : Hp} {c : Int}
theorem c_asChair (hc : 0 ≤ c ∧ c < 5) : Ev shC mX3_asChair 0 [some (vr 10), some (vr 2), some (vi c)] [] h (RI fun x h' => x = h 14 c ∧ h' = mk h 1) := by
  refine ev_aload_n 1 dX3_asChair_0 rfl rfl ?_
  refine ev_dup_r 2 dX3_asChair_1 rfl ?_
  refine ev_getL 5 0 fX3_7 rfl dX3_asChair_2 rfl rfl rfl rfl ?_
  refine ev_lconst 6 1 dX3_asChair_5 rfl (by decide +kernel) ?_
  refine ev_ladd 7 dX3_asChair_6 rfl ?_
  refine ev_putL' 10 0 (mk h 1) pX3_7 rfl dX3_asChair_7 rfl rfl rfl rfl rfl ?_
  refine ev_aload_n 11 dX3_asChair_10 rfl rfl ?_
  refine ev_getR 14 fX3_13 rfl dX3_asChair_11 rfl rfl rfl ?_
  refine ev_iload_n 15 dX3_asChair_14 rfl rfl ?_
  refine ev_iald' 16 (h 14 c) dX3_asChair_15 rfl rfl (by decide) (by omega) rfl ?_
  exact ev_iret rfl dX3_asChair_16 (⟨rfl, rfl⟩)
theorem c_asWidow (hc : 0 ≤ c ∧ c < 5) : Ev shC mX3_asWidow 0 [some (vr 10), some (vr 2), some (vr 4), some (vi c)] [] h (RI fun x h' => x = h 14 c + h 22 c ∧ h' = mk h 11) := by
  refine ev_aload_n 1 dX3_asWidow_0 rfl rfl ?_
  refine ev_dup_r 2 dX3_asWidow_1 rfl ?_
  refine ev_getL 5 0 fX3_7 rfl dX3_asWidow_2 rfl rfl rfl rfl ?_
  refine ev_ldc2 8 (10) qX3_19 (by decide +kernel) dX3_asWidow_5 rfl ?_
  refine ev_ladd 9 dX3_asWidow_8 rfl ?_
  refine ev_putL' 12 0 (mk h 10) pX3_7 rfl dX3_asWidow_9 rfl rfl rfl rfl rfl ?_
  refine ev_aload_n 13 dX3_asWidow_12 rfl rfl ?_
  refine ev_aload_n 14 dX3_asWidow_13 rfl rfl ?_
  refine ev_iload_n 15 dX3_asWidow_14 rfl rfl ?_
  refine cVi2 18 kX3_asWidow_21 dX3_asWidow_15 rfl rfl rfl rfl rfl (by decide) rfl (Nat.le_of_ble_eq_true rfl) (c_asChair hc) ?_
  rintro x _ ⟨rfl, rfl⟩
  refine ev_aload_n 19 dX3_asWidow_18 rfl rfl ?_
  refine ev_getR 22 fX3_25 rfl dX3_asWidow_19 rfl rfl rfl ?_
  refine ev_iload_n 23 dX3_asWidow_22 rfl rfl ?_
  refine ev_iald' 24 (h 22 c) dX3_asWidow_23 rfl rfl (by decide) (by omega) rfl ?_
  refine ev_iadd 25 dX3_asWidow_24 rfl ?_
  exact ev_iret rfl dX3_asWidow_25 (⟨rfl, mk_mk⟩)
theorem c_asAunt (hn : 0 ≤ h 2 5 ∧ h 2 5 ≤ 5) (hC : CCh h) (hw : WY h 21) (hc : 0 ≤ c ∧ c < h 2 5) : Ev shC mX3_asAunt 0 [some (vr 10), some (vr 2), some (vr 4), some (vi c)] [] h (RI fun x h' => x = h 14 c - cG h c (h 23 c) ∧ h' = mk h 101) := by
  refine ev_aload_n 1 dX3_asAunt_0 rfl rfl ?_
  refine ev_dup_r 2 dX3_asAunt_1 rfl ?_
  refine ev_getL 5 0 fX3_7 rfl dX3_asAunt_2 rfl rfl rfl rfl ?_
  refine ev_ldc2 8 (100) qX3_30 (by decide +kernel) dX3_asAunt_5 rfl ?_
  refine ev_ladd 9 dX3_asAunt_8 rfl ?_
  refine ev_putL' 12 0 (mk h 100) pX3_7 rfl dX3_asAunt_9 rfl rfl rfl rfl rfl ?_
  refine ev_aload_n 13 dX3_asAunt_12 rfl rfl ?_
  refine ev_aload_n 14 dX3_asAunt_13 rfl rfl ?_
  refine ev_iload_n 15 dX3_asAunt_14 rfl rfl ?_
  refine cVi2 18 kX3_asAunt_21 dX3_asAunt_15 rfl rfl rfl rfl rfl (by decide) rfl (Nat.le_of_ble_eq_true rfl) (c_asChair (by omega)) ?_
  rintro x _ ⟨rfl, rfl⟩
  refine ev_heap mk_mk ?_
  refine ev_aload_n 19 dX3_asAunt_18 rfl rfl ?_
  refine ev_aload_n 20 dX3_asAunt_19 rfl rfl ?_
  refine ev_iload_n 21 dX3_asAunt_20 rfl rfl ?_
  refine cVi2 24 kX3_asAunt_32 dX3_asAunt_21 rfl rfl rfl rfl rfl (by decide) rfl (Nat.le_of_ble_eq_true rfl) (c_gainOf (h := mk h (100 + 1)) hn hC hw hc) ?_
  rintro x _ ⟨rfl, rfl⟩
  refine ev_isub 25 dX3_asAunt_24 rfl ?_
  exact ev_iret rfl dX3_asAunt_25 (⟨rfl, rfl⟩)
theorem c_asPug (hc : 0 ≤ c ∧ c < 5) : Ev shC mX3_asPug 0 [some (vr 10), some (vr 2), some (vr 4), some (vi c)] [] h (RI fun x h' => x = 2 * (h 14 c + h 22 c) ∧ h' = mk h 1011) := by
  refine ev_aload_n 1 dX3_asPug_0 rfl rfl ?_
  refine ev_dup_r 2 dX3_asPug_1 rfl ?_
  refine ev_getL 5 0 fX3_7 rfl dX3_asPug_2 rfl rfl rfl rfl ?_
  refine ev_ldc2 8 (1000) qX3_35 (by decide +kernel) dX3_asPug_5 rfl ?_
  refine ev_ladd 9 dX3_asPug_8 rfl ?_
  refine ev_putL' 12 0 (mk h 1000) pX3_7 rfl dX3_asPug_9 rfl rfl rfl rfl rfl ?_
  refine ev_iconst 13 dX3_asPug_12 rfl ?_
  refine ev_aload_n 14 dX3_asPug_13 rfl rfl ?_
  refine ev_aload_n 15 dX3_asPug_14 rfl rfl ?_
  refine ev_aload_n 16 dX3_asPug_15 rfl rfl ?_
  refine ev_iload_n 17 dX3_asPug_16 rfl rfl ?_
  refine cVi3 20 kX3_asPug_37 dX3_asPug_17 rfl rfl rfl rfl rfl (by decide) rfl (Nat.le_of_ble_eq_true rfl) (c_asWidow hc) ?_
  rintro x _ ⟨rfl, rfl⟩
  refine ev_imul 21 dX3_asPug_20 rfl ?_
  exact ev_iret rfl dX3_asPug_21 (⟨rfl, mk_mk⟩)
theorem c_asVeil (hn : 0 ≤ h 2 5 ∧ h 2 5 ≤ 5) (hC : CCh h) (hw : WY h 21) (hc : 0 ≤ c ∧ c < h 2 5) : Ev shC mX3_asVeil 0 [some (vr 10), some (vr 2), some (vr 4), some (vi c)] [] h (RI fun x h' => x = h 14 c - cG h c (h 23 c) + c ∧ h' = mk h 10101) := by
  refine ev_aload_n 1 dX3_asVeil_0 rfl rfl ?_
  refine ev_dup_r 2 dX3_asVeil_1 rfl ?_
  refine ev_getL 5 0 fX3_7 rfl dX3_asVeil_2 rfl rfl rfl rfl ?_
  refine ev_ldc2 8 (10000) qX3_41 (by decide +kernel) dX3_asVeil_5 rfl ?_
  refine ev_ladd 9 dX3_asVeil_8 rfl ?_
  refine ev_putL' 12 0 (mk h 10000) pX3_7 rfl dX3_asVeil_9 rfl rfl rfl rfl rfl ?_
  refine ev_aload_n 13 dX3_asVeil_12 rfl rfl ?_
  refine ev_aload_n 14 dX3_asVeil_13 rfl rfl ?_
  refine ev_aload_n 15 dX3_asVeil_14 rfl rfl ?_
  refine ev_iload_n 16 dX3_asVeil_15 rfl rfl ?_
  refine cVi3 19 kX3_asVeil_43 dX3_asVeil_16 rfl rfl rfl rfl rfl (by decide) rfl (Nat.le_of_ble_eq_true rfl) (c_asAunt (h := mk h 10000) hn hC hw hc) ?_
  rintro x _ ⟨rfl, rfl⟩
  refine ev_iload_n 20 dX3_asVeil_19 rfl rfl ?_
  refine ev_iadd 21 dX3_asVeil_20 rfl ?_
  exact ev_iret rfl dX3_asVeil_21 (⟨rfl, mk_mk⟩)
theorem c_asInfant (hc : 0 ≤ c ∧ c < 5) : Ev shC mX3_asInfant 0 [some (vr 10), some (vr 2), some (vr 4), some (vi c)] [] h (RI fun x h' => x = h 14 c + h 4 4 ∧ h' = mk h 100001) := by
  refine ev_aload_n 1 dX3_asInfant_0 rfl rfl ?_
  refine ev_dup_r 2 dX3_asInfant_1 rfl ?_
  refine ev_getL 5 0 fX3_7 rfl dX3_asInfant_2 rfl rfl rfl rfl ?_
  refine ev_ldc2 8 (100000) qX3_46 (by decide +kernel) dX3_asInfant_5 rfl ?_
  refine ev_ladd 9 dX3_asInfant_8 rfl ?_
  refine ev_putL' 12 0 (mk h 100000) pX3_7 rfl dX3_asInfant_9 rfl rfl rfl rfl rfl ?_
  refine ev_aload_n 13 dX3_asInfant_12 rfl rfl ?_
  refine ev_aload_n 14 dX3_asInfant_13 rfl rfl ?_
  refine ev_iload_n 15 dX3_asInfant_14 rfl rfl ?_
  refine cVi2 18 kX3_asInfant_21 dX3_asInfant_15 rfl rfl rfl rfl rfl (by decide) rfl (Nat.le_of_ble_eq_true rfl) (c_asChair hc) ?_
  rintro x _ ⟨rfl, rfl⟩
  refine ev_aload_n 19 dX3_asInfant_18 rfl rfl ?_
  refine ev_getI' 22 4 (h 4 4) fX3_48 rfl dX3_asInfant_19 rfl rfl rfl (by decide) rfl rfl ?_
  refine ev_iadd 23 dX3_asInfant_22 rfl ?_
  exact ev_iret rfl dX3_asInfant_23 (⟨rfl, mk_mk⟩)
def scW (h : Hp) (x : Int) : Hp := hq h [(12, up (h 12) (h 1 1) x), (1, up (h 1) 1 (h 1 1 + 1))]
theorem c_write {x : Int} (hl : 0 ≤ h 1 1 ∧ h 1 1 < 120) : Ev shC mX5_write 0 [some (vr 1), some (vi x)] [] h (RV fun h' => h' = scW h x) := by
  refine ev_aload_n 1 dX5_write_0 rfl rfl ?_
  refine ev_getI 4 1 fX5_15 rfl dX5_write_1 rfl rfl rfl (by decide) rfl ?_
  refine ev_bipush 6 dX5_write_4 rfl (by decide +kernel) ?_
  refine ev_icmp_lt 9 10 dX5_write_6 rfl rfl (by omega) (by omega) (fun c6 => ?_) (fun c6 => ?_)
  · refine ev_aload_n 11 dX5_write_10 rfl rfl ?_
    refine ev_getR 14 fX5_9 rfl dX5_write_11 rfl rfl rfl ?_
    refine ev_aload_n 15 dX5_write_14 rfl rfl ?_
    refine ev_getI 18 1 fX5_15 rfl dX5_write_15 rfl rfl rfl (by decide) rfl ?_
    refine ev_iload_n 19 dX5_write_18 rfl rfl ?_
    refine ev_iast' 20 (hq h [(12, up (h 12) (h 1 1) x)]) dX5_write_19 rfl rfl (by decide) (by omega) (hq_put (L := [])) ?_
    refine ev_aload_n 21 dX5_write_20 rfl rfl ?_
    refine ev_dup_r 22 dX5_write_21 rfl ?_
    refine ev_getI' 25 1 (h 1 1) fX5_15 rfl dX5_write_22 rfl rfl rfl (by decide) rfl rfl ?_
    refine ev_iconst 26 dX5_write_25 rfl ?_
    refine ev_iadd 27 dX5_write_26 rfl ?_
    refine ev_putI' 30 1 (scW h x) pX5_15 rfl dX5_write_27 rfl rfl rfl rfl hq_put ?_
    exact ev_vret rfl dX5_write_30 (rfl)
  · omega --done
theorem c_isDigitAt {p : Int} (hp : 0 ≤ p ∧ p < 120) (ht : R32 (h 12 p)) : Ev shC mX5_isDigitAt 0 [some (vr 1), some (vi p)] [] h (RI fun x h' => x = b2i (digB (h 12 p)) ∧ h = h') := by
  refine ev_aload_n 1 dX5_isDigitAt_0 rfl rfl ?_
  refine ev_getR 4 fX5_9 rfl dX5_isDigitAt_1 rfl rfl rfl ?_
  refine ev_iload_n 5 dX5_isDigitAt_4 rfl rfl ?_
  refine ev_iald 6 dX5_isDigitAt_5 rfl rfl (by decide) (by omega) ?_
  refine ev_bipush 8 dX5_isDigitAt_6 rfl (by decide +kernel) ?_
  refine ev_icmp_lt 11 26 dX5_isDigitAt_8 rfl rfl (by omega) (by omega) (fun c8 => ?_) (fun c8 => ?_)
  · rw [digB_f.mpr (by omega)]
    refine ev_iconst 27 dX5_isDigitAt_26 rfl ?_
    exact ev_zret rfl dX5_isDigitAt_27 (by omega) (⟨rfl, rfl⟩)
  · refine ev_aload_n 12 dX5_isDigitAt_11 rfl rfl ?_
    refine ev_getR 15 fX5_9 rfl dX5_isDigitAt_12 rfl rfl rfl ?_
    refine ev_iload_n 16 dX5_isDigitAt_15 rfl rfl ?_
    refine ev_iald 17 dX5_isDigitAt_16 rfl rfl (by decide) (by omega) ?_
    refine ev_bipush 19 dX5_isDigitAt_17 rfl (by decide +kernel) ?_
    refine ev_icmp_gt 22 26 dX5_isDigitAt_19 rfl rfl (by omega) (by omega) (fun c19 => ?_) (fun c19 => ?_)
    · rw [digB_f.mpr (by omega)]
      refine ev_iconst 27 dX5_isDigitAt_26 rfl ?_
      exact ev_zret rfl dX5_isDigitAt_27 (by omega) (⟨rfl, rfl⟩)
    · rw [digB_t.mpr (by omega)]
      refine ev_iconst 23 dX5_isDigitAt_22 rfl ?_
      refine ev_goto 27 dX5_isDigitAt_23 rfl ?_
      exact ev_zret rfl dX5_isDigitAt_27 (by omega) (⟨rfl, rfl⟩)
end CK
