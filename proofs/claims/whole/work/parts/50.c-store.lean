section CT
variable {h : Hp}
def spE (h : Hp) : Hp := hput h 3 (up (up (up (h 3) 4 0) 5 0) 6 0)
theorem c_empty : Ev shC mX6_empty 0 [some (vr 3)] [] h (RV fun h' => h' = spE h) := by
  refine ev_aload_n 1 dX6_empty_0 rfl rfl ?_
  refine ev_iconst 2 dX6_empty_1 rfl ?_
  refine ev_putI 5 4 pX6_24 rfl dX6_empty_2 rfl rfl rfl rfl ?_
  refine ev_aload_n 6 dX6_empty_5 rfl rfl ?_
  refine ev_iconst 7 dX6_empty_6 rfl ?_
  refine ev_putI' 10 5 (hput h 3 (up (up (h 3) 4 0) 5 0)) pX6_28 rfl dX6_empty_7 rfl rfl rfl rfl hput_hput ?_
  refine ev_aload_n 11 dX6_empty_10 rfl rfl ?_
  refine ev_iconst 12 dX6_empty_11 rfl ?_
  refine ev_putI' 15 6 (spE h) pX6_31 rfl dX6_empty_12 rfl rfl rfl rfl hput_hput ?_
  exact ev_vret rfl dX6_empty_15 (rfl)
def spB (h : Hp) : Hp := hq h [(13, cpy (h 17) (h 13) 0 0 16), (14, cpy (h 18) (h 14) 0 0 5), (15, cpy (h 19) (h 15) 0 0 5), (16, cpy (h 20) (h 16) 0 0 5), (2, up (up (up (h 2) 4 (h 3 4)) 5 (h 3 5)) 6 (h 3 6))]
theorem c_spaBecome : Ev shC mX6_become 0 [some (vr 2), some (vr 3)] [] h (RV fun h' => h' = spB h) := by
  refine ev_aload_n 1 dX6_become_0 rfl rfl ?_
  refine ev_getR 4 fX6_9 rfl dX6_become_1 rfl rfl rfl ?_
  refine ev_iconst 5 dX6_become_4 rfl ?_
  refine ev_aload_n 6 dX6_become_5 rfl rfl ?_
  refine ev_getR 9 fX6_9 rfl dX6_become_6 rfl rfl rfl ?_
  refine ev_iconst 10 dX6_become_9 rfl ?_
  refine ev_bipush 12 dX6_become_10 rfl (by decide +kernel) ?_
  refine ev_copy 15 kX6_become_34 dX6_become_12 rfl rfl rfl (by decide) (by decide) (by omega) (by omega) (by omega) (by omega) (by omega) rfl ?_
  refine ev_heap (show _ = hq h [(13, cpy (h 17) (h 13) 0 0 16)] from hq_put (L := [])) ?_
  refine ev_aload_n 16 dX6_become_15 rfl rfl ?_
  refine ev_getR 19 fX6_15 rfl dX6_become_16 rfl rfl rfl ?_
  refine ev_iconst 20 dX6_become_19 rfl ?_
  refine ev_aload_n 21 dX6_become_20 rfl rfl ?_
  refine ev_getR 24 fX6_15 rfl dX6_become_21 rfl rfl rfl ?_
  refine ev_iconst 25 dX6_become_24 rfl ?_
  refine ev_iconst 26 dX6_become_25 rfl ?_
  refine ev_copy 29 kX6_become_34 dX6_become_26 rfl rfl rfl (by decide) (by decide) (by omega) (by omega) (by omega) (by omega) (by omega) rfl ?_
  refine ev_heap (show _ = hq h [(13, cpy (h 17) (h 13) 0 0 16), (14, cpy (h 18) (h 14) 0 0 5)] from hq_put) ?_
  refine ev_aload_n 30 dX6_become_29 rfl rfl ?_
  refine ev_getR 33 fX6_18 rfl dX6_become_30 rfl rfl rfl ?_
  refine ev_iconst 34 dX6_become_33 rfl ?_
  refine ev_aload_n 35 dX6_become_34 rfl rfl ?_
  refine ev_getR 38 fX6_18 rfl dX6_become_35 rfl rfl rfl ?_
  refine ev_iconst 39 dX6_become_38 rfl ?_
  refine ev_iconst 40 dX6_become_39 rfl ?_
  refine ev_copy 43 kX6_become_34 dX6_become_40 rfl rfl rfl (by decide) (by decide) (by omega) (by omega) (by omega) (by omega) (by omega) rfl ?_
  refine ev_heap (show _ = hq h [(13, cpy (h 17) (h 13) 0 0 16), (14, cpy (h 18) (h 14) 0 0 5), (15, cpy (h 19) (h 15) 0 0 5)] from hq_put) ?_
  refine ev_aload_n 44 dX6_become_43 rfl rfl ?_
  refine ev_getR 47 fX6_21 rfl dX6_become_44 rfl rfl rfl ?_
  refine ev_iconst 48 dX6_become_47 rfl ?_
  refine ev_aload_n 49 dX6_become_48 rfl rfl ?_
  refine ev_getR 52 fX6_21 rfl dX6_become_49 rfl rfl rfl ?_
  refine ev_iconst 53 dX6_become_52 rfl ?_
  refine ev_iconst 54 dX6_become_53 rfl ?_
  refine ev_copy 57 kX6_become_34 dX6_become_54 rfl rfl rfl (by decide) (by decide) (by omega) (by omega) (by omega) (by omega) (by omega) rfl ?_
  refine ev_heap (show _ = hq h [(13, cpy (h 17) (h 13) 0 0 16), (14, cpy (h 18) (h 14) 0 0 5), (15, cpy (h 19) (h 15) 0 0 5), (16, cpy (h 20) (h 16) 0 0 5)] from hq_put) ?_
  refine ev_aload_n 58 dX6_become_57 rfl rfl ?_
  refine ev_aload_n 59 dX6_become_58 rfl rfl ?_
  refine ev_getI' 62 4 (h 3 4) fX6_24 rfl dX6_become_59 rfl rfl rfl (by decide) rfl rfl ?_
  refine ev_putI' 65 4 (hq h [(13, cpy (h 17) (h 13) 0 0 16), (14, cpy (h 18) (h 14) 0 0 5), (15, cpy (h 19) (h 15) 0 0 5), (16, cpy (h 20) (h 16) 0 0 5), (2, up (h 2) 4 (h 3 4))]) pX6_24 rfl dX6_become_62 rfl rfl rfl rfl hq_put ?_
  refine ev_aload_n 66 dX6_become_65 rfl rfl ?_
  refine ev_aload_n 67 dX6_become_66 rfl rfl ?_
  refine ev_getI' 70 5 (h 3 5) fX6_28 rfl dX6_become_67 rfl rfl rfl (by decide) rfl rfl ?_
  refine ev_putI' 73 5 (hq h [(13, cpy (h 17) (h 13) 0 0 16), (14, cpy (h 18) (h 14) 0 0 5), (15, cpy (h 19) (h 15) 0 0 5), (16, cpy (h 20) (h 16) 0 0 5), (2, up (up (h 2) 4 (h 3 4)) 5 (h 3 5))]) pX6_28 rfl dX6_become_70 rfl rfl rfl rfl hq_put ?_
  refine ev_aload_n 74 dX6_become_73 rfl rfl ?_
  refine ev_aload_n 75 dX6_become_74 rfl rfl ?_
  refine ev_getI' 78 6 (h 3 6) fX6_31 rfl dX6_become_75 rfl rfl rfl (by decide) rfl rfl ?_
  refine ev_putI' 81 6 (spB h) pX6_31 rfl dX6_become_78 rfl rfl rfl rfl hq_put ?_
  exact ev_vret rfl dX6_become_81 (rfl)
def spC (h : Hp) (x : Int) : Hp := hq h [(17, up (h 17) (h 3 4) x), (3, up (up (h 3) 4 (h 3 4 + 1)) 6 (h 3 6 + x))]
theorem c_addCell {x : Int} (hc : 0 ≤ h 3 4 ∧ h 3 4 < 16) : Ev shC mX6_addCell 0 [some (vr 3), some (vi x)] [] h (RV fun h' => h' = spC h x) := by
  refine ev_aload_n 1 dX6_addCell_0 rfl rfl ?_
  refine ev_getI 4 4 fX6_24 rfl dX6_addCell_1 rfl rfl rfl (by decide) rfl ?_
  refine ev_bipush 6 dX6_addCell_4 rfl (by decide +kernel) ?_
  refine ev_icmp_lt 9 10 dX6_addCell_6 rfl rfl (by omega) (by omega) (fun c6 => ?_) (fun c6 => ?_)
  · refine ev_aload_n 11 dX6_addCell_10 rfl rfl ?_
    refine ev_getR 14 fX6_9 rfl dX6_addCell_11 rfl rfl rfl ?_
    refine ev_aload_n 15 dX6_addCell_14 rfl rfl ?_
    refine ev_getI 18 4 fX6_24 rfl dX6_addCell_15 rfl rfl rfl (by decide) rfl ?_
    refine ev_iload_n 19 dX6_addCell_18 rfl rfl ?_
    refine ev_iast' 20 (hq h [(17, up (h 17) (h 3 4) x)]) dX6_addCell_19 rfl rfl (by decide) (by omega) (hq_put (L := [])) ?_
    refine ev_aload_n 21 dX6_addCell_20 rfl rfl ?_
    refine ev_dup_r 22 dX6_addCell_21 rfl ?_
    refine ev_getI' 25 4 (h 3 4) fX6_24 rfl dX6_addCell_22 rfl rfl rfl (by decide) rfl rfl ?_
    refine ev_iconst 26 dX6_addCell_25 rfl ?_
    refine ev_iadd 27 dX6_addCell_26 rfl ?_
    refine ev_putI' 30 4 (hq h [(17, up (h 17) (h 3 4) x), (3, up (h 3) 4 (h 3 4 + 1))]) pX6_24 rfl dX6_addCell_27 rfl rfl rfl rfl hq_put ?_
    refine ev_aload_n 31 dX6_addCell_30 rfl rfl ?_
    refine ev_dup_r 32 dX6_addCell_31 rfl ?_
    refine ev_getI' 35 6 (h 3 6) fX6_31 rfl dX6_addCell_32 rfl rfl rfl (by decide) rfl rfl ?_
    refine ev_iload_n 36 dX6_addCell_35 rfl rfl ?_
    refine ev_iadd 37 dX6_addCell_36 rfl ?_
    refine ev_putI' 40 6 (spC h x) pX6_31 rfl dX6_addCell_37 rfl rfl rfl rfl hq_put ?_
    exact ev_vret rfl dX6_addCell_40 (rfl)
  · omega --done
def spR (h : Hp) (w p : Int) : Hp := hq h [(18, up (h 18) (h 3 5) w), (19, up (h 19) (h 3 5) p), (20, up (h 20) (h 3 5) 5), (3, up (h 3) 5 (h 3 5 + 1))]
theorem c_addChair {w p : Int} (hc : 0 ≤ h 3 5 ∧ h 3 5 < 5) : Ev shC mX6_addChair 0 [some (vr 3), some (vi w), some (vi p)] [] h (RV fun h' => h' = spR h w p) := by
  refine ev_aload_n 1 dX6_addChair_0 rfl rfl ?_
  refine ev_getI 4 5 fX6_28 rfl dX6_addChair_1 rfl rfl rfl (by decide) rfl ?_
  refine ev_iconst 5 dX6_addChair_4 rfl ?_
  refine ev_icmp_lt 8 9 dX6_addChair_5 rfl rfl (by omega) (by omega) (fun c5 => ?_) (fun c5 => ?_)
  · refine ev_aload_n 10 dX6_addChair_9 rfl rfl ?_
    refine ev_getR 13 fX6_15 rfl dX6_addChair_10 rfl rfl rfl ?_
    refine ev_aload_n 14 dX6_addChair_13 rfl rfl ?_
    refine ev_getI 17 5 fX6_28 rfl dX6_addChair_14 rfl rfl rfl (by decide) rfl ?_
    refine ev_iload_n 18 dX6_addChair_17 rfl rfl ?_
    refine ev_iast' 19 (hq h [(18, up (h 18) (h 3 5) w)]) dX6_addChair_18 rfl rfl (by decide) (by omega) (hq_put (L := [])) ?_
    refine ev_aload_n 20 dX6_addChair_19 rfl rfl ?_
    refine ev_getR 23 fX6_18 rfl dX6_addChair_20 rfl rfl rfl ?_
    refine ev_aload_n 24 dX6_addChair_23 rfl rfl ?_
    refine ev_getI' 27 5 (h 3 5) fX6_28 rfl dX6_addChair_24 rfl rfl rfl (by decide) rfl rfl ?_
    refine ev_iload_n 28 dX6_addChair_27 rfl rfl ?_
    refine ev_iast' 29 (hq h [(18, up (h 18) (h 3 5) w), (19, up (h 19) (h 3 5) p)]) dX6_addChair_28 rfl rfl (by decide) (by omega) hq_put ?_
    refine ev_aload_n 30 dX6_addChair_29 rfl rfl ?_
    refine ev_getR 33 fX6_21 rfl dX6_addChair_30 rfl rfl rfl ?_
    refine ev_aload_n 34 dX6_addChair_33 rfl rfl ?_
    refine ev_getI' 37 5 (h 3 5) fX6_28 rfl dX6_addChair_34 rfl rfl rfl (by decide) rfl rfl ?_
    refine ev_iconst 38 dX6_addChair_37 rfl ?_
    refine ev_iast' 39 (hq h [(18, up (h 18) (h 3 5) w), (19, up (h 19) (h 3 5) p), (20, up (h 20) (h 3 5) 5)]) dX6_addChair_38 rfl rfl (by decide) (by omega) hq_put ?_
    refine ev_aload_n 40 dX6_addChair_39 rfl rfl ?_
    refine ev_dup_r 41 dX6_addChair_40 rfl ?_
    refine ev_getI' 44 5 (h 3 5) fX6_28 rfl dX6_addChair_41 rfl rfl rfl (by decide) rfl rfl ?_
    refine ev_iconst 45 dX6_addChair_44 rfl ?_
    refine ev_iadd 46 dX6_addChair_45 rfl ?_
    refine ev_putI' 49 5 (spR h w p) pX6_28 rfl dX6_addChair_46 rfl rfl rfl rfl hq_put ?_
    exact ev_vret rfl dX6_addChair_49 (rfl)
  · omega --done
def dDrop (h : Hp) : Hp := hq h [(33, cpy (h 33) (h 33) 1 0 9), (34, cpy (h 34) (h 34) 1 0 9), (35, cpy (h 35) (h 35) 1 0 9), (7, up (h 7) 3 9)]
theorem c_dropOldest : Ev shC mX1_dropOldest 0 [some (vr 7)] [] h (RV fun h' => h' = dDrop h) := by
  refine ev_aload_n 1 dX1_dropOldest_0 rfl rfl ?_
  refine ev_getR 4 fX1_9 rfl dX1_dropOldest_1 rfl rfl rfl ?_
  refine ev_iconst 5 dX1_dropOldest_4 rfl ?_
  refine ev_aload_n 6 dX1_dropOldest_5 rfl rfl ?_
  refine ev_getR 9 fX1_9 rfl dX1_dropOldest_6 rfl rfl rfl ?_
  refine ev_iconst 10 dX1_dropOldest_9 rfl ?_
  refine ev_bipush 12 dX1_dropOldest_10 rfl (by decide +kernel) ?_
  refine ev_copy 15 kX1_dropOldest_47 dX1_dropOldest_12 rfl rfl rfl (by decide) (by decide) (by omega) (by omega) (by omega) (by omega) (by omega) rfl ?_
  refine ev_heap (show _ = hq h [(33, cpy (h 33) (h 33) 1 0 9)] from hq_put (L := [])) ?_
  refine ev_aload_n 16 dX1_dropOldest_15 rfl rfl ?_
  refine ev_getR 19 fX1_15 rfl dX1_dropOldest_16 rfl rfl rfl ?_
  refine ev_iconst 20 dX1_dropOldest_19 rfl ?_
  refine ev_aload_n 21 dX1_dropOldest_20 rfl rfl ?_
  refine ev_getR 24 fX1_15 rfl dX1_dropOldest_21 rfl rfl rfl ?_
  refine ev_iconst 25 dX1_dropOldest_24 rfl ?_
  refine ev_bipush 27 dX1_dropOldest_25 rfl (by decide +kernel) ?_
  refine ev_copy 30 kX1_dropOldest_47 dX1_dropOldest_27 rfl rfl rfl (by decide) (by decide) (by omega) (by omega) (by omega) (by omega) (by omega) rfl ?_
  refine ev_heap (show _ = hq h [(33, cpy (h 33) (h 33) 1 0 9), (34, cpy (h 34) (h 34) 1 0 9)] from hq_put) ?_
  refine ev_aload_n 31 dX1_dropOldest_30 rfl rfl ?_
  refine ev_getR 34 fX1_18 rfl dX1_dropOldest_31 rfl rfl rfl ?_
  refine ev_iconst 35 dX1_dropOldest_34 rfl ?_
  refine ev_aload_n 36 dX1_dropOldest_35 rfl rfl ?_
  refine ev_getR 39 fX1_18 rfl dX1_dropOldest_36 rfl rfl rfl ?_
  refine ev_iconst 40 dX1_dropOldest_39 rfl ?_
  refine ev_bipush 42 dX1_dropOldest_40 rfl (by decide +kernel) ?_
  refine ev_copy 45 kX1_dropOldest_47 dX1_dropOldest_42 rfl rfl rfl (by decide) (by decide) (by omega) (by omega) (by omega) (by omega) (by omega) rfl ?_
  refine ev_heap (show _ = hq h [(33, cpy (h 33) (h 33) 1 0 9), (34, cpy (h 34) (h 34) 1 0 9), (35, cpy (h 35) (h 35) 1 0 9)] from hq_put) ?_
  refine ev_aload_n 46 dX1_dropOldest_45 rfl rfl ?_
  refine ev_bipush 48 dX1_dropOldest_46 rfl (by decide +kernel) ?_
  refine ev_putI' 51 3 (dDrop h) pX1_21 rfl dX1_dropOldest_48 rfl rfl rfl rfl hq_put ?_
  exact ev_vret rfl dX1_dropOldest_51 (rfl)
def dPut (h : Hp) (w c o : Int) : Hp := hq h [(33, up (h 33) (h 7 3) w), (34, up (h 34) (h 7 3) c), (35, up (h 35) (h 7 3) o), (7, up (h 7) 3 (h 7 3 + 1))]
def dAdd (h : Hp) (w c o : Int) : Hp := if h 7 3 < 10 then dPut h w c o else dPut (dDrop h) w c o
theorem c_add_13 {w c o : Int} (hs : 0 ≤ h 7 3 ∧ h 7 3 < 10) : Ev shC mX1_add 13 [some (vr 7), some (vi w), some (vi c), some (vi o)] [] h (RV fun h' => h' = dPut h w c o) := by
  refine ev_aload_n 14 dX1_add_13 rfl rfl ?_
  refine ev_getR 17 fX1_9 rfl dX1_add_14 rfl rfl rfl ?_
  refine ev_aload_n 18 dX1_add_17 rfl rfl ?_
  refine ev_getI 21 3 fX1_21 rfl dX1_add_18 rfl rfl rfl (by decide) rfl ?_
  refine ev_iload_n 22 dX1_add_21 rfl rfl ?_
  refine ev_iast' 23 (hq h [(33, up (h 33) (h 7 3) w)]) dX1_add_22 rfl rfl (by decide) (by omega) (hq_put (L := [])) ?_
  refine ev_aload_n 24 dX1_add_23 rfl rfl ?_
  refine ev_getR 27 fX1_15 rfl dX1_add_24 rfl rfl rfl ?_
  refine ev_aload_n 28 dX1_add_27 rfl rfl ?_
  refine ev_getI' 31 3 (h 7 3) fX1_21 rfl dX1_add_28 rfl rfl rfl (by decide) rfl rfl ?_
  refine ev_iload_n 32 dX1_add_31 rfl rfl ?_
  refine ev_iast' 33 (hq h [(33, up (h 33) (h 7 3) w), (34, up (h 34) (h 7 3) c)]) dX1_add_32 rfl rfl (by decide) (by omega) hq_put ?_
  refine ev_aload_n 34 dX1_add_33 rfl rfl ?_
  refine ev_getR 37 fX1_18 rfl dX1_add_34 rfl rfl rfl ?_
  refine ev_aload_n 38 dX1_add_37 rfl rfl ?_
  refine ev_getI' 41 3 (h 7 3) fX1_21 rfl dX1_add_38 rfl rfl rfl (by decide) rfl rfl ?_
  refine ev_iload_n 42 dX1_add_41 rfl rfl ?_
  refine ev_iast' 43 (hq h [(33, up (h 33) (h 7 3) w), (34, up (h 34) (h 7 3) c), (35, up (h 35) (h 7 3) o)]) dX1_add_42 rfl rfl (by decide) (by omega) hq_put ?_
  refine ev_aload_n 44 dX1_add_43 rfl rfl ?_
  refine ev_dup_r 45 dX1_add_44 rfl ?_
  refine ev_getI' 48 3 (h 7 3) fX1_21 rfl dX1_add_45 rfl rfl rfl (by decide) rfl rfl ?_
  refine ev_iconst 49 dX1_add_48 rfl ?_
  refine ev_iadd 50 dX1_add_49 rfl ?_
  refine ev_putI' 53 3 (dPut h w c o) pX1_21 rfl dX1_add_50 rfl rfl rfl rfl hq_put ?_
  exact ev_vret rfl dX1_add_53 (rfl)
theorem c_add {w c o : Int} (hs : 0 ≤ h 7 3 ∧ h 7 3 ≤ 10) : Ev shC mX1_add 0 [some (vr 7), some (vi w), some (vi c), some (vi o)] [] h (RV fun h' => h' = dAdd h w c o) := by
  unfold dAdd
  refine ev_aload_n 1 dX1_add_0 rfl rfl ?_
  refine ev_getI 4 3 fX1_21 rfl dX1_add_1 rfl rfl rfl (by decide) rfl ?_
  refine ev_bipush 6 dX1_add_4 rfl (by decide +kernel) ?_
  refine ev_icmp_lt 9 13 dX1_add_6 rfl rfl (by omega) (by omega) (fun c6 => ?_) (fun c6 => ?_)
  · rw [if_pos (by omega)]
    exact c_add_13 (by omega) --done
  · rw [if_neg (by omega)]
    refine ev_aload_n 10 dX1_add_9 rfl rfl ?_
    refine cVv0 13 kX1_add_25 dX1_add_10 rfl rfl rfl rfl rfl (by decide) rfl (Nat.le_of_ble_eq_true rfl) (c_dropOldest) ?_
    rintro _ rfl
    exact c_add_13 ⟨by show (0 : Int) ≤ up (h 7) 3 9 3; rw [up_s]; decide, by show up (h 7) 3 9 3 < 10; rw [up_s]; decide⟩
    skip
def exD (f : Int → Int) (c e : Int) : Int → Int := up (up f c (f e)) e (f c)
def dTak (h : Hp) (w c o : Int) : Hp := if w = 0 then hq h [(7, up (h 7) 3 (h 7 3 - 1)), (24, up (h 24) c (h 24 c - 1)), (4, up (h 4) 4 (h 4 4 - 1))] else if w = 1 then hq h [(7, up (h 7) 3 (h 7 3 - 1)), (21, exD (h 21) c o)] else if w = 2 then hq h [(7, up (h 7) 3 (h 7 3 - 1)), (22, up (h 22) c o)] else hq h [(7, up (h 7) 3 (h 7 3 - 1)), (23, up (h 23) c (1 - h 23 c))]
theorem c_take {w c o : Int} (hs : 0 < h 7 3 ∧ h 7 3 ≤ 10) (e33 : h 33 (h 7 3 - 1) = w) (e34 : h 34 (h 7 3 - 1) = c) (e35 : h 35 (h 7 3 - 1) = o) (hw : R32 w) (hc : 0 ≤ c ∧ c < 5) (ho : w = 1 → 0 ≤ o ∧ o < 5) (hz : h 23 c = 0 ∨ h 23 c = 1) : Ev shC mX1_takeBackLatest 0 [some (vr 7), some (vr 4), none, none] [] h (RV fun h' => h' = dTak h w c o) := by
  refine ev_aload_n 1 dX1_takeBackLatest_0 rfl rfl ?_
  refine ev_getI 4 3 fX1_21 rfl dX1_takeBackLatest_1 rfl rfl rfl (by decide) rfl ?_
  refine ev_iconst 5 dX1_takeBackLatest_4 rfl ?_
  refine ev_icmp_ge 8 9 dX1_takeBackLatest_5 rfl rfl (by omega) (by omega) (fun c5 => ?_) (fun c5 => ?_)
  · refine ev_aload_n 10 dX1_takeBackLatest_9 rfl rfl ?_
    refine ev_dup_r 11 dX1_takeBackLatest_10 rfl ?_
    refine ev_getI 14 3 fX1_21 rfl dX1_takeBackLatest_11 rfl rfl rfl (by decide) rfl ?_
    refine ev_iconst 15 dX1_takeBackLatest_14 rfl ?_
    refine ev_isub 16 dX1_takeBackLatest_15 rfl ?_
    refine ev_putI' 19 3 (hq h [(7, up (h 7) 3 (h 7 3 - 1))]) pX1_21 rfl dX1_takeBackLatest_16 rfl rfl rfl rfl (hq_put (L := [])) ?_
    refine ev_aload_n 20 dX1_takeBackLatest_19 rfl rfl ?_
    refine ev_getR 23 fX1_15 rfl dX1_takeBackLatest_20 rfl rfl rfl ?_
    refine ev_aload_n 24 dX1_takeBackLatest_23 rfl rfl ?_
    refine ev_getI' 27 3 (h 7 3 - 1) fX1_21 rfl dX1_takeBackLatest_24 rfl rfl rfl (by decide) rfl rfl ?_
    refine ev_iald' 28 (c) dX1_takeBackLatest_27 rfl rfl (by decide) (by omega) e34 ?_
    refine ev_istore_n 29 dX1_takeBackLatest_28 rfl (Nat.le_of_ble_eq_true rfl) ?_
    refine ev_aload_n 30 dX1_takeBackLatest_29 rfl rfl ?_
    refine ev_getR 33 fX1_18 rfl dX1_takeBackLatest_30 rfl rfl rfl ?_
    refine ev_aload_n 34 dX1_takeBackLatest_33 rfl rfl ?_
    refine ev_getI' 37 3 (h 7 3 - 1) fX1_21 rfl dX1_takeBackLatest_34 rfl rfl rfl (by decide) rfl rfl ?_
    refine ev_iald' 38 (o) dX1_takeBackLatest_37 rfl rfl (by decide) (by omega) e35 ?_
    refine ev_istore_n 39 dX1_takeBackLatest_38 rfl (Nat.le_of_ble_eq_true rfl) ?_
    refine ev_aload_n 40 dX1_takeBackLatest_39 rfl rfl ?_
    refine ev_getR 43 fX1_9 rfl dX1_takeBackLatest_40 rfl rfl rfl ?_
    refine ev_aload_n 44 dX1_takeBackLatest_43 rfl rfl ?_
    refine ev_getI' 47 3 (h 7 3 - 1) fX1_21 rfl dX1_takeBackLatest_44 rfl rfl rfl (by decide) rfl rfl ?_
    refine ev_iald' 48 (w) dX1_takeBackLatest_47 rfl rfl (by decide) (by omega) e33 ?_
    by_cases w48 : w < 0 ∨ 2 < w
    · refine ev_tswOut 118 dX1_takeBackLatest_48 (by omega) w48 rfl ?_
      refine ev_aload_n 119 dX1_takeBackLatest_118 rfl rfl ?_
      refine ev_getR 122 fX1_43 rfl dX1_takeBackLatest_119 rfl rfl rfl ?_
      refine ev_iload_n 123 dX1_takeBackLatest_122 rfl rfl ?_
      refine ev_aload_n 124 dX1_takeBackLatest_123 rfl rfl ?_
      refine ev_getR 127 fX1_43 rfl dX1_takeBackLatest_124 rfl rfl rfl ?_
      refine ev_iload_n 128 dX1_takeBackLatest_127 rfl rfl ?_
      refine ev_zald' 129 (h 23 c) dX1_takeBackLatest_128 rfl rfl (by decide) (by omega) rfl ?_
      refine ev_if_ne 132 136 dX1_takeBackLatest_129 rfl rfl (by omega) (fun c129 => ?_) (fun c129 => ?_)
      · refine ev_iconst 137 dX1_takeBackLatest_136 rfl ?_
        refine ev_topi (show _ = 1 - h 23 c by omega) ?_
        refine ev_zast' 138 (hq h [(7, up (h 7) 3 (h 7 3 - 1)), (23, up (h 23) c (1 - h 23 c))]) dX1_takeBackLatest_137 rfl rfl (by decide) (by omega) (by omega) hq_put ?_
        exact ev_vret rfl dX1_takeBackLatest_138 (by unfold dTak; first | rfl | (rw [if_neg (by omega), if_neg (by omega), if_neg (by omega)]))
      · skip
        refine ev_iconst 133 dX1_takeBackLatest_132 rfl ?_
        refine ev_goto 137 dX1_takeBackLatest_133 rfl ?_
        refine ev_topi (show _ = 1 - h 23 c by omega) ?_
        refine ev_zast' 138 (hq h [(7, up (h 7) 3 (h 7 3 - 1)), (23, up (h 23) c (1 - h 23 c))]) dX1_takeBackLatest_137 rfl rfl (by decide) (by omega) (by omega) hq_put ?_
        exact ev_vret rfl dX1_takeBackLatest_138 (by unfold dTak; first | rfl | (rw [if_neg (by omega), if_neg (by omega), if_neg (by omega)]))
    have w48 : w = 0 ∨ w = 1 ∨ w = 2 := by omega
    rcases w48 with w48 | w48 | w48
    · rw [w48]
      refine ev_tswIn 76 dX1_takeBackLatest_48 ⟨by decide, by decide⟩ (by decide) (by decide) rfl rfl ?_
      refine ev_aload_n 77 dX1_takeBackLatest_76 rfl rfl ?_
      refine ev_getR 80 fX1_28 rfl dX1_takeBackLatest_77 rfl rfl rfl ?_
      refine ev_iload_n 81 dX1_takeBackLatest_80 rfl rfl ?_
      refine ev_dup2 82 dX1_takeBackLatest_81 rfl ?_
      refine ev_iald' 83 (h 24 c) dX1_takeBackLatest_82 rfl rfl (by decide) (by omega) rfl ?_
      refine ev_iconst 84 dX1_takeBackLatest_83 rfl ?_
      refine ev_isub 85 dX1_takeBackLatest_84 rfl ?_
      refine ev_iast' 86 (hq h [(7, up (h 7) 3 (h 7 3 - 1)), (24, up (h 24) c (h 24 c - 1))]) dX1_takeBackLatest_85 rfl rfl (by decide) (by omega) hq_put ?_
      refine ev_aload_n 87 dX1_takeBackLatest_86 rfl rfl ?_
      refine ev_dup_r 88 dX1_takeBackLatest_87 rfl ?_
      refine ev_getI' 91 4 (h 4 4) fX1_33 rfl dX1_takeBackLatest_88 rfl rfl rfl (by decide) rfl rfl ?_
      refine ev_iconst 92 dX1_takeBackLatest_91 rfl ?_
      refine ev_isub 93 dX1_takeBackLatest_92 rfl ?_
      refine ev_putI' 96 4 (hq h [(7, up (h 7) 3 (h 7 3 - 1)), (24, up (h 24) c (h 24 c - 1)), (4, up (h 4) 4 (h 4 4 - 1))]) pX1_33 rfl dX1_takeBackLatest_93 rfl rfl rfl rfl hq_put ?_
      refine ev_goto 138 dX1_takeBackLatest_96 rfl ?_
      exact ev_vret rfl dX1_takeBackLatest_138 (by unfold dTak; first | rfl | (rw [if_neg (by omega), if_neg (by omega), if_neg (by omega)]))
    · rw [w48]
      refine ev_tswIn 99 dX1_takeBackLatest_48 ⟨by decide, by decide⟩ (by decide) (by decide) rfl rfl ?_
      refine ev_aload_n 100 dX1_takeBackLatest_99 rfl rfl ?_
      refine ev_iload_n 101 dX1_takeBackLatest_100 rfl rfl ?_
      refine ev_iload_n 102 dX1_takeBackLatest_101 rfl rfl ?_
      refine cVv2 105 kX1_takeBackLatest_36 dX1_takeBackLatest_102 rfl rfl rfl rfl rfl (by decide) rfl (Nat.le_of_ble_eq_true rfl) (c_exchange hc (ho w48)) ?_
      rintro _ rfl
      refine ev_heap (show _ = hq h [(7, up (h 7) 3 (h 7 3 - 1)), (21, exD (h 21) c o)] from hq_put) ?_
      refine ev_goto 138 dX1_takeBackLatest_105 rfl ?_
      exact ev_vret rfl dX1_takeBackLatest_138 (by unfold dTak; first | rfl | (rw [if_neg (by omega), if_neg (by omega), if_neg (by omega)]))
    · rw [w48]
      refine ev_tswIn 108 dX1_takeBackLatest_48 ⟨by decide, by decide⟩ (by decide) (by decide) rfl rfl ?_
      refine ev_aload_n 109 dX1_takeBackLatest_108 rfl rfl ?_
      refine ev_getR 112 fX1_40 rfl dX1_takeBackLatest_109 rfl rfl rfl ?_
      refine ev_iload_n 113 dX1_takeBackLatest_112 rfl rfl ?_
      refine ev_iload_n 114 dX1_takeBackLatest_113 rfl rfl ?_
      refine ev_iast' 115 (hq h [(7, up (h 7) 3 (h 7 3 - 1)), (22, up (h 22) c o)]) dX1_takeBackLatest_114 rfl rfl (by decide) (by omega) hq_put ?_
      refine ev_goto 138 dX1_takeBackLatest_115 rfl ?_
      exact ev_vret rfl dX1_takeBackLatest_138 (by unfold dTak; first | rfl | (rw [if_neg (by omega), if_neg (by omega), if_neg (by omega)]))
  · omega --done
def swN (h : Hp) (c t : Int) : Hp := hq h [(36, up (h 36) (h 8 2) c), (37, up (h 37) (h 8 2) t), (8, up (h 8) 2 (h 8 2 + 1))]
theorem c_note {c t : Int} (hs : 0 ≤ h 8 2 ∧ h 8 2 < 6) : Ev shC mX7_note 0 [some (vr 8), some (vi c), some (vi t)] [] h (RV fun h' => h' = swN h c t) := by
  refine ev_aload_n 1 dX7_note_0 rfl rfl ?_
  refine ev_getI 4 2 fX7_18 rfl dX7_note_1 rfl rfl rfl (by decide) rfl ?_
  refine ev_bipush 6 dX7_note_4 rfl (by decide +kernel) ?_
  refine ev_icmp_lt 9 10 dX7_note_6 rfl rfl (by omega) (by omega) (fun c6 => ?_) (fun c6 => ?_)
  · refine ev_aload_n 11 dX7_note_10 rfl rfl ?_
    refine ev_getR 14 fX7_9 rfl dX7_note_11 rfl rfl rfl ?_
    refine ev_aload_n 15 dX7_note_14 rfl rfl ?_
    refine ev_getI 18 2 fX7_18 rfl dX7_note_15 rfl rfl rfl (by decide) rfl ?_
    refine ev_iload_n 19 dX7_note_18 rfl rfl ?_
    refine ev_iast' 20 (hq h [(36, up (h 36) (h 8 2) c)]) dX7_note_19 rfl rfl (by decide) (by omega) (hq_put (L := [])) ?_
    refine ev_aload_n 21 dX7_note_20 rfl rfl ?_
    refine ev_getR 24 fX7_15 rfl dX7_note_21 rfl rfl rfl ?_
    refine ev_aload_n 25 dX7_note_24 rfl rfl ?_
    refine ev_getI' 28 2 (h 8 2) fX7_18 rfl dX7_note_25 rfl rfl rfl (by decide) rfl rfl ?_
    refine ev_iload_n 29 dX7_note_28 rfl rfl ?_
    refine ev_iast' 30 (hq h [(36, up (h 36) (h 8 2) c), (37, up (h 37) (h 8 2) t)]) dX7_note_29 rfl rfl (by decide) (by omega) hq_put ?_
    refine ev_aload_n 31 dX7_note_30 rfl rfl ?_
    refine ev_dup_r 32 dX7_note_31 rfl ?_
    refine ev_getI' 35 2 (h 8 2) fX7_18 rfl dX7_note_32 rfl rfl rfl (by decide) rfl rfl ?_
    refine ev_iconst 36 dX7_note_35 rfl ?_
    refine ev_iadd 37 dX7_note_36 rfl ?_
    refine ev_putI' 40 2 (swN h c t) pX7_18 rfl dX7_note_37 rfl rfl rfl rfl hq_put ?_
    exact ev_vret rfl dX7_note_40 (rfl)
  · omega --done
end CT
