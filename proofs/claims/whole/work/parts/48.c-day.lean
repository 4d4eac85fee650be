/-- a stretch of a row taken from another -/
def pf (f g : Int → Int) (c : Int) : Int → Int := fun i => if 0 ≤ i ∧ i < c then f i else g i
theorem pf_0 {f g : Int → Int} : pf f g 0 = g := by
  funext i
  unfold pf
  rw [if_neg (by omega)]
theorem pf_1 {f g : Int → Int} {c : Int} (h : 0 ≤ c) : up (pf f g c) c (f c) = pf f g (c + 1) := by
  funext i
  unfold up
  by_cases q : i = c
  · subst q
    unfold pf
    rw [if_pos rfl, if_pos (by omega)]
  · rw [if_neg q]
    unfold pf
    by_cases q2 : 0 ≤ i ∧ i < c
    · rw [if_pos q2, if_pos (by omega)]
    · rw [if_neg q2, if_neg (by omega)]
theorem pf_v {f g : Int → Int} {c i : Int} (h : 0 ≤ i ∧ i < c) : pf f g c i = f i := by
  unfold pf
  rw [if_pos h]
section CD
variable {h : Hp}
theorem c_exchange {c e : Int} (hc : 0 ≤ c ∧ c < 5) (he : 0 ≤ e ∧ e < 5) : Ev shC mX0_exchange 0 [some (vr 4), some (vi c), some (vi e), none] [] h (RV fun h' => h' = hput h 21 (up (up (h 21) c (h 21 e)) e (h 21 c))) := by
  refine ev_aload_n 1 dX0_exchange_0 rfl rfl ?_
  refine ev_getR 4 fX0_9 rfl dX0_exchange_1 rfl rfl rfl ?_
  refine ev_iload_n 5 dX0_exchange_4 rfl rfl ?_
  refine ev_iald 6 dX0_exchange_5 rfl rfl (by decide) (by omega) ?_
  refine ev_istore_n 7 dX0_exchange_6 rfl (Nat.le_of_ble_eq_true rfl) ?_
  refine ev_aload_n 8 dX0_exchange_7 rfl rfl ?_
  refine ev_getR 11 fX0_9 rfl dX0_exchange_8 rfl rfl rfl ?_
  refine ev_iload_n 12 dX0_exchange_11 rfl rfl ?_
  refine ev_aload_n 13 dX0_exchange_12 rfl rfl ?_
  refine ev_getR 16 fX0_9 rfl dX0_exchange_13 rfl rfl rfl ?_
  refine ev_iload_n 17 dX0_exchange_16 rfl rfl ?_
  refine ev_iald 18 dX0_exchange_17 rfl rfl (by decide) (by omega) ?_
  refine ev_iast 19 dX0_exchange_18 rfl rfl (by decide) (by omega) ?_
  refine ev_aload_n 20 dX0_exchange_19 rfl rfl ?_
  refine ev_getR 23 fX0_9 rfl dX0_exchange_20 rfl rfl rfl ?_
  refine ev_iload_n 24 dX0_exchange_23 rfl rfl ?_
  refine ev_iload_n 25 dX0_exchange_24 rfl rfl ?_
  refine ev_iast' 26 (hput h 21 (up (up (h 21) c (h 21 e)) e (h 21 c))) dX0_exchange_25 rfl rfl (by decide) (by omega) hput_hput ?_
  exact ev_vret rfl dX0_exchange_26 (rfl)
def dayS (h : Hp) : Hp := hq h [(21, pf (fun i => i) (h 21) 5), (22, pf (fun _ => 0) (h 22) 5), (23, pf (fun _ => 0) (h 23) 5), (24, pf (fun _ => 0) (h 24) 5), (4, up (h 4) 4 0)]
theorem c_start_loop : ∀ (k : Nat) (c : Int), 0 ≤ c → c + k = 5 → Ev shC mX0_start 2 [some (vr 4), some (vi c)] [] (hq h [(21, pf (fun i => i) (h 21) c), (22, pf (fun _ => 0) (h 22) c), (23, pf (fun _ => 0) (h 23) c), (24, pf (fun _ => 0) (h 24) c)]) (RV fun h' => h' = dayS h) := by
  intro k
  induction k with
  | zero =>
    intro c h0 h1
    have e : c = 5 := by omega
    subst e
    refine ev_iload_n 3 dX0_start_2 rfl rfl ?_
    refine ev_iconst 4 dX0_start_3 rfl ?_
    refine ev_icmp_ge 7 41 dX0_start_4 rfl rfl (by omega) (by omega) (fun c4 => ?_) (fun c4 => ?_)
    · refine ev_aload_n 42 dX0_start_41 rfl rfl ?_
      refine ev_iconst 43 dX0_start_42 rfl ?_
      refine ev_putI' 46 4 (dayS h) pX0_25 rfl dX0_start_43 rfl rfl rfl rfl hq_put ?_
      exact ev_vret rfl dX0_start_46 (rfl)
    · omega --done
  | succ k ih =>
    intro c h0 h1
    refine ev_iload_n 3 dX0_start_2 rfl rfl ?_
    refine ev_iconst 4 dX0_start_3 rfl ?_
    refine ev_icmp_ge 7 41 dX0_start_4 rfl rfl (by omega) (by omega) (fun c4 => ?_) (fun c4 => ?_)
    · omega --done
    · refine ev_aload_n 8 dX0_start_7 rfl rfl ?_
      refine ev_getR 11 fX0_9 rfl dX0_start_8 rfl rfl rfl ?_
      refine ev_iload_n 12 dX0_start_11 rfl rfl ?_
      refine ev_iload_n 13 dX0_start_12 rfl rfl ?_
      refine ev_iast' 14 (hq h [(21, pf (fun i => i) (h 21) (c + 1)), (22, pf (fun _ => 0) (h 22) c), (23, pf (fun _ => 0) (h 23) c), (24, pf (fun _ => 0) (h 24) c)]) dX0_start_13 rfl rfl (by decide) (by omega) (hq_put.trans (by show hq h [(21, up (pf (fun i => i) (h 21) c) c (c)), (22, pf (fun _ => 0) (h 22) c), (23, pf (fun _ => 0) (h 23) c), (24, pf (fun _ => 0) (h 24) c)] = _; rw [pf_1 (f := (fun i => i)) h0])) ?_
      refine ev_aload_n 15 dX0_start_14 rfl rfl ?_
      refine ev_getR 18 fX0_15 rfl dX0_start_15 rfl rfl rfl ?_
      refine ev_iload_n 19 dX0_start_18 rfl rfl ?_
      refine ev_iconst 20 dX0_start_19 rfl ?_
      refine ev_iast' 21 (hq h [(21, pf (fun i => i) (h 21) (c + 1)), (22, pf (fun _ => 0) (h 22) (c + 1)), (23, pf (fun _ => 0) (h 23) c), (24, pf (fun _ => 0) (h 24) c)]) dX0_start_20 rfl rfl (by decide) (by omega) (hq_put.trans (by show hq h [(21, pf (fun i => i) (h 21) (c + 1)), (22, up (pf (fun _ => 0) (h 22) c) c (0)), (23, pf (fun _ => 0) (h 23) c), (24, pf (fun _ => 0) (h 24) c)] = _; rw [pf_1 (f := (fun _ => 0)) h0])) ?_
      refine ev_aload_n 22 dX0_start_21 rfl rfl ?_
      refine ev_getR 25 fX0_18 rfl dX0_start_22 rfl rfl rfl ?_
      refine ev_iload_n 26 dX0_start_25 rfl rfl ?_
      refine ev_iconst 27 dX0_start_26 rfl ?_
      refine ev_zast' 28 (hq h [(21, pf (fun i => i) (h 21) (c + 1)), (22, pf (fun _ => 0) (h 22) (c + 1)), (23, pf (fun _ => 0) (h 23) (c + 1)), (24, pf (fun _ => 0) (h 24) c)]) dX0_start_27 rfl rfl (by decide) (by omega) (by omega) (hq_put.trans (by show hq h [(21, pf (fun i => i) (h 21) (c + 1)), (22, pf (fun _ => 0) (h 22) (c + 1)), (23, up (pf (fun _ => 0) (h 23) c) c (0)), (24, pf (fun _ => 0) (h 24) c)] = _; rw [pf_1 (f := (fun _ => 0)) h0])) ?_
      refine ev_aload_n 29 dX0_start_28 rfl rfl ?_
      refine ev_getR 32 fX0_22 rfl dX0_start_29 rfl rfl rfl ?_
      refine ev_iload_n 33 dX0_start_32 rfl rfl ?_
      refine ev_iconst 34 dX0_start_33 rfl ?_
      refine ev_iast' 35 (hq h [(21, pf (fun i => i) (h 21) (c + 1)), (22, pf (fun _ => 0) (h 22) (c + 1)), (23, pf (fun _ => 0) (h 23) (c + 1)), (24, pf (fun _ => 0) (h 24) (c + 1))]) dX0_start_34 rfl rfl (by decide) (by omega) (hq_put.trans (by show hq h [(21, pf (fun i => i) (h 21) (c + 1)), (22, pf (fun _ => 0) (h 22) (c + 1)), (23, pf (fun _ => 0) (h 23) (c + 1)), (24, up (pf (fun _ => 0) (h 24) c) c (0))] = _; rw [pf_1 (f := (fun _ => 0)) h0])) ?_
      refine ev_iinc 38 dX0_start_35 rfl rfl ?_
      refine ev_goto 2 dX0_start_38 rfl ?_
      exact ih (c + 1) (by omega) (by omega)
theorem hq4_id {a b c d : Nat} {f0 f1 f2 f3 : Int → Int} : h = hq h [(a, pf f0 (h a) 0), (b, pf f1 (h b) 0), (c, pf f2 (h c) 0), (d, pf f3 (h d) 0)] := by
  rw [pf_0, pf_0, pf_0, pf_0]
  refine (hq_id (fun p hp => ?_)).symm
  simp only [List.mem_cons, List.not_mem_nil, or_false] at hp
  rcases hp with rfl | rfl | rfl | rfl <;> rfl
theorem c_start : Ev shC mX0_start 0 [some (vr 4), none] [] h (RV fun h' => h' = dayS h) := by
  refine ev_iconst 1 dX0_start_0 rfl ?_
  refine ev_istore_n 2 dX0_start_1 rfl (Nat.le_of_ble_eq_true rfl) ?_
  exact ev_heap hq4_id (c_start_loop 5 0 (by omega) (by omega))
def dayB54 (h : Hp) : Hp := hq h [(25, pf (h 21) (h 25) 5), (26, pf (h 22) (h 26) 5), (27, pf (h 23) (h 27) 5), (28, pf (h 24) (h 28) 5), (5, up (h 5) 4 (h 4 4))]
theorem c_become54_loop (hz : ∀ c, 0 ≤ c → c < 5 → h 23 c = 0 ∨ h 23 c = 1) : ∀ (k : Nat) (c : Int), 0 ≤ c → c + k = 5 → Ev shC mX0_become 2 [some (vr 5), some (vr 4), some (vi c)] [] (hq h [(25, pf (h 21) (h 25) c), (26, pf (h 22) (h 26) c), (27, pf (h 23) (h 27) c), (28, pf (h 24) (h 28) c)]) (RV fun h' => h' = dayB54 h) := by
  intro k
  induction k with
  | zero =>
    intro c h0 h1
    have e : c = 5 := by omega
    subst e
    refine ev_iload_n 3 dX0_become_2 rfl rfl ?_
    refine ev_iconst 4 dX0_become_3 rfl ?_
    refine ev_icmp_ge 7 61 dX0_become_4 rfl rfl (by omega) (by omega) (fun c4 => ?_) (fun c4 => ?_)
    · refine ev_aload_n 62 dX0_become_61 rfl rfl ?_
      refine ev_aload_n 63 dX0_become_62 rfl rfl ?_
      refine ev_getI' 66 4 (h 4 4) fX0_25 rfl dX0_become_63 rfl rfl rfl (by decide) rfl rfl ?_
      refine ev_putI' 69 4 (dayB54 h) pX0_25 rfl dX0_become_66 rfl rfl rfl rfl hq_put ?_
      exact ev_vret rfl dX0_become_69 (rfl)
    · omega --done
  | succ k ih =>
    intro c h0 h1
    have hzc := hz c h0 (by omega)
    refine ev_iload_n 3 dX0_become_2 rfl rfl ?_
    refine ev_iconst 4 dX0_become_3 rfl ?_
    refine ev_icmp_ge 7 61 dX0_become_4 rfl rfl (by omega) (by omega) (fun c4 => ?_) (fun c4 => ?_)
    · omega --done
    · refine ev_aload_n 8 dX0_become_7 rfl rfl ?_
      refine ev_getR 11 fX0_9 rfl dX0_become_8 rfl rfl rfl ?_
      refine ev_iload_n 12 dX0_become_11 rfl rfl ?_
      refine ev_aload_n 13 dX0_become_12 rfl rfl ?_
      refine ev_getR 16 fX0_9 rfl dX0_become_13 rfl rfl rfl ?_
      refine ev_iload_n 17 dX0_become_16 rfl rfl ?_
      refine ev_iald' 18 (h 21 c) dX0_become_17 rfl rfl (by decide) (by omega) rfl ?_
      refine ev_iast' 19 (hq h [(25, pf (h 21) (h 25) (c + 1)), (26, pf (h 22) (h 26) c), (27, pf (h 23) (h 27) c), (28, pf (h 24) (h 28) c)]) dX0_become_18 rfl rfl (by decide) (by omega) (hq_put.trans (by show hq h [(25, up (pf (h 21) (h 25) c) c (h 21 c)), (26, pf (h 22) (h 26) c), (27, pf (h 23) (h 27) c), (28, pf (h 24) (h 28) c)] = _; rw [pf_1 (f := (h 21)) h0])) ?_
      refine ev_aload_n 20 dX0_become_19 rfl rfl ?_
      refine ev_getR 23 fX0_15 rfl dX0_become_20 rfl rfl rfl ?_
      refine ev_iload_n 24 dX0_become_23 rfl rfl ?_
      refine ev_aload_n 25 dX0_become_24 rfl rfl ?_
      refine ev_getR 28 fX0_15 rfl dX0_become_25 rfl rfl rfl ?_
      refine ev_iload_n 29 dX0_become_28 rfl rfl ?_
      refine ev_iald' 30 (h 22 c) dX0_become_29 rfl rfl (by decide) (by omega) rfl ?_
      refine ev_iast' 31 (hq h [(25, pf (h 21) (h 25) (c + 1)), (26, pf (h 22) (h 26) (c + 1)), (27, pf (h 23) (h 27) c), (28, pf (h 24) (h 28) c)]) dX0_become_30 rfl rfl (by decide) (by omega) (hq_put.trans (by show hq h [(25, pf (h 21) (h 25) (c + 1)), (26, up (pf (h 22) (h 26) c) c (h 22 c)), (27, pf (h 23) (h 27) c), (28, pf (h 24) (h 28) c)] = _; rw [pf_1 (f := (h 22)) h0])) ?_
      refine ev_aload_n 32 dX0_become_31 rfl rfl ?_
      refine ev_getR 35 fX0_18 rfl dX0_become_32 rfl rfl rfl ?_
      refine ev_iload_n 36 dX0_become_35 rfl rfl ?_
      refine ev_aload_n 37 dX0_become_36 rfl rfl ?_
      refine ev_getR 40 fX0_18 rfl dX0_become_37 rfl rfl rfl ?_
      refine ev_iload_n 41 dX0_become_40 rfl rfl ?_
      refine ev_zald' 42 (h 23 c) dX0_become_41 rfl rfl (by decide) (by omega) rfl ?_
      refine ev_zast' 43 (hq h [(25, pf (h 21) (h 25) (c + 1)), (26, pf (h 22) (h 26) (c + 1)), (27, pf (h 23) (h 27) (c + 1)), (28, pf (h 24) (h 28) c)]) dX0_become_42 rfl rfl (by decide) (by omega) (by omega) (hq_put.trans (by show hq h [(25, pf (h 21) (h 25) (c + 1)), (26, pf (h 22) (h 26) (c + 1)), (27, up (pf (h 23) (h 27) c) c (h 23 c)), (28, pf (h 24) (h 28) c)] = _; rw [pf_1 (f := (h 23)) h0])) ?_
      refine ev_aload_n 44 dX0_become_43 rfl rfl ?_
      refine ev_getR 47 fX0_22 rfl dX0_become_44 rfl rfl rfl ?_
      refine ev_iload_n 48 dX0_become_47 rfl rfl ?_
      refine ev_aload_n 49 dX0_become_48 rfl rfl ?_
      refine ev_getR 52 fX0_22 rfl dX0_become_49 rfl rfl rfl ?_
      refine ev_iload_n 53 dX0_become_52 rfl rfl ?_
      refine ev_iald' 54 (h 24 c) dX0_become_53 rfl rfl (by decide) (by omega) rfl ?_
      refine ev_iast' 55 (hq h [(25, pf (h 21) (h 25) (c + 1)), (26, pf (h 22) (h 26) (c + 1)), (27, pf (h 23) (h 27) (c + 1)), (28, pf (h 24) (h 28) (c + 1))]) dX0_become_54 rfl rfl (by decide) (by omega) (hq_put.trans (by show hq h [(25, pf (h 21) (h 25) (c + 1)), (26, pf (h 22) (h 26) (c + 1)), (27, pf (h 23) (h 27) (c + 1)), (28, up (pf (h 24) (h 28) c) c (h 24 c))] = _; rw [pf_1 (f := (h 24)) h0])) ?_
      refine ev_iinc 58 dX0_become_55 rfl rfl ?_
      refine ev_goto 2 dX0_become_58 rfl ?_
      exact ih (c + 1) (by omega) (by omega)
theorem c_become54 (hz : ∀ c, 0 ≤ c → c < 5 → h 23 c = 0 ∨ h 23 c = 1) : Ev shC mX0_become 0 [some (vr 5), some (vr 4), none] [] h (RV fun h' => h' = dayB54 h) := by
  refine ev_iconst 1 dX0_become_0 rfl ?_
  refine ev_istore_n 2 dX0_become_1 rfl (Nat.le_of_ble_eq_true rfl) ?_
  exact ev_heap hq4_id (c_become54_loop hz 5 0 (by omega) (by omega))
def dayB64 (h : Hp) : Hp := hq h [(29, pf (h 21) (h 29) 5), (30, pf (h 22) (h 30) 5), (31, pf (h 23) (h 31) 5), (32, pf (h 24) (h 32) 5), (6, up (h 6) 4 (h 4 4))]
theorem c_become64_loop (hz : ∀ c, 0 ≤ c → c < 5 → h 23 c = 0 ∨ h 23 c = 1) : ∀ (k : Nat) (c : Int), 0 ≤ c → c + k = 5 → Ev shC mX0_become 2 [some (vr 6), some (vr 4), some (vi c)] [] (hq h [(29, pf (h 21) (h 29) c), (30, pf (h 22) (h 30) c), (31, pf (h 23) (h 31) c), (32, pf (h 24) (h 32) c)]) (RV fun h' => h' = dayB64 h) := by
  intro k
  induction k with
  | zero =>
    intro c h0 h1
    have e : c = 5 := by omega
    subst e
    refine ev_iload_n 3 dX0_become_2 rfl rfl ?_
    refine ev_iconst 4 dX0_become_3 rfl ?_
    refine ev_icmp_ge 7 61 dX0_become_4 rfl rfl (by omega) (by omega) (fun c4 => ?_) (fun c4 => ?_)
    · refine ev_aload_n 62 dX0_become_61 rfl rfl ?_
      refine ev_aload_n 63 dX0_become_62 rfl rfl ?_
      refine ev_getI' 66 4 (h 4 4) fX0_25 rfl dX0_become_63 rfl rfl rfl (by decide) rfl rfl ?_
      refine ev_putI' 69 4 (dayB64 h) pX0_25 rfl dX0_become_66 rfl rfl rfl rfl hq_put ?_
      exact ev_vret rfl dX0_become_69 (rfl)
    · omega --done
  | succ k ih =>
    intro c h0 h1
    have hzc := hz c h0 (by omega)
    refine ev_iload_n 3 dX0_become_2 rfl rfl ?_
    refine ev_iconst 4 dX0_become_3 rfl ?_
    refine ev_icmp_ge 7 61 dX0_become_4 rfl rfl (by omega) (by omega) (fun c4 => ?_) (fun c4 => ?_)
    · omega --done
    · refine ev_aload_n 8 dX0_become_7 rfl rfl ?_
      refine ev_getR 11 fX0_9 rfl dX0_become_8 rfl rfl rfl ?_
      refine ev_iload_n 12 dX0_become_11 rfl rfl ?_
      refine ev_aload_n 13 dX0_become_12 rfl rfl ?_
      refine ev_getR 16 fX0_9 rfl dX0_become_13 rfl rfl rfl ?_
      refine ev_iload_n 17 dX0_become_16 rfl rfl ?_
      refine ev_iald' 18 (h 21 c) dX0_become_17 rfl rfl (by decide) (by omega) rfl ?_
      refine ev_iast' 19 (hq h [(29, pf (h 21) (h 29) (c + 1)), (30, pf (h 22) (h 30) c), (31, pf (h 23) (h 31) c), (32, pf (h 24) (h 32) c)]) dX0_become_18 rfl rfl (by decide) (by omega) (hq_put.trans (by show hq h [(29, up (pf (h 21) (h 29) c) c (h 21 c)), (30, pf (h 22) (h 30) c), (31, pf (h 23) (h 31) c), (32, pf (h 24) (h 32) c)] = _; rw [pf_1 (f := (h 21)) h0])) ?_
      refine ev_aload_n 20 dX0_become_19 rfl rfl ?_
      refine ev_getR 23 fX0_15 rfl dX0_become_20 rfl rfl rfl ?_
      refine ev_iload_n 24 dX0_become_23 rfl rfl ?_
      refine ev_aload_n 25 dX0_become_24 rfl rfl ?_
      refine ev_getR 28 fX0_15 rfl dX0_become_25 rfl rfl rfl ?_
      refine ev_iload_n 29 dX0_become_28 rfl rfl ?_
      refine ev_iald' 30 (h 22 c) dX0_become_29 rfl rfl (by decide) (by omega) rfl ?_
      refine ev_iast' 31 (hq h [(29, pf (h 21) (h 29) (c + 1)), (30, pf (h 22) (h 30) (c + 1)), (31, pf (h 23) (h 31) c), (32, pf (h 24) (h 32) c)]) dX0_become_30 rfl rfl (by decide) (by omega) (hq_put.trans (by show hq h [(29, pf (h 21) (h 29) (c + 1)), (30, up (pf (h 22) (h 30) c) c (h 22 c)), (31, pf (h 23) (h 31) c), (32, pf (h 24) (h 32) c)] = _; rw [pf_1 (f := (h 22)) h0])) ?_
      refine ev_aload_n 32 dX0_become_31 rfl rfl ?_
      refine ev_getR 35 fX0_18 rfl dX0_become_32 rfl rfl rfl ?_
      refine ev_iload_n 36 dX0_become_35 rfl rfl ?_
      refine ev_aload_n 37 dX0_become_36 rfl rfl ?_
      refine ev_getR 40 fX0_18 rfl dX0_become_37 rfl rfl rfl ?_
      refine ev_iload_n 41 dX0_become_40 rfl rfl ?_
      refine ev_zald' 42 (h 23 c) dX0_become_41 rfl rfl (by decide) (by omega) rfl ?_
      refine ev_zast' 43 (hq h [(29, pf (h 21) (h 29) (c + 1)), (30, pf (h 22) (h 30) (c + 1)), (31, pf (h 23) (h 31) (c + 1)), (32, pf (h 24) (h 32) c)]) dX0_become_42 rfl rfl (by decide) (by omega) (by omega) (hq_put.trans (by show hq h [(29, pf (h 21) (h 29) (c + 1)), (30, pf (h 22) (h 30) (c + 1)), (31, up (pf (h 23) (h 31) c) c (h 23 c)), (32, pf (h 24) (h 32) c)] = _; rw [pf_1 (f := (h 23)) h0])) ?_
      refine ev_aload_n 44 dX0_become_43 rfl rfl ?_
      refine ev_getR 47 fX0_22 rfl dX0_become_44 rfl rfl rfl ?_
      refine ev_iload_n 48 dX0_become_47 rfl rfl ?_
      refine ev_aload_n 49 dX0_become_48 rfl rfl ?_
      refine ev_getR 52 fX0_22 rfl dX0_become_49 rfl rfl rfl ?_
      refine ev_iload_n 53 dX0_become_52 rfl rfl ?_
      refine ev_iald' 54 (h 24 c) dX0_become_53 rfl rfl (by decide) (by omega) rfl ?_
      refine ev_iast' 55 (hq h [(29, pf (h 21) (h 29) (c + 1)), (30, pf (h 22) (h 30) (c + 1)), (31, pf (h 23) (h 31) (c + 1)), (32, pf (h 24) (h 32) (c + 1))]) dX0_become_54 rfl rfl (by decide) (by omega) (hq_put.trans (by show hq h [(29, pf (h 21) (h 29) (c + 1)), (30, pf (h 22) (h 30) (c + 1)), (31, pf (h 23) (h 31) (c + 1)), (32, up (pf (h 24) (h 32) c) c (h 24 c))] = _; rw [pf_1 (f := (h 24)) h0])) ?_
      refine ev_iinc 58 dX0_become_55 rfl rfl ?_
      refine ev_goto 2 dX0_become_58 rfl ?_
      exact ih (c + 1) (by omega) (by omega)
theorem c_become64 (hz : ∀ c, 0 ≤ c → c < 5 → h 23 c = 0 ∨ h 23 c = 1) : Ev shC mX0_become 0 [some (vr 6), some (vr 4), none] [] h (RV fun h' => h' = dayB64 h) := by
  refine ev_iconst 1 dX0_become_0 rfl ?_
  refine ev_istore_n 2 dX0_become_1 rfl (Nat.le_of_ble_eq_true rfl) ?_
  exact ev_heap hq4_id (c_become64_loop hz 5 0 (by omega) (by omega))
def dayB45 (h : Hp) : Hp := hq h [(21, pf (h 25) (h 21) 5), (22, pf (h 26) (h 22) 5), (23, pf (h 27) (h 23) 5), (24, pf (h 28) (h 24) 5), (4, up (h 4) 4 (h 5 4))]
theorem c_become45_loop (hz : ∀ c, 0 ≤ c → c < 5 → h 27 c = 0 ∨ h 27 c = 1) : ∀ (k : Nat) (c : Int), 0 ≤ c → c + k = 5 → Ev shC mX0_become 2 [some (vr 4), some (vr 5), some (vi c)] [] (hq h [(21, pf (h 25) (h 21) c), (22, pf (h 26) (h 22) c), (23, pf (h 27) (h 23) c), (24, pf (h 28) (h 24) c)]) (RV fun h' => h' = dayB45 h) := by
  intro k
  induction k with
  | zero =>
    intro c h0 h1
    have e : c = 5 := by omega
    subst e
    refine ev_iload_n 3 dX0_become_2 rfl rfl ?_
    refine ev_iconst 4 dX0_become_3 rfl ?_
    refine ev_icmp_ge 7 61 dX0_become_4 rfl rfl (by omega) (by omega) (fun c4 => ?_) (fun c4 => ?_)
    · refine ev_aload_n 62 dX0_become_61 rfl rfl ?_
      refine ev_aload_n 63 dX0_become_62 rfl rfl ?_
      refine ev_getI' 66 4 (h 5 4) fX0_25 rfl dX0_become_63 rfl rfl rfl (by decide) rfl rfl ?_
      refine ev_putI' 69 4 (dayB45 h) pX0_25 rfl dX0_become_66 rfl rfl rfl rfl hq_put ?_
      exact ev_vret rfl dX0_become_69 (rfl)
    · omega --done
  | succ k ih =>
    intro c h0 h1
    have hzc := hz c h0 (by omega)
    refine ev_iload_n 3 dX0_become_2 rfl rfl ?_
    refine ev_iconst 4 dX0_become_3 rfl ?_
    refine ev_icmp_ge 7 61 dX0_become_4 rfl rfl (by omega) (by omega) (fun c4 => ?_) (fun c4 => ?_)
    · omega --done
    · refine ev_aload_n 8 dX0_become_7 rfl rfl ?_
      refine ev_getR 11 fX0_9 rfl dX0_become_8 rfl rfl rfl ?_
      refine ev_iload_n 12 dX0_become_11 rfl rfl ?_
      refine ev_aload_n 13 dX0_become_12 rfl rfl ?_
      refine ev_getR 16 fX0_9 rfl dX0_become_13 rfl rfl rfl ?_
      refine ev_iload_n 17 dX0_become_16 rfl rfl ?_
      refine ev_iald' 18 (h 25 c) dX0_become_17 rfl rfl (by decide) (by omega) rfl ?_
      refine ev_iast' 19 (hq h [(21, pf (h 25) (h 21) (c + 1)), (22, pf (h 26) (h 22) c), (23, pf (h 27) (h 23) c), (24, pf (h 28) (h 24) c)]) dX0_become_18 rfl rfl (by decide) (by omega) (hq_put.trans (by show hq h [(21, up (pf (h 25) (h 21) c) c (h 25 c)), (22, pf (h 26) (h 22) c), (23, pf (h 27) (h 23) c), (24, pf (h 28) (h 24) c)] = _; rw [pf_1 (f := (h 25)) h0])) ?_
      refine ev_aload_n 20 dX0_become_19 rfl rfl ?_
      refine ev_getR 23 fX0_15 rfl dX0_become_20 rfl rfl rfl ?_
      refine ev_iload_n 24 dX0_become_23 rfl rfl ?_
      refine ev_aload_n 25 dX0_become_24 rfl rfl ?_
      refine ev_getR 28 fX0_15 rfl dX0_become_25 rfl rfl rfl ?_
      refine ev_iload_n 29 dX0_become_28 rfl rfl ?_
      refine ev_iald' 30 (h 26 c) dX0_become_29 rfl rfl (by decide) (by omega) rfl ?_
      refine ev_iast' 31 (hq h [(21, pf (h 25) (h 21) (c + 1)), (22, pf (h 26) (h 22) (c + 1)), (23, pf (h 27) (h 23) c), (24, pf (h 28) (h 24) c)]) dX0_become_30 rfl rfl (by decide) (by omega) (hq_put.trans (by show hq h [(21, pf (h 25) (h 21) (c + 1)), (22, up (pf (h 26) (h 22) c) c (h 26 c)), (23, pf (h 27) (h 23) c), (24, pf (h 28) (h 24) c)] = _; rw [pf_1 (f := (h 26)) h0])) ?_
      refine ev_aload_n 32 dX0_become_31 rfl rfl ?_
      refine ev_getR 35 fX0_18 rfl dX0_become_32 rfl rfl rfl ?_
      refine ev_iload_n 36 dX0_become_35 rfl rfl ?_
      refine ev_aload_n 37 dX0_become_36 rfl rfl ?_
      refine ev_getR 40 fX0_18 rfl dX0_become_37 rfl rfl rfl ?_
      refine ev_iload_n 41 dX0_become_40 rfl rfl ?_
      refine ev_zald' 42 (h 27 c) dX0_become_41 rfl rfl (by decide) (by omega) rfl ?_
      refine ev_zast' 43 (hq h [(21, pf (h 25) (h 21) (c + 1)), (22, pf (h 26) (h 22) (c + 1)), (23, pf (h 27) (h 23) (c + 1)), (24, pf (h 28) (h 24) c)]) dX0_become_42 rfl rfl (by decide) (by omega) (by omega) (hq_put.trans (by show hq h [(21, pf (h 25) (h 21) (c + 1)), (22, pf (h 26) (h 22) (c + 1)), (23, up (pf (h 27) (h 23) c) c (h 27 c)), (24, pf (h 28) (h 24) c)] = _; rw [pf_1 (f := (h 27)) h0])) ?_
      refine ev_aload_n 44 dX0_become_43 rfl rfl ?_
      refine ev_getR 47 fX0_22 rfl dX0_become_44 rfl rfl rfl ?_
      refine ev_iload_n 48 dX0_become_47 rfl rfl ?_
      refine ev_aload_n 49 dX0_become_48 rfl rfl ?_
      refine ev_getR 52 fX0_22 rfl dX0_become_49 rfl rfl rfl ?_
      refine ev_iload_n 53 dX0_become_52 rfl rfl ?_
      refine ev_iald' 54 (h 28 c) dX0_become_53 rfl rfl (by decide) (by omega) rfl ?_
      refine ev_iast' 55 (hq h [(21, pf (h 25) (h 21) (c + 1)), (22, pf (h 26) (h 22) (c + 1)), (23, pf (h 27) (h 23) (c + 1)), (24, pf (h 28) (h 24) (c + 1))]) dX0_become_54 rfl rfl (by decide) (by omega) (hq_put.trans (by show hq h [(21, pf (h 25) (h 21) (c + 1)), (22, pf (h 26) (h 22) (c + 1)), (23, pf (h 27) (h 23) (c + 1)), (24, up (pf (h 28) (h 24) c) c (h 28 c))] = _; rw [pf_1 (f := (h 28)) h0])) ?_
      refine ev_iinc 58 dX0_become_55 rfl rfl ?_
      refine ev_goto 2 dX0_become_58 rfl ?_
      exact ih (c + 1) (by omega) (by omega)
theorem c_become45 (hz : ∀ c, 0 ≤ c → c < 5 → h 27 c = 0 ∨ h 27 c = 1) : Ev shC mX0_become 0 [some (vr 4), some (vr 5), none] [] h (RV fun h' => h' = dayB45 h) := by
  refine ev_iconst 1 dX0_become_0 rfl ?_
  refine ev_istore_n 2 dX0_become_1 rfl (Nat.le_of_ble_eq_true rfl) ?_
  exact ev_heap hq4_id (c_become45_loop hz 5 0 (by omega) (by omega))
def dayB46 (h : Hp) : Hp := hq h [(21, pf (h 29) (h 21) 5), (22, pf (h 30) (h 22) 5), (23, pf (h 31) (h 23) 5), (24, pf (h 32) (h 24) 5), (4, up (h 4) 4 (h 6 4))]
theorem c_become46_loop (hz : ∀ c, 0 ≤ c → c < 5 → h 31 c = 0 ∨ h 31 c = 1) : ∀ (k : Nat) (c : Int), 0 ≤ c → c + k = 5 → Ev shC mX0_become 2 [some (vr 4), some (vr 6), some (vi c)] [] (hq h [(21, pf (h 29) (h 21) c), (22, pf (h 30) (h 22) c), (23, pf (h 31) (h 23) c), (24, pf (h 32) (h 24) c)]) (RV fun h' => h' = dayB46 h) := by
  intro k
  induction k with
  | zero =>
    intro c h0 h1
    have e : c = 5 := by omega
    subst e
    refine ev_iload_n 3 dX0_become_2 rfl rfl ?_
    refine ev_iconst 4 dX0_become_3 rfl ?_
    refine ev_icmp_ge 7 61 dX0_become_4 rfl rfl (by omega) (by omega) (fun c4 => ?_) (fun c4 => ?_)
    · refine ev_aload_n 62 dX0_become_61 rfl rfl ?_
      refine ev_aload_n 63 dX0_become_62 rfl rfl ?_
      refine ev_getI' 66 4 (h 6 4) fX0_25 rfl dX0_become_63 rfl rfl rfl (by decide) rfl rfl ?_
      refine ev_putI' 69 4 (dayB46 h) pX0_25 rfl dX0_become_66 rfl rfl rfl rfl hq_put ?_
      exact ev_vret rfl dX0_become_69 (rfl)
    · omega --done
  | succ k ih =>
    intro c h0 h1
    have hzc := hz c h0 (by omega)
    refine ev_iload_n 3 dX0_become_2 rfl rfl ?_
    refine ev_iconst 4 dX0_become_3 rfl ?_
    refine ev_icmp_ge 7 61 dX0_become_4 rfl rfl (by omega) (by omega) (fun c4 => ?_) (fun c4 => ?_)
    · omega --done
    · refine ev_aload_n 8 dX0_become_7 rfl rfl ?_
      refine ev_getR 11 fX0_9 rfl dX0_become_8 rfl rfl rfl ?_
      refine ev_iload_n 12 dX0_become_11 rfl rfl ?_
      refine ev_aload_n 13 dX0_become_12 rfl rfl ?_
      refine ev_getR 16 fX0_9 rfl dX0_become_13 rfl rfl rfl ?_
      refine ev_iload_n 17 dX0_become_16 rfl rfl ?_
      refine ev_iald' 18 (h 29 c) dX0_become_17 rfl rfl (by decide) (by omega) rfl ?_
      refine ev_iast' 19 (hq h [(21, pf (h 29) (h 21) (c + 1)), (22, pf (h 30) (h 22) c), (23, pf (h 31) (h 23) c), (24, pf (h 32) (h 24) c)]) dX0_become_18 rfl rfl (by decide) (by omega) (hq_put.trans (by show hq h [(21, up (pf (h 29) (h 21) c) c (h 29 c)), (22, pf (h 30) (h 22) c), (23, pf (h 31) (h 23) c), (24, pf (h 32) (h 24) c)] = _; rw [pf_1 (f := (h 29)) h0])) ?_
      refine ev_aload_n 20 dX0_become_19 rfl rfl ?_
      refine ev_getR 23 fX0_15 rfl dX0_become_20 rfl rfl rfl ?_
      refine ev_iload_n 24 dX0_become_23 rfl rfl ?_
      refine ev_aload_n 25 dX0_become_24 rfl rfl ?_
      refine ev_getR 28 fX0_15 rfl dX0_become_25 rfl rfl rfl ?_
      refine ev_iload_n 29 dX0_become_28 rfl rfl ?_
      refine ev_iald' 30 (h 30 c) dX0_become_29 rfl rfl (by decide) (by omega) rfl ?_
      refine ev_iast' 31 (hq h [(21, pf (h 29) (h 21) (c + 1)), (22, pf (h 30) (h 22) (c + 1)), (23, pf (h 31) (h 23) c), (24, pf (h 32) (h 24) c)]) dX0_become_30 rfl rfl (by decide) (by omega) (hq_put.trans (by show hq h [(21, pf (h 29) (h 21) (c + 1)), (22, up (pf (h 30) (h 22) c) c (h 30 c)), (23, pf (h 31) (h 23) c), (24, pf (h 32) (h 24) c)] = _; rw [pf_1 (f := (h 30)) h0])) ?_
      refine ev_aload_n 32 dX0_become_31 rfl rfl ?_
      refine ev_getR 35 fX0_18 rfl dX0_become_32 rfl rfl rfl ?_
      refine ev_iload_n 36 dX0_become_35 rfl rfl ?_
      refine ev_aload_n 37 dX0_become_36 rfl rfl ?_
      refine ev_getR 40 fX0_18 rfl dX0_become_37 rfl rfl rfl ?_
      refine ev_iload_n 41 dX0_become_40 rfl rfl ?_
      refine ev_zald' 42 (h 31 c) dX0_become_41 rfl rfl (by decide) (by omega) rfl ?_
      refine ev_zast' 43 (hq h [(21, pf (h 29) (h 21) (c + 1)), (22, pf (h 30) (h 22) (c + 1)), (23, pf (h 31) (h 23) (c + 1)), (24, pf (h 32) (h 24) c)]) dX0_become_42 rfl rfl (by decide) (by omega) (by omega) (hq_put.trans (by show hq h [(21, pf (h 29) (h 21) (c + 1)), (22, pf (h 30) (h 22) (c + 1)), (23, up (pf (h 31) (h 23) c) c (h 31 c)), (24, pf (h 32) (h 24) c)] = _; rw [pf_1 (f := (h 31)) h0])) ?_
      refine ev_aload_n 44 dX0_become_43 rfl rfl ?_
      refine ev_getR 47 fX0_22 rfl dX0_become_44 rfl rfl rfl ?_
      refine ev_iload_n 48 dX0_become_47 rfl rfl ?_
      refine ev_aload_n 49 dX0_become_48 rfl rfl ?_
      refine ev_getR 52 fX0_22 rfl dX0_become_49 rfl rfl rfl ?_
      refine ev_iload_n 53 dX0_become_52 rfl rfl ?_
      refine ev_iald' 54 (h 32 c) dX0_become_53 rfl rfl (by decide) (by omega) rfl ?_
      refine ev_iast' 55 (hq h [(21, pf (h 29) (h 21) (c + 1)), (22, pf (h 30) (h 22) (c + 1)), (23, pf (h 31) (h 23) (c + 1)), (24, pf (h 32) (h 24) (c + 1))]) dX0_become_54 rfl rfl (by decide) (by omega) (hq_put.trans (by show hq h [(21, pf (h 29) (h 21) (c + 1)), (22, pf (h 30) (h 22) (c + 1)), (23, pf (h 31) (h 23) (c + 1)), (24, up (pf (h 32) (h 24) c) c (h 32 c))] = _; rw [pf_1 (f := (h 32)) h0])) ?_
      refine ev_iinc 58 dX0_become_55 rfl rfl ?_
      refine ev_goto 2 dX0_become_58 rfl ?_
      exact ih (c + 1) (by omega) (by omega)
theorem c_become46 (hz : ∀ c, 0 ≤ c → c < 5 → h 31 c = 0 ∨ h 31 c = 1) : Ev shC mX0_become 0 [some (vr 4), some (vr 6), none] [] h (RV fun h' => h' = dayB46 h) := by
  refine ev_iconst 1 dX0_become_0 rfl ?_
  refine ev_istore_n 2 dX0_become_1 rfl (Nat.le_of_ble_eq_true rfl) ?_
  exact ev_heap hq4_id (c_become46_loop hz 5 0 (by omega) (by omega))
end CD
