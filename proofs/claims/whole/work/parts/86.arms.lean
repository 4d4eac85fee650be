section AR
variable {p : Program} {l : Launch} {e : Env} {s : State} {m : MethodId} {below : List Frame} {meth : Method} {c : Code} {b L : Nat} {xs : Nat → Int32} {D : va_G} {cA : Nat → ClassId} {aC aM : Nat → Nat} {pc : Nat} {i : Int} {st : List Value} {hC hM : Hp}
theorem arm0 (C : LCx p s m meth c b L xs D cA aC aM) {MC MM : MI} {iC iM : Nat} {off : Int} (ag : Agr hC hM MC MM []) (kC : CV mL_law MC iC 0) (kM : CV mL_law MM iM 0) (qC : RX8 = MC.1.cls) (qM : RX9 = MM.1.cls) (lC : 1 ≤ MC.2.2.1) (lM : 1 ≤ MM.2.2.1) (d0 : decode code pc = .ok (.aload_n 1, 1)) (d1 : decode code (pc + 1) = .ok (.invokevirtual iC, 3)) (d2 : decode code (pc + 4) = .ok (.aload_n 2, 1)) (d3 : decode code (pc + 5) = .ok (.invokevirtual iM, 3)) (d4 : decode code (pc + 8) = .ok (.if_icmp .eq off, 3)) (ht : ((pc + 8 : Nat) : Int) + off = ((754 : Nat) : Int)) (K : ∀ h' h'', Rel h' h'' → LV p l e s m below meth c b D cA aC aM 754 i [] h' h'') : LV p l e s m below meth c b D cA aC aM pc i [] hC hM := by
  obtain ⟨PC, PM, e1, e2, e3⟩ := ag
  refine lx_c C d0 ?_
  refine lx_callC C [] kC d1 qC lC (nLg_all rfl) (Nat.zero_le _) e1 rfl (fun v h' hp => ?_)
  obtain ⟨x, rfl, hx⟩ := hp
  refine lx_m C d2 ?_
  refine lx_callM C [] kM d3 qM lM (nLg_all rfl) (Nat.le_of_ble_eq_true rfl) e2 rfl (fun v h'' hp => ?_)
  obtain ⟨y, rfl, hy⟩ := hp
  obtain ⟨exy, rel⟩ := e3 x h' y h'' hx hy
  exact lx_eq C d4 ht exy (K h' h'' rel)
theorem arm1 (C : LCx p s m meth c b L xs D cA aC aM) {MC MM : MI} {iC iM : Nat} {off : Int} (hi : 0 ≤ i) (hL : i + 4 ≤ L) (ag : Agr hC hM MC MM [vi (xs (i + 1).toNat).toInt]) (kC : CV mL_law MC iC 1) (kM : CV mL_law MM iM 1) (qC : RX8 = MC.1.cls) (qM : RX9 = MM.1.cls) (lC : 2 ≤ MC.2.2.1) (lM : 2 ≤ MM.2.2.1) (s1 : SL (pc + 1) 1) (t1 : SL (pc + 10) 1) (d0 : decode code pc = .ok (.aload_n 1, 1)) (d1 : decode code (pc + 6) = .ok (.invokevirtual iC, 3)) (d2 : decode code (pc + 9) = .ok (.aload_n 2, 1)) (d3 : decode code (pc + 15) = .ok (.invokevirtual iM, 3)) (d4 : decode code (pc + 18) = .ok (.if_icmp .eq off, 3)) (ht : ((pc + 18 : Nat) : Int) + off = ((754 : Nat) : Int)) (K : ∀ h' h'', Rel h' h'' → LV p l e s m below meth c b D cA aC aM 754 i [] h' h'') : LV p l e s m below meth c b D cA aC aM pc i [] hC hM := by
  obtain ⟨PC, PM, e1, e2, e3⟩ := ag
  refine lx_c C d0 ?_
  refine lx_s C s1 hi (by decide) (by omega) ?_
  refine lx_callC C [vi (xs (i + 1).toNat).toInt] kC d1 qC lC (nLg_all rfl) (Nat.zero_le _) e1 rfl (fun v h' hp => ?_)
  obtain ⟨x, rfl, hx⟩ := hp
  refine lx_m C d2 ?_
  refine lx_s C t1 hi (by decide) (by omega) ?_
  refine lx_callM C [vi (xs (i + 1).toNat).toInt] kM d3 qM lM (nLg_all rfl) (Nat.le_of_ble_eq_true rfl) e2 rfl (fun v h'' hp => ?_)
  obtain ⟨y, rfl, hy⟩ := hp
  obtain ⟨exy, rel⟩ := e3 x h' y h'' hx hy
  exact lx_eq C d4 ht exy (K h' h'' rel)
theorem arm2 (C : LCx p s m meth c b L xs D cA aC aM) {MC MM : MI} {iC iM : Nat} {off : Int} (hi : 0 ≤ i) (hL : i + 4 ≤ L) (ag : Agr hC hM MC MM [vi (xs (i + 1).toNat).toInt, vi (xs (i + 2).toNat).toInt]) (kC : CV mL_law MC iC 2) (kM : CV mL_law MM iM 2) (qC : RX8 = MC.1.cls) (qM : RX9 = MM.1.cls) (lC : 3 ≤ MC.2.2.1) (lM : 3 ≤ MM.2.2.1) (s1 : SL (pc + 1) 1) (s2 : SL (pc + 6) 2) (t1 : SL (pc + 15) 1) (t2 : SL (pc + 20) 2) (d0 : decode code pc = .ok (.aload_n 1, 1)) (d1 : decode code (pc + 11) = .ok (.invokevirtual iC, 3)) (d2 : decode code (pc + 14) = .ok (.aload_n 2, 1)) (d3 : decode code (pc + 25) = .ok (.invokevirtual iM, 3)) (d4 : decode code (pc + 28) = .ok (.if_icmp .eq off, 3)) (ht : ((pc + 28 : Nat) : Int) + off = ((754 : Nat) : Int)) (K : ∀ h' h'', Rel h' h'' → LV p l e s m below meth c b D cA aC aM 754 i [] h' h'') : LV p l e s m below meth c b D cA aC aM pc i [] hC hM := by
  obtain ⟨PC, PM, e1, e2, e3⟩ := ag
  refine lx_c C d0 ?_
  refine lx_s C s1 hi (by decide) (by omega) ?_
  refine lx_s C s2 hi (by decide) (by omega) ?_
  refine lx_callC C [vi (xs (i + 1).toNat).toInt, vi (xs (i + 2).toNat).toInt] kC d1 qC lC (nLg_all rfl) (Nat.zero_le _) e1 rfl (fun v h' hp => ?_)
  obtain ⟨x, rfl, hx⟩ := hp
  refine lx_m C d2 ?_
  refine lx_s C t1 hi (by decide) (by omega) ?_
  refine lx_s C t2 hi (by decide) (by omega) ?_
  refine lx_callM C [vi (xs (i + 1).toNat).toInt, vi (xs (i + 2).toNat).toInt] kM d3 qM lM (nLg_all rfl) (Nat.le_of_ble_eq_true rfl) e2 rfl (fun v h'' hp => ?_)
  obtain ⟨y, rfl, hy⟩ := hp
  obtain ⟨exy, rel⟩ := e3 x h' y h'' hx hy
  exact lx_eq C d4 ht exy (K h' h'' rel)
theorem arm3 (C : LCx p s m meth c b L xs D cA aC aM) {MC MM : MI} {iC iM : Nat} {off : Int} (hi : 0 ≤ i) (hL : i + 4 ≤ L) (ag : Agr hC hM MC MM [vi (xs (i + 1).toNat).toInt, vi (xs (i + 2).toNat).toInt, vi (xs (i + 3).toNat).toInt]) (kC : CV mL_law MC iC 3) (kM : CV mL_law MM iM 3) (qC : RX8 = MC.1.cls) (qM : RX9 = MM.1.cls) (lC : 4 ≤ MC.2.2.1) (lM : 4 ≤ MM.2.2.1) (s1 : SL (pc + 1) 1) (s2 : SL (pc + 6) 2) (s3 : SL (pc + 11) 3) (t1 : SL (pc + 20) 1) (t2 : SL (pc + 25) 2) (t3 : SL (pc + 30) 3) (d0 : decode code pc = .ok (.aload_n 1, 1)) (d1 : decode code (pc + 16) = .ok (.invokevirtual iC, 3)) (d2 : decode code (pc + 19) = .ok (.aload_n 2, 1)) (d3 : decode code (pc + 35) = .ok (.invokevirtual iM, 3)) (d4 : decode code (pc + 38) = .ok (.if_icmp .eq off, 3)) (ht : ((pc + 38 : Nat) : Int) + off = ((754 : Nat) : Int)) (K : ∀ h' h'', Rel h' h'' → LV p l e s m below meth c b D cA aC aM 754 i [] h' h'') : LV p l e s m below meth c b D cA aC aM pc i [] hC hM := by
  obtain ⟨PC, PM, e1, e2, e3⟩ := ag
  refine lx_c C d0 ?_
  refine lx_s C s1 hi (by decide) (by omega) ?_
  refine lx_s C s2 hi (by decide) (by omega) ?_
  refine lx_s C s3 hi (by decide) (by omega) ?_
  refine lx_callC C [vi (xs (i + 1).toNat).toInt, vi (xs (i + 2).toNat).toInt, vi (xs (i + 3).toNat).toInt] kC d1 qC lC (nLg_all rfl) (Nat.zero_le _) e1 rfl (fun v h' hp => ?_)
  obtain ⟨x, rfl, hx⟩ := hp
  refine lx_m C d2 ?_
  refine lx_s C t1 hi (by decide) (by omega) ?_
  refine lx_s C t2 hi (by decide) (by omega) ?_
  refine lx_s C t3 hi (by decide) (by omega) ?_
  refine lx_callM C [vi (xs (i + 1).toNat).toInt, vi (xs (i + 2).toNat).toInt, vi (xs (i + 3).toNat).toInt] kM d3 qM lM (nLg_all rfl) (Nat.le_of_ble_eq_true rfl) e2 rfl (fun v h'' hp => ?_)
  obtain ⟨y, rfl, hy⟩ := hp
  obtain ⟨exy, rel⟩ := e3 x h' y h'' hx hy
  exact lx_eq C d4 ht exy (K h' h'' rel)
theorem armT (C : LCx p s m meth c b L xs D cA aC aM) (r : Rel hC hM) (K : ∀ h' h'', Rel h' h'' → LV p l e s m below meth c b D cA aC aM 754 i [] h' h'') : LV p l e s m below meth c b D cA aC aM 740 i [] hC hM := by
  obtain ⟨PC, PM, e1, e2, e3⟩ := a_trace r
  refine lx_c C dL_law_740 ?_
  refine lx_callC C [] kL_113 dL_law_741 rfl (by decide) (nLg_all rfl) (Nat.zero_le _) e1 rfl (fun v h' hp => ?_)
  obtain ⟨x, rfl, hx⟩ := hp
  refine lx_m C dL_law_744 ?_
  refine lx_callM C [] kL_117 dL_law_745 rfl (by decide) (nLg_all rfl) (Nat.le_of_ble_eq_true rfl) e2 rfl (fun v h'' hp => ?_)
  obtain ⟨y, rfl, hy⟩ := hp
  obtain ⟨exy, rel⟩ := e3 x h' y h'' hx hy
  subst exy
  intro H locs las h1 h2 h3 h4 h5 h6
  refine W.lcmp C.1.1 C.1.2.1 dL_law_748 ?_
  refine lv_if_eq (tgt := 754) C.1.1 C.1.2.1 dL_law_749 (by decide) (fun _ => K h' h'' rel H locs las h1 h2 h3 h4 h5 h6) (fun w => absurd ?_ w)
  unfold lg_cmp
  rw [if_neg (Int64.lt_irrefl), if_pos rfl]
end AR
