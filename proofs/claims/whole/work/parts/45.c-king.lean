theorem raF_ag {w w' : Int → Int} : ∀ k : Nat, (∀ i : Int, 0 ≤ i → i ≤ k → w i = w' i) → raF w k = raF w' k := by
  intro k
  induction k with
  | zero => intro _; rfl
  | succ k ih =>
    intro h
    unfold raF
    rw [h (k + 1) (by omega) (by omega), h k (by omega) (by omega), ih (fun i a b => h i a (by omega))]
theorem laF_ag {w w' : Int → Int} {ra n : Int} (hra : 0 ≤ ra ∧ ra < n) (h : ag n w w') : ∀ (k : Nat) (l : Int), ra < l → l < n → laF w ra k l = laF w' ra k l := by
  intro k
  induction k with
  | zero => intro l _ _; rfl
  | succ k ih =>
    intro l h0 h1
    unfold laF
    rw [h l (by omega) h1, h ra hra.1 hra.2]
    by_cases q : ra + 1 < l ∧ w' l < w' ra
    · rw [if_pos q, if_pos q, ih _ (by omega) (by omega)]
    · rw [if_neg q, if_neg q]
theorem swF_ag {w w' : Int → Int} {c e n : Int} (hc : 0 ≤ c ∧ c < n) (he : 0 ≤ e ∧ e < n) (h : ag n w w') : ag n (swF w c e) (swF w' c e) := by
  unfold swF
  rw [h c hc.1 hc.2, h e he.1 he.2]
  exact ag_up (ag_up h _ _) _ _
theorem reF_ag {n : Int} : ∀ (k : Nat) (l r : Int) (w w' : Int → Int), 0 ≤ l → r < n → ag n w w' → ag n (reF k l r w) (reF k l r w') := by
  intro k
  induction k with
  | zero => intro l r w w' _ _ h; exact h
  | succ k ih =>
    intro l r w w' h0 h1 h
    unfold reF
    by_cases q : l < r
    · rw [if_pos q, if_pos q]
      exact ih _ _ _ _ (by omega) (by omega) (swF_ag ⟨h0, by omega⟩ ⟨by omega, h1⟩ h)
    · rw [if_neg q, if_neg q]; exact h
theorem nextP_ag {n : Int} {w w' : Int → Int} (hn : 0 < n) (h : ag n w w') : (nextP n w).1 = (nextP n w').1 ∧ ag n (nextP n w).2 (nextP n w').2 := by
  have e1 := raF_ag (w := w) (w' := w') (n - 1).toNat (fun i a b => h i a (by omega))
  have hr := raF_r (w := w') (n - 1).toNat
  unfold nextP
  rw [e1]
  by_cases q : raF w' (n - 1).toNat < 0
  · rw [if_pos q, if_pos q]; exact ⟨rfl, h⟩
  · rw [if_neg q, if_neg q]
    have hl := laF_r (w := w') (ra := raF w' (n - 1).toNat) 5 (n - 1) (by omega)
    rw [laF_ag ⟨by omega, by omega⟩ h 5 (n - 1) (by omega) (by omega)]
    exact ⟨rfl, reF_ag _ _ _ _ _ (by omega) (by omega) (swF_ag ⟨by omega, by omega⟩ ⟨by omega, by omega⟩ h)⟩
theorem chn_nx {n : Int} {a b : Nat} {L : List Nat} (h : chn n (a :: b :: L) = true) : (nextP n (dgt n a)).1 = true ∧ ag n (nextP n (dgt n a)).2 (dgt n b) ∧ chn n (b :: L) = true := by
  have h : (nxOK n a b && chn n (b :: L)) = true := h
  rw [Bool.and_eq_true] at h
  have h1 := h.1
  unfold nxOK at h1
  rw [Bool.and_eq_true, List.all_eq_true] at h1
  refine ⟨h1.1, fun e a1 b1 => ?_, h.2⟩
  have := of_decide_eq_true (h1.2 e.toNat (List.mem_range.mpr (by omega)))
  rwa [Int.toNat_of_nonneg a1] at this
theorem chn_end {n : Int} {a : Nat} (h : chn n [a] = true) : (nextP n (dgt n a)).1 = false := by
  have h : (!(nextP n (dgt n a)).1) = true := h
  rwa [Bool.not_eq_true'] at h
/-- who wins by a way -/
def gainW (h : Hp) (w : Int → Int) (ill c : Int) : Int := gainZ (if bit ill (w c) = 0 then h 16 (w c) else 1) (h 14 c) (h 23 c)
def winV (h : Hp) (w : Int → Int) : Int := (raceC (h 13) (h 2 4) (h 2 5) (h 22) (gainW h w 0) (h 2 5)).2.2.2.1 0
theorem winV_ag {h : Hp} (hW : CW h) {w w' : Int → Int} (hw : ∀ c, 0 ≤ c → c < h 2 5 → 0 ≤ w c ∧ w c < h 2 5) (e : ag (h 2 5) w w') : winV h w = winV h w' := by
  have hn := hW.1.1
  have hA := race_ag (w := h 2 5) (cost := h 13) (cl := h 2 4) (n := h 2 5) (hand := h 22) (hand' := h 22) (g := gainW h w 0) (g' := gainW h w' 0) (by omega) ag_rf (fun c a b => by unfold gainW; rw [e c a b]) 1000 1 ((fun _ => 0, fun _ => 0, fun _ => 0, fun _ => 0, 0) : RS) ((fun _ => 0, fun _ => 0, fun _ => 0, fun _ => 0, 0) : RS) ⟨ag_rf, ag_rf, ag_rf, fun _ _ _ => rfl, rfl⟩
  have hO := raceK_ok (h := hput h 38 w) (a := 38) ⟨hW.1, hW.2⟩ hw 0 (w := h 2 5) (Int.le_refl _)
  have hO2 : h 2 5 ≤ (raceF (h 13) (h 2 4) (h 2 5) (h 22) (gainW h w 0) 1000 1 (h 2 5) ((fun _ => 0, fun _ => 0, fun _ => 0, fun _ => 0, 0) : RS)).2.2.2.2 := hO.2.1
  exact hA.2.2.2.1 0 (by omega) (by omega)
theorem winV_r {h : Hp} (hW : CW h) {w : Int → Int} (hw : ∀ c, 0 ≤ c → c < h 2 5 → 0 ≤ w c ∧ w c < h 2 5) : 0 ≤ winV h w ∧ winV h w < h 2 5 := winK_r (h := hput h 38 w) (a := 38) ⟨hW.1, hW.2⟩ hw 0
theorem dgt_r {n : Int} (hn : 0 < n) (code : Int) : ∀ c, 0 ≤ c → c < n → 0 ≤ dgt n code c ∧ dgt n code c < n := fun c a b => fill_r hn n.toNat code _ c a (by omega)
theorem PsC.W {h h' : Hp} (p : PsC h h') (hW : CW h) : CW h' := by
  unfold CW CCh at hW ⊢
  rw [p.1 13 rfl, p.1 2 rfl, p.1 14 rfl, p.1 16 rfl, p.1 22 rfl, p.1 23 rfl]
  exact hW
theorem winV_P {h h' : Hp} (p : PsC h h') (w : Int → Int) : winV h' w = winV h w := by
  unfold winV gainW
  rw [p.1 13 rfl, p.1 2 rfl, p.1 14 rfl, p.1 16 rfl, p.1 22 rfl, p.1 23 rfl]
def chgN (n : Int) (w pu : Int → Int) : Int := cntB (fun c => decide (w c ≠ pu c)) n.toNat
section KC
variable {h : Hp}
theorem c_startWays_loop : ∀ (k : Nat) (c : Int) (g : Int → Int), 0 ≤ c → c + k = 5 → (∀ e, 0 ≤ e → e < c → g e = e) → Ev shC mX2_startWays 2 [some (vr 9), some (vi c)] [] (hput h 38 g) (RV fun h' => ∃ g, h' = hput h 38 g ∧ ∀ e, 0 ≤ e → e < 5 → g e = e) := by
  intro k
  induction k with
  | zero =>
    intro c g h0 h1 hg
    refine ev_iload_n 3 dX2_startWays_2 rfl rfl ?_
    refine ev_iconst 4 dX2_startWays_3 rfl ?_
    refine ev_icmp_ge 7 20 dX2_startWays_4 rfl rfl (by omega) (by omega) (fun c4 => ?_) (fun c4 => ?_)
    · exact ev_vret rfl dX2_startWays_20 (⟨g, rfl, fun e a b => hg e a (by omega)⟩)
    · omega --done
  | succ k ih =>
    intro c g h0 h1 hg
    refine ev_iload_n 3 dX2_startWays_2 rfl rfl ?_
    refine ev_iconst 4 dX2_startWays_3 rfl ?_
    refine ev_icmp_ge 7 20 dX2_startWays_4 rfl rfl (by omega) (by omega) (fun c4 => ?_) (fun c4 => ?_)
    · omega --done
    · refine ev_aload_n 8 dX2_startWays_7 rfl rfl ?_
      refine ev_getR 11 fX2_32 rfl dX2_startWays_8 rfl rfl rfl ?_
      refine ev_iload_n 12 dX2_startWays_11 rfl rfl ?_
      refine ev_iload_n 13 dX2_startWays_12 rfl rfl ?_
      refine ev_iast' 14 (hput h 38 (up g c c)) dX2_startWays_13 rfl rfl (by decide) (by omega) hput_hput ?_
      refine ev_iinc 17 dX2_startWays_14 rfl rfl ?_
      refine ev_goto 2 dX2_startWays_17 rfl ?_
      refine ih (c + 1) _ (by omega) (by omega) (fun e a b => ?_)
      by_cases q : e = c
      · subst q; rw [up_s]
      · rw [up_n q]; exact hg e a (by omega)
theorem c_startWays : Ev shC mX2_startWays 0 [some (vr 9), none] [] h (RV fun h' => ∃ g, h' = hput h 38 g ∧ ∀ e, 0 ≤ e → e < 5 → g e = e) := by
  have K := c_startWays_loop (h := h) 5 0 (h 38) (by omega) (by omega) (fun e a b => by omega)
  rw [hput_id] at K
  refine ev_iconst 1 dX2_startWays_0 rfl ?_
  refine ev_istore_n 2 dX2_startWays_1 rfl (Nat.le_of_ble_eq_true rfl) ?_
  exact K
theorem c_chg_loop (hn : 0 ≤ h 2 5 ∧ h 2 5 ≤ 5) (h1 : ∀ c, 0 ≤ c → c < h 2 5 → R32 (h 38 c)) (h2 : ∀ c, 0 ≤ c → c < h 2 5 → R32 (h 21 c)) : ∀ (k : Nat) (c : Int), 0 ≤ c → c + k = h 2 5 → Ev shC mX2_changedByWay 4 [some (vr 9), some (vi (cntB (fun c => decide (h 38 c ≠ h 21 c)) c.toNat)), some (vi c)] [] h (RI fun x h' => x = chgN (h 2 5) (h 38) (h 21) ∧ h = h') := by
  intro k
  induction k with
  | zero =>
    intro c h0 h3
    have he : c = h 2 5 := by omega
    subst he
    refine ev_iload_n 5 dX2_changedByWay_4 rfl rfl ?_
    refine ev_aload_n 6 dX2_changedByWay_5 rfl rfl ?_
    refine ev_getR 9 fX2_12 rfl dX2_changedByWay_6 rfl rfl rfl ?_
    refine ev_getI 12 5 fX2_49 rfl dX2_changedByWay_9 rfl rfl rfl (by decide) rfl ?_
    refine ev_icmp_ge 15 42 dX2_changedByWay_12 rfl rfl (by omega) (by omega) (fun c12 => ?_) (fun c12 => ?_)
    · refine ev_iload_n 43 dX2_changedByWay_42 rfl rfl ?_
      exact ev_iret rfl dX2_changedByWay_43 (⟨rfl, rfl⟩)
    · omega --done
  | succ k ih =>
    intro c h0 h3
    have a1 := h1 c h0 (by omega)
    have a2 := h2 c h0 (by omega)
    have K := ih (c + 1) (by omega) (by omega)
    have e1 : cntB (fun c => decide (h 38 c ≠ h 21 c)) (c + 1).toNat = cntB (fun c => decide (h 38 c ≠ h 21 c)) c.toNat + (if decide (h 38 c ≠ h 21 c) = true then 1 else 0) := by
      rw [show (c + 1).toNat = c.toNat + 1 by omega]
      show cntB (fun c => decide (h 38 c ≠ h 21 c)) c.toNat + (if decide (h 38 (c.toNat : Int) ≠ h 21 (c.toNat : Int)) = true then 1 else 0) = _
      rw [Int.toNat_of_nonneg h0]
    rw [e1] at K
    refine ev_iload_n 5 dX2_changedByWay_4 rfl rfl ?_
    refine ev_aload_n 6 dX2_changedByWay_5 rfl rfl ?_
    refine ev_getR 9 fX2_12 rfl dX2_changedByWay_6 rfl rfl rfl ?_
    refine ev_getI 12 5 fX2_49 rfl dX2_changedByWay_9 rfl rfl rfl (by decide) rfl ?_
    refine ev_icmp_ge 15 42 dX2_changedByWay_12 rfl rfl (by omega) (by omega) (fun c12 => ?_) (fun c12 => ?_)
    · omega --done
    · refine ev_aload_n 16 dX2_changedByWay_15 rfl rfl ?_
      refine ev_getR 19 fX2_32 rfl dX2_changedByWay_16 rfl rfl rfl ?_
      refine ev_iload_n 20 dX2_changedByWay_19 rfl rfl ?_
      refine ev_iald 21 dX2_changedByWay_20 rfl rfl (by decide) (by omega) ?_
      refine ev_aload_n 22 dX2_changedByWay_21 rfl rfl ?_
      refine ev_getR 25 fX2_21 rfl dX2_changedByWay_22 rfl rfl rfl ?_
      refine ev_getR 28 fX2_42 rfl dX2_changedByWay_25 rfl rfl rfl ?_
      refine ev_iload_n 29 dX2_changedByWay_28 rfl rfl ?_
      refine ev_iald 30 dX2_changedByWay_29 rfl rfl (by decide) (by omega) ?_
      refine ev_icmp_eq 33 36 dX2_changedByWay_30 rfl rfl (by omega) (by omega) (fun c30 => ?_) (fun c30 => ?_)
      · rw [if_neg (by rw [decide_eq_false (by simpa using c30)]; decide), Int.add_zero] at K
        refine ev_iinc 39 dX2_changedByWay_36 rfl rfl ?_
        refine ev_goto 4 dX2_changedByWay_39 rfl ?_
        exact K
      · rw [if_pos (decide_eq_true c30)] at K
        refine ev_iinc 36 dX2_changedByWay_33 rfl rfl ?_
        refine ev_iinc 39 dX2_changedByWay_36 rfl rfl ?_
        refine ev_goto 4 dX2_changedByWay_39 rfl ?_
        exact K
theorem c_changedByWay (hn : 0 ≤ h 2 5 ∧ h 2 5 ≤ 5) (h1 : ∀ c, 0 ≤ c → c < h 2 5 → R32 (h 38 c)) (h2 : ∀ c, 0 ≤ c → c < h 2 5 → R32 (h 21 c)) : Ev shC mX2_changedByWay 0 [some (vr 9), none, none] [] h (RI fun x h' => x = chgN (h 2 5) (h 38) (h 21) ∧ h = h') := by
  refine ev_iconst 1 dX2_changedByWay_0 rfl ?_
  refine ev_istore_n 2 dX2_changedByWay_1 rfl (Nat.le_of_ble_eq_true rfl) ?_
  refine ev_iconst 3 dX2_changedByWay_2 rfl ?_
  refine ev_istore_n 4 dX2_changedByWay_3 rfl (Nat.le_of_ble_eq_true rfl) ?_
  exact c_chg_loop hn h1 h2 (h 2 5).toNat 0 (by omega) (by omega)
end KC
