def fkS (h : Hp) (c : Int) (r : Int × (Int → Int)) (a : Nat) : Int × (Int → Int) := if chgN (h 2 5) (dgt (h 2 5) a) (h 21) < r.1 ∧ winV h (dgt (h 2 5) a) = c then (chgN (h 2 5) (dgt (h 2 5) a) (h 21), dgt (h 2 5) a) else r
theorem chg_ag {n : Int} {w w' pu : Int → Int} (hn : 0 ≤ n) (e : ag n w w') : chgN n w pu = chgN n w' pu := cntB_congr (fun c a b => by rw [e c a (by omega)])
theorem chg_r {n : Int} {w pu : Int → Int} (hn : 0 ≤ n ∧ n ≤ 5) : 0 ≤ chgN n w pu ∧ chgN n w pu ≤ 5 := by
  have := cntB_rng (fun c => decide (w c ≠ pu c)) n.toNat
  unfold chgN
  omega
section KD
variable {h : Hp}
theorem c_fk_one (hW : CW h) (hw : WY h 21) {c : Int} (hc : 0 ≤ c ∧ c < h 2 5) (L : List Nat) (a : Nat) (t : Int) (r : Int × (Int → Int)) (H : Hp) (o5 : Option AV) (ht : 0 ≤ t) (hL : t + (L.length : Int) + 1 ≤ 120) (p : PsC h H) (q38 : ag (h 2 5) (H 38) (dgt (h 2 5) a)) (hr : 0 ≤ r.1 ∧ r.1 ≤ 6) (hk : r.1 ≤ 5 → ag (h 2 5) (H 39) r.2) (K : ∀ (H3 : Hp) (r3 : Int × (Int → Int)), PsC h H3 → H3 38 = H 38 → (0 ≤ r3.1 ∧ r3.1 ≤ 6) → (r3.1 ≤ 5 → ag (h 2 5) (H3 39) r3.2) → ∃ q, q = L.foldl (fkS h c) r3 ∧ (ag (h 2 5) (H3 38) (dgt (h 2 5) a) → Ev shC mX2_findKing 69 [some (vr 9), some (vi c), some (vi r3.1), some (vi 1), some (vi t), some (vi (chgN (h 2 5) (dgt (h 2 5) a) (h 21)))] [vi (b2i (nextP (h 2 5) (H3 38)).1)] (hput H3 38 (nextP (h 2 5) (H3 38)).2) (RI fun x h' => PsC h h' ∧ x = (if 5 < q.1 then -9 else q.1) ∧ (q.1 ≤ 5 → ag (h 2 5) (h' 39) q.2)))) : Ev shC mX2_findKing 12 [some (vr 9), some (vi c), some (vi r.1), some (vi 1), some (vi t), o5] [] H (RI fun x h' => PsC h h' ∧ x = (if 5 < ((a :: L).foldl (fkS h c) r).1 then -9 else ((a :: L).foldl (fkS h c) r).1) ∧ (((a :: L).foldl (fkS h c) r).1 ≤ 5 → ag (h 2 5) (h' 39) ((a :: L).foldl (fkS h c) r).2)) := by
  have hn : 0 < h 2 5 ∧ h 2 5 ≤ 5 := ⟨hW.1.1, hW.1.2.1⟩
  have e2 : H 2 = h 2 := p.1 2 rfl
  have e21 : H 21 = h 21 := p.1 21 rfl
  have hd := dgt_r hn.1 (a : Int)
  have h38 : ∀ i, 0 ≤ i → i < h 2 5 → 0 ≤ H 38 i ∧ H 38 i < h 2 5 := fun i a1 b1 => by rw [q38 i a1 b1]; exact hd i a1 b1
  have hcg := chg_r (n := h 2 5) (w := dgt (h 2 5) a) (pu := h 21) ⟨by omega, hn.2⟩
  have hwn := winV_r hW (w := dgt (h 2 5) a) hd
  have hst : (a :: L).foldl (fkS h c) r = L.foldl (fkS h c) (fkS h c r a) := rfl
  rw [hst]
  have nx : ∀ (H3 : Hp), PsC h H3 → H3 38 = H 38 → (0 ≤ (fkS h c r a).1 ∧ (fkS h c r a).1 ≤ 6) → ((fkS h c r a).1 ≤ 5 → ag (h 2 5) (H3 39) (fkS h c r a).2) → Ev shC mX2_findKing 65 [some (vr 9), some (vi c), some (vi (fkS h c r a).1), some (vi 1), some (vi t), some (vi (chgN (h 2 5) (dgt (h 2 5) a) (h 21)))] [] H3 (RI fun x h' => PsC h h' ∧ x = (if 5 < (L.foldl (fkS h c) (fkS h c r a)).1 then -9 else (L.foldl (fkS h c) (fkS h c r a)).1) ∧ ((L.foldl (fkS h c) (fkS h c r a)).1 ≤ 5 → ag (h 2 5) (h' 39) (L.foldl (fkS h c) (fkS h c r a)).2)) := by
    intro H3 p3 e38 hr3 hk3
    obtain ⟨q, hq, KK⟩ := K H3 _ p3 e38 hr3 hk3
    have e2' : H3 2 = h 2 := p3.1 2 rfl
    rw [← hq]
    refine ev_aload_n 66 dX2_findKing_65 rfl rfl ?_
    refine cVi0 69 kX2_findKing_67 dX2_findKing_66 rfl rfl rfl rfl rfl (by decide) rfl (Nat.le_of_ble_eq_true rfl) (c_toNextWay (by rw [e2']; exact hn) (fun i a1 b1 => by rw [e38]; rw [e2'] at b1; have := h38 i a1 b1; omega)) ?_
    rintro x _ ⟨rfl, rfl⟩
    rw [e2']
    exact KK (by rw [e38]; exact q38)
  have no : ¬ (chgN (h 2 5) (dgt (h 2 5) a) (h 21) < r.1 ∧ winV h (dgt (h 2 5) a) = c) → fkS h c r a = r := fun z => if_neg z
  have yes : (chgN (h 2 5) (dgt (h 2 5) a) (h 21) < r.1 ∧ winV h (dgt (h 2 5) a) = c) → fkS h c r a = (chgN (h 2 5) (dgt (h 2 5) a) (h 21), dgt (h 2 5) a) := fun z => if_pos z
  refine ev_iload 14 dX2_findKing_12 rfl rfl ?_
  refine ev_bipush 16 dX2_findKing_14 rfl (by decide +kernel) ?_
  refine ev_icmp_ge 19 76 dX2_findKing_16 rfl rfl (by omega) (by omega) (fun c16 => ?_) (fun c16 => ?_)
  · omega --done
  · refine ev_iload_n 20 dX2_findKing_19 rfl rfl ?_
    refine ev_if_eq 23 76 dX2_findKing_20 rfl rfl (by omega) (fun c20 => ?_) (fun c20 => ?_)
    · omega --done
    · refine ev_aload_n 24 dX2_findKing_23 rfl rfl ?_
      refine cVi0 27 kX2_findKing_71 dX2_findKing_24 rfl rfl rfl rfl rfl (by decide) rfl (Nat.le_of_ble_eq_true rfl) (c_changedByWay (by rw [e2]; omega) (fun i a1 b1 => by rw [e2] at b1; have := h38 i a1 b1; omega) (fun i a1 b1 => by rw [e21]; rw [e2] at b1; have := hw i a1 b1; omega)) ?_
      rintro x _ ⟨e24, rfl⟩
      rw [e2, e21, chg_ag (by omega) q38] at e24
      rw [e24]
      refine ev_istore 29 dX2_findKing_27 rfl (Nat.le_of_ble_eq_true rfl) ?_
      refine ev_iload 31 dX2_findKing_29 rfl rfl ?_
      refine ev_iload_n 32 dX2_findKing_31 rfl rfl ?_
      refine ev_icmp_ge 35 65 dX2_findKing_32 rfl rfl (by omega) (by omega) (fun c32 => ?_) (fun c32 => ?_)
      · rw [no (by omega)] at nx ⊢
        exact nx H p rfl hr hk --done
      · refine ev_aload_n 36 dX2_findKing_35 rfl rfl ?_
        refine ev_aload_n 37 dX2_findKing_36 rfl rfl ?_
        refine ev_getR 40 fX2_32 rfl dX2_findKing_37 rfl rfl rfl ?_
        refine ev_iconst 41 dX2_findKing_40 rfl ?_
        refine cVi2 44 kX2_findKing_45 dX2_findKing_41 rfl rfl rfl rfl rfl (by decide) rfl (Nat.le_of_ble_eq_true rfl) (c_winnerBy (a := 38) rfl (by decide) (p.W hW) (fun i a1 b1 => by rw [e2] at b1 ⊢; exact h38 i a1 b1) (by omega)) ?_
        rintro x H2 ⟨e41, p2, f2⟩
        have e41 : x = winV h (dgt (h 2 5) a) := by
          rw [e41]
          exact (winV_P p (H 38)).trans (winV_ag hW h38 q38)
        rw [e41]
        have p3 := p.tr p2
        refine ev_iload_n 45 dX2_findKing_44 rfl rfl ?_
        refine ev_icmp_ne 48 65 dX2_findKing_45 rfl rfl (by omega) (by omega) (fun c45 => ?_) (fun c45 => ?_)
        · rw [no (fun z => c45 z.2)] at nx ⊢
          exact nx H2 p3 (f2 38 (by decide) (by decide)) hr (fun z => by rw [f2 39 (by decide) (by decide)]; exact hk z) --done
        · rw [yes ⟨by omega, c45⟩] at nx ⊢
          refine ev_iload 50 dX2_findKing_48 rfl rfl ?_
          refine ev_istore_n 51 dX2_findKing_50 rfl (Nat.le_of_ble_eq_true rfl) ?_
          refine ev_aload_n 52 dX2_findKing_51 rfl rfl ?_
          refine ev_getR 55 fX2_32 rfl dX2_findKing_52 rfl rfl rfl ?_
          refine ev_iconst 56 dX2_findKing_55 rfl ?_
          refine ev_aload_n 57 dX2_findKing_56 rfl rfl ?_
          refine ev_getR 60 fX2_36 rfl dX2_findKing_57 rfl rfl rfl ?_
          refine ev_iconst 61 dX2_findKing_60 rfl ?_
          refine ev_iconst 62 dX2_findKing_61 rfl ?_
          refine ev_copy 65 kX2_findKing_75 dX2_findKing_62 rfl rfl rfl (by decide) (by decide) (by omega) (by omega) (by omega) (by omega) (by omega) rfl ?_
          refine nx _ (p3.hp rfl (by decide)) ((hput_n (by decide)).trans (f2 38 (by decide) (by decide))) ⟨hcg.1, by show chgN (h 2 5) (dgt (h 2 5) a) (h 21) ≤ 6; omega⟩ (fun _ e a1 b1 => ?_)
          rw [hput_s]
          unfold cpy
          rw [if_pos (by omega), f2 38 (by decide) (by decide), show (0 : Int) + (e - 0) = e by omega]
          exact q38 e a1 b1
theorem c_fk_loop (hW : CW h) (hw : WY h 21) {c : Int} (hc : 0 ≤ c ∧ c < h 2 5) : ∀ (L : List Nat) (a : Nat) (t : Int) (r : Int × (Int → Int)) (H : Hp) (o5 : Option AV), chn (h 2 5) (a :: L) = true → 0 ≤ t → t + (L.length : Int) + 1 ≤ 120 → PsC h H → ag (h 2 5) (H 38) (dgt (h 2 5) a) → (0 ≤ r.1 ∧ r.1 ≤ 6) → (r.1 ≤ 5 → ag (h 2 5) (H 39) r.2) → Ev shC mX2_findKing 12 [some (vr 9), some (vi c), some (vi r.1), some (vi 1), some (vi t), o5] [] H (RI fun x h' => PsC h h' ∧ x = (if 5 < ((a :: L).foldl (fkS h c) r).1 then -9 else ((a :: L).foldl (fkS h c) r).1) ∧ (((a :: L).foldl (fkS h c) r).1 ≤ 5 → ag (h 2 5) (h' 39) ((a :: L).foldl (fkS h c) r).2)) := by
  have hn : 0 < h 2 5 ∧ h 2 5 ≤ 5 := ⟨hW.1.1, hW.1.2.1⟩
  intro L
  induction L with
  | nil =>
    intro a t r H o5 hch ht hL p q38 hr hk
    exact c_fk_one hW hw hc [] a t r H o5 ht hL p q38 hr hk (fun H3 r3 p3 k3 hr3 hk3 => by
      have e1 := chn_end hch
      refine ⟨_, rfl, ?_⟩
      intro e38
      have hb : (nextP (h 2 5) (H3 38)).1 = false := by rw [(nextP_ag hn.1 e38).1]; exact e1
      rw [hb]
      refine ev_istore_n 70 dX2_findKing_69 rfl (Nat.le_of_ble_eq_true rfl) ?_
      refine ev_iinc 73 dX2_findKing_70 rfl rfl ?_
      refine ev_goto 12 dX2_findKing_73 rfl ?_
      refine ev_iload 14 dX2_findKing_12 rfl rfl ?_
      refine ev_bipush 16 dX2_findKing_14 rfl (by decide +kernel) ?_
      have K76 : ∀ ls5 : Option AV, Ev shC mX2_findKing 76 [some (vr 9), some (vi c), some (vi r3.1), some (vi (b2i false)), some (vi (t + 1)), ls5] [] (hput H3 38 (nextP (h 2 5) (H3 38)).2) (RI fun x h' => PsC h h' ∧ x = (if 5 < r3.1 then -9 else r3.1) ∧ (r3.1 ≤ 5 → ag (h 2 5) (h' 39) r3.2)) := by
        intro ls5
        refine ev_iload_n 77 dX2_findKing_76 rfl rfl ?_
        refine ev_iconst 78 dX2_findKing_77 rfl ?_
        refine ev_icmp_le 81 86 dX2_findKing_78 rfl rfl (by omega) (by omega) (fun c78 => ?_) (fun c78 => ?_)
        · rw [if_neg (by omega)]
          refine ev_iload_n 87 dX2_findKing_86 rfl rfl ?_
          exact ev_iret rfl dX2_findKing_87 (⟨p3.hp rfl (by decide), rfl, fun z => hk3 z⟩)
        · rw [if_pos (by omega)]
          refine ev_bipush 83 dX2_findKing_81 rfl (by decide +kernel) ?_
          refine ev_goto 87 dX2_findKing_83 rfl ?_
          exact ev_iret rfl dX2_findKing_87 (⟨p3.hp rfl (by decide), rfl, fun z => hk3 z⟩)
      refine ev_icmp_ge 19 76 dX2_findKing_16 rfl rfl (by simp at hL; omega) (by omega) (fun _ => K76 _) (fun _ => ?_)
      refine ev_iload_n 20 dX2_findKing_19 rfl rfl ?_
      exact ev_if_eq 23 76 dX2_findKing_20 rfl rfl (b2i_r _) (fun _ => K76 _) (fun z => absurd rfl z))
  | cons b L ih =>
    intro a t r H o5 hch ht hL p q38 hr hk
    simp only [List.length_cons] at hL
    exact c_fk_one hW hw hc (b :: L) a t r H o5 ht (by simp only [List.length_cons]; omega) p q38 hr hk (fun H3 r3 p3 k3 hr3 hk3 => by
      obtain ⟨e1, e2, e3⟩ := chn_nx hch
      refine ⟨_, rfl, ?_⟩
      intro e38
      have hb : (nextP (h 2 5) (H3 38)).1 = true := by rw [(nextP_ag hn.1 e38).1]; exact e1
      rw [hb]
      refine ev_istore_n 70 dX2_findKing_69 rfl (Nat.le_of_ble_eq_true rfl) ?_
      refine ev_iinc 73 dX2_findKing_70 rfl rfl ?_
      refine ev_goto 12 dX2_findKing_73 rfl ?_
      exact ih b (t + 1) r3 _ _ e3 (by omega) (by omega) (p3.hp rfl (by decide)) (fun e a1 b1 => by rw [hput_s]; exact ((nextP_ag hn.1 e38).2 e a1 b1).trans (e2 e a1 b1)) hr3 (fun z => hk3 z))
theorem c_findKing (hW : CW h) (hw : WY h 21) {c : Int} (hc : 0 ≤ c ∧ c < h 2 5) : Ev shC mX2_findKing 0 [some (vr 9), some (vi c), none, none, none, none] [] h (RI fun x h' => PsC h h' ∧ x = (if 5 < ((CL (h 2 5)).foldl (fkS h c) (6, fun _ => 0)).1 then -9 else ((CL (h 2 5)).foldl (fkS h c) (6, fun _ => 0)).1) ∧ (((CL (h 2 5)).foldl (fkS h c) (6, fun _ => 0)).1 ≤ 5 → ag (h 2 5) (h' 39) ((CL (h 2 5)).foldl (fkS h c) (6, fun _ => 0)).2)) := by
  have hn : 0 < h 2 5 ∧ h 2 5 ≤ 5 := ⟨hW.1.1, hW.1.2.1⟩
  obtain ⟨k1, k2, k3⟩ := chk hn
  cases hL : CL (h 2 5) with
  | nil => rw [hL] at k1; cases k1
  | cons a L =>
    rw [hL] at k1 k2 k3
    simp only [List.length_cons] at k3
    refine ev_bipush 2 dX2_findKing_0 rfl (by decide +kernel) ?_
    refine ev_istore_n 3 dX2_findKing_2 rfl (Nat.le_of_ble_eq_true rfl) ?_
    refine ev_aload_n 4 dX2_findKing_3 rfl rfl ?_
    refine cVv0 7 kX2_findKing_64 dX2_findKing_4 rfl rfl rfl rfl rfl (by decide) rfl (Nat.le_of_ble_eq_true rfl) (c_startWays) ?_
    rintro _ ⟨g, rfl, hg⟩
    refine ev_iconst 8 dX2_findKing_7 rfl ?_
    refine ev_istore_n 9 dX2_findKing_8 rfl (Nat.le_of_ble_eq_true rfl) ?_
    refine ev_iconst 10 dX2_findKing_9 rfl ?_
    refine ev_istore 12 dX2_findKing_10 rfl (Nat.le_of_ble_eq_true rfl) ?_
    refine c_fk_loop hW hw hc L a 0 (6, fun _ => 0) _ none k1 (by omega) (by omega) (PsC.rf.hp rfl (by decide)) (fun e a1 b1 => ?_) ⟨by decide, by decide⟩ (fun z => absurd z (by decide))
    rw [hput_s, hg e a1 (by omega)]
    unfold hd0 at k2
    rw [List.all_eq_true] at k2
    have := of_decide_eq_true (k2 e.toNat (List.mem_range.mpr (by omega)))
    rw [Int.toNat_of_nonneg a1] at this
    exact this.symm
def wonB (h : Hp) (L : List Nat) (d : Int) : Bool := L.any (fun a => decide (winV h (dgt (h 2 5) a) = d))
theorem wonB_app {L : List Nat} {a : Nat} {d : Int} : wonB h (L ++ [a]) d = (wonB h L d || decide (winV h (dgt (h 2 5) a) = d)) := by
  unfold wonB
  rw [List.any_append, List.any_cons, List.any_nil, Bool.or_false]
theorem all_fin : ∀ n : Fin 6, ∀ d : Fin 5, bit (1 * 2 ^ n.val - 1) (d.val : Int) = if d.val < n.val then 1 else 0 := by decide +kernel
theorem all_bit {n d : Int} (hn : 0 ≤ n ∧ n ≤ 5) (hd : 0 ≤ d ∧ d < 5) : bit (1 * 2 ^ n.toNat - 1) d = if d < n then 1 else 0 := by
  have := all_fin ⟨n.toNat, by omega⟩ ⟨d.toNat, by omega⟩
  dsimp only at this
  rw [Int.toNat_of_nonneg hd.1] at this
  rw [this]
  by_cases q : d < n
  · rw [if_pos q, if_pos (by omega)]
  · rw [if_neg q, if_neg (by omega)]
theorem c_kg_one (hW : CW h) (L : List Nat) (a : Nat) (D : List Nat) (t fd : Int) (H : Hp) (o5 : Option AV) (hD : D ++ a :: L = CL (h 2 5)) (hch : chn (h 2 5) (a :: L) = true) (ht : 0 ≤ t) (hL : t + (L.length : Int) + 1 ≤ 120) (p : PsC h H) (q38 : ag (h 2 5) (H 38) (dgt (h 2 5) a)) (hfd : 0 ≤ fd ∧ fd < 32) (hb : ∀ d, 0 ≤ d → d < 5 → bit fd d = b2i (wonB h D d)) (full : ∀ (D E : List Nat) (fd : Int), D ++ E = CL (h 2 5) → fd = 1 * 2 ^ (h 2 5).toNat - 1 → (∀ d, 0 ≤ d → d < 5 → bit fd d = b2i (wonB h D d)) → ∀ d, 0 ≤ d → d < 5 → bit fd d = b2i (wonB h (CL (h 2 5)) d)) (hwr : ∀ a : Nat, 0 ≤ winV h (dgt (h 2 5) a) ∧ winV h (dgt (h 2 5) a) < h 2 5) (hpb : (1 : Int) * 2 ^ (h 2 5).toNat ≤ 32) (K : ∀ (fd2 : Int) (H2 : Hp), ag (h 2 5) (H2 38) (dgt (h 2 5) a) → (0 ≤ fd2 ∧ fd2 < 32) → (∀ d, 0 ≤ d → d < 5 → bit fd2 d = b2i (wonB h (D ++ [a]) d)) → PsC h H2 → Ev shC mX2_kings 66 [some (vr 9), some (vi (1 * 2 ^ (h 2 5).toNat - 1)), some (vi fd2), some (vi 1), some (vi t), some (vi (winV h (dgt (h 2 5) a)))] [vi (b2i (nextP (h 2 5) (H2 38)).1)] (hput H2 38 (nextP (h 2 5) (H2 38)).2) (RI fun x h' => PsC h h' ∧ (0 ≤ x ∧ x < 32) ∧ ∀ d, 0 ≤ d → d < 5 → bit x d = b2i (wonB h (CL (h 2 5)) d))) : Ev shC mX2_kings 23 [some (vr 9), some (vi (1 * 2 ^ (h 2 5).toNat - 1)), some (vi fd), some (vi 1), some (vi t), o5] [] H (RI fun x h' => PsC h h' ∧ (0 ≤ x ∧ x < 32) ∧ ∀ d, 0 ≤ d → d < 5 → bit x d = b2i (wonB h (CL (h 2 5)) d)) := by
  have hn : 0 < h 2 5 ∧ h 2 5 ≤ 5 := ⟨hW.1.1, hW.1.2.1⟩
  have hpr := pw_r (c := h 2 5) ⟨by omega, by omega⟩
  have e2 : H 2 = h 2 := p.1 2 rfl
  have h38 : ∀ i, 0 ≤ i → i < h 2 5 → 0 ≤ H 38 i ∧ H 38 i < h 2 5 := fun i a1 b1 => by rw [q38 i a1 b1]; exact dgt_r hn.1 (a : Int) i a1 b1
  have hwa := hwr a
  generalize hm : (1 : Int) * 2 ^ (h 2 5).toNat - 1 = mx at *
  refine ev_iload 25 dX2_kings_23 rfl rfl ?_
  refine ev_bipush 27 dX2_kings_25 rfl (by decide +kernel) ?_
  refine ev_icmp_ge 30 73 dX2_kings_27 rfl rfl (by omega) (by omega) (fun c27 => ?_) (fun c27 => ?_)
  · omega --done
  · refine ev_iload_n 31 dX2_kings_30 rfl rfl ?_
    refine ev_if_eq 34 73 dX2_kings_31 rfl rfl (by omega) (fun c31 => ?_) (fun c31 => ?_)
    · omega --done
    · refine ev_iload_n 35 dX2_kings_34 rfl rfl ?_
      refine ev_iload_n 36 dX2_kings_35 rfl rfl ?_
      refine ev_icmp_eq 39 73 dX2_kings_36 rfl rfl (by omega) (by omega) (fun c36 => ?_) (fun c36 => ?_)
      · exact ev_iload_n 74 dX2_kings_73 rfl rfl (ev_iret rfl dX2_kings_74 ⟨p, hfd, full D (a :: L) fd hD c36 hb⟩) --done
      · refine ev_aload_n 40 dX2_kings_39 rfl rfl ?_
        refine ev_aload_n 41 dX2_kings_40 rfl rfl ?_
        refine ev_getR 44 fX2_32 rfl dX2_kings_41 rfl rfl rfl ?_
        refine ev_iconst 45 dX2_kings_44 rfl ?_
        refine cVi2 48 kX2_kings_45 dX2_kings_45 rfl rfl rfl rfl rfl (by decide) rfl (Nat.le_of_ble_eq_true rfl) (c_winnerBy (a := 38) rfl (by decide) (p.W hW) (fun i a1 b1 => by rw [e2] at b1 ⊢; exact h38 i a1 b1) (by omega)) ?_
        rintro x H2 ⟨e41, p2, f2⟩
        have e41 : x = winV h (dgt (h 2 5) a) := by
          rw [e41]
          exact (winV_P p (H 38)).trans (winV_ag hW h38 q38)
        rw [e41]
        have p3 := p.tr p2
        have e2' : H2 2 = h 2 := p3.1 2 rfl
        have e38 : H2 38 = H 38 := f2 38 (by decide) (by decide)
        refine ev_istore 50 dX2_kings_48 rfl (Nat.le_of_ble_eq_true rfl) ?_
        refine ev_iload 52 dX2_kings_50 rfl rfl ?_
        refine ev_if_lt 55 62 dX2_kings_52 rfl rfl (by omega) (fun c52 => ?_) (fun c52 => ?_)
        · omega --done
        · refine ev_iload_n 56 dX2_kings_55 rfl rfl ?_
          refine ev_iconst 57 dX2_kings_56 rfl ?_
          refine ev_iload 59 dX2_kings_57 rfl rfl ?_
          refine ev_ishl 60 dX2_kings_59 rfl (by omega) (by omega) (pw_r (c := winV h (dgt (h 2 5) a)) ⟨hwa.1, by omega⟩).2 ?_
          refine ev_ior 61 dX2_kings_60 rfl hfd.1 (pw_r (c := winV h (dgt (h 2 5) a)) ⟨hwa.1, by omega⟩).1 ?_
          refine ev_istore_n 62 dX2_kings_61 rfl (Nat.le_of_ble_eq_true rfl) ?_
          refine ev_aload_n 63 dX2_kings_62 rfl rfl ?_
          refine cVi0 66 kX2_kings_67 dX2_kings_63 rfl rfl rfl rfl rfl (by decide) rfl (Nat.le_of_ble_eq_true rfl) (c_toNextWay (by rw [e2']; exact hn) (fun i a1 b1 => by rw [e38]; rw [e2'] at b1; have := h38 i a1 b1; omega)) ?_
          rintro x _ ⟨rfl, rfl⟩
          rw [e2']
          refine K (orc fd (winV h (dgt (h 2 5) a))) H2 (by rw [e38]; exact q38) (orc_r hfd ⟨hwa.1, by omega⟩) (fun d a1 b1 => ?_) p3
          rw [orc_b hfd ⟨hwa.1, by omega⟩ ⟨a1, b1⟩, wonB_app, hb d a1 b1]
          by_cases q : d = winV h (dgt (h 2 5) a)
          · rw [if_pos q, decide_eq_true q.symm, Bool.or_true]; rfl
          · rw [if_neg q, decide_eq_false (fun w => q w.symm), Bool.or_false]
theorem c_kings_loop (hW : CW h) : ∀ (L : List Nat) (a : Nat) (D : List Nat) (t fd : Int) (H : Hp) (o5 : Option AV), D ++ a :: L = CL (h 2 5) → chn (h 2 5) (a :: L) = true → 0 ≤ t → t + (L.length : Int) + 1 ≤ 120 → PsC h H → ag (h 2 5) (H 38) (dgt (h 2 5) a) → (0 ≤ fd ∧ fd < 32) → (∀ d, 0 ≤ d → d < 5 → bit fd d = b2i (wonB h D d)) → Ev shC mX2_kings 23 [some (vr 9), some (vi (1 * 2 ^ (h 2 5).toNat - 1)), some (vi fd), some (vi 1), some (vi t), o5] [] H (RI fun x h' => PsC h h' ∧ (0 ≤ x ∧ x < 32) ∧ ∀ d, 0 ≤ d → d < 5 → bit x d = b2i (wonB h (CL (h 2 5)) d)) := by
  have hn : 0 < h 2 5 ∧ h 2 5 ≤ 5 := ⟨hW.1.1, hW.1.2.1⟩
  have hpr := pw_r (c := h 2 5) ⟨by omega, by omega⟩
  have hwr : ∀ a : Nat, 0 ≤ winV h (dgt (h 2 5) a) ∧ winV h (dgt (h 2 5) a) < h 2 5 := fun a => winV_r hW (dgt_r hn.1 (a : Int))
  have hpb : (1 : Int) * 2 ^ (h 2 5).toNat ≤ 32 := by
    have : h 2 5 = 1 ∨ h 2 5 = 2 ∨ h 2 5 = 3 ∨ h 2 5 = 4 ∨ h 2 5 = 5 := by omega
    rcases this with e | e | e | e | e <;> rw [e] <;> decide
  have full : ∀ (D E : List Nat) (fd : Int), D ++ E = CL (h 2 5) → fd = 1 * 2 ^ (h 2 5).toNat - 1 → (∀ d, 0 ≤ d → d < 5 → bit fd d = b2i (wonB h D d)) → ∀ d, 0 ≤ d → d < 5 → bit fd d = b2i (wonB h (CL (h 2 5)) d) := by
    intro D E fd hDE hf hb d a1 b1
    rw [← hDE]
    unfold wonB
    rw [List.any_append]
    have h1 := hb d a1 b1
    unfold wonB at h1
    rw [h1]
    cases hq : D.any (fun a => decide (winV h (dgt (h 2 5) a) = d)) with
    | true => rfl
    | false =>
      rw [Bool.false_or]
      congr 1
      symm
      rw [List.any_eq_false]
      intro x _ w
      have hw := of_decide_eq_true w
      have hx := hwr x
      rw [hq, hf, all_bit ⟨by omega, hn.2⟩ ⟨a1, b1⟩, if_pos (by omega)] at h1
      cases h1
  intro L
  induction L with
  | nil =>
    intro a D t fd H o5 hD hch ht hL p q38 hfd hb
    exact c_kg_one hW [] a D t fd H o5 hD hch ht hL p q38 hfd hb full hwr hpb (fun fd2 H2 hx hfd2 hb2 p2 => by
      have e38 := hx
      have hb' : (nextP (h 2 5) (H2 38)).1 = false := by rw [(nextP_ag hn.1 e38).1]; exact chn_end hch
      rw [hb']
      have K73 : ∀ ls5 : Option AV, Ev shC mX2_kings 73 [some (vr 9), some (vi (1 * 2 ^ (h 2 5).toNat - 1)), some (vi fd2), some (vi (b2i false)), some (vi (t + 1)), ls5] [] (hput H2 38 (nextP (h 2 5) (H2 38)).2) (RI fun x h' => PsC h h' ∧ (0 ≤ x ∧ x < 32) ∧ ∀ d, 0 ≤ d → d < 5 → bit x d = b2i (wonB h (CL (h 2 5)) d)) := by
        intro ls5
        refine ev_iload_n 74 dX2_kings_73 rfl rfl ?_
        exact ev_iret rfl dX2_kings_74 (⟨p2.hp rfl (by decide), hfd2, fun d a1 b1 => by rw [hb2 d a1 b1, ← hD]⟩)
      refine ev_istore_n 67 dX2_kings_66 rfl (Nat.le_of_ble_eq_true rfl) ?_
      refine ev_iinc 70 dX2_kings_67 rfl rfl ?_
      refine ev_goto 23 dX2_kings_70 rfl ?_
      refine ev_iload 25 dX2_kings_23 rfl rfl ?_
      refine ev_bipush 27 dX2_kings_25 rfl (by decide +kernel) ?_
      refine ev_icmp_ge 30 73 dX2_kings_27 rfl rfl (by simp at hL; omega) (by omega) (fun _ => K73 _) (fun _ => ?_)
      refine ev_iload_n 31 dX2_kings_30 rfl rfl ?_
      exact ev_if_eq 34 73 dX2_kings_31 rfl rfl (b2i_r _) (fun _ => K73 _) (fun z => absurd rfl z))
  | cons b L ih =>
    intro a D t fd H o5 hD hch ht hL p q38 hfd hb
    exact c_kg_one hW (b :: L) a D t fd H o5 hD hch ht hL p q38 hfd hb full hwr hpb (fun fd2 H2 hx hfd2 hb2 p2 => by
      have e38 := hx
      obtain ⟨e1, e2, e3⟩ := chn_nx hch
      have hb' : (nextP (h 2 5) (H2 38)).1 = true := by rw [(nextP_ag hn.1 e38).1]; exact e1
      rw [hb']
      simp only [List.length_cons] at hL
      refine ev_istore_n 67 dX2_kings_66 rfl (Nat.le_of_ble_eq_true rfl) ?_
      refine ev_iinc 70 dX2_kings_67 rfl rfl ?_
      refine ev_goto 23 dX2_kings_70 rfl ?_
      exact ih b (D ++ [a]) (t + 1) fd2 _ _ (by rw [List.append_assoc]; exact hD) e3 (by omega) (by omega) (p2.hp rfl (by decide)) (fun e a1 b1 => by rw [hput_s]; exact ((nextP_ag hn.1 e38).2 e a1 b1).trans (e2 e a1 b1)) hfd2 hb2)
theorem c_kings (hW : CW h) : Ev shC mX2_kings 0 [some (vr 9), none, none, none, none, none] [] h (RI fun x h' => PsC h h' ∧ (0 ≤ x ∧ x < 32) ∧ ∀ d, 0 ≤ d → d < 5 → bit x d = b2i (wonB h (CL (h 2 5)) d)) := by
  have hn : 0 < h 2 5 ∧ h 2 5 ≤ 5 := ⟨hW.1.1, hW.1.2.1⟩
  have hpr := pw_r (c := h 2 5) ⟨by omega, by omega⟩
  obtain ⟨k1, k2, k3⟩ := chk hn
  cases hL : CL (h 2 5) with
  | nil => rw [hL] at k1; cases k1
  | cons a L =>
    have hL2 := hL
    rw [hL] at k1 k2 k3
    simp only [List.length_cons] at k3
    rw [← hL]
    refine ev_iconst 1 dX2_kings_0 rfl ?_
    refine ev_aload_n 2 dX2_kings_1 rfl rfl ?_
    refine ev_getR 5 fX2_12 rfl dX2_kings_2 rfl rfl rfl ?_
    refine ev_getI 8 5 fX2_49 rfl dX2_kings_5 rfl rfl rfl (by decide) rfl ?_
    refine ev_ishl 9 dX2_kings_8 rfl (by omega) (by omega) hpr.2 ?_
    refine ev_iconst 10 dX2_kings_9 rfl ?_
    refine ev_isub 11 dX2_kings_10 rfl ?_
    refine ev_istore_n 12 dX2_kings_11 rfl (Nat.le_of_ble_eq_true rfl) ?_
    refine ev_iconst 13 dX2_kings_12 rfl ?_
    refine ev_istore_n 14 dX2_kings_13 rfl (Nat.le_of_ble_eq_true rfl) ?_
    refine ev_aload_n 15 dX2_kings_14 rfl rfl ?_
    refine cVv0 18 kX2_kings_64 dX2_kings_15 rfl rfl rfl rfl rfl (by decide) rfl (Nat.le_of_ble_eq_true rfl) (c_startWays) ?_
    rintro _ ⟨g, rfl, hg⟩
    refine ev_iconst 19 dX2_kings_18 rfl ?_
    refine ev_istore_n 20 dX2_kings_19 rfl (Nat.le_of_ble_eq_true rfl) ?_
    refine ev_iconst 21 dX2_kings_20 rfl ?_
    refine ev_istore 23 dX2_kings_21 rfl (Nat.le_of_ble_eq_true rfl) ?_
    refine c_kings_loop hW L a [] 0 0 _ none hL2.symm k1 (by omega) (by omega) (PsC.rf.hp rfl (by decide)) (fun e a1 b1 => ?_) ⟨by decide, by decide⟩ (fun d a1 b1 => by rw [bit_0]; rfl)
    rw [hput_s, hg e a1 (by omega)]
    unfold hd0 at k2
    rw [List.all_eq_true] at k2
    have := of_decide_eq_true (k2 e.toNat (List.mem_range.mpr (by omega)))
    rw [Int.toNat_of_nonneg a1] at this
    exact this.symm
end KD
