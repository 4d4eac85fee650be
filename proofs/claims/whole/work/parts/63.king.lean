/-! kings: the class's fold and the model's -/
theorem cnt_chg {n : Int} {s : Int → Int} : ∀ (k : Nat) (l o : Int) (f : Int → Int), cntW n s k l o = o + cntB (fun c => decide (fillW n k l f c ≠ s c)) k := by
  intro k
  induction k with
  | zero => intro l o f; show o = o + 0; omega
  | succ k ih =>
    intro l o f
    show cntW n s k (l / n) (o + (if l % n = s k then 0 else 1)) = o + (cntB (fun c => decide (fillW n k (l / n) (up f k (l % n)) c ≠ s c)) k + (if decide (fillW n k (l / n) (up f k (l % n)) (k : Int) ≠ s (k : Int)) = true then 1 else 0))
    rw [ih (l / n) _ (up f k (l % n)), fill_out k _ _ _ (Or.inl (Int.le_refl _)), up_s]
    by_cases q : l % n = s k
    · rw [if_pos q, if_neg (by rw [decide_eq_false (fun w => w q)]; decide)]; omega
    · rw [if_neg q, if_pos (decide_eq_true q)]; omega
theorem oth_chg {n : Int} {s pu : Int → Int} (hn : 0 ≤ n) (e : ∀ c, 0 ≤ c → c < n → s c = pu c) (a : Int) : oth n s a = chgN n (dgt n a) pu := by
  unfold oth chgN
  rw [cnt_chg n.toNat a 0 (fun _ => 0), Int.zero_add]
  exact cntB_congr (fun c x y => by rw [e c x (by omega)]; rfl)
def CLi (n : Int) (i : Nat) : List Nat := (List.range i).filter (fun i => wayB n (i : Int))
theorem CLi_s {n : Int} {i : Nat} : CLi n (i + 1) = CLi n i ++ (if wayB n (i : Int) = true then [i] else []) := by
  unfold CLi
  rw [List.range_succ, List.filter_append]
  congr 1
  by_cases q : wayB n (i : Int) = true
  · rw [if_pos q, List.filter_cons_of_pos (p := fun i : Nat => wayB n (i : Int)) q]; rfl
  · rw [if_neg q, List.filter_cons_of_neg (p := fun i : Nat => wayB n (i : Int)) q]; rfl
section KR
variable {hC hM : Hp} {c : Int}
theorem king_rel (en : hC 2 5 = hM 0 2) (hn : 0 ≤ hM 0 2 ∧ hM 0 2 ≤ 5) (hw : ∀ a : Nat, winV hC (dgt (hC 2 5) a) = winW hM (dgt (hM 0 2) a)) (ho : ∀ a : Nat, chgN (hC 2 5) (dgt (hC 2 5) a) (hC 21) = oth (hM 0 2) (hM 4) a) : ∀ i : Nat, (((kfold hM c i).1 < 0 ∧ (CLi (hC 2 5) i).foldl (fkS hC c) (6, fun _ => 0) = (6, fun _ => 0)) ∨ ((0 ≤ (kfold hM c i).1 ∧ (kfold hM c i).1 ≤ 5) ∧ (CLi (hC 2 5) i).foldl (fkS hC c) (6, fun _ => 0) = kfold hM c i)) ∧ (wonB hC (CLi (hC 2 5) i) c = true ↔ 0 ≤ (kfold hM c i).1) := by
  intro i
  induction i with
  | zero => exact ⟨Or.inl ⟨by show (-9 : Int) < 0; decide, rfl⟩, ⟨fun z => absurd (show false = true from z) (by decide), fun z => absurd z (by show ¬ (0 : Int) ≤ -9; decide)⟩⟩
  | succ i ih =>
    obtain ⟨ih1, ih2⟩ := ih
    have hcr := chg_r (n := hC 2 5) (w := dgt (hC 2 5) i) (pu := hC 21) (by omega)
    rw [CLi_s]
    unfold wonB at ih2 ⊢
    rw [List.any_append]
    show ((kstep hM c i (kfold hM c i)).1 < 0 ∧ _ ∨ (0 ≤ (kstep hM c i (kfold hM c i)).1 ∧ (kstep hM c i (kfold hM c i)).1 ≤ 5) ∧ _ = kstep hM c i (kfold hM c i)) ∧ (_ ↔ 0 ≤ (kstep hM c i (kfold hM c i)).1)
    generalize kfold hM c i = r at *
    by_cases q : wayB (hC 2 5) (i : Int) = true
    · rw [if_pos q, List.foldl_append]
      show ((kstep hM c i r).1 < 0 ∧ fkS hC c ((CLi (hC 2 5) i).foldl (fkS hC c) (6, fun _ => 0)) i = _ ∨ (0 ≤ (kstep hM c i r).1 ∧ (kstep hM c i r).1 ≤ 5) ∧ fkS hC c ((CLi (hC 2 5) i).foldl (fkS hC c) (6, fun _ => 0)) i = kstep hM c i r) ∧ (((CLi (hC 2 5) i).any (fun a => decide (winV hC (dgt (hC 2 5) a) = c)) || (decide (winV hC (dgt (hC 2 5) i) = c) || false)) = true ↔ 0 ≤ (kstep hM c i r).1)
      rw [Bool.or_false, Bool.or_eq_true, ih2, decide_eq_true_iff]
      have k1 : ∀ P : Prop, P → (wayB (hM 0 2) (i : Int) = true ∧ P) := fun P z => ⟨by rw [← en]; exact q, z⟩
      have fk : ∀ F, fkS hC c F i = if oth (hM 0 2) (hM 4) i < F.1 ∧ winW hM (dgt (hM 0 2) i) = c then (oth (hM 0 2) (hM 4) i, dgt (hM 0 2) i) else F := fun F => by
        unfold fkS
        rw [ho i, hw i, en]
      have ks : kstep hM c i r = if wayB (hM 0 2) (i : Int) = true ∧ winW hM (dgt (hM 0 2) i) = c ∧ (r.1 < 0 ∨ oth (hM 0 2) (hM 4) i < r.1) then (oth (hM 0 2) (hM 4) i, dgt (hM 0 2) i) else r := rfl
      rw [fk, ks, hw i]
      rw [ho i] at hcr
      generalize (CLi (hC 2 5) i).foldl (fkS hC c) (6, fun _ => 0) = F at *
      clear fk ks
      by_cases w : winW hM (dgt (hM 0 2) i) = c
      · rcases ih1 with ⟨a1, a2⟩ | ⟨a1, a2⟩
        · subst a2
          rw [if_pos (show oth (hM 0 2) (hM 4) i < ((6, fun _ => 0) : Int × (Int → Int)).1 ∧ winW hM (dgt (hM 0 2) i) = c from ⟨by show _ < (6 : Int); omega, w⟩), if_pos (k1 _ ⟨w, Or.inl a1⟩)]
          exact ⟨Or.inr ⟨hcr, rfl⟩, fun _ => hcr.1, fun _ => Or.inr w⟩
        · subst a2
          by_cases z : oth (hM 0 2) (hM 4) i < F.1
          · rw [if_pos (show oth (hM 0 2) (hM 4) i < F.1 ∧ winW hM (dgt (hM 0 2) i) = c from ⟨z, w⟩), if_pos (k1 _ ⟨w, Or.inr z⟩)]
            exact ⟨Or.inr ⟨hcr, rfl⟩, fun _ => hcr.1, fun _ => Or.inr w⟩
          · rw [if_neg (show ¬ (oth (hM 0 2) (hM 4) i < F.1 ∧ winW hM (dgt (hM 0 2) i) = c) from fun y => z y.1), if_neg (show ¬ (wayB (hM 0 2) (i : Int) = true ∧ winW hM (dgt (hM 0 2) i) = c ∧ (F.1 < 0 ∨ oth (hM 0 2) (hM 4) i < F.1)) from fun y => by have := y.2.2; omega)]
            exact ⟨Or.inr ⟨a1, rfl⟩, fun _ => a1.1, fun _ => Or.inr w⟩
      · rw [if_neg (show ¬ (oth (hM 0 2) (hM 4) i < F.1 ∧ winW hM (dgt (hM 0 2) i) = c) from fun y => w y.2), if_neg (show ¬ (wayB (hM 0 2) (i : Int) = true ∧ winW hM (dgt (hM 0 2) i) = c ∧ (r.1 < 0 ∨ oth (hM 0 2) (hM 4) i < r.1)) from fun y => w y.2.1)]
        exact ⟨ih1, ⟨fun y => y.resolve_right w, fun y => Or.inl y⟩⟩
    · rw [if_neg q, List.append_nil]
      have e : kstep hM c i r = r := by
        unfold kstep
        rw [if_neg (fun y => q (by rw [en]; exact y.1))]
      rw [e]
      refine ⟨ih1, ?_⟩
      show (((CLi (hC 2 5) i).any (fun a => decide (winV hC (dgt (hC 2 5) a) = c)) || false) = true ↔ _)
      rw [Bool.or_false]
      exact ih2
theorem king_eq (en : hC 2 5 = hM 0 2) (hn : 0 ≤ hM 0 2 ∧ hM 0 2 ≤ 5) (hw : ∀ a : Nat, winV hC (dgt (hC 2 5) a) = winW hM (dgt (hM 0 2) a)) (ho : ∀ a : Nat, chgN (hC 2 5) (dgt (hC 2 5) a) (hC 21) = oth (hM 0 2) (hM 4) a) : (((kingM hM c).1 < 0 ∧ fkR hC c = (6, fun _ => 0)) ∨ ((0 ≤ (kingM hM c).1 ∧ (kingM hM c).1 ≤ 5) ∧ fkR hC c = kingM hM c)) ∧ (wonB hC (CL (hC 2 5)) c = true ↔ 0 ≤ (kingM hM c).1) := by
  have := king_rel (c := c) en hn hw ho (pw (hM 0 2) (hM 0 2).toNat).toNat
  rw [← en] at this
  unfold kingM
  rw [← en]
  exact this
end KR
