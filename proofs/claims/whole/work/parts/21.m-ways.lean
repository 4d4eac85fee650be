/-! ways to give pushers to chairs, as codes -/
def wayT (n : Int) : Nat → Int → Int → Int
  | 0, _, t => t
  | k + 1, l, t => wayT n k (l / n) (orc t (l % n))
def wayB (n code : Int) : Bool := decide (wayT n n.toNat code 0 = 1 * 2 ^ n.toNat - 1)
def fillW (n : Int) : Nat → Int → (Int → Int) → (Int → Int)
  | 0, _, f => f
  | k + 1, l, f => fillW n k (l / n) (up f k (l % n))
def cntW (n : Int) (s : Int → Int) : Nat → Int → Int → Int
  | 0, _, o => o
  | k + 1, l, o => cntW n s k (l / n) (o + (if l % n = s k then 0 else 1))
theorem fill_out {n : Int} : ∀ (k : Nat) (l : Int) (f : Int → Int) (i : Int), ((k : Int) ≤ i ∨ i < 0) → fillW n k l f i = f i := by
  intro k
  induction k with
  | zero => intro l f i _; rfl
  | succ k ih =>
    intro l f i hi
    unfold fillW
    rw [ih _ _ _ (by omega), up_n (by omega)]
theorem fill_ag {n : Int} : ∀ (k : Nat) (l : Int) (f g : Int → Int) (i : Int), 0 ≤ i → i < k → fillW n k l f i = fillW n k l g i := by
  intro k
  induction k with
  | zero => intro l f g i h0 h1; omega
  | succ k ih =>
    intro l f g i h0 h1
    unfold fillW
    by_cases q : i < k
    · exact ih _ _ _ _ h0 q
    · have e : i = k := by omega
      rw [fill_out _ _ _ _ (by omega), fill_out _ _ _ _ (by omega), e, up_s, up_s]
theorem fill_r {n : Int} (hn : 0 < n) : ∀ (k : Nat) (l : Int) (f : Int → Int) (i : Int), 0 ≤ i → i < k → 0 ≤ fillW n k l f i ∧ fillW n k l f i < n := by
  intro k
  induction k with
  | zero => intro l f i h0 h1; omega
  | succ k ih =>
    intro l f i h0 h1
    unfold fillW
    by_cases q : i < k
    · exact ih _ _ _ h0 q
    · have e : i = k := by omega
      rw [fill_out _ _ _ _ (by omega), e, up_s]
      exact ⟨Int.emod_nonneg _ (by omega), Int.emod_lt_of_pos _ hn⟩
theorem cnt_r {n : Int} {s : Int → Int} : ∀ (k : Nat) (l o : Int), o ≤ cntW n s k l o ∧ cntW n s k l o ≤ o + k := by
  intro k
  induction k with
  | zero => intro l o; exact ⟨Int.le_refl _, by show o ≤ o + 0; omega⟩
  | succ k ih =>
    intro l o
    unfold cntW
    have := ih (l / n) (o + (if l % n = s k then 0 else 1))
    split at this <;> rename_i q
    · rw [if_pos q]; omega
    · rw [if_neg q]; omega
theorem q_dr {l n : Int} (hl : 0 ≤ l ∧ l < 2147483648) (hn : 0 < n) : (0 ≤ l / n ∧ l / n < 2147483648) ∧ 0 ≤ l % n ∧ l % n < n := by
  refine ⟨⟨Int.ediv_nonneg hl.1 (by omega), ?_⟩, Int.emod_nonneg _ (by omega), Int.emod_lt_of_pos _ hn⟩
  have := Int.ediv_le_self n hl.1
  omega
section WY
variable {sh : List CS} {h : Hp}
theorem m_isWay_loop {n code : Int} (hn : 0 < n ∧ n ≤ 5) : ∀ (k : Nat) (c l t : Int), 0 ≤ c → c + k = n → 0 ≤ l ∧ l < 2147483648 → 0 ≤ t ∧ t < 32 → Ev sh mX9_isWay 7 [some (vi code), some (vi n), some (vi t), some (vi l), some (vi c)] [] h (RI fun x h' => x = b2i (decide (wayT n k l t = 1 * 2 ^ n.toNat - 1)) ∧ h = h') := by
  intro k
  induction k with
  | zero =>
    intro c l t h0 h1 hl ht
    have hp : (0 : Int) ≤ 1 * 2 ^ n.toNat ∧ (1 : Int) * 2 ^ n.toNat ≤ 32 := by
      have : n = 1 ∨ n = 2 ∨ n = 3 ∨ n = 4 ∨ n = 5 := by omega
      rcases this with rfl | rfl | rfl | rfl | rfl <;> decide
    unfold wayT
    refine ev_iload 9 dX9_isWay_7 rfl rfl ?_
    refine ev_iload_n 10 dX9_isWay_9 rfl rfl ?_
    refine ev_icmp_ge 13 31 dX9_isWay_10 rfl rfl (by omega) (by omega) (fun c10 => ?_) (fun c10 => ?_)
    · refine ev_iload_n 32 dX9_isWay_31 rfl rfl ?_
      refine ev_iconst 33 dX9_isWay_32 rfl ?_
      refine ev_iload_n 34 dX9_isWay_33 rfl rfl ?_
      refine ev_ishl 35 dX9_isWay_34 rfl (by omega) (by omega) (by omega) ?_
      refine ev_iconst 36 dX9_isWay_35 rfl ?_
      refine ev_isub 37 dX9_isWay_36 rfl ?_
      refine ev_icmp_ne 40 44 dX9_isWay_37 rfl rfl (by omega) (by omega) (fun c37 => ?_) (fun c37 => ?_)
      · rw [decide_eq_false c37]
        refine ev_iconst 45 dX9_isWay_44 rfl ?_
        exact ev_zret rfl dX9_isWay_45 (by omega) (⟨rfl, rfl⟩)
      · rw [decide_eq_true c37]
        refine ev_iconst 41 dX9_isWay_40 rfl ?_
        refine ev_goto 45 dX9_isWay_41 rfl ?_
        exact ev_zret rfl dX9_isWay_45 (by omega) (⟨rfl, rfl⟩)
    · omega --done
  | succ k ih =>
    intro c l t h0 h1 hl ht
    have hd := q_dr hl hn.1
    unfold wayT
    refine ev_iload 9 dX9_isWay_7 rfl rfl ?_
    refine ev_iload_n 10 dX9_isWay_9 rfl rfl ?_
    refine ev_icmp_ge 13 31 dX9_isWay_10 rfl rfl (by omega) (by omega) (fun c10 => ?_) (fun c10 => ?_)
    · omega --done
    · refine ev_iload_n 14 dX9_isWay_13 rfl rfl ?_
      refine ev_iconst 15 dX9_isWay_14 rfl ?_
      refine ev_iload_n 16 dX9_isWay_15 rfl rfl ?_
      refine ev_iload_n 17 dX9_isWay_16 rfl rfl ?_
      refine ev_irem 18 dX9_isWay_17 rfl (by omega) (by omega) ?_
      refine ev_ishl 19 dX9_isWay_18 rfl (by omega) (by omega) (pw_r (c := l % n) ⟨hd.2.1, by omega⟩).2 ?_
      refine ev_ior 20 dX9_isWay_19 rfl ht.1 (pw_r (c := l % n) ⟨hd.2.1, by omega⟩).1 ?_
      refine ev_istore_n 21 dX9_isWay_20 rfl (Nat.le_of_ble_eq_true rfl) ?_
      refine ev_iload_n 22 dX9_isWay_21 rfl rfl ?_
      refine ev_iload_n 23 dX9_isWay_22 rfl rfl ?_
      refine ev_idiv 24 dX9_isWay_23 rfl (by omega) (by omega) ?_
      refine ev_istore_n 25 dX9_isWay_24 rfl (Nat.le_of_ble_eq_true rfl) ?_
      refine ev_iinc 28 dX9_isWay_25 rfl rfl ?_
      refine ev_goto 7 dX9_isWay_28 rfl ?_
      exact ih (c + 1) (l / n) (orc t (l % n)) (by omega) (by omega) hd.1 (orc_r ht ⟨hd.2.1, by omega⟩)
theorem m_isWay {n code : Int} (hn : 0 < n ∧ n ≤ 5) (hc : 0 ≤ code ∧ code < 2147483648) : Ev sh mX9_isWay 0 [some (vi code), some (vi n), none, none, none] [] h (RI fun x h' => x = b2i (wayB n code) ∧ h = h') := by
  refine ev_iconst 1 dX9_isWay_0 rfl ?_
  refine ev_istore_n 2 dX9_isWay_1 rfl (Nat.le_of_ble_eq_true rfl) ?_
  refine ev_iload_n 3 dX9_isWay_2 rfl rfl ?_
  refine ev_istore_n 4 dX9_isWay_3 rfl (Nat.le_of_ble_eq_true rfl) ?_
  refine ev_iconst 5 dX9_isWay_4 rfl ?_
  refine ev_istore 7 dX9_isWay_5 rfl (Nat.le_of_ble_eq_true rfl) ?_
  exact m_isWay_loop hn n.toNat 0 code 0 (by omega) (by omega) hc (by omega)
end WY
def ovr (w s : Int → Int) (n : Int) : Int → Int := fun i => if 0 ≤ i ∧ i < n then w i else s i
def winW (h : Hp) (w : Int → Int) : Int := (raceS h (ovr w (h 4) (h 0 2)) 0).2.2.2.1 0
def dgt (n code : Int) : Int → Int := fillW n n.toNat code (fun _ => 0)
def oth (n : Int) (s : Int → Int) (code : Int) : Int := cntW n s n.toNat code 0
def kstep (h : Hp) (c code : Int) (r : Int × (Int → Int)) : Int × (Int → Int) := if wayB (h 0 2) code = true ∧ winW h (dgt (h 0 2) code) = c ∧ (r.1 < 0 ∨ oth (h 0 2) (h 4) code < r.1) then (oth (h 0 2) (h 4) code, dgt (h 0 2) code) else r
def kfold (h : Hp) (c : Int) : Nat → Int × (Int → Int)
  | 0 => (-9, fun _ => 0)
  | i + 1 => kstep h c i (kfold h c i)
theorem kfold_r {h : Hp} (hn : 0 ≤ h 0 2 ∧ h 0 2 ≤ 5) {c : Int} : ∀ i : Nat, -9 ≤ (kfold h c i).1 ∧ (kfold h c i).1 ≤ 5 := by
  intro i
  induction i with
  | zero =>
    show (-9 : Int) ≤ -9 ∧ (-9 : Int) ≤ 5
    omega
  | succ i ih =>
    unfold kfold kstep
    split
    · have := cnt_r (n := h 0 2) (s := h 4) (h 0 2).toNat i 0
      unfold oth
      dsimp only
      omega
    · exact ih
theorem raceS_ag2 {h : Hp} {s s' : Int → Int} {ill : Int} (hn : 0 ≤ h 0 2 ∧ h 0 2 ≤ 5) (e : ∀ i, (0 ≤ i ∧ i < h 0 2) ∨ (5 ≤ i ∧ i < 17) → s' i = s i) : rAg (h 0 2) (raceS h s' ill) (raceS h s ill) := race_ag hn.1 (fun c a b => e (5 + c) (by omega)) (fun c a b => by
  unfold sGain
  rw [e c (by omega), e 10 (by omega)]) 1000 1 _ _ ⟨ag_rf, ag_rf, ag_rf, fun _ _ _ => rfl, rfl⟩
def pw (n : Int) : Nat → Int
  | 0 => 1
  | k + 1 => pw n k * n
theorem pw_b {n : Int} (hn : 0 < n ∧ n ≤ 5) : 1 ≤ pw n n.toNat ∧ pw n n.toNat ≤ 3125 := by
  have : n = 1 ∨ n = 2 ∨ n = 3 ∨ n = 4 ∨ n = 5 := by omega
  rcases this with rfl | rfl | rfl | rfl | rfl <;> decide
/-- what the search for kings has found behind i codes -/
def FK (h H : Hp) (i : Nat) : Prop := PsM h H ∧ (∀ j, 5 ≤ j → j < 17 → H 13 j = h 4 j) ∧ ∀ c, 0 ≤ c → c < h 0 2 → H 19 c = (kfold h c i).1 ∧ (0 ≤ (kfold h c i).1 → ∀ k, 0 ≤ k → k < h 0 2 → H 18 (5 * c + k) = (kfold h c i).2 k)
