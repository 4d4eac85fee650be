theorem pw6_b {n : Int} (hn : 0 < n ∧ n ≤ 5) : 1 ≤ pw 6 n.toNat ∧ pw 6 n.toNat ≤ 7776 := by
  have : n = 1 ∨ n = 2 ∨ n = 3 ∨ n = 4 ∨ n = 5 := by omega
  rcases this with rfl | rfl | rfl | rfl | rfl <;> decide
/-- minutes that a chair needs alone, not held back -/
def baseM (h : Hp) (c : Int) : Int := ceilD (sumZ (h 1) (h 0 0).toNat) (sGain (h 3) (fun c => h 2 (2 * c)) (h 4) 0 c)
def bM (h : Hp) : Int → Int := fun c => if 0 ≤ c ∧ c < h 0 2 then baseM h c else 0
theorem bM_r {h : Hp} (hW : MW h) (hs : NW (h 0 2) (h 4)) : ∀ c, 0 ≤ c → c < 5 → 0 ≤ bM h c ∧ bM h c ≤ 128 := by
  intro c a b
  unfold bM
  split
  · rename_i q
    exact ceil_r (sumC_r hW.1) (sGain_r hW hs 0 q).1
  · omega
def fairM (h : Hp) : Int × Int × (Int → Int) := ffold (bM h) (h 0 2) (pw 6 (h 0 2).toNat).toNat
section FR2
variable {h : Hp}
theorem m_fair_tail {H1 : Hp} {b : Int → Int} {n : Int} {i : Int} {lst tog : Int} {x1 x2 : Option AV} {post : Option AV → Hp → Prop} (hf1 : -10000 ≤ lst ∧ lst ≤ 10000) (hf2 : 0 ≤ tog ∧ tog ≤ 25) (hlo : 0 ≤ loF b n.toNat i 10000 ∧ loF b n.toNat i 10000 ≤ 10000) (hhi : 0 ≤ hiF b n.toNat i 0 ∧ hiF b n.toNat i 0 ≤ 10000) (hsu : (0 : Int) ≤ suF n.toNat i 0 ∧ suF n.toNat i 0 ≤ 0 + 5 * (n.toNat : Int)) (no : ¬ (lst < 0 ∨ sprF b n i < lst ∨ (sprF b n i = lst ∧ sumF n i < tog)) → ∀ x6 x7 x8 x9 x10 x11, Ev shM mX9_fair 290 [some (vr 0), x1, x2, some (vi lst), some (vi tog), some (vi i), x6, x7, x8, x9, x10, x11] [] H1 post) (yes : (lst < 0 ∨ sprF b n i < lst ∨ (sprF b n i = lst ∧ sumF n i < tog)) → ∀ x6 x7 x8 x9 x11, Ev shM mX9_fair 259 [some (vr 0), x1, x2, some (vi (sprF b n i)), some (vi (sumF n i)), some (vi i), x6, x7, x8, x9, some (vi 0), x11] [] H1 post) (hn : n ≤ 5) (l2 : Int) (o11 : Option AV) : Ev shM mX9_fair 217 [some (vr 0), x1, x2, some (vi lst), some (vi tog), some (vi i), some (vi l2), some (vi (loF b n.toNat i 10000)), some (vi (hiF b n.toNat i 0)), some (vi (suF n.toNat i 0)), some (vi (-1)), o11] [] H1 post := by
  have hsp : sprF b n i = hiF b n.toNat i 0 - loF b n.toNat i 10000 := rfl
  have hsm : sumF n i = suF n.toNat i 0 := rfl
  rw [hsp, hsm] at no yes
  generalize loF b n.toNat i 10000 = lo at *
  generalize hiF b n.toNat i 0 = hi at *
  generalize suF n.toNat i 0 = su at *
  refine ev_iload_n 218 dX9_fair_217 rfl rfl ?_
  refine ev_if_lt 221 246 dX9_fair_218 rfl rfl (by omega) (fun c218 => ?_) (fun c218 => ?_)
  · refine ev_iload 248 dX9_fair_246 rfl rfl ?_
    refine ev_iload 250 dX9_fair_248 rfl rfl ?_
    refine ev_isub 251 dX9_fair_250 rfl ?_
    refine ev_istore_n 252 dX9_fair_251 rfl (Nat.le_of_ble_eq_true rfl) ?_
    refine ev_iload 254 dX9_fair_252 rfl rfl ?_
    refine ev_istore 256 dX9_fair_254 rfl (Nat.le_of_ble_eq_true rfl) ?_
    refine ev_iconst 257 dX9_fair_256 rfl ?_
    refine ev_istore 259 dX9_fair_257 rfl (Nat.le_of_ble_eq_true rfl) ?_
    exact yes (by omega) _ _ _ _ _
  · refine ev_iload 223 dX9_fair_221 rfl rfl ?_
    refine ev_iload 225 dX9_fair_223 rfl rfl ?_
    refine ev_isub 226 dX9_fair_225 rfl ?_
    refine ev_iload_n 227 dX9_fair_226 rfl rfl ?_
    refine ev_icmp_lt 230 246 dX9_fair_227 rfl rfl (by omega) (by omega) (fun c227 => ?_) (fun c227 => ?_)
    · refine ev_iload 248 dX9_fair_246 rfl rfl ?_
      refine ev_iload 250 dX9_fair_248 rfl rfl ?_
      refine ev_isub 251 dX9_fair_250 rfl ?_
      refine ev_istore_n 252 dX9_fair_251 rfl (Nat.le_of_ble_eq_true rfl) ?_
      refine ev_iload 254 dX9_fair_252 rfl rfl ?_
      refine ev_istore 256 dX9_fair_254 rfl (Nat.le_of_ble_eq_true rfl) ?_
      refine ev_iconst 257 dX9_fair_256 rfl ?_
      refine ev_istore 259 dX9_fair_257 rfl (Nat.le_of_ble_eq_true rfl) ?_
      exact yes (by omega) _ _ _ _ _
    · refine ev_iload 232 dX9_fair_230 rfl rfl ?_
      refine ev_iload 234 dX9_fair_232 rfl rfl ?_
      refine ev_isub 235 dX9_fair_234 rfl ?_
      refine ev_iload_n 236 dX9_fair_235 rfl rfl ?_
      refine ev_icmp_ne 239 290 dX9_fair_236 rfl rfl (by omega) (by omega) (fun c236 => ?_) (fun c236 => ?_)
      · exact no (by omega) _ _ _ _ _ _
      · refine ev_iload 241 dX9_fair_239 rfl rfl ?_
        refine ev_iload 243 dX9_fair_241 rfl rfl ?_
        refine ev_icmp_ge 246 290 dX9_fair_243 rfl rfl (by omega) (by omega) (fun c243 => ?_) (fun c243 => ?_)
        · exact no (by omega) _ _ _ _ _ _
        · refine ev_iload 248 dX9_fair_246 rfl rfl ?_
          refine ev_iload 250 dX9_fair_248 rfl rfl ?_
          refine ev_isub 251 dX9_fair_250 rfl ?_
          refine ev_istore_n 252 dX9_fair_251 rfl (Nat.le_of_ble_eq_true rfl) ?_
          refine ev_iload 254 dX9_fair_252 rfl rfl ?_
          refine ev_istore 256 dX9_fair_254 rfl (Nat.le_of_ble_eq_true rfl) ?_
          refine ev_iconst 257 dX9_fair_256 rfl ?_
          refine ev_istore 259 dX9_fair_257 rfl (Nat.le_of_ble_eq_true rfl) ?_
          exact yes (by omega) _ _ _ _ _
theorem m_fair_loop (hW : MW h) (hs : NW (h 0 2) (h 4)) {c : Int} (hc : -1 ≤ c ∧ c < h 0 2) : ∀ (k : Nat) (i : Nat) (H : Hp) (o6 o7 o8 o9 o10 o11 : Option AV), (i : Int) + k = pw 6 (h 0 2).toNat → PsM h H → (∀ e, 0 ≤ e → e < h 0 2 → H 21 e = bM h e) → (1 ≤ i → ∀ e, 0 ≤ e → e < h 0 2 → H 20 e = (ffold (bM h) (h 0 2) i).2.2 e) → Ev shM mX9_fair 81 [some (vr 0), some (vi c), some (vi (pw 6 (h 0 2).toNat)), some (vi (ffold (bM h) (h 0 2) i).1), some (vi (ffold (bM h) (h 0 2) i).2.1), some (vi (i : Int)), o6, o7, o8, o9, o10, o11] [] H (RI fun x h' => PsM h h' ∧ x = if c < 0 then (fairM h).1 else (fairM h).2.2 c) := by
  have hn : 0 < h 0 2 ∧ h 0 2 ≤ 5 := ⟨hW.1.1, hW.1.2.1⟩
  have hpw := pw6_b hn
  have hb := bM_r hW hs
  intro k
  induction k with
  | zero =>
    intro i H o6 o7 o8 o9 o10 o11 h1 p h21 h20
    have hi : fairM h = ffold (bM h) (h 0 2) i := by unfold fairM; rw [show (pw 6 (h 0 2).toNat).toNat = i by omega]
    rw [hi]
    refine ev_iload 83 dX9_fair_81 rfl rfl ?_
    refine ev_iload_n 84 dX9_fair_83 rfl rfl ?_
    refine ev_icmp_ge 87 296 dX9_fair_84 rfl rfl (by omega) (by omega) (fun c84 => ?_) (fun c84 => ?_)
    · refine ev_iload_n 297 dX9_fair_296 rfl rfl ?_
      refine ev_if_ge 300 304 dX9_fair_297 rfl rfl (by omega) (fun c297 => ?_) (fun c297 => ?_)
      · rw [if_neg (by omega)]
        refine ev_aload_n 305 dX9_fair_304 rfl rfl ?_
        refine ev_getR 308 fX9_68 rfl dX9_fair_305 rfl rfl rfl ?_
        refine ev_iload_n 309 dX9_fair_308 rfl rfl ?_
        refine ev_iald' 310 ((ffold (bM h) (h 0 2) i).2.2 c) dX9_fair_309 rfl rfl (by decide) (by omega) (h20 (by omega) c (by omega) hc.2) ?_
        exact ev_iret rfl dX9_fair_310 (⟨p, rfl⟩)
      · rw [if_pos (by omega)]
        refine ev_iload_n 301 dX9_fair_300 rfl rfl ?_
        refine ev_goto 310 dX9_fair_301 rfl ?_
        exact ev_iret rfl dX9_fair_310 (⟨p, rfl⟩)
    · omega --done
  | succ k ih =>
    intro i H o6 o7 o8 o9 o10 o11 h1 p h21 h20
    have e02 : H 0 2 = h 0 2 := p.2 2 (by omega)
    have hfr := ffold_r (b := bM h) (n := h 0 2) ⟨by omega, hn.2⟩ hb i
    have hlo := lo_r hb (h 0 2).toNat i 10000 (by omega) (by omega)
    have hhi := hi_r hb (h 0 2).toNat i 0 (by omega) (by omega)
    have hsu := su_r (h 0 2).toNat i 0
    have hsp : hiF (bM h) (h 0 2).toNat i 0 - loF (bM h) (h 0 2).toNat i 10000 = sprF (bM h) (h 0 2) i := rfl
    have hsm : suF (h 0 2).toNat i 0 = sumF (h 0 2) i := rfl
    have pN : PsM h (hput H 13 (fill5 (h 0 2).toNat i (H 13))) := p.hp (by decide)
    have no : ¬ ((ffold (bM h) (h 0 2) i).1 < 0 ∨ sprF (bM h) (h 0 2) i < (ffold (bM h) (h 0 2) i).1 ∨ (sprF (bM h) (h 0 2) i = (ffold (bM h) (h 0 2) i).1 ∧ sumF (h 0 2) i < (ffold (bM h) (h 0 2) i).2.1)) → ∀ x6 x7 x8 x9 x10 x11, Ev shM mX9_fair 290 [some (vr 0), some (vi c), some (vi (pw 6 (h 0 2).toNat)), some (vi (ffold (bM h) (h 0 2) i).1), some (vi (ffold (bM h) (h 0 2) i).2.1), some (vi (i : Int)), x6, x7, x8, x9, x10, x11] [] (hput H 13 (fill5 (h 0 2).toNat i (H 13))) (RI fun x h' => PsM h h' ∧ x = if c < 0 then (fairM h).1 else (fairM h).2.2 c) := by
      intro hq x6 x7 x8 x9 x10 x11
      have hi0 : 1 ≤ i := by
        rcases Nat.eq_zero_or_pos i with z | z
        · subst z; exact absurd (Or.inl (show (-1 : Int) < 0 by decide)) hq
        · exact z
      have e1 : ffold (bM h) (h 0 2) (i + 1) = ffold (bM h) (h 0 2) i := by
        show fstep _ _ _ _ = _
        unfold fstep
        rw [if_neg hq]
      have K := ih (i + 1) (hput H 13 (fill5 (h 0 2).toNat i (H 13))) x6 x7 x8 x9 x10 x11 (by omega) pN (fun e a b => h21 e a b) (fun _ e a b => by rw [e1]; exact h20 hi0 e a b)
      rw [e1] at K
      refine ev_iinc 293 dX9_fair_290 rfl rfl ?_
      exact ev_goto 81 dX9_fair_293 rfl K
    have yes : ((ffold (bM h) (h 0 2) i).1 < 0 ∨ sprF (bM h) (h 0 2) i < (ffold (bM h) (h 0 2) i).1 ∨ (sprF (bM h) (h 0 2) i = (ffold (bM h) (h 0 2) i).1 ∧ sumF (h 0 2) i < (ffold (bM h) (h 0 2) i).2.1)) → ∀ x6 x7 x8 x9 x11, Ev shM mX9_fair 259 [some (vr 0), some (vi c), some (vi (pw 6 (h 0 2).toNat)), some (vi (sprF (bM h) (h 0 2) i)), some (vi (sumF (h 0 2) i)), some (vi (i : Int)), x6, x7, x8, x9, some (vi 0), x11] [] (hput H 13 (fill5 (h 0 2).toNat i (H 13))) (RI fun x h' => PsM h h' ∧ x = if c < 0 then (fairM h).1 else (fairM h).2.2 c) := by
      intro hq x6 x7 x8 x9 x11
      have e1 : ffold (bM h) (h 0 2) (i + 1) = (sprF (bM h) (h 0 2) i, sumF (h 0 2) i, D6 (h 0 2) i) := by
        show fstep _ _ _ _ = _
        unfold fstep
        rw [if_pos hq]
      have K := m_fair_by (H := hput H 13 (fill5 (h 0 2).toNat i (H 13))) (g0 := H 20) (x1 := some (vi c)) (x2 := some (vi (pw 6 (h 0 2).toNat))) (x3 := some (vi (sprF (bM h) (h 0 2) i))) (x4 := some (vi (sumF (h 0 2) i))) (x5 := some (vi (i : Int))) (x6 := x6) (x7 := x7) (x8 := x8) (x9 := x9) (x11 := x11) (post := RI fun x h' => PsM h h' ∧ x = if c < 0 then (fairM h).1 else (fairM h).2.2 c) (by rw [hput_n (by decide), e02]; exact hn) (h 0 2).toNat 0 (by omega) (by rw [hput_n (by decide), e02]; omega) (fun o10 => by
        have K2 := ih (i + 1) (hput (hput H 13 (fill5 (h 0 2).toNat i (H 13))) 20 (cpy ((hput H 13 (fill5 (h 0 2).toNat i (H 13))) 13) (H 20) 5 0 ((hput H 13 (fill5 (h 0 2).toNat i (H 13))) 0 2))) x6 x7 x8 x9 o10 x11 (by omega) (pN.hp (by decide)) (fun e a b => h21 e a b) (fun _ e a b => by
          rw [e1, hput_s, hput_s, hput_n (by decide), e02]
          unfold cpy
          rw [if_pos (by omega), show (5 : Int) + (e - 0) = 5 + e by omega]
          exact f5_ag _ _ _ _ _ (by omega) (by omega))
        rw [e1] at K2
        refine ev_iinc 293 dX9_fair_290 rfl rfl ?_
        exact ev_goto 81 dX9_fair_293 rfl K2)
      have e0 : hput (hput H 13 (fill5 (h 0 2).toNat i (H 13))) 20 (cpy ((hput H 13 (fill5 (h 0 2).toNat i (H 13))) 13) (H 20) 5 0 0) = hput H 13 (fill5 (h 0 2).toNat i (H 13)) := by
        rw [cpy_0]
        exact hput_id (k := 20)
      rw [e0] at K
      exact K
    refine ev_iload 83 dX9_fair_81 rfl rfl ?_
    refine ev_iload_n 84 dX9_fair_83 rfl rfl ?_
    refine ev_icmp_ge 87 296 dX9_fair_84 rfl rfl (by omega) (by omega) (fun c84 => ?_) (fun c84 => ?_)
    · omega --done
    · refine ev_iload 89 dX9_fair_87 rfl rfl ?_
      refine ev_istore 91 dX9_fair_89 rfl (Nat.le_of_ble_eq_true rfl) ?_
      refine ev_sipush 94 dX9_fair_91 rfl (by decide +kernel) ?_
      refine ev_istore 96 dX9_fair_94 rfl (Nat.le_of_ble_eq_true rfl) ?_
      refine ev_iconst 97 dX9_fair_96 rfl ?_
      refine ev_istore 99 dX9_fair_97 rfl (Nat.le_of_ble_eq_true rfl) ?_
      refine ev_iconst 100 dX9_fair_99 rfl ?_
      refine ev_istore 102 dX9_fair_100 rfl (Nat.le_of_ble_eq_true rfl) ?_
      refine ev_aload_n 103 dX9_fair_102 rfl rfl ?_
      refine ev_getI' 106 2 (h 0 2) fX9_74 rfl dX9_fair_103 rfl rfl rfl (by decide) rfl e02 ?_
      refine ev_iconst 107 dX9_fair_106 rfl ?_
      refine ev_isub 108 dX9_fair_107 rfl ?_
      refine ev_istore 110 dX9_fair_108 rfl (Nat.le_of_ble_eq_true rfl) ?_
      refine ev_heap (hput_id (k := 13)).symm ?_
      refine m_fair_in (by rw [e02]; exact hn) hb (fun e a b => h21 e a (by rw [e02] at b; exact b)) (h 0 2).toNat (h 0 2 - 1) i 10000 0 0 (H 13) _ (by omega) (by rw [e02]; omega) (by omega) (by omega) (by omega) (fun l2 o11 => ?_)
      exact m_fair_tail hfr.1 hfr.2 hlo hhi hsu no yes hn.2 l2 o11
theorem m_fair_init (hW : MW h) (hs : NW (h 0 2) (h 4)) {c : Int} {post : Option AV → Hp → Prop} (K : ∀ (H : Hp), PsM h H → (∀ e, 0 ≤ e → e < h 0 2 → H 21 e = bM h e) → Ev shM mX9_fair 73 [some (vr 0), some (vi c), some (vi (pw 6 (h 0 2).toNat)), some (vi (h 0 2)), none, none, none, none, none, none, none, none] [] H post) : ∀ (k : Nat) (e : Int) (H : Hp), 0 ≤ e → e + k = h 0 2 → PsM h H → (∀ i, (0 ≤ i ∧ i < 5) ∨ i = 10 → H 13 i = h 4 i) → (∀ e, 0 ≤ e → e < h 0 2 → 0 ≤ H 13 (5 + e) ∧ H 13 (5 + e) ≤ 5) → (∀ j, 0 ≤ j → j < e → H 21 j = bM h j) → Ev shM mX9_fair 34 [some (vr 0), some (vi c), some (vi (pw 6 e.toNat)), some (vi e), none, none, none, none, none, none, none, none] [] H post := by
  have hn : 0 < h 0 2 ∧ h 0 2 ≤ 5 := ⟨hW.1.1, hW.1.2.1⟩
  intro k
  induction k with
  | zero =>
    intro e H h0 h1 p q1 q2 q3
    have he : e = h 0 2 := by omega
    have e02 : H 0 2 = h 0 2 := p.2 2 (by omega)
    subst he
    refine ev_iload_n 35 dX9_fair_34 rfl rfl ?_
    refine ev_aload_n 36 dX9_fair_35 rfl rfl ?_
    refine ev_getI' 39 2 (h 0 2) fX9_74 rfl dX9_fair_36 rfl rfl rfl (by decide) rfl e02 ?_
    refine ev_icmp_ge 42 73 dX9_fair_39 rfl rfl (by omega) (by omega) (fun c39 => ?_) (fun c39 => ?_)
    · exact K H p q3
    · omega --done
  | succ k ih =>
    intro e H h0 h1 p q1 q2 q3
    have e02 : H 0 2 = h 0 2 := p.2 2 (by omega)
    have p2 : PsM h (hput H 13 (up (H 13) (5 + e) 0)) := p.hp (by decide)
    have hNf : NW ((hput H 13 (up (H 13) (5 + e) 0)) 0 2) ((hput H 13 (up (H 13) (5 + e) 0)) 13) := by
      rw [hput_n (by decide), hput_s, e02]
      refine ⟨fun d a b => ?_, ?_, ?_⟩
      · have h2 := hs.1 d a b
        have h3 := q2 d a b
        rw [up_n (by omega), q1 d (by omega)]
        by_cases q : d = e
        · subst q; rw [up_s]; omega
        · rw [up_n (by omega)]; omega
      · rw [up_n (by omega), q1 10 (by omega)]; exact hs.2.1
      · rw [up_n (by omega), q1 10 (by omega)]; exact hs.2.2
    have hval : (hput H 13 (up (H 13) (5 + e) 0)) 13 (5 + e) + ceilD (sumZ ((hput H 13 (up (H 13) (5 + e) 0)) 1) ((hput H 13 (up (H 13) (5 + e) 0)) 0 0).toNat) (mGain (hput H 13 (up (H 13) (5 + e) 0)) 0 e) = bM h e := by
      have e1 : bM h e = baseM h e := if_pos ⟨h0, by omega⟩
      rw [e1]
      unfold baseM mGain sGain
      rw [hput_s, up_s, hput_n (by decide : 1 ≠ 13), hput_n (by decide : 0 ≠ 13), hput_n (by decide : 2 ≠ 13), hput_n (by decide : 3 ≠ 13), up_n (by omega : e ≠ 5 + e), up_n (by omega : (10 : Int) ≠ 5 + e), q1 e (by omega), q1 10 (by omega), p.1 1 (by decide) (by decide), p.1 2 (by decide) (by decide), p.1 3 (by decide) (by decide), p.2 0 (by omega), Int.zero_add]
    have K2 := ih (e + 1) (hput (hput H 13 (up (H 13) (5 + e) 0)) 21 (up (H 21) e (bM h e))) (by omega) (by omega) (p2.hp (by decide)) (fun i hi => by
      show up (H 13) (5 + e) 0 i = _
      rw [up_n (by omega)]
      exact q1 i hi) (fun d a b => by
      show 0 ≤ up (H 13) (5 + e) 0 (5 + d) ∧ up (H 13) (5 + e) 0 (5 + d) ≤ 5
      by_cases q : d = e
      · subst q; rw [up_s]; omega
      · rw [up_n (by omega)]; exact q2 d a b) (fun j a b => by
      show up (H 21) e (bM h e) j = _
      by_cases q : j = e
      · subst q; rw [up_s]
      · rw [up_n q]; exact q3 j a (by omega))
    rw [show (e + 1).toNat = e.toNat + 1 by omega] at K2
    refine ev_iload_n 35 dX9_fair_34 rfl rfl ?_
    refine ev_aload_n 36 dX9_fair_35 rfl rfl ?_
    refine ev_getI' 39 2 (h 0 2) fX9_74 rfl dX9_fair_36 rfl rfl rfl (by decide) rfl e02 ?_
    refine ev_icmp_ge 42 73 dX9_fair_39 rfl rfl (by omega) (by omega) (fun c39 => ?_) (fun c39 => ?_)
    · omega --done
    · refine ev_aload_n 43 dX9_fair_42 rfl rfl ?_
      refine ev_getR 46 fX9_47 rfl dX9_fair_43 rfl rfl rfl ?_
      refine ev_iconst 47 dX9_fair_46 rfl ?_
      refine ev_iload_n 48 dX9_fair_47 rfl rfl ?_
      refine ev_iadd 49 dX9_fair_48 rfl ?_
      refine ev_iconst 50 dX9_fair_49 rfl ?_
      refine ev_iast' 51 (hput H 13 (up (H 13) (5 + e) 0)) dX9_fair_50 rfl rfl (by decide) (by omega) rfl ?_
      refine ev_aload_n 52 dX9_fair_51 rfl rfl ?_
      refine ev_getR 55 fX9_71 rfl dX9_fair_52 rfl rfl rfl ?_
      refine ev_iload_n 56 dX9_fair_55 rfl rfl ?_
      refine ev_aload_n 57 dX9_fair_56 rfl rfl ?_
      refine ev_iload_n 58 dX9_fair_57 rfl rfl ?_
      refine cVi1 61 kX9_fair_181 dX9_fair_58 rfl rfl rfl rfl rfl (by decide) rfl (Nat.le_of_ble_eq_true rfl) (m_aloneOf (h := hput H 13 (up (H 13) (5 + e) 0)) (p2.W hW).1 (p2.W hW).2 hNf ⟨h0, by rw [hput_n (by decide), e02]; omega⟩) ?_
      rintro x _ ⟨e58, rfl⟩
      rw [hval] at e58
      rw [e58]
      refine ev_iast' 62 (hput (hput H 13 (up (H 13) (5 + e) 0)) 21 (up (H 21) e (bM h e))) dX9_fair_61 rfl rfl (by decide) (by omega) rfl ?_
      refine ev_iload_n 63 dX9_fair_62 rfl rfl ?_
      refine ev_bipush 65 dX9_fair_63 rfl (by decide +kernel) ?_
      refine ev_imul 66 dX9_fair_65 rfl ?_
      refine ev_istore_n 67 dX9_fair_66 rfl (Nat.le_of_ble_eq_true rfl) ?_
      refine ev_iinc 70 dX9_fair_67 rfl rfl ?_
      refine ev_goto 34 dX9_fair_70 rfl ?_
      exact K2
theorem m_fair {c : Int} (hc : R32 c) (hl : 0 ≤ h 0 0 ∧ h 0 0 ≤ 16) (hn : 0 ≤ h 0 2 ∧ h 0 2 ≤ 5) (hW : 0 < h 0 0 ∧ 0 < h 0 2 → MW h) (hs : NW (h 0 2) (h 4)) : Ev shM mX9_fair 0 [some (vr 0), some (vi c), none, none, none, none, none, none, none, none, none, none] [] h (RI fun x h' => PsM h h' ∧ x = (if -1 ≤ c ∧ c < h 0 2 then (if 0 < h 0 0 ∧ 0 < h 0 2 then (if c < 0 then (fairM h).1 else (fairM h).2.2 c) else -2) else -1)) := by
  refine ev_iload_n 1 dX9_fair_0 rfl rfl ?_
  refine ev_iconst 2 dX9_fair_1 rfl ?_
  refine ev_aload_n 3 dX9_fair_2 rfl rfl ?_
  refine ev_getI 6 2 fX9_74 rfl dX9_fair_3 rfl rfl rfl (by decide) rfl ?_
  refine ev_iconst 7 dX9_fair_6 rfl ?_
  refine ev_isub 8 dX9_fair_7 rfl ?_
  refine cSi3 11 kX9_fair_78 dX9_fair_8 rfl rfl (by decide) rfl (Nat.le_of_ble_eq_true rfl) (m_in hc ⟨by decide, by decide⟩ (by omega)) ?_
  rintro x _ ⟨rfl, rfl⟩
  refine ev_if_ne 14 16 dX9_fair_11 rfl rfl it_r (fun c11 => ?_) (fun c11 => ?_)
  · have d11 := it_1.mp c11
    rw [if_pos (by omega)]
    refine ev_aload_n 17 dX9_fair_16 rfl rfl ?_
    refine cVi0 20 kX9_fair_184 dX9_fair_17 rfl rfl rfl rfl rfl (by decide) rfl (Nat.le_of_ble_eq_true rfl) (m_isRace (by omega) (by omega)) ?_
    rintro x _ ⟨rfl, rfl⟩
    refine ev_if_ne 23 26 dX9_fair_20 rfl rfl it_r (fun c20 => ?_) (fun c20 => ?_)
    · have d20 := it_1.mp c20
      rw [if_pos d20]
      refine ev_iconst 27 dX9_fair_26 rfl ?_
      refine ev_istore_n 28 dX9_fair_27 rfl (Nat.le_of_ble_eq_true rfl) ?_
      refine ev_aload_n 29 dX9_fair_28 rfl rfl ?_
      refine cVv0 32 kX9_fair_178 dX9_fair_29 rfl rfl rfl rfl rfl (by decide) rfl (Nat.le_of_ble_eq_true rfl) (m_asItIs) ?_
      rintro _ rfl
      refine ev_iconst 33 dX9_fair_32 rfl ?_
      refine ev_istore_n 34 dX9_fair_33 rfl (Nat.le_of_ble_eq_true rfl) ?_
      refine m_fair_init (hW d20) hs (fun H p h21 => ?_) (h 0 2).toNat 0 _ (by omega) (by omega) PsM.N (fun i hi => hN_at (by omega) (by omega)) (fun e a b => by rw [hN_at (by omega) (by omega)]; exact (hs.1 e a b).2.2) (fun j a b => by omega)
      refine ev_iconst 74 dX9_fair_73 rfl ?_
      refine ev_istore_n 75 dX9_fair_74 rfl (Nat.le_of_ble_eq_true rfl) ?_
      refine ev_iconst 76 dX9_fair_75 rfl ?_
      refine ev_istore 78 dX9_fair_76 rfl (Nat.le_of_ble_eq_true rfl) ?_
      refine ev_iconst 79 dX9_fair_78 rfl ?_
      refine ev_istore 81 dX9_fair_79 rfl (Nat.le_of_ble_eq_true rfl) ?_
      exact m_fair_loop (hW d20) hs ⟨by omega, by omega⟩ (pw 6 (h 0 2).toNat).toNat 0 H none none none none none none (by have := pw6_b (n := h 0 2) ⟨by omega, by omega⟩; omega) p h21 (fun w => by omega)
    · have d20 := it_0.mp c20
      rw [if_neg d20]
      refine ev_bipush 25 dX9_fair_23 rfl (by decide +kernel) ?_
      exact ev_iret rfl dX9_fair_25 (⟨PsM.rf, rfl⟩)
  · have d11 := it_0.mp c11
    rw [if_neg (by omega)]
    refine ev_iconst 15 dX9_fair_14 rfl ?_
    exact ev_iret rfl dX9_fair_15 (⟨PsM.rf, rfl⟩)
end FR2
