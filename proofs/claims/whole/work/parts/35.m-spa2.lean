theorem ev_ifeq_any {sh : List CS} {M : MI} {pc : Nat} {ls : List (Option AV)} {st : List AV} {h : Hp} {post : Option AV → Hp → Prop} (n t : Nat) {x : Int} {off : Int} (hd : decode M.2.1 pc = .ok (.ifCond .eq off, 3)) (hn : pc + 3 = n) (ht : (pc : Int) + off = (t : Int)) (kt : Ev sh M t ls st h post) (kf : Ev sh M n ls st h post) : Ev sh M pc ls (vi x :: st) h post := by
  subst hn
  intro p l e s m args below meth c D cA ad A H locs las C hP hD hS hA hl
  exact lv_if_eq C.1 C.2.1 hd ht (fun _ => kt p l e s m args below meth c D cA ad A H locs las C hP hD hS hA hl) (fun _ => kf p l e s m args below meth c D cA ad A H locs las C hP hD hS hA hl)
section SPA
variable {h : Hp}
def spP (h : Hp) (z : Int ⊕ (PS × Int)) : Option AV → Hp → Prop := RI fun x h' => (∃ f, z = .inl f ∧ x = -10 - f ∧ PsM h h') ∨ (∃ r, z = .inr r ∧ x = r.2 ∧ StM h h' r.1 ∧ PSok r.1)
theorem m_spa_loop (hT : TX h) : ∀ (k : Nat) (S : PS) (p it : Int) (H : Hp), 0 ≤ p → p ≤ h 0 14 → h 0 14 - p < k → PsM h H → TKs H (h 9) (h 0 14) p → H 0 19 = 0 → SR H S → PSok S → H 0 20 = it → Ev shM mX9_spa 29 [some (vr 0)] [] H (spP h (parseF (h 9) (h 0 14) k S p it)) := by
  intro k
  induction k with
  | zero => intro S p it H h0 h1 h2; omega
  | succ k ih =>
    intro S p it H h0 h1 h2 pp hk hw hS hSo h20
    have htr := mTok_r (k := tK (h 9) (h 0 14) p) (v := tV (h 9) (h 0 14) p)
    unfold parseF
    refine ev_aload_n 30 dX9_spa_29 rfl rfl ?_
    refine ev_getI' 33 17 (mTok (tK (h 9) (h 0 14) p) (tV (h 9) (h 0 14) p)) fX9_103 rfl dX9_spa_30 rfl rfl rfl (by decide) rfl hk.2.2.1 ?_
    refine ev_if_eq 36 60 dX9_spa_33 rfl rfl (by omega) (fun c33 => ?_) (fun c33 => ?_)
    · rw [if_pos (mTok_0.mp c33)]
      refine ev_aload_n 61 dX9_spa_60 rfl rfl ?_
      refine ev_getI' 64 19 (0) fX9_113 rfl dX9_spa_61 rfl rfl rfl (by decide) rfl hw ?_
      refine ev_if_eq 67 75 dX9_spa_64 rfl rfl (by omega) (fun c64 => ?_) (fun c64 => ?_)
      · refine ev_aload_n 76 dX9_spa_75 rfl rfl ?_
        refine cVv0 79 kX9_spa_145 dX9_spa_76 rfl rfl rfl rfl rfl (by decide) rfl (Nat.le_of_ble_eq_true rfl) (m_settles pp hS hSo) ?_
        rintro H2 ⟨q1, q2⟩
        refine ev_aload_n 80 dX9_spa_79 rfl rfl ?_
        refine ev_getI' 83 20 (it) fX9_139 rfl dX9_spa_80 rfl rfl rfl (by decide) rfl (q2.trans h20) ?_
        exact ev_iret rfl dX9_spa_83 (Or.inr ⟨_, rfl, rfl, q1, hSo⟩)
      · omega --done
    · rw [if_neg (fun w => c33 (mTok_0.mpr w))]
      refine ev_aload_n 37 dX9_spa_36 rfl rfl ?_
      refine ev_getI' 40 19 (0) fX9_113 rfl dX9_spa_37 rfl rfl rfl (by decide) rfl hw ?_
      refine ev_if_ne 43 60 dX9_spa_40 rfl rfl (by omega) (fun c40 => ?_) (fun c40 => ?_)
      · omega --done
      · refine ev_aload_n 44 dX9_spa_43 rfl rfl ?_
        refine cVv0 47 kX9_spa_142 dX9_spa_44 rfl rfl rfl rfl rfl (by decide) rfl (Nat.le_of_ble_eq_true rfl) (m_readItem hT pp hw hk ⟨h0, h1⟩ hS hSo h20) ?_
        rintro H2 ⟨p2, x2, d2⟩
        refine ev_aload_n 48 dX9_spa_47 rfl rfl ?_
        refine ev_dup_r 49 dX9_spa_48 rfl ?_
        refine ev_getI' 52 20 (it) fX9_139 rfl dX9_spa_49 rfl rfl rfl (by decide) rfl x2 ?_
        refine ev_iconst 53 dX9_spa_52 rfl ?_
        refine ev_iadd 54 dX9_spa_53 rfl ?_
        refine ev_putI' 57 20 (hput H2 0 (up (H2 0) 20 (it + 1))) pX9_139 rfl dX9_spa_54 rfl rfl rfl rfl rfl ?_
        refine ev_goto 29 dX9_spa_57 rfl ?_
        rcases d2 with ⟨f, e1, e2, e3⟩ | ⟨r, e1, e2, e3, e4⟩
        · rw [e1]
          have K60 : Ev shM mX9_spa 60 [some (vr 0)] [] (hput H2 0 (up (H2 0) 20 (it + 1))) (spP h (Sum.inl f)) := by
            refine ev_aload_n 61 dX9_spa_60 rfl rfl ?_
            refine ev_getI' 64 19 1 fX9_113 rfl dX9_spa_61 rfl rfl rfl (by decide) rfl (by rw [hput_s, up_n (by decide)]; exact e2) ?_
            refine ev_if_eq 67 75 dX9_spa_64 rfl rfl (by omega) (fun w => by omega) (fun _ => ?_)
            refine ev_bipush 69 dX9_spa_67 rfl (by decide +kernel) ?_
            refine ev_aload_n 70 dX9_spa_69 rfl rfl ?_
            refine ev_getI' 73 16 f fX9_97 rfl dX9_spa_70 rfl rfl rfl (by decide) rfl (by rw [hput_s, up_n (by decide)]; exact e3) ?_
            refine ev_isub 74 dX9_spa_73 rfl ?_
            exact ev_iret rfl dX9_spa_74 (Or.inl ⟨f, rfl, rfl, p2.s0 (fun i hi => up_n (by omega))⟩)
          refine ev_aload_n 30 dX9_spa_29 rfl rfl ?_
          refine ev_getI 33 17 fX9_103 rfl dX9_spa_30 rfl rfl rfl (by decide) rfl ?_
          refine ev_ifeq_any 36 60 dX9_spa_33 rfl rfl K60 ?_
          refine ev_aload_n 37 dX9_spa_36 rfl rfl ?_
          refine ev_getI' 40 19 1 fX9_113 rfl dX9_spa_37 rfl rfl rfl (by decide) rfl (by rw [hput_s, up_n (by decide)]; exact e2) ?_
          exact ev_if_ne 43 60 dX9_spa_40 rfl rfl (by omega) (fun _ => K60) (fun w => by omega)
        · rw [e1]
          have ho := item_ok ⟨h0, h1⟩ hSo e1
          refine ih r.1 r.2 (it + 1) _ (by omega) ho.2.2 (by omega) (p2.s0 (fun i hi => up_n (by omega))) (TKs_c (fun i a b => by rw [hput_s, up_n (by omega)]) e3) (by rw [hput_s, up_n (by decide)]; exact e2) ?_ ho.1 (by rw [hput_s, up_s])
          unfold SR at e4 ⊢
          rw [hput_s, up_n (by decide), up_n (by decide), hput_n (by decide), hput_n (by decide), hput_n (by decide)]
          exact e4
theorem m_spa (hT : TX h) : Ev shM mX9_spa 0 [some (vr 0)] [] h (spP h (parseF (h 9) (h 0 14) ((h 0 14).toNat + 1) PS0 0 0)) := by
  have hL := hT.1
  have P : PsM h (hput h 0 (up (up (up (up (up (h 0) 15 0) 19 0) 20 0) 21 0) 23 0)) := PsM.rf.s0 (fun i hi => by rw [up_n (by omega), up_n (by omega), up_n (by omega), up_n (by omega), up_n (by omega)])
  have hSo : PSok PS0 := ⟨⟨by decide, by decide⟩, fun i a b => by have b : i < 0 := b; omega, ⟨by decide, by decide⟩, fun i a b => by have b : i < 0 := b; omega⟩
  refine ev_aload_n 1 dX9_spa_0 rfl rfl ?_
  refine ev_iconst 2 dX9_spa_1 rfl ?_
  refine ev_putI' 5 15 (hput h 0 (up (h 0) 15 0)) pX9_91 rfl dX9_spa_2 rfl rfl rfl rfl rfl ?_
  refine ev_aload_n 6 dX9_spa_5 rfl rfl ?_
  refine ev_iconst 7 dX9_spa_6 rfl ?_
  refine ev_putZ' 10 19 (hput h 0 (up (up (h 0) 15 0) 19 0)) pX9_113 rfl dX9_spa_7 rfl rfl rfl (by omega) rfl hput_hput ?_
  refine ev_aload_n 11 dX9_spa_10 rfl rfl ?_
  refine ev_iconst 12 dX9_spa_11 rfl ?_
  refine ev_putI' 15 20 (hput h 0 (up (up (up (h 0) 15 0) 19 0) 20 0)) pX9_139 rfl dX9_spa_12 rfl rfl rfl rfl hput_hput ?_
  refine ev_aload_n 16 dX9_spa_15 rfl rfl ?_
  refine ev_iconst 17 dX9_spa_16 rfl ?_
  refine ev_putI' 20 21 (hput h 0 (up (up (up (up (h 0) 15 0) 19 0) 20 0) 21 0)) pX9_120 rfl dX9_spa_17 rfl rfl rfl rfl hput_hput ?_
  refine ev_aload_n 21 dX9_spa_20 rfl rfl ?_
  refine ev_iconst 22 dX9_spa_21 rfl ?_
  refine ev_putI' 25 23 (hput h 0 (up (up (up (up (up (h 0) 15 0) 19 0) 20 0) 21 0) 23 0)) pX9_123 rfl dX9_spa_22 rfl rfl rfl rfl hput_hput ?_
  refine ev_aload_n 26 dX9_spa_25 rfl rfl ?_
  refine cVv0 29 kX9_spa_117 dX9_spa_26 rfl rfl rfl rfl rfl (by decide) rfl (Nat.le_of_ble_eq_true rfl) (m_nextP hT (q := 0) P (by rw [hput_s, up_n (by decide), up_n (by decide), up_n (by decide), up_n (by decide), up_s]) (by omega)) ?_
  rintro H2 ⟨p2, t2, f2, g2⟩
  refine m_spa_loop hT _ PS0 0 0 H2 (by omega) (by omega) (by omega) p2 t2 ?_ ⟨?_, fun i a b => by have b : i < 0 := b; omega, ?_, fun i a b => by have b : i < 0 := b; omega⟩ hSo ?_
  · rw [g2 19 (by omega), hput_s, up_n (by decide), up_n (by decide), up_n (by decide), up_s]
  · rw [g2 21 (by omega), hput_s, up_n (by decide), up_s]; rfl
  · rw [g2 23 (by omega), hput_s, up_s]; rfl
  · rw [g2 20 (by omega), hput_s, up_n (by decide), up_n (by decide), up_s]
/-- what now() answers: in words of its parts -/
theorem m_now {w : Int} (hw : R32 w) (hl : 0 ≤ h 0 0 ∧ h 0 0 ≤ 16) (hn : 0 ≤ h 0 2 ∧ h 0 2 ≤ 5) (hW : 0 < h 0 0 ∧ 0 < h 0 2 → MW h) (hs : NW (h 0 2) (h 4)) (hpol : ∀ c, 0 ≤ c → c < h 0 2 → R32 (h 2 (2 * c + 1))) (hreg : ∀ c, 0 ≤ c → c < h 0 2 → 0 ≤ h 4 (12 + c) ∧ h 4 (12 + c) ≤ 1000) (hm : 0 ≤ h 0 10 ∧ h 0 10 ≤ 6) (ht : ∀ k, 0 ≤ k → k < h 0 10 → (0 ≤ h 8 (2 * k) ∧ h 8 (2 * k) < h 0 2) ∧ R32 (h 8 (2 * k + 1))) : Ev shM mX9_now 0 [some (vr 0), some (vi w)] [] h (RI fun x h' => PsM h h' ∧ ((w = 0 ∧ x = h 4 11) ∨ (w = 1 ∧ x = (if 0 < h 0 0 ∧ 0 < h 0 2 then (raceS h (h 4) 0).2.2.2.1 0 else -9)) ∨ (w = 2 ∧ ((¬ (0 < h 0 0 ∧ 0 < h 0 2) ∧ x = 0) ∨ ((0 < h 0 0 ∧ 0 < h 0 2) ∧ (0 ≤ x ∧ x < 32) ∧ ∀ d, 0 ≤ d → d < 5 → bit x d = if d < h 0 2 ∧ 0 ≤ (kingM h d).1 then 1 else 0))) ∨ (w = 3 ∧ x = ruF (rsum (h 0 2) (fun c => h 2 (2 * c + 1)) (fun c => h 4 (12 + c))) 4 0 (-9) 0) ∨ ((w = 4 ∨ w = 5) ∧ ((¬ (0 < h 0 0 ∧ 0 < h 0 2) ∧ x = 0) ∨ ((0 < h 0 0 ∧ 0 < h 0 2) ∧ (0 ≤ x ∧ x < 32) ∧ ∀ d, 0 ≤ d → d < 5 → bit x d = b2i (anyB (tmB h (if w = 4 then 1 else 0) d) (h 0 10).toNat)))) ∨ (w = 6 ∧ x = h 0 7) ∨ ((w < 0 ∨ 6 < w) ∧ x = -1))) := by
  refine ev_iload_n 1 dX9_now_0 rfl rfl ?_
  by_cases w1 : w < 0 ∨ 6 < w
  · refine ev_tswOut 96 dX9_now_1 (by omega) w1 rfl ?_
    refine ev_iconst 97 dX9_now_96 rfl ?_
    exact ev_iret rfl dX9_now_97 (⟨PsM.rf, Or.inr (Or.inr (Or.inr (Or.inr (Or.inr (Or.inr ⟨w1, rfl⟩)))))⟩)
  have w1 : w = 0 ∨ w = 1 ∨ w = 2 ∨ w = 3 ∨ w = 4 ∨ w = 5 ∨ w = 6 := by omega
  rcases w1 with w1 | w1 | w1 | w1 | w1 | w1 | w1
  · rw [w1]
    refine ev_tswIn 44 dX9_now_1 ⟨by decide, by decide⟩ (by decide) (by decide) rfl rfl ?_
    refine ev_aload_n 45 dX9_now_44 rfl rfl ?_
    refine ev_getR 48 fX9_19 rfl dX9_now_45 rfl rfl rfl ?_
    refine ev_bipush 50 dX9_now_48 rfl (by decide +kernel) ?_
    refine ev_iald 51 dX9_now_50 rfl rfl (by decide) (by omega) ?_
    exact ev_iret rfl dX9_now_51 (⟨PsM.rf, Or.inl ⟨rfl, rfl⟩⟩)
  · rw [w1]
    refine ev_tswIn 52 dX9_now_1 ⟨by decide, by decide⟩ (by decide) (by decide) rfl rfl ?_
    refine ev_aload_n 53 dX9_now_52 rfl rfl ?_
    refine cVi0 56 kX9_now_184 dX9_now_53 rfl rfl rfl rfl rfl (by decide) rfl (Nat.le_of_ble_eq_true rfl) (m_isRace (by omega) (by omega)) ?_
    rintro x _ ⟨rfl, rfl⟩
    refine ev_if_eq 59 66 dX9_now_56 rfl rfl it_r (fun c56 => ?_) (fun c56 => ?_)
    · have d56 := it_0.mp c56
      refine ev_bipush 68 dX9_now_66 rfl (by decide +kernel) (ev_iret rfl dX9_now_68 ⟨PsM.rf, Or.inr (Or.inl ⟨rfl, ?_⟩)⟩)
      rw [if_neg d56]
    · have d56 := it_1.mp c56
      refine ev_aload_n 60 dX9_now_59 rfl rfl ?_
      refine cVi0 63 kX9_now_196 dX9_now_60 rfl rfl rfl rfl rfl (by decide) rfl (Nat.le_of_ble_eq_true rfl) (m_first (hW d56) hs) ?_
      rintro x h1 ⟨e1, p1⟩
      refine ev_goto 68 dX9_now_63 rfl (ev_iret rfl dX9_now_68 ⟨p1, Or.inr (Or.inl ⟨rfl, ?_⟩)⟩)
      rw [if_pos d56]; exact e1
  · rw [w1]
    refine ev_tswIn 69 dX9_now_1 ⟨by decide, by decide⟩ (by decide) (by decide) rfl rfl ?_
    refine ev_aload_n 70 dX9_now_69 rfl rfl ?_
    refine cVi0 73 kX9_now_200 dX9_now_70 rfl rfl rfl rfl rfl (by decide) rfl (Nat.le_of_ble_eq_true rfl) (m_kings hl hn hW hs) ?_
    rintro x h1 ⟨p1, e1⟩
    exact ev_iret rfl dX9_now_73 (⟨p1, Or.inr (Or.inr (Or.inl ⟨rfl, e1⟩))⟩)
  · rw [w1]
    refine ev_tswIn 74 dX9_now_1 ⟨by decide, by decide⟩ (by decide) (by decide) rfl rfl ?_
    refine ev_aload_n 75 dX9_now_74 rfl rfl ?_
    refine cVi0 78 kX9_now_203 dX9_now_75 rfl rfl rfl rfl rfl (by decide) rfl (Nat.le_of_ble_eq_true rfl) (m_ruled hn hpol hreg) ?_
    rintro x _ ⟨e1, rfl⟩
    exact ev_iret rfl dX9_now_78 (⟨PsM.rf, Or.inr (Or.inr (Or.inr (Or.inl ⟨rfl, e1⟩)))⟩)
  · rw [w1]
    refine ev_tswIn 79 dX9_now_1 ⟨by decide, by decide⟩ (by decide) (by decide) rfl rfl ?_
    refine ev_aload_n 80 dX9_now_79 rfl rfl ?_
    refine ev_iconst 81 dX9_now_80 rfl ?_
    refine cVi1 84 kX9_now_206 dX9_now_81 rfl rfl rfl rfl rfl (by decide) rfl (Nat.le_of_ble_eq_true rfl) (m_suspects (Or.inr rfl) hl hn hW hs hm ht) ?_
    rintro x h1 ⟨p1, e1⟩
    exact ev_iret rfl dX9_now_84 (⟨p1, Or.inr (Or.inr (Or.inr (Or.inr (Or.inl ⟨Or.inl rfl, e1⟩))))⟩)
  · rw [w1]
    refine ev_tswIn 85 dX9_now_1 ⟨by decide, by decide⟩ (by decide) (by decide) rfl rfl ?_
    refine ev_aload_n 86 dX9_now_85 rfl rfl ?_
    refine ev_iconst 87 dX9_now_86 rfl ?_
    refine cVi1 90 kX9_now_206 dX9_now_87 rfl rfl rfl rfl rfl (by decide) rfl (Nat.le_of_ble_eq_true rfl) (m_suspects (Or.inl rfl) hl hn hW hs hm ht) ?_
    rintro x h1 ⟨p1, e1⟩
    exact ev_iret rfl dX9_now_90 (⟨p1, Or.inr (Or.inr (Or.inr (Or.inr (Or.inl ⟨Or.inr rfl, e1⟩))))⟩)
  · rw [w1]
    refine ev_tswIn 91 dX9_now_1 ⟨by decide, by decide⟩ (by decide) (by decide) rfl rfl ?_
    refine ev_aload_n 92 dX9_now_91 rfl rfl ?_
    refine ev_getI 95 7 fX9_148 rfl dX9_now_92 rfl rfl rfl (by decide) rfl ?_
    exact ev_iret rfl dX9_now_95 (⟨PsM.rf, Or.inr (Or.inr (Or.inr (Or.inr (Or.inr (Or.inl ⟨rfl, rfl⟩)))))⟩)
end SPA
