def orc (a c : Int) : Int := ((a.toNat ||| (1 * 2 ^ c.toNat : Int).toNat : Nat) : Int)
theorem orc_fin : ∀ a : Fin 32, ∀ c : Fin 5, (0 ≤ orc (a.val : Int) (c.val : Int) ∧ orc (a.val : Int) (c.val : Int) < 32) ∧ ∀ d : Fin 5, bit (orc (a.val : Int) (c.val : Int)) (d.val : Int) = if d = c then 1 else bit (a.val : Int) (d.val : Int) := by decide +kernel
theorem orc_r {a c : Int} (ha : 0 ≤ a ∧ a < 32) (hc : 0 ≤ c ∧ c < 5) : 0 ≤ orc a c ∧ orc a c < 32 := by
  have := (orc_fin ⟨a.toNat, by omega⟩ ⟨c.toNat, by omega⟩).1
  dsimp only at this
  rwa [Int.toNat_of_nonneg ha.1, Int.toNat_of_nonneg hc.1] at this
theorem orc_b {a c d : Int} (ha : 0 ≤ a ∧ a < 32) (hc : 0 ≤ c ∧ c < 5) (hd : 0 ≤ d ∧ d < 5) : bit (orc a c) d = if d = c then 1 else bit a d := by
  have := (orc_fin ⟨a.toNat, by omega⟩ ⟨c.toNat, by omega⟩).2 ⟨d.toNat, by omega⟩
  dsimp only at this
  rw [Int.toNat_of_nonneg ha.1, Int.toNat_of_nonneg hc.1, Int.toNat_of_nonneg hd.1] at this
  rw [this]
  by_cases q : d = c
  · rw [if_pos q, if_pos (by subst q; rfl)]
  · rw [if_neg q, if_neg (fun w => q (by have := congrArg Fin.val w; dsimp only at this; omega))]
theorem or_z {x : Int} (hx : 0 ≤ x) : ((x.toNat ||| (0 : Int).toNat : Nat) : Int) = x := by
  rw [show (0 : Int).toNat = 0 from rfl, Nat.or_zero, Int.toNat_of_nonneg hx]
theorem bits_fin : ∀ a b : Fin 32, (∀ d : Fin 5, bit (a.val : Int) (d.val : Int) = bit (b.val : Int) (d.val : Int)) → a = b := by decide +kernel
theorem bits_eq {a b : Int} (ha : 0 ≤ a ∧ a < 32) (hb : 0 ≤ b ∧ b < 32) (h : ∀ d, 0 ≤ d → d < 5 → bit a d = bit b d) : a = b := by
  have := bits_fin ⟨a.toNat, by omega⟩ ⟨b.toNat, by omega⟩ (fun d => by
    dsimp only
    rw [Int.toNat_of_nonneg ha.1, Int.toNat_of_nonneg hb.1]
    exact h d.val (by omega) (by omega))
  have := congrArg Fin.val this
  dsimp only at this
  omega
theorem bit_0 (d : Int) : bit 0 d = 0 := by unfold bit; rw [Int.zero_ediv]; rfl
theorem aloneS_P {h H : Hp} (p : PsM h H) {s : Int → Int} {c : Int} : aloneS H s c = aloneS h s c := by
  unfold aloneS
  rw [p.1 1 (by decide) (by decide), p.1 2 (by decide) (by decide), p.1 3 (by decide) (by decide), p.2 0 (by omega)]
theorem raceS_P {h H : Hp} (p : PsM h H) {s : Int → Int} {ill : Int} : raceS H s ill = raceS h s ill := by
  unfold raceS
  rw [p.1 1 (by decide) (by decide), p.1 2 (by decide) (by decide), p.1 3 (by decide) (by decide), p.2 0 (by omega), p.2 2 (by omega)]
def soB (h : Hp) (c g : Int) : Bool := !anyB (bdB (h 8) c (aloneS h (up (h 4) 10 (if g = 0 then 0 else 2 ^ c.toNat)) c)) (h 0 10).toNat
def susB (h : Hp) (gu c : Int) : Bool := !(soB h c 0) && (soB h c 1 == decide (gu = 1))
theorem soB_P {h H : Hp} (p : PsM h H) {c g : Int} : soB H c g = soB h c g := by
  unfold soB
  rw [aloneS_P p, p.1 4 (by decide) (by decide), p.1 8 (by decide) (by decide), p.2 10 (by omega)]
def tmB (h : Hp) (gu d : Int) : Int → Bool := fun k => decide (h 8 (2 * k) = d) && susB h gu d
theorem m_sus_loop {h : Hp} {gu : Int} (hg : gu = 0 ∨ gu = 1) (hW : MW h) (hs : NW (h 0 2) (h 4)) (hm : 0 ≤ h 0 10 ∧ h 0 10 ≤ 6) (ht : ∀ k, 0 ≤ k → k < h 0 10 → (0 ≤ h 8 (2 * k) ∧ h 8 (2 * k) < h 0 2) ∧ R32 (h 8 (2 * k + 1))) : ∀ (n : Nat) (k set : Int) (o4 o5 : Option AV) (H : Hp), 0 ≤ k → k + n = h 0 10 → PsM h H → 0 ≤ set ∧ set < 32 → (∀ d, 0 ≤ d → d < 5 → bit set d = b2i (anyB (tmB h gu d) k.toNat)) → Ev shM mX9_suspects 4 [some (vr 0), some (vi gu), some (vi set), some (vi k), o4, o5] [] H (RI fun x h' => (0 ≤ x ∧ x < 32) ∧ (∀ d, 0 ≤ d → d < 5 → bit x d = b2i (anyB (tmB h gu d) (h 0 10).toNat)) ∧ PsM h h') := by
  have hn := hW.1.2.1
  have hc1 := hW.1.2.2.1
  have hc2 := hW.1.2.2.2.1
  have hc0 := hW.1.1
  intro n
  induction n with
  | zero =>
    intro k set o4 o5 H h0 h1 p hset hb
    have he : k = h 0 10 := by omega
    have e10 : H 0 10 = h 0 10 := p.2 10 (by omega)
    subst he
    refine ev_iload_n 5 dX9_suspects_4 rfl rfl ?_
    refine ev_aload_n 6 dX9_suspects_5 rfl rfl ?_
    refine ev_getI' 9 10 (h 0 10) fX9_151 rfl dX9_suspects_6 rfl rfl rfl (by decide) rfl e10 ?_
    refine ev_icmp_ge 12 79 dX9_suspects_9 rfl rfl (by omega) (by omega) (fun c9 => ?_) (fun c9 => ?_)
    · refine ev_iload_n 80 dX9_suspects_79 rfl rfl ?_
      exact ev_iret rfl dX9_suspects_80 (⟨hset, hb, p⟩)
    · omega --done
  | succ n ih =>
    intro k set o4 o5 H h0 h1 p hset hb
    have e10 : H 0 10 = h 0 10 := p.2 10 (by omega)
    have e00 : H 0 0 = h 0 0 := p.2 0 (by omega)
    have e02 : H 0 2 = h 0 2 := p.2 2 (by omega)
    have e8 : H 8 = h 8 := p.1 8 (by decide) (by decide)
    have e4 : H 4 = h 4 := p.1 4 (by decide) (by decide)
    have htk := ht k h0 (by omega)
    have hso : ∀ {H : Hp}, PsM h H → ∀ {g : Int}, (g = 0 ∨ g = 1) → Ev shM mX9_isSo 0 [some (vr 0), some (vi (h 8 (2 * k))), some (vi g), none, none] [] H (RI fun x h' => x = b2i (soB h (h 8 (2 * k)) g) ∧ PsM h h') := by
      intro H p g hg
      refine ev_wk (m_isSo (p.W hW) (by rw [p.2 2 (by omega), p.1 4 (by decide) (by decide)]; exact hs) (by rw [p.2 2 (by omega)]; exact htk.1) hg (by rw [p.2 10 (by omega)]; exact hm) (fun j a b => by rw [p.1 8 (by decide) (by decide)]; rw [p.2 10 (by omega)] at b; have := ht j a b; exact ⟨⟨by omega, by omega⟩, this.2⟩)) ?_
      rintro _ h' ⟨x, rfl, e1, p2⟩
      exact ⟨x, rfl, by rw [e1]; exact congrArg b2i (soB_P p), p.tr p2⟩
    refine ev_iload_n 5 dX9_suspects_4 rfl rfl ?_
    refine ev_aload_n 6 dX9_suspects_5 rfl rfl ?_
    refine ev_getI' 9 10 (h 0 10) fX9_151 rfl dX9_suspects_6 rfl rfl rfl (by decide) rfl e10 ?_
    refine ev_icmp_ge 12 79 dX9_suspects_9 rfl rfl (by omega) (by omega) (fun c9 => ?_) (fun c9 => ?_)
    · omega --done
    · refine ev_aload_n 13 dX9_suspects_12 rfl rfl ?_
      refine cVi0 16 kX9_suspects_184 dX9_suspects_13 rfl rfl rfl rfl rfl (by decide) rfl (Nat.le_of_ble_eq_true rfl) (m_isRace (by rw [e00]; omega) (by rw [e02]; omega)) ?_
      rintro x _ ⟨e13, rfl⟩
      rw [e00, e02, if_pos ⟨hc1, hc0⟩] at e13
      rw [e13]
      refine ev_if_eq 19 79 dX9_suspects_16 rfl rfl (by omega) (fun c16 => ?_) (fun c16 => ?_)
      · omega --done
      · refine ev_aload_n 20 dX9_suspects_19 rfl rfl ?_
        refine ev_getR 23 fX9_32 rfl dX9_suspects_20 rfl rfl rfl ?_
        refine ev_iconst 24 dX9_suspects_23 rfl ?_
        refine ev_iload_n 25 dX9_suspects_24 rfl rfl ?_
        refine ev_imul 26 dX9_suspects_25 rfl ?_
        refine ev_iald' 27 (h 8 (2 * k)) dX9_suspects_26 rfl rfl (by decide) (by omega) (by rw [e8]) ?_
        refine ev_istore 29 dX9_suspects_27 rfl (Nat.le_of_ble_eq_true rfl) ?_
        refine ev_aload_n 30 dX9_suspects_29 rfl rfl ?_
        refine ev_iload 32 dX9_suspects_30 rfl rfl ?_
        refine ev_iconst 33 dX9_suspects_32 rfl ?_
        refine cVi2 36 kX9_suspects_188 dX9_suspects_33 rfl rfl rfl rfl rfl (by decide) rfl (Nat.le_of_ble_eq_true rfl) (hso p (Or.inl rfl)) ?_
        rintro x H1 ⟨rfl, p1⟩
        refine ev_if_ne 39 54 dX9_suspects_36 rfl rfl (b2i_r _) (fun c36 => ?_) (fun c36 => ?_)
        · have d36 := b2i_n.mp c36
          have hsu : susB h gu (h 8 (2 * k)) = false := by unfold susB; rw [d36]; rfl
          refine ev_iconst 55 dX9_suspects_54 rfl ?_
          refine ev_istore 57 dX9_suspects_55 rfl (Nat.le_of_ble_eq_true rfl) ?_
          refine ev_iload_n 58 dX9_suspects_57 rfl rfl ?_
          refine ev_iload 60 dX9_suspects_58 rfl rfl ?_
          refine ev_if_eq 63 70 dX9_suspects_60 rfl rfl (by omega) (fun _ => ?_) (fun w => absurd rfl w)
          refine ev_iconst 71 dX9_suspects_70 rfl ?_
          refine ev_ior 72 dX9_suspects_71 rfl hset.1 (by omega) ?_
          refine ev_topi (or_z hset.1) ?_
          refine ev_istore_n 73 dX9_suspects_72 rfl (Nat.le_of_ble_eq_true rfl) ?_
          refine ev_iinc 76 dX9_suspects_73 rfl rfl ?_
          refine ev_goto 4 dX9_suspects_76 rfl ?_
          refine ih (k + 1) set _ _ _ (by omega) (by omega) (by assumption) hset (fun d a b => ?_)
          rw [hb d a b, anyB_1 h0]
          congr 1
          unfold tmB
          by_cases q : h 8 (2 * k) = d
          · subst q; rw [hsu, Bool.and_false, Bool.or_false]
          · rw [decide_eq_false q, Bool.false_and, Bool.or_false]
        · have d36 := b2i_0.mp c36
          refine ev_aload_n 40 dX9_suspects_39 rfl rfl ?_
          refine ev_iload 42 dX9_suspects_40 rfl rfl ?_
          refine ev_iconst 43 dX9_suspects_42 rfl ?_
          refine cVi2 46 kX9_suspects_188 dX9_suspects_43 rfl rfl rfl rfl rfl (by decide) rfl (Nat.le_of_ble_eq_true rfl) (hso p1 (Or.inr rfl)) ?_
          rintro x H2 ⟨rfl, p2⟩
          refine ev_iload_n 47 dX9_suspects_46 rfl rfl ?_
          refine ev_icmp_ne 50 54 dX9_suspects_47 rfl rfl (b2i_r _) (by omega) (fun c47 => ?_) (fun c47 => ?_)
          · have hsu : susB h gu (h 8 (2 * k)) = false := by
              unfold susB
              rw [d36]
              rcases hg with rfl | rfl
              · cases hq : soB h (h 8 (2 * k)) 1 with
                | true => rfl
                | false => rw [hq] at c47; exact absurd rfl c47
              · cases hq : soB h (h 8 (2 * k)) 1 with
                | false => rfl
                | true => rw [hq] at c47; exact absurd rfl c47
            refine ev_iconst 55 dX9_suspects_54 rfl ?_
            refine ev_istore 57 dX9_suspects_55 rfl (Nat.le_of_ble_eq_true rfl) ?_
            refine ev_iload_n 58 dX9_suspects_57 rfl rfl ?_
            refine ev_iload 60 dX9_suspects_58 rfl rfl ?_
            refine ev_if_eq 63 70 dX9_suspects_60 rfl rfl (by omega) (fun _ => ?_) (fun w => absurd rfl w)
            refine ev_iconst 71 dX9_suspects_70 rfl ?_
            refine ev_ior 72 dX9_suspects_71 rfl hset.1 (by omega) ?_
            refine ev_topi (or_z hset.1) ?_
            refine ev_istore_n 73 dX9_suspects_72 rfl (Nat.le_of_ble_eq_true rfl) ?_
            refine ev_iinc 76 dX9_suspects_73 rfl rfl ?_
            refine ev_goto 4 dX9_suspects_76 rfl ?_
            refine ih (k + 1) set _ _ _ (by omega) (by omega) (by assumption) hset (fun d a b => ?_)
            rw [hb d a b, anyB_1 h0]
            congr 1
            unfold tmB
            by_cases q : h 8 (2 * k) = d
            · subst q; rw [hsu, Bool.and_false, Bool.or_false]
            · rw [decide_eq_false q, Bool.false_and, Bool.or_false]
          · have hsu : susB h gu (h 8 (2 * k)) = true := by
              unfold susB
              rw [d36]
              rcases hg with rfl | rfl
              · cases hq : soB h (h 8 (2 * k)) 1 with
                | false => rfl
                | true => rw [hq] at c47; cases c47
              · cases hq : soB h (h 8 (2 * k)) 1 with
                | true => rfl
                | false => rw [hq] at c47; cases c47
            refine ev_iconst 51 dX9_suspects_50 rfl ?_
            refine ev_goto 55 dX9_suspects_51 rfl ?_
            refine ev_istore 57 dX9_suspects_55 rfl (Nat.le_of_ble_eq_true rfl) ?_
            refine ev_iload_n 58 dX9_suspects_57 rfl rfl ?_
            refine ev_iload 60 dX9_suspects_58 rfl rfl ?_
            refine ev_if_eq 63 70 dX9_suspects_60 rfl rfl (by omega) (fun c60 => ?_) (fun c60 => ?_)
            · omega --done
            · refine ev_iconst 64 dX9_suspects_63 rfl ?_
              refine ev_iload 66 dX9_suspects_64 rfl rfl ?_
              refine ev_ishl 67 dX9_suspects_66 rfl (by omega) (by omega) (pw_r (c := h 8 (2 * k)) ⟨htk.1.1, by omega⟩).2 ?_
              refine ev_goto 71 dX9_suspects_67 rfl ?_
              refine ev_ior 72 dX9_suspects_71 rfl hset.1 (pw_r (c := h 8 (2 * k)) ⟨htk.1.1, by omega⟩).1 ?_
              refine ev_istore_n 73 dX9_suspects_72 rfl (Nat.le_of_ble_eq_true rfl) ?_
              refine ev_iinc 76 dX9_suspects_73 rfl rfl ?_
              refine ev_goto 4 dX9_suspects_76 rfl ?_
              refine ih (k + 1) (orc set (h 8 (2 * k))) _ _ _ (by omega) (by omega) p2 (orc_r hset ⟨htk.1.1, by omega⟩) (fun d a b => ?_)
              rw [orc_b hset ⟨htk.1.1, by omega⟩ ⟨a, b⟩, anyB_1 h0, hb d a b]
              unfold tmB
              by_cases q : d = h 8 (2 * k)
              · subst q
                rw [if_pos rfl, hsu, decide_eq_true rfl, Bool.and_true, Bool.or_true]
                rfl
              · rw [if_neg q, decide_eq_false (fun w => q w.symm), Bool.false_and, Bool.or_false]
theorem m_suspects {h : Hp} {gu : Int} (hg : gu = 0 ∨ gu = 1) (hl : 0 ≤ h 0 0 ∧ h 0 0 ≤ 16) (hn : 0 ≤ h 0 2 ∧ h 0 2 ≤ 5) (hW : 0 < h 0 0 ∧ 0 < h 0 2 → MW h) (hs : NW (h 0 2) (h 4)) (hm : 0 ≤ h 0 10 ∧ h 0 10 ≤ 6) (ht : ∀ k, 0 ≤ k → k < h 0 10 → (0 ≤ h 8 (2 * k) ∧ h 8 (2 * k) < h 0 2) ∧ R32 (h 8 (2 * k + 1))) : Ev shM mX9_suspects 0 [some (vr 0), some (vi gu), none, none, none, none] [] h (RI fun x h' => PsM h h' ∧ ((¬ (0 < h 0 0 ∧ 0 < h 0 2) ∧ x = 0) ∨ ((0 < h 0 0 ∧ 0 < h 0 2) ∧ (0 ≤ x ∧ x < 32) ∧ ∀ d, 0 ≤ d → d < 5 → bit x d = b2i (anyB (tmB h gu d) (h 0 10).toNat)))) := by
  by_cases hr : 0 < h 0 0 ∧ 0 < h 0 2
  · skip
    refine ev_iconst 1 dX9_suspects_0 rfl ?_
    refine ev_istore_n 2 dX9_suspects_1 rfl (Nat.le_of_ble_eq_true rfl) ?_
    refine ev_iconst 3 dX9_suspects_2 rfl ?_
    refine ev_istore_n 4 dX9_suspects_3 rfl (Nat.le_of_ble_eq_true rfl) ?_
    refine ev_wk (m_sus_loop hg (hW hr) hs hm ht (h 0 10).toNat 0 0 none none h (by omega) (by omega) PsM.rf (by omega) (fun d a b => by rw [bit_0]; rfl)) ?_
    rintro _ _ ⟨x, rfl, e1, e2, p⟩
    exact ⟨x, rfl, p, Or.inr ⟨hr, e1, e2⟩⟩
  · skip
    refine ev_iconst 1 dX9_suspects_0 rfl ?_
    refine ev_istore_n 2 dX9_suspects_1 rfl (Nat.le_of_ble_eq_true rfl) ?_
    refine ev_iconst 3 dX9_suspects_2 rfl ?_
    refine ev_istore_n 4 dX9_suspects_3 rfl (Nat.le_of_ble_eq_true rfl) ?_
    refine ev_iload_n 5 dX9_suspects_4 rfl rfl ?_
    refine ev_aload_n 6 dX9_suspects_5 rfl rfl ?_
    refine ev_getI 9 10 fX9_151 rfl dX9_suspects_6 rfl rfl rfl (by decide) rfl ?_
    refine ev_icmp_ge 12 79 dX9_suspects_9 rfl rfl (by omega) (by omega) (fun c9 => ?_) (fun c9 => ?_)
    · refine ev_iload_n 80 dX9_suspects_79 rfl rfl ?_
      exact ev_iret rfl dX9_suspects_80 (⟨PsM.rf, Or.inl ⟨hr, rfl⟩⟩)
    · refine ev_aload_n 13 dX9_suspects_12 rfl rfl ?_
      refine cVi0 16 kX9_suspects_184 dX9_suspects_13 rfl rfl rfl rfl rfl (by decide) rfl (Nat.le_of_ble_eq_true rfl) (m_isRace (by omega) (by omega)) ?_
      rintro x _ ⟨e13, rfl⟩
      rw [if_neg hr] at e13
      rw [e13]
      refine ev_if_eq 19 79 dX9_suspects_16 rfl rfl (by omega) (fun c16 => ?_) (fun c16 => ?_)
      · refine ev_iload_n 80 dX9_suspects_79 rfl rfl ?_
        exact ev_iret rfl dX9_suspects_80 (⟨PsM.rf, Or.inl ⟨hr, rfl⟩⟩)
      · exact absurd rfl c16 --done
