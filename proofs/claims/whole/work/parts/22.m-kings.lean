theorem PsM.hp {h H : Hp} {f : Int → Int} (p : PsM h H) {k : Nat} (hk : 10 ≤ k) : PsM h (hput H k f) := ⟨fun j a b => by rw [hput_n (by omega)]; exact p.1 j a b, fun i q => by rw [hput_n (by omega)]; exact p.2 i q⟩
section FKS
variable {h : Hp}
theorem m_fk_in {H : Hp} {post : Option AV → Hp → Prop} (hn : 0 < H 0 2 ∧ H 0 2 ≤ 5) (hs : ∀ c, 0 ≤ c → c < H 0 2 → R32 (H 4 c)) {al code : Int} {o6 : Option AV} : ∀ (k : Nat) (c l o : Int) (f : Int → Int), c + 1 = k → c < H 0 2 → 0 ≤ l ∧ l < 2147483648 → (∀ l2, Ev shM mX9_findKings 132 [some (vr 0), some (vi al), some (vi code), some (vi l2), some (vi (cntW (H 0 2) (H 4) k l o)), some (vi (-1)), o6] [] (hput H 13 (fillW (H 0 2) k l f)) post) → Ev shM mX9_findKings 68 [some (vr 0), some (vi al), some (vi code), some (vi l), some (vi o), some (vi c), o6] [] (hput H 13 f) post := by
  intro k
  induction k with
  | zero =>
    intro c l o f h1 h2 hl K
    have he : c = -1 := by omega
    subst he
    refine ev_iload 70 dX9_findKings_68 rfl rfl ?_
    refine ev_if_lt 73 132 dX9_findKings_70 rfl rfl (by omega) (fun c70 => ?_) (fun c70 => ?_)
    · exact K l
    · omega --done
  | succ k ih =>
    intro c l o f h1 h2 hl K
    have hd := q_dr hl hn.1
    have he : c = k := by omega
    have hsc := hs c (by omega) h2
    unfold fillW cntW at K
    rw [← he] at K
    refine ev_iload 70 dX9_findKings_68 rfl rfl ?_
    refine ev_if_lt 73 132 dX9_findKings_70 rfl rfl (by omega) (fun c70 => ?_) (fun c70 => ?_)
    · omega --done
    · refine ev_aload_n 74 dX9_findKings_73 rfl rfl ?_
      refine ev_getR 77 fX9_47 rfl dX9_findKings_74 rfl rfl rfl ?_
      refine ev_iconst 78 dX9_findKings_77 rfl ?_
      refine ev_iload 80 dX9_findKings_78 rfl rfl ?_
      refine ev_iadd 81 dX9_findKings_80 rfl ?_
      refine ev_iload_n 82 dX9_findKings_81 rfl rfl ?_
      refine ev_aload_n 83 dX9_findKings_82 rfl rfl ?_
      refine ev_getI' 86 2 (H 0 2) fX9_74 rfl dX9_findKings_83 rfl rfl rfl (by decide) rfl rfl ?_
      refine ev_irem 87 dX9_findKings_86 rfl (by omega) (by omega) ?_
      refine ev_iast' 88 (hput H 13 (up f c (l % H 0 2))) dX9_findKings_87 rfl rfl (by decide) (by omega) (by rw [hput_hput, hput_s, Int.zero_add]) ?_
      refine ev_iload_n 89 dX9_findKings_88 rfl rfl ?_
      refine ev_aload_n 90 dX9_findKings_89 rfl rfl ?_
      refine ev_getI' 93 2 (H 0 2) fX9_74 rfl dX9_findKings_90 rfl rfl rfl (by decide) rfl rfl ?_
      refine ev_idiv 94 dX9_findKings_93 rfl (by omega) (by omega) ?_
      refine ev_istore_n 95 dX9_findKings_94 rfl (Nat.le_of_ble_eq_true rfl) ?_
      refine ev_iload 97 dX9_findKings_95 rfl rfl ?_
      refine ev_aload_n 98 dX9_findKings_97 rfl rfl ?_
      refine ev_getR 101 fX9_47 rfl dX9_findKings_98 rfl rfl rfl ?_
      refine ev_iconst 102 dX9_findKings_101 rfl ?_
      refine ev_iload 104 dX9_findKings_102 rfl rfl ?_
      refine ev_iadd 105 dX9_findKings_104 rfl ?_
      refine ev_iald' 106 (l % H 0 2) dX9_findKings_105 rfl rfl (by decide) (by omega) (by rw [hput_s, Int.zero_add, up_s]) ?_
      refine ev_aload_n 107 dX9_findKings_106 rfl rfl ?_
      refine ev_getR 110 fX9_19 rfl dX9_findKings_107 rfl rfl rfl ?_
      refine ev_iconst 111 dX9_findKings_110 rfl ?_
      refine ev_iload 113 dX9_findKings_111 rfl rfl ?_
      refine ev_iadd 114 dX9_findKings_113 rfl ?_
      refine ev_iald' 115 (H 4 c) dX9_findKings_114 rfl rfl (by decide) (by omega) (by rw [Int.zero_add]; rfl) ?_
      refine ev_icmp_ne 118 122 dX9_findKings_115 rfl rfl (by omega) (by omega) (fun c115 => ?_) (fun c115 => ?_)
      · rw [if_neg c115] at K
        refine ev_iconst 123 dX9_findKings_122 rfl ?_
        refine ev_iadd 124 dX9_findKings_123 rfl ?_
        refine ev_istore 126 dX9_findKings_124 rfl (Nat.le_of_ble_eq_true rfl) ?_
        refine ev_iinc 129 dX9_findKings_126 rfl rfl ?_
        refine ev_goto 68 dX9_findKings_129 rfl ?_
        exact ih (c - 1) (l / H 0 2) _ _ (by omega) (by omega) hd.1 K
      · rw [if_pos c115] at K
        refine ev_iconst 119 dX9_findKings_118 rfl ?_
        refine ev_goto 123 dX9_findKings_119 rfl ?_
        refine ev_iadd 124 dX9_findKings_123 rfl ?_
        refine ev_istore 126 dX9_findKings_124 rfl (Nat.le_of_ble_eq_true rfl) ?_
        refine ev_iinc 129 dX9_findKings_126 rfl rfl ?_
        refine ev_goto 68 dX9_findKings_129 rfl ?_
        exact ih (c - 1) (l / H 0 2) _ _ (by omega) (by omega) hd.1 K
theorem m_fk_by {H : Hp} {post : Option AV → Hp → Prop} (hn : 0 < H 0 2 ∧ H 0 2 ≤ 5) {al code l o kg : Int} (hk : 0 ≤ kg ∧ kg < 5) {g0 : Int → Int} : ∀ (k : Nat) (c : Int), 0 ≤ c → c + k = H 0 2 → (∀ c2, Ev shM mX9_findKings 215 [some (vr 0), some (vi al), some (vi code), some (vi l), some (vi o), some (vi kg), c2] [] (hput H 18 (cpy (H 13) g0 0 (5 * kg) (H 0 2))) post) → Ev shM mX9_findKings 179 [some (vr 0), some (vi al), some (vi code), some (vi l), some (vi o), some (vi kg), some (vi c)] [] (hput H 18 (cpy (H 13) g0 0 (5 * kg) c)) post := by
  intro k
  induction k with
  | zero =>
    intro c h0 h1 K
    have he : c = H 0 2 := by omega
    subst he
    refine ev_iload 181 dX9_findKings_179 rfl rfl ?_
    refine ev_aload_n 182 dX9_findKings_181 rfl rfl ?_
    refine ev_getI' 185 2 (H 0 2) fX9_74 rfl dX9_findKings_182 rfl rfl rfl (by decide) rfl rfl ?_
    refine ev_icmp_ge 188 215 dX9_findKings_185 rfl rfl (by omega) (by omega) (fun c185 => ?_) (fun c185 => ?_)
    · exact K _
    · omega --done
  | succ k ih =>
    intro c h0 h1 K
    refine ev_iload 181 dX9_findKings_179 rfl rfl ?_
    refine ev_aload_n 182 dX9_findKings_181 rfl rfl ?_
    refine ev_getI' 185 2 (H 0 2) fX9_74 rfl dX9_findKings_182 rfl rfl rfl (by decide) rfl rfl ?_
    refine ev_icmp_ge 188 215 dX9_findKings_185 rfl rfl (by omega) (by omega) (fun c185 => ?_) (fun c185 => ?_)
    · omega --done
    · refine ev_aload_n 189 dX9_findKings_188 rfl rfl ?_
      refine ev_getR 192 fX9_62 rfl dX9_findKings_189 rfl rfl rfl ?_
      refine ev_iconst 193 dX9_findKings_192 rfl ?_
      refine ev_iload 195 dX9_findKings_193 rfl rfl ?_
      refine ev_imul 196 dX9_findKings_195 rfl ?_
      refine ev_iload 198 dX9_findKings_196 rfl rfl ?_
      refine ev_iadd 199 dX9_findKings_198 rfl ?_
      refine ev_aload_n 200 dX9_findKings_199 rfl rfl ?_
      refine ev_getR 203 fX9_47 rfl dX9_findKings_200 rfl rfl rfl ?_
      refine ev_iconst 204 dX9_findKings_203 rfl ?_
      refine ev_iload 206 dX9_findKings_204 rfl rfl ?_
      refine ev_iadd 207 dX9_findKings_206 rfl ?_
      refine ev_iald' 208 (H 13 (0 + c)) dX9_findKings_207 rfl rfl (by decide) (by omega) rfl ?_
      refine ev_iast' 209 (hput H 18 (cpy (H 13) g0 0 (5 * kg) (c + 1))) dX9_findKings_208 rfl rfl (by decide) (by omega) (by rw [hput_hput, hput_s, cpy_1 h0]) ?_
      refine ev_iinc 212 dX9_findKings_209 rfl rfl ?_
      refine ev_goto 179 dX9_findKings_212 rfl ?_
      exact ih (c + 1) (by omega) (by omega) K
theorem m_fk_body (hW : MW h) (hs : NW (h 0 2) (h 4)) {H : Hp} {i : Nat} (p : PsM h H) (h13 : ∀ j, 5 ≤ j → j < 17 → H 13 j = h 4 j) (hK : ∀ c, 0 ≤ c → c < h 0 2 → H 19 c = (kfold h c i).1 ∧ (0 ≤ (kfold h c i).1 → ∀ k, 0 ≤ k → k < h 0 2 → H 18 (5 * c + k) = (kfold h c i).2 k)) (hw : wayB (h 0 2) i = true) {al : Int} {post : Option AV → Hp → Prop} (hNo : ∀ (H2 : Hp), PsM h H2 → (∀ j, 5 ≤ j → j < 17 → H2 13 j = h 4 j) → (∀ c, 0 ≤ c → c < h 0 2 → H2 19 c = (kfold h c (i + 1)).1 ∧ (0 ≤ (kfold h c (i + 1)).1 → ∀ k, 0 ≤ k → k < h 0 2 → H2 18 (5 * c + k) = (kfold h c (i + 1)).2 k)) → ∀ o3 o4 o5 o6, Ev shM mX9_findKings 215 [some (vr 0), some (vi al), some (vi (i : Int)), o3, o4, o5, o6] [] H2 post) (l2 : Int) (o6 : Option AV) : Ev shM mX9_findKings 132 [some (vr 0), some (vi al), some (vi (i : Int)), some (vi l2), some (vi (cntW (h 0 2) (h 4) (h 0 2).toNat i 0)), some (vi (-1)), o6] [] (hput H 13 (fillW (h 0 2) (h 0 2).toNat i (H 13))) post := by
  have hn : 0 < h 0 2 ∧ h 0 2 ≤ 5 := ⟨hW.1.1, hW.1.2.1⟩
  have e02 : H 0 2 = h 0 2 := p.2 2 (by omega)
  have pN : PsM h (hput H 13 (fillW (h 0 2) (h 0 2).toNat i (H 13))) := p.tr PsM.N
  have hNf : NW (h 0 2) (fillW (h 0 2) (h 0 2).toNat i (H 13)) := by
    refine ⟨fun c a b => ?_, ?_, ?_⟩
    · have h1 := fill_r hn.1 (h 0 2).toNat i (H 13) c a (by omega)
      have h2 := (fill_out (n := h 0 2) (h 0 2).toNat i (H 13) (5 + c) (by omega)).trans (h13 (5 + c) (by omega) (by omega))
      have := hs.1 c a b
      rw [h2]
      omega
    · rw [fill_out _ _ _ _ (by omega), h13 10 (by omega) (by omega)]; exact hs.2.1
    · rw [fill_out _ _ _ _ (by omega), h13 10 (by omega) (by omega)]; exact hs.2.2
  have hO := raceS_ok hW hNf 0
  have hA := raceS_ag2 (h := h) (s := ovr (dgt (h 0 2) i) (h 4) (h 0 2)) (s' := fillW (h 0 2) (h 0 2).toNat i (H 13)) (ill := 0) ⟨by omega, hn.2⟩ (fun j hj => by
    unfold ovr dgt
    by_cases q : 0 ≤ j ∧ j < h 0 2
    · rw [if_pos q]; exact fill_ag _ _ _ _ _ q.1 (by omega)
    · rw [if_neg q, fill_out _ _ _ _ (by omega)]; exact h13 j (by omega) (by omega))
  have hwin : (raceS h (fillW (h 0 2) (h 0 2).toNat i (H 13)) 0).2.2.2.1 0 = winW h (dgt (h 0 2) i) := hA.2.2.2.1 0 (by omega) (by omega)
  have hkg := hO.1.2.2 0 (by omega) (by omega)
  rw [hwin] at hkg
  have hcn := cnt_r (n := h 0 2) (s := h 4) (h 0 2).toNat i 0
  have hkr := kfold_r (h := h) ⟨by omega, hn.2⟩ (c := winW h (dgt (h 0 2) i)) i
  have hkk := hK _ hkg.1 hkg.2
  have hoth : cntW (h 0 2) (h 4) (h 0 2).toNat i 0 = oth (h 0 2) (h 4) i := rfl
  rw [hoth] at hcn ⊢
  generalize hwg : winW h (dgt (h 0 2) i) = kg at *
  have hne : ∀ c, c ≠ kg → kfold h c (i + 1) = kfold h c i := fun c q => by
    show kstep h c i (kfold h c i) = _
    unfold kstep
    rw [if_neg (fun w => q (w.2.1.symm.trans hwg))]
  have hyes : (kfold h kg i).1 < 0 ∨ oth (h 0 2) (h 4) i < (kfold h kg i).1 → kfold h kg (i + 1) = (oth (h 0 2) (h 4) i, dgt (h 0 2) i) := fun q => by
    show kstep h kg i (kfold h kg i) = _
    unfold kstep
    rw [if_pos ⟨hw, hwg, q⟩]
  have hno : ¬ ((kfold h kg i).1 < 0 ∨ oth (h 0 2) (h 4) i < (kfold h kg i).1) → kfold h kg (i + 1) = kfold h kg i := fun q => by
    show kstep h kg i (kfold h kg i) = _
    unfold kstep
    rw [if_neg (fun w => q w.2.2)]
  have fin : ∀ (H2 : Hp), PsM h H2 → H2 13 = fillW (h 0 2) (h 0 2).toNat i (H 13) → (∀ k, 18 ≤ k → H2 k = H k) → ((kfold h kg i).1 < 0 ∨ oth (h 0 2) (h 4) i < (kfold h kg i).1) → ∀ l o5 , Ev shM mX9_findKings 179 [some (vr 0), some (vi al), some (vi (i : Int)), some (vi l), some (vi (oth (h 0 2) (h 4) i)), some (vi kg), some (vi 0)] [] (hput H2 19 (up (H2 19) kg (oth (h 0 2) (h 4) i))) post ∨ o5 = 0 := by
    intro H2 p2 q13 q18 hy l o5
    left
    have g02 : H2 0 2 = h 0 2 := p2.2 2 (by omega)
    generalize hoe : oth (h 0 2) (h 4) i = oc at *
    have pp : PsM h (hput (hput H2 19 (up (H2 19) kg oc)) 18 (cpy (H2 13) (H2 18) 0 (5 * kg) (h 0 2))) := (p2.hp (by decide)).hp (by decide)
    have k13 : ∀ j, 5 ≤ j → j < 17 → (hput (hput H2 19 (up (H2 19) kg oc)) 18 (cpy (H2 13) (H2 18) 0 (5 * kg) (h 0 2))) 13 j = h 4 j := fun j a b => by
      rw [hput_n (by decide), hput_n (by decide), q13, fill_out _ _ _ _ (by omega)]
      exact h13 j a b
    have kK : ∀ c, 0 ≤ c → c < h 0 2 → (hput (hput H2 19 (up (H2 19) kg oc)) 18 (cpy (H2 13) (H2 18) 0 (5 * kg) (h 0 2))) 19 c = (kfold h c (i + 1)).1 ∧ (0 ≤ (kfold h c (i + 1)).1 → ∀ k, 0 ≤ k → k < h 0 2 → (hput (hput H2 19 (up (H2 19) kg oc)) 18 (cpy (H2 13) (H2 18) 0 (5 * kg) (h 0 2))) 18 (5 * c + k) = (kfold h c (i + 1)).2 k) := fun c a b => by
      rw [hput_n (by decide : 19 ≠ 18), hput_s, hput_s]
      by_cases q : c = kg
      · subst q
        rw [hyes hy]
        refine ⟨up_s, fun _ k a1 b1 => ?_⟩
        unfold cpy
        rw [if_pos (by omega), q13, show (0 : Int) + (5 * c + k - 5 * c) = k by omega]
        exact fill_ag _ _ _ _ _ a1 (by omega)
      · rw [hne c q]
        refine ⟨by rw [up_n q, q18 19 (by decide)]; exact (hK c a b).1, fun z k a1 b1 => ?_⟩
        unfold cpy
        rw [if_neg (by omega), q18 18 (by decide)]
        exact (hK c a b).2 z k a1 b1
    have K := m_fk_by (H := hput H2 19 (up (H2 19) kg oc)) (post := post) (al := al) (code := (i : Int)) (l := l) (o := oc) (kg := kg) (g0 := H2 18) (by rw [hput_n (by decide), g02]; exact hn) ⟨hkg.1, by omega⟩ (h 0 2).toNat 0 (by omega) (by rw [hput_n (by decide), g02]; omega) (fun c2 => by
      rw [hput_n (by decide : 13 ≠ 19), hput_n (by decide : 0 ≠ 19), g02]
      exact hNo _ pp k13 kK _ _ _ c2)
    have e0 : hput (hput H2 19 (up (H2 19) kg oc)) 18 (cpy ((hput H2 19 (up (H2 19) kg oc)) 13) (H2 18) 0 (5 * kg) 0) = hput H2 19 (up (H2 19) kg oc) := by
      rw [cpy_0]
      exact hput_id (k := 18)
    rw [e0] at K
    exact K
  have nofin : ∀ (H2 : Hp), PsM h H2 → H2 13 = fillW (h 0 2) (h 0 2).toNat i (H 13) → (∀ k, 18 ≤ k → H2 k = H k) → ¬ ((kfold h kg i).1 < 0 ∨ oth (h 0 2) (h 4) i < (kfold h kg i).1) → ∀ o3 o4 o5 o6, Ev shM mX9_findKings 215 [some (vr 0), some (vi al), some (vi (i : Int)), o3, o4, o5, o6] [] H2 post := by
    intro H2 p2 q13 q18 hy o3 o4 o5 o6
    refine hNo H2 p2 (fun j a b => by rw [q13, fill_out _ _ _ _ (by omega)]; exact h13 j a b) (fun c a b => ?_) o3 o4 o5 o6
    have e1 : kfold h c (i + 1) = kfold h c i := by
      by_cases q : c = kg
      · subst q; exact hno hy
      · exact hne c q
    rw [e1, q18 18 (by decide), q18 19 (by decide)]
    exact hK c a b
  refine ev_aload_n 133 dX9_findKings_132 rfl rfl ?_
  refine ev_iconst 134 dX9_findKings_133 rfl ?_
  refine cVv1 137 kX9_findKings_192 dX9_findKings_134 rfl rfl rfl rfl rfl (by decide) rfl (Nat.le_of_ble_eq_true rfl) (m_racesS (pN.W hW) (by show NW (H 0 2) _; rw [e02]; exact hNf) ⟨by omega, by omega⟩) ?_
  rintro H2 ⟨p1, q13, q18, -, q17⟩
  have p2 := pN.tr p1
  have q17 : H2 17 0 = kg := by
    rw [q17 0 (by omega) (by show _ < H 0 2; rw [e02]; exact hn.1), raceS_P pN]
    exact hwin
  have q18 : ∀ k, 18 ≤ k → H2 k = H k := fun k a => (q18 k a).trans (hput_n (by omega))
  have q13 : H2 13 = fillW (h 0 2) (h 0 2).toNat i (H 13) := q13
  have q19 : H2 19 kg = (kfold h kg i).1 := by rw [q18 19 (by decide)]; exact hkk.1
  refine ev_aload_n 138 dX9_findKings_137 rfl rfl ?_
  refine ev_getR 141 fX9_59 rfl dX9_findKings_138 rfl rfl rfl ?_
  refine ev_iconst 142 dX9_findKings_141 rfl ?_
  refine ev_iald' 143 (kg) dX9_findKings_142 rfl rfl (by decide) (by omega) q17 ?_
  refine ev_istore 145 dX9_findKings_143 rfl (Nat.le_of_ble_eq_true rfl) ?_
  refine ev_aload_n 146 dX9_findKings_145 rfl rfl ?_
  refine ev_getR 149 fX9_65 rfl dX9_findKings_146 rfl rfl rfl ?_
  refine ev_iload 151 dX9_findKings_149 rfl rfl ?_
  refine ev_iald' 152 ((kfold h kg i).1) dX9_findKings_151 rfl rfl (by decide) (by omega) q19 ?_
  refine ev_if_lt 155 167 dX9_findKings_152 rfl rfl (by omega) (fun c152 => ?_) (fun c152 => ?_)
  · refine ev_aload_n 168 dX9_findKings_167 rfl rfl ?_
    refine ev_getR 171 fX9_65 rfl dX9_findKings_168 rfl rfl rfl ?_
    refine ev_iload 173 dX9_findKings_171 rfl rfl ?_
    refine ev_iload 175 dX9_findKings_173 rfl rfl ?_
    refine ev_iast' 176 (hput H2 19 (up (H2 19) kg (oth (h 0 2) (h 4) i))) dX9_findKings_175 rfl rfl (by decide) (by omega) rfl ?_
    refine ev_iconst 177 dX9_findKings_176 rfl ?_
    refine ev_istore 179 dX9_findKings_177 rfl (Nat.le_of_ble_eq_true rfl) ?_
    exact (fin H2 p2 q13 q18 (by omega) _ 1).resolve_right (by decide)
  · refine ev_iload 157 dX9_findKings_155 rfl rfl ?_
    refine ev_aload_n 158 dX9_findKings_157 rfl rfl ?_
    refine ev_getR 161 fX9_65 rfl dX9_findKings_158 rfl rfl rfl ?_
    refine ev_iload 163 dX9_findKings_161 rfl rfl ?_
    refine ev_iald' 164 ((kfold h kg i).1) dX9_findKings_163 rfl rfl (by decide) (by omega) q19 ?_
    refine ev_icmp_ge 167 215 dX9_findKings_164 rfl rfl (by omega) (by omega) (fun c164 => ?_) (fun c164 => ?_)
    · exact nofin H2 p2 q13 q18 (by omega) _ _ _ _ --done
    · refine ev_aload_n 168 dX9_findKings_167 rfl rfl ?_
      refine ev_getR 171 fX9_65 rfl dX9_findKings_168 rfl rfl rfl ?_
      refine ev_iload 173 dX9_findKings_171 rfl rfl ?_
      refine ev_iload 175 dX9_findKings_173 rfl rfl ?_
      refine ev_iast' 176 (hput H2 19 (up (H2 19) kg (oth (h 0 2) (h 4) i))) dX9_findKings_175 rfl rfl (by decide) (by omega) rfl ?_
      refine ev_iconst 177 dX9_findKings_176 rfl ?_
      refine ev_istore 179 dX9_findKings_177 rfl (Nat.le_of_ble_eq_true rfl) ?_
      exact (fin H2 p2 q13 q18 (by omega) _ 1).resolve_right (by decide)
theorem m_fk_loop (hW : MW h) (hs : NW (h 0 2) (h 4)) : ∀ (k : Nat) (i : Nat) (H : Hp) (o3 o4 o5 o6 : Option AV), (i : Int) + k = pw (h 0 2) (h 0 2).toNat → FK h H i → Ev shM mX9_findKings 39 [some (vr 0), some (vi (pw (h 0 2) (h 0 2).toNat)), some (vi (i : Int)), o3, o4, o5, o6] [] H (RV fun h' => FK h h' (pw (h 0 2) (h 0 2).toNat).toNat) := by
  have hn : 0 < h 0 2 ∧ h 0 2 ≤ 5 := ⟨hW.1.1, hW.1.2.1⟩
  have hpw := pw_b hn
  intro k
  induction k with
  | zero =>
    intro i H o3 o4 o5 o6 h1 hF
    refine ev_iload_n 40 dX9_findKings_39 rfl rfl ?_
    refine ev_iload_n 41 dX9_findKings_40 rfl rfl ?_
    refine ev_icmp_ge 44 221 dX9_findKings_41 rfl rfl (by omega) (by omega) (fun c41 => ?_) (fun c41 => ?_)
    · exact ev_vret rfl dX9_findKings_221 ((by rw [show (pw (h 0 2) (h 0 2).toNat).toNat = i by omega]; exact hF))
    · omega --done
  | succ k ih =>
    intro i H o3 o4 o5 o6 h1 hF
    obtain ⟨p, h13, hK⟩ := hF
    have e02 : H 0 2 = h 0 2 := p.2 2 (by omega)
    have e4 : H 4 = h 4 := p.1 4 (by decide) (by decide)
    have hNo : ∀ (H2 : Hp), PsM h H2 → (∀ j, 5 ≤ j → j < 17 → H2 13 j = h 4 j) → (∀ c, 0 ≤ c → c < h 0 2 → H2 19 c = (kfold h c (i + 1)).1 ∧ (0 ≤ (kfold h c (i + 1)).1 → ∀ k, 0 ≤ k → k < h 0 2 → H2 18 (5 * c + k) = (kfold h c (i + 1)).2 k)) → ∀ o3 o4 o5 o6, Ev shM mX9_findKings 215 [some (vr 0), some (vi (pw (h 0 2) (h 0 2).toNat)), some (vi (i : Int)), o3, o4, o5, o6] [] H2 (RV fun h' => FK h h' (pw (h 0 2) (h 0 2).toNat).toNat) := by
      intro H2 p2 q13 qK o3 o4 o5 o6
      refine ev_iinc 218 dX9_findKings_215 rfl rfl ?_
      refine ev_goto 39 dX9_findKings_218 rfl ?_
      exact ih (i + 1) H2 o3 o4 o5 o6 (by omega) ⟨p2, q13, qK⟩
    refine ev_iload_n 40 dX9_findKings_39 rfl rfl ?_
    refine ev_iload_n 41 dX9_findKings_40 rfl rfl ?_
    refine ev_icmp_ge 44 221 dX9_findKings_41 rfl rfl (by omega) (by omega) (fun c41 => ?_) (fun c41 => ?_)
    · omega --done
    · refine ev_iload_n 45 dX9_findKings_44 rfl rfl ?_
      refine ev_aload_n 46 dX9_findKings_45 rfl rfl ?_
      refine ev_getI' 49 2 (h 0 2) fX9_74 rfl dX9_findKings_46 rfl rfl rfl (by decide) rfl e02 ?_
      refine cSi2 52 kX9_findKings_213 dX9_findKings_49 rfl rfl (by decide) rfl (Nat.le_of_ble_eq_true rfl) (m_isWay hn (by omega)) ?_
      rintro x _ ⟨rfl, rfl⟩
      refine ev_if_eq 55 215 dX9_findKings_52 rfl rfl (b2i_r _) (fun c52 => ?_) (fun c52 => ?_)
      · have d52 := b2i_0.mp c52
        exact hNo H p h13 (fun c a b => by rw [show kfold h c (i + 1) = kfold h c i by { show kstep h c i (kfold h c i) = _; unfold kstep; rw [if_neg (fun w => by rw [d52] at w; cases w.1)] }]; exact hK c a b) _ _ _ _ --done
      · have d52 := b2i_n.mp c52
        refine ev_iload_n 56 dX9_findKings_55 rfl rfl ?_
        refine ev_istore_n 57 dX9_findKings_56 rfl (Nat.le_of_ble_eq_true rfl) ?_
        refine ev_iconst 58 dX9_findKings_57 rfl ?_
        refine ev_istore 60 dX9_findKings_58 rfl (Nat.le_of_ble_eq_true rfl) ?_
        refine ev_aload_n 61 dX9_findKings_60 rfl rfl ?_
        refine ev_getI' 64 2 (h 0 2) fX9_74 rfl dX9_findKings_61 rfl rfl rfl (by decide) rfl e02 ?_
        refine ev_iconst 65 dX9_findKings_64 rfl ?_
        refine ev_isub 66 dX9_findKings_65 rfl ?_
        refine ev_istore 68 dX9_findKings_66 rfl (Nat.le_of_ble_eq_true rfl) ?_
        refine ev_heap (hput_id (k := 13)).symm ?_
        refine m_fk_in (by rw [e02]; exact hn) (fun c a b => by rw [e4]; rw [e02] at b; have := hs.1 c a b; omega) (h 0 2).toNat (h 0 2 - 1) i 0 (H 13) (by omega) (by omega) (by omega) (fun l2 => ?_)
        rw [e02, e4]
        exact m_fk_body hW hs p h13 hK d52 hNo _ _
end FKS
