def loF (b : Int → Int) : Nat → Int → Int → Int
  | 0, _, lo => lo
  | k + 1, l, lo => loF b k (l / 6) (if b k + l % 6 < lo then b k + l % 6 else lo)
def hiF (b : Int → Int) : Nat → Int → Int → Int
  | 0, _, hi => hi
  | k + 1, l, hi => hiF b k (l / 6) (if hi < b k + l % 6 then b k + l % 6 else hi)
def suF : Nat → Int → Int → Int
  | 0, _, s => s
  | k + 1, l, s => suF k (l / 6) (s + l % 6)
def fill5 : Nat → Int → (Int → Int) → (Int → Int)
  | 0, _, f => f
  | k + 1, l, f => fill5 k (l / 6) (up f (5 + k) (l % 6))
theorem f5_out : ∀ (k : Nat) (l : Int) (f : Int → Int) (i : Int), (5 + (k : Int) ≤ i ∨ i < 5) → fill5 k l f i = f i := by
  intro k
  induction k with
  | zero => intro l f i _; rfl
  | succ k ih =>
    intro l f i hi
    unfold fill5
    rw [ih _ _ _ (by omega), up_n (by omega)]
theorem f5_ag : ∀ (k : Nat) (l : Int) (f g : Int → Int) (i : Int), 5 ≤ i → i < 5 + k → fill5 k l f i = fill5 k l g i := by
  intro k
  induction k with
  | zero => intro l f g i h0 h1; omega
  | succ k ih =>
    intro l f g i h0 h1
    unfold fill5
    by_cases q : i < 5 + k
    · exact ih _ _ _ _ h0 q
    · have e : i = 5 + k := by omega
      rw [f5_out _ _ _ _ (by omega), f5_out _ _ _ _ (by omega), e, up_s, up_s]
def D6 (n code e : Int) : Int := fill5 n.toNat code (fun _ => 0) (5 + e)
theorem lo_r {b : Int → Int} (hb : ∀ c, 0 ≤ c → c < 5 → 0 ≤ b c ∧ b c ≤ 128) : ∀ (k : Nat) (l lo : Int), k ≤ 5 → 0 ≤ lo ∧ lo ≤ 10000 → 0 ≤ loF b k l lo ∧ loF b k l lo ≤ 10000 := by
  intro k
  induction k with
  | zero => intro l lo _ h; exact h
  | succ k ih =>
    intro l lo hk h
    unfold loF
    refine ih _ _ (by omega) ?_
    have := hb k (by omega) (by omega)
    have h1 := Int.emod_nonneg l (b := 6) (by decide)
    have h2 := Int.emod_lt_of_pos l (b := 6) (by decide)
    split <;> omega
theorem hi_r {b : Int → Int} (hb : ∀ c, 0 ≤ c → c < 5 → 0 ≤ b c ∧ b c ≤ 128) : ∀ (k : Nat) (l hi : Int), k ≤ 5 → 0 ≤ hi ∧ hi ≤ 10000 → 0 ≤ hiF b k l hi ∧ hiF b k l hi ≤ 10000 := by
  intro k
  induction k with
  | zero => intro l hi _ h; exact h
  | succ k ih =>
    intro l hi hk h
    unfold hiF
    refine ih _ _ (by omega) ?_
    have := hb k (by omega) (by omega)
    have h1 := Int.emod_nonneg l (b := 6) (by decide)
    have h2 := Int.emod_lt_of_pos l (b := 6) (by decide)
    split <;> omega
theorem su_r : ∀ (k : Nat) (l s : Int), s ≤ suF k l s ∧ suF k l s ≤ s + 5 * k := by
  intro k
  induction k with
  | zero => intro l s; exact ⟨Int.le_refl _, by show s ≤ s + 5 * 0; omega⟩
  | succ k ih =>
    intro l s
    unfold suF
    have := ih (l / 6) (s + l % 6)
    have h1 := Int.emod_nonneg l (b := 6) (by decide)
    have h2 := Int.emod_lt_of_pos l (b := 6) (by decide)
    omega
/-- how a code spreads the chairs, what it asks together -/
def sprF (b : Int → Int) (n code : Int) : Int := hiF b n.toNat code 0 - loF b n.toNat code 10000
def sumF (n code : Int) : Int := suF n.toNat code 0
def fstep (b : Int → Int) (n code : Int) (r : Int × Int × (Int → Int)) : Int × Int × (Int → Int) := if r.1 < 0 ∨ sprF b n code < r.1 ∨ (sprF b n code = r.1 ∧ sumF n code < r.2.1) then (sprF b n code, sumF n code, D6 n code) else r
def ffold (b : Int → Int) (n : Int) : Nat → Int × Int × (Int → Int)
  | 0 => (-1, 0, fun _ => 0)
  | i + 1 => fstep b n i (ffold b n i)
theorem ffold_r {b : Int → Int} {n : Int} (hn : 0 ≤ n ∧ n ≤ 5) (hb : ∀ c, 0 ≤ c → c < 5 → 0 ≤ b c ∧ b c ≤ 128) : ∀ i : Nat, (-10000 ≤ (ffold b n i).1 ∧ (ffold b n i).1 ≤ 10000) ∧ 0 ≤ (ffold b n i).2.1 ∧ (ffold b n i).2.1 ≤ 25 := by
  intro i
  induction i with
  | zero =>
    show ((-10000 : Int) ≤ -1 ∧ (-1 : Int) ≤ 10000) ∧ (0 : Int) ≤ 0 ∧ (0 : Int) ≤ 25
    omega
  | succ i ih =>
    unfold ffold fstep
    split
    · have h1 := lo_r hb n.toNat i 10000 (by omega) (by omega)
      have h2 := hi_r hb n.toNat i 0 (by omega) (by omega)
      have h3 := su_r n.toNat i 0
      unfold sprF sumF
      dsimp only
      omega
    · exact ih
section FR
variable {h : Hp}
theorem m_fair_in {H : Hp} {post : Option AV → Hp → Prop} {b : Int → Int} (hn : 0 < H 0 2 ∧ H 0 2 ≤ 5) (hb : ∀ c, 0 ≤ c → c < 5 → 0 ≤ b c ∧ b c ≤ 128) (hb2 : ∀ c, 0 ≤ c → c < H 0 2 → H 21 c = b c) {x1 x2 x3 x4 x5 : Option AV} : ∀ (k : Nat) (c l lo hi su : Int) (f : Int → Int) (o11 : Option AV), c + 1 = k → c < H 0 2 → 0 ≤ l ∧ l < 2147483648 → 0 ≤ lo ∧ lo ≤ 10000 → 0 ≤ hi ∧ hi ≤ 10000 → (∀ l2 o11, Ev shM mX9_fair 217 [some (vr 0), x1, x2, x3, x4, x5, some (vi l2), some (vi (loF b k l lo)), some (vi (hiF b k l hi)), some (vi (suF k l su)), some (vi (-1)), o11] [] (hput H 13 (fill5 k l f)) post) → Ev shM mX9_fair 110 [some (vr 0), x1, x2, x3, x4, x5, some (vi l), some (vi lo), some (vi hi), some (vi su), some (vi c), o11] [] (hput H 13 f) post := by
  intro k
  induction k with
  | zero =>
    intro c l lo hi su f o11 h1 h2 hl _ _ K
    have he : c = -1 := by omega
    subst he
    refine ev_iload 112 dX9_fair_110 rfl rfl ?_
    refine ev_if_lt 115 217 dX9_fair_112 rfl rfl (by omega) (fun c112 => ?_) (fun c112 => ?_)
    · exact K l o11
    · omega --done
  | succ k ih =>
    intro c l lo hi su f o11 h1 h2 hl hlo hhi K
    have hd := q_dr hl (show (0 : Int) < 6 by decide)
    have he : c = k := by omega
    have hbc := hb c (by omega) (by omega)
    have hb2c := hb2 c (by omega) h2
    unfold fill5 loF hiF suF at K
    rw [← he] at K
    refine ev_iload 112 dX9_fair_110 rfl rfl ?_
    refine ev_if_lt 115 217 dX9_fair_112 rfl rfl (by omega) (fun c112 => ?_) (fun c112 => ?_)
    · omega --done
    · refine ev_iload 117 dX9_fair_115 rfl rfl ?_
      refine ev_bipush 119 dX9_fair_117 rfl (by decide +kernel) ?_
      refine ev_irem 120 dX9_fair_119 rfl (by omega) (by omega) ?_
      refine ev_istore 122 dX9_fair_120 rfl (Nat.le_of_ble_eq_true rfl) ?_
      refine ev_iload 124 dX9_fair_122 rfl rfl ?_
      refine ev_bipush 126 dX9_fair_124 rfl (by decide +kernel) ?_
      refine ev_idiv 127 dX9_fair_126 rfl (by omega) (by omega) ?_
      refine ev_istore 129 dX9_fair_127 rfl (Nat.le_of_ble_eq_true rfl) ?_
      refine ev_aload_n 130 dX9_fair_129 rfl rfl ?_
      refine ev_getR 133 fX9_47 rfl dX9_fair_130 rfl rfl rfl ?_
      refine ev_iconst 134 dX9_fair_133 rfl ?_
      refine ev_iload 136 dX9_fair_134 rfl rfl ?_
      refine ev_iadd 137 dX9_fair_136 rfl ?_
      refine ev_iload 139 dX9_fair_137 rfl rfl ?_
      refine ev_iast' 140 (hput H 13 (up f (5 + c) (l % 6))) dX9_fair_139 rfl rfl (by decide) (by omega) (by rw [hput_hput, hput_s]) ?_
      refine ev_iload 142 dX9_fair_140 rfl rfl ?_
      refine ev_iload 144 dX9_fair_142 rfl rfl ?_
      refine ev_iadd 145 dX9_fair_144 rfl ?_
      refine ev_istore 147 dX9_fair_145 rfl (Nat.le_of_ble_eq_true rfl) ?_
      refine ev_aload_n 148 dX9_fair_147 rfl rfl ?_
      refine ev_getR 151 fX9_71 rfl dX9_fair_148 rfl rfl rfl ?_
      refine ev_iload 153 dX9_fair_151 rfl rfl ?_
      refine ev_iald' 154 (b c) dX9_fair_153 rfl rfl (by decide) (by omega) hb2c ?_
      refine ev_iload 156 dX9_fair_154 rfl rfl ?_
      refine ev_iadd 157 dX9_fair_156 rfl ?_
      refine ev_iload 159 dX9_fair_157 rfl rfl ?_
      refine ev_icmp_ge 162 175 dX9_fair_159 rfl rfl (by omega) (by omega) (fun c159 => ?_) (fun c159 => ?_)
      · rw [if_neg (by omega)] at K
        refine ev_iload 177 dX9_fair_175 rfl rfl ?_
        refine ev_istore 179 dX9_fair_177 rfl (Nat.le_of_ble_eq_true rfl) ?_
        refine ev_aload_n 180 dX9_fair_179 rfl rfl ?_
        refine ev_getR 183 fX9_71 rfl dX9_fair_180 rfl rfl rfl ?_
        refine ev_iload 185 dX9_fair_183 rfl rfl ?_
        refine ev_iald' 186 (b c) dX9_fair_185 rfl rfl (by decide) (by omega) hb2c ?_
        refine ev_iload 188 dX9_fair_186 rfl rfl ?_
        refine ev_iadd 189 dX9_fair_188 rfl ?_
        refine ev_iload 191 dX9_fair_189 rfl rfl ?_
        refine ev_icmp_le 194 207 dX9_fair_191 rfl rfl (by omega) (by omega) (fun c191 => ?_) (fun c191 => ?_)
        · rw [if_neg (by omega)] at K
          refine ev_iload 209 dX9_fair_207 rfl rfl ?_
          refine ev_istore 211 dX9_fair_209 rfl (Nat.le_of_ble_eq_true rfl) ?_
          refine ev_iinc 214 dX9_fair_211 rfl rfl ?_
          refine ev_goto 110 dX9_fair_214 rfl ?_
          exact ih (c - 1) (l / 6) _ _ _ _ _ (by omega) (by omega) hd.1 (by omega) (by omega) K
        · rw [if_pos (by omega)] at K
          refine ev_aload_n 195 dX9_fair_194 rfl rfl ?_
          refine ev_getR 198 fX9_71 rfl dX9_fair_195 rfl rfl rfl ?_
          refine ev_iload 200 dX9_fair_198 rfl rfl ?_
          refine ev_iald' 201 (b c) dX9_fair_200 rfl rfl (by decide) (by omega) hb2c ?_
          refine ev_iload 203 dX9_fair_201 rfl rfl ?_
          refine ev_iadd 204 dX9_fair_203 rfl ?_
          refine ev_goto 209 dX9_fair_204 rfl ?_
          refine ev_istore 211 dX9_fair_209 rfl (Nat.le_of_ble_eq_true rfl) ?_
          refine ev_iinc 214 dX9_fair_211 rfl rfl ?_
          refine ev_goto 110 dX9_fair_214 rfl ?_
          exact ih (c - 1) (l / 6) _ _ _ _ _ (by omega) (by omega) hd.1 (by omega) (by omega) K
      · rw [if_pos (by omega)] at K
        refine ev_aload_n 163 dX9_fair_162 rfl rfl ?_
        refine ev_getR 166 fX9_71 rfl dX9_fair_163 rfl rfl rfl ?_
        refine ev_iload 168 dX9_fair_166 rfl rfl ?_
        refine ev_iald' 169 (b c) dX9_fair_168 rfl rfl (by decide) (by omega) hb2c ?_
        refine ev_iload 171 dX9_fair_169 rfl rfl ?_
        refine ev_iadd 172 dX9_fair_171 rfl ?_
        refine ev_goto 177 dX9_fair_172 rfl ?_
        refine ev_istore 179 dX9_fair_177 rfl (Nat.le_of_ble_eq_true rfl) ?_
        refine ev_aload_n 180 dX9_fair_179 rfl rfl ?_
        refine ev_getR 183 fX9_71 rfl dX9_fair_180 rfl rfl rfl ?_
        refine ev_iload 185 dX9_fair_183 rfl rfl ?_
        refine ev_iald' 186 (b c) dX9_fair_185 rfl rfl (by decide) (by omega) hb2c ?_
        refine ev_iload 188 dX9_fair_186 rfl rfl ?_
        refine ev_iadd 189 dX9_fair_188 rfl ?_
        refine ev_iload 191 dX9_fair_189 rfl rfl ?_
        refine ev_icmp_le 194 207 dX9_fair_191 rfl rfl (by omega) (by omega) (fun c191 => ?_) (fun c191 => ?_)
        · rw [if_neg (by omega)] at K
          refine ev_iload 209 dX9_fair_207 rfl rfl ?_
          refine ev_istore 211 dX9_fair_209 rfl (Nat.le_of_ble_eq_true rfl) ?_
          refine ev_iinc 214 dX9_fair_211 rfl rfl ?_
          refine ev_goto 110 dX9_fair_214 rfl ?_
          exact ih (c - 1) (l / 6) _ _ _ _ _ (by omega) (by omega) hd.1 (by omega) (by omega) K
        · rw [if_pos (by omega)] at K
          refine ev_aload_n 195 dX9_fair_194 rfl rfl ?_
          refine ev_getR 198 fX9_71 rfl dX9_fair_195 rfl rfl rfl ?_
          refine ev_iload 200 dX9_fair_198 rfl rfl ?_
          refine ev_iald' 201 (b c) dX9_fair_200 rfl rfl (by decide) (by omega) hb2c ?_
          refine ev_iload 203 dX9_fair_201 rfl rfl ?_
          refine ev_iadd 204 dX9_fair_203 rfl ?_
          refine ev_goto 209 dX9_fair_204 rfl ?_
          refine ev_istore 211 dX9_fair_209 rfl (Nat.le_of_ble_eq_true rfl) ?_
          refine ev_iinc 214 dX9_fair_211 rfl rfl ?_
          refine ev_goto 110 dX9_fair_214 rfl ?_
          exact ih (c - 1) (l / 6) _ _ _ _ _ (by omega) (by omega) hd.1 (by omega) (by omega) K
theorem m_fair_by {H : Hp} {post : Option AV → Hp → Prop} (hn : 0 < H 0 2 ∧ H 0 2 ≤ 5) {x1 x2 x3 x4 x5 x6 x7 x8 x9 x11 : Option AV} {g0 : Int → Int} : ∀ (k : Nat) (c : Int), 0 ≤ c → c + k = H 0 2 → (∀ o10, Ev shM mX9_fair 290 [some (vr 0), x1, x2, x3, x4, x5, x6, x7, x8, x9, o10, x11] [] (hput H 20 (cpy (H 13) g0 5 0 (H 0 2))) post) → Ev shM mX9_fair 259 [some (vr 0), x1, x2, x3, x4, x5, x6, x7, x8, x9, some (vi c), x11] [] (hput H 20 (cpy (H 13) g0 5 0 c)) post := by
  intro k
  induction k with
  | zero =>
    intro c h0 h1 K
    have he : c = H 0 2 := by omega
    subst he
    refine ev_iload 261 dX9_fair_259 rfl rfl ?_
    refine ev_aload_n 262 dX9_fair_261 rfl rfl ?_
    refine ev_getI' 265 2 (H 0 2) fX9_74 rfl dX9_fair_262 rfl rfl rfl (by decide) rfl rfl ?_
    refine ev_icmp_ge 268 290 dX9_fair_265 rfl rfl (by omega) (by omega) (fun c265 => ?_) (fun c265 => ?_)
    · exact K _
    · omega --done
  | succ k ih =>
    intro c h0 h1 K
    refine ev_iload 261 dX9_fair_259 rfl rfl ?_
    refine ev_aload_n 262 dX9_fair_261 rfl rfl ?_
    refine ev_getI' 265 2 (H 0 2) fX9_74 rfl dX9_fair_262 rfl rfl rfl (by decide) rfl rfl ?_
    refine ev_icmp_ge 268 290 dX9_fair_265 rfl rfl (by omega) (by omega) (fun c265 => ?_) (fun c265 => ?_)
    · omega --done
    · refine ev_aload_n 269 dX9_fair_268 rfl rfl ?_
      refine ev_getR 272 fX9_68 rfl dX9_fair_269 rfl rfl rfl ?_
      refine ev_iload 274 dX9_fair_272 rfl rfl ?_
      refine ev_aload_n 275 dX9_fair_274 rfl rfl ?_
      refine ev_getR 278 fX9_47 rfl dX9_fair_275 rfl rfl rfl ?_
      refine ev_iconst 279 dX9_fair_278 rfl ?_
      refine ev_iload 281 dX9_fair_279 rfl rfl ?_
      refine ev_iadd 282 dX9_fair_281 rfl ?_
      refine ev_iald' 283 (H 13 (5 + c)) dX9_fair_282 rfl rfl (by decide) (by omega) rfl ?_
      refine ev_iast' 284 (hput H 20 (cpy (H 13) g0 5 0 (c + 1))) dX9_fair_283 rfl rfl (by decide) (by omega) (by rw [hput_hput, hput_s, ← cpy_1 h0, Int.zero_add]) ?_
      refine ev_iinc 287 dX9_fair_284 rfl rfl ?_
      refine ev_goto 259 dX9_fair_287 rfl ?_
      exact ih (c + 1) (by omega) (by omega) K
end FR
