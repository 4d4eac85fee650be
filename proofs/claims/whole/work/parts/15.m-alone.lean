theorem hq_out {h : Hp} {L : List (Nat × (Int → Int))} {k : Nat} (hL : L.all (fun p => !(Nat.beq k p.1)) = true) : hq h L k = h k := by
  induction L with
  | nil => rfl
  | cons p L ih =>
    rw [List.all_cons, Bool.and_eq_true] at hL
    show cond (Nat.beq k p.1) p.2 (hq h L k) = h k
    rw [ih hL.2]
    have := hL.1
    cases hb : Nat.beq k p.1 with
    | true => rw [hb] at this; cases this
    | false => rfl
/-- what stays: all that calls show of the model but what is written on the way -/
def PsM (h h' : Hp) : Prop := (∀ k, 1 ≤ k → k ≤ 9 → h' k = h k) ∧ ∀ i, (i < 15 ∨ 31 < i) → h' 0 i = h 0 i
theorem PsM.rf {h : Hp} : PsM h h := ⟨fun _ _ _ => rfl, fun _ _ => rfl⟩
theorem PsM.tr {h h1 h2 : Hp} (a : PsM h h1) (b : PsM h1 h2) : PsM h h2 := ⟨fun k p q => (b.1 k p q).trans (a.1 k p q), fun i p => (b.2 i p).trans (a.2 i p)⟩
theorem nine {P : Nat → Prop} (h1 : P 1) (h2 : P 2) (h3 : P 3) (h4 : P 4) (h5 : P 5) (h6 : P 6) (h7 : P 7) (h8 : P 8) (h9 : P 9) : ∀ k, 1 ≤ k → k ≤ 9 → P k := by
  intro k a b
  have : k = 1 ∨ k = 2 ∨ k = 3 ∨ k = 4 ∨ k = 5 ∨ k = 6 ∨ k = 7 ∨ k = 8 ∨ k = 9 := by omega
  rcases this with rfl | rfl | rfl | rfl | rfl | rfl | rfl | rfl | rfl <;> assumption
theorem PsM.R {h : Hp} {ic pts tm plc : Int → Int} {many : Int} : PsM h (hR h ic pts tm plc many) := ⟨nine rfl rfl rfl rfl rfl rfl rfl rfl rfl, fun i p => up_n (by omega)⟩
def hN (h : Hp) : Hp := hput h 13 (cpy (h 4) (h 13) 0 0 17)
theorem PsM.N {h : Hp} {f : Int → Int} : PsM h (hput h 13 f) := ⟨nine rfl rfl rfl rfl rfl rfl rfl rfl rfl, fun _ _ => rfl⟩
theorem hN_at {h : Hp} {i : Int} (h0 : 0 ≤ i) (h1 : i < 17) : hN h 13 i = h 4 i := by
  show cpy (h 4) (h 13) 0 0 17 i = _
  unfold cpy
  rw [if_pos (by omega)]
  congr 1
  omega
def sGain (str wt s : Int → Int) (ill c : Int) : Int := gainZ (if bit ill (s c) = 0 then str (s c) else 1) (wt c) (bit (s 10) c)
theorem NW_ag {n : Int} {s s' : Int → Int} (hn : n ≤ 5) (h : NW n s) (e : ∀ i, 0 ≤ i → i < 17 → s' i = s i) : NW n s' := by
  refine ⟨fun c a b => ?_, ?_, ?_⟩
  · rw [e c a (by omega), e (5 + c) (by omega) (by omega)]
    exact h.1 c a b
  · rw [e 10 (by omega) (by omega)]; exact h.2.1
  · rw [e 10 (by omega) (by omega)]; exact h.2.2
theorem sGain_ag {str wt s s' : Int → Int} {n ill : Int} (hn : n ≤ 5) (e : ∀ i, 0 ≤ i → i < 17 → s' i = s i) : ag n (sGain str wt s' ill) (sGain str wt s ill) := fun c a b => by
  unfold sGain
  rw [e c a (by omega), e 10 (by omega) (by omega)]
def raceS (h : Hp) (s : Int → Int) (ill : Int) : RS := raceC (h 1) (h 0 0) (h 0 2) (fun c => s (5 + c)) (sGain (h 3) (fun c => h 2 (2 * c)) s ill) (h 0 2)
theorem raceS_ag {h : Hp} {s s' : Int → Int} {ill : Int} (hn : 0 ≤ h 0 2 ∧ h 0 2 ≤ 5) (e : ∀ i, 0 ≤ i → i < 17 → s' i = s i) : rAg (h 0 2) (raceS h s' ill) (raceS h s ill) := race_ag hn.1 (fun c a b => e (5 + c) (by omega) (by omega)) (sGain_ag hn.2 e) 1000 1 _ _ ⟨ag_rf, ag_rf, ag_rf, fun _ _ _ => rfl, rfl⟩
theorem m_asItIs {h : Hp} : Ev shM mX9_asItIs 0 [some (vr 0)] [] h (RV fun h' => h' = hN h) := by
  refine ev_aload_n 1 dX9_asItIs_0 rfl rfl ?_
  refine ev_getR 4 fX9_47 rfl dX9_asItIs_1 rfl rfl rfl ?_
  refine ev_iconst 5 dX9_asItIs_4 rfl ?_
  refine ev_aload_n 6 dX9_asItIs_5 rfl rfl ?_
  refine ev_getR 9 fX9_19 rfl dX9_asItIs_6 rfl rfl rfl ?_
  refine ev_iconst 10 dX9_asItIs_9 rfl ?_
  refine cSv4 13 kX9_asItIs_154 dX9_asItIs_10 rfl rfl (by decide) rfl (Nat.le_of_ble_eq_true rfl) (m_copy (a := 13) (b := 4) rfl rfl (by decide) (by decide) (by decide) (by omega) (by omega)) ?_
  rintro _ rfl
  exact ev_vret rfl dX9_asItIs_13 (rfl)
theorem raceC_full {cost : Int → Int} {cl n : Int} (hC : CP cost cl n) {hand g : Int → Int} (hg : ∀ c, 0 ≤ c → c < n → 1 ≤ g c ∧ g c ≤ 20) (hh : ∀ c, 0 ≤ c → c < n → hand c ≤ 5) {w : Int} (hw : w ≤ n) : rOK cost cl n (raceC cost cl n hand g w) ∧ w ≤ (raceC cost cl n hand g w).2.2.2.2 := by
  have h0 := hC.2.2.1
  refine race_end hC hg hh hw 1000 1 _ (by omega) (by omega) ⟨fun c a b => ?_, ?_, fun k a b => ?_⟩ (fun q => by omega) (fun _ => by omega)
  · have := hC.2.2.2.2 0 (by omega) h0
    unfold okC
    dsimp only
    omega
  · have := (rZ_ok hC (f1 := fun _ => 0) (f2 := fun _ => 0) (f3 := fun _ => 0) (f4 := fun _ => 0)).2.1
    refine this.trans (cntB_congr (fun c a b => inB_c ?_))
    show zf (fun _ => 0) n c = 0
    unfold zf
    split <;> rfl
  · have b : k < 0 := b
    omega
theorem sGain_r {h : Hp} (hW : MW h) {s : Int → Int} (hs : NW (h 0 2) s) (ill : Int) {c : Int} (hc : 0 ≤ c ∧ c < h 0 2) : 1 ≤ sGain (h 3) (fun c => h 2 (2 * c)) s ill c ∧ sGain (h 3) (fun c => h 2 (2 * c)) s ill c ≤ 20 := by
  have h1 := hs.1 c hc.1 hc.2
  have h2 := hW.2 (s c) h1.1 h1.2.1
  have h3 := hW.2 c hc.1 hc.2
  unfold sGain
  refine gainZ_r ?_ ⟨h3.2.2.1, h3.2.2.2⟩
  split <;> omega
theorem raceS_ok {h : Hp} (hW : MW h) {s : Int → Int} (hs : NW (h 0 2) s) (ill : Int) : rOK (h 1) (h 0 0) (h 0 2) (raceS h s ill) ∧ (raceS h s ill).2.2.2.2 = h 0 2 := by
  have h1 := raceC_full hW.1 (hand := fun c => s (5 + c)) (g := sGain (h 3) (fun c => h 2 (2 * c)) s ill) (fun c a b => sGain_r hW hs ill ⟨a, b⟩) (fun c a b => (hs.1 c a b).2.2.2) (Int.le_refl _)
  refine ⟨h1.1, ?_⟩
  have h2 := cntB_rng (inB (h 0 0) (raceS h s ill)) (h 0 2).toNat
  have h3 : (raceS h s ill).2.2.2.2 = cntB (inB (h 0 0) (raceS h s ill)) (h 0 2).toNat := h1.1.2.1
  have h4 : h 0 2 ≤ (raceS h s ill).2.2.2.2 := h1.2
  have h5 := hW.1.1
  omega
/-- races(ill), in words of who pushes whom as now has it -/
theorem m_racesS {h : Hp} (hW : MW h) (hN0 : NW (h 0 2) (h 13)) {ill : Int} (hi : 0 ≤ ill ∧ ill < 32) : Ev shM mX9_races 0 [some (vr 0), some (vi ill), none, none] [] h (RV fun h' => PsM h h' ∧ h' 13 = h 13 ∧ (∀ k, 18 ≤ k → h' k = h k) ∧ ag (h 0 2) (h' 16) (raceS h (h 13) ill).2.2.1 ∧ ag (h 0 2) (h' 17) (raceS h (h 13) ill).2.2.2.1) := by
  refine ev_wk (m_races hW hN0 hi) ?_
  rintro v h' ⟨e, ic, pts, tm, plc, rfl, h1, h2⟩
  refine ⟨e, PsM.R, rfl, fun k a => hq_out ?_, h1, h2⟩
  simp only [List.all_cons, List.all_nil, Bool.and_true]
  rw [nbf (by omega), nbf (by omega), nbf (by omega), nbf (by omega), nbf (by omega)]
  rfl
theorem PsM.W {h h' : Hp} (p : PsM h h') (hW : MW h) : MW h' := by
  unfold MW MCh at hW ⊢
  rw [p.1 1 (by decide) (by decide), p.1 2 (by decide) (by decide), p.1 3 (by decide) (by decide), p.2 0 (by omega), p.2 2 (by omega)]
  exact hW
theorem hN_W {h : Hp} (hW : MW h) (hs : NW (h 0 2) (h 4)) : MW (hN h) ∧ NW (hN h 0 2) (hN h 13) := ⟨PsM.N.W hW, NW_ag hW.1.2.1 hs (fun i a b => hN_at a b)⟩
theorem m_first {h : Hp} (hW : MW h) (hs : NW (h 0 2) (h 4)) : Ev shM mX9_first 0 [some (vr 0)] [] h (RI fun x h' => x = (raceS h (h 4) 0).2.2.2.1 0 ∧ PsM h h') := by
  have hn := hW.1.1
  have hA := raceS_ag (h := h) (s := h 4) (s' := hN h 13) (ill := 0) ⟨by omega, hW.1.2.1⟩ (fun i a b => hN_at a b)
  have hO := raceS_ok (hN_W hW hs).1 (hN_W hW hs).2 0
  have hO2 : (raceS h (hN h 13) 0).2.2.2.2 = h 0 2 := hO.2
  refine ev_aload_n 1 dX9_first_0 rfl rfl ?_
  refine cVv0 4 kX9_first_178 dX9_first_1 rfl rfl rfl rfl rfl (by decide) rfl (Nat.le_of_ble_eq_true rfl) (m_asItIs) ?_
  rintro _ rfl
  refine ev_aload_n 5 dX9_first_4 rfl rfl ?_
  refine ev_iconst 6 dX9_first_5 rfl ?_
  refine cVv1 9 kX9_first_192 dX9_first_6 rfl rfl rfl rfl rfl (by decide) rfl (Nat.le_of_ble_eq_true rfl) (m_racesS (hN_W hW hs).1 (hN_W hW hs).2 ⟨by omega, by omega⟩) ?_
  rintro h' ⟨p1, -, -, -, p2⟩
  refine ev_aload_n 10 dX9_first_9 rfl rfl ?_
  refine ev_getR 13 fX9_59 rfl dX9_first_10 rfl rfl rfl ?_
  refine ev_iconst 14 dX9_first_13 rfl ?_
  refine ev_iald' 15 ((raceS h (h 4) 0).2.2.2.1 0) dX9_first_14 rfl rfl (by decide) (by omega) ((p2 0 (by omega) hn).trans (hA.2.2.2.1 0 (by omega) (by omega))) ?_
  exact ev_iret rfl dX9_first_15 (⟨rfl, PsM.N.tr p1⟩)
