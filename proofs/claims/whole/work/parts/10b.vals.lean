/-! rows that name what is read and what the heap is behind a write; heaps as a base and a list of places that have changed -/
theorem nbf {a b : Nat} (e : a ≠ b) : Nat.beq a b = false := by
  cases h : Nat.beq a b with
  | false => rfl
  | true => exact absurd (Nat.eq_of_beq_eq_true h) e
def hq (h : Hp) : List (Nat × (Int → Int)) → Hp
  | [] => h
  | p :: L => fun a => cond (Nat.beq a p.1) p.2 (hq h L a)
def lset : List (Nat × (Int → Int)) → Nat → (Int → Int) → List (Nat × (Int → Int))
  | [], k, f => [(k, f)]
  | p :: L, k, f => cond (Nat.beq k p.1) ((k, f) :: L) (p :: lset L k f)
theorem hq_put {h : Hp} {L : List (Nat × (Int → Int))} {k : Nat} {f : Int → Int} : hput (hq h L) k f = hq h (lset L k f) := by
  funext a
  induction L with
  | nil =>
    show (if a = k then f else h a) = cond (Nat.beq a k) f (h a)
    by_cases e : a = k
    · subst e; rw [if_pos rfl, Nat.beq_refl]; rfl
    · rw [if_neg e, nbf e]; rfl
  | cons p L ih =>
    by_cases e : a = k
    · subst e
      rw [hput_s] at ih ⊢
      show f = hq h (cond (Nat.beq a p.1) ((a, f) :: L) (p :: lset L a f)) a
      cases hb : Nat.beq a p.1 with
      | true =>
        show f = cond (Nat.beq a a) f (hq h L a)
        rw [Nat.beq_refl]
        rfl
      | false =>
        show f = cond (Nat.beq a p.1) p.2 (hq h (lset L a f) a)
        rw [hb]
        exact ih
    · rw [hput_n e] at ih ⊢
      show cond (Nat.beq a p.1) p.2 (hq h L a) = hq h (cond (Nat.beq k p.1) ((k, f) :: L) (p :: lset L k f)) a
      cases hb : Nat.beq k p.1 with
      | true =>
        have hk : k = p.1 := Nat.eq_of_beq_eq_true hb
        show cond (Nat.beq a p.1) p.2 (hq h L a) = cond (Nat.beq a k) f (hq h L a)
        rw [nbf e, ← hk, nbf e]
        rfl
      | false =>
        show cond (Nat.beq a p.1) p.2 (hq h L a) = cond (Nat.beq a p.1) p.2 (hq h (lset L k f) a)
        rw [ih]
theorem up_up {f : Int → Int} {i a b : Int} : up (up f i a) i b = up f i b := by
  funext j
  unfold up
  split <;> rfl
theorem up_id {f : Int → Int} {i : Int} : up f i (f i) = f := by
  funext j
  unfold up
  split
  · rename_i e; rw [e]
  · rfl
theorem up_comm {f : Int → Int} {i j a b : Int} (e : i ≠ j) : up (up f i a) j b = up (up f j b) i a := by
  funext k
  unfold up
  by_cases q : k = j
  · subst q; rw [if_pos rfl, if_neg (fun w => e w.symm), if_pos rfl]
  · rw [if_neg q, if_neg q]
theorem hq_id {h : Hp} {L : List (Nat × (Int → Int))} (hL : ∀ p ∈ L, p.2 = h p.1) : hq h L = h := by
  funext a
  induction L with
  | nil => rfl
  | cons p L ih =>
    show cond (Nat.beq a p.1) p.2 (hq h L a) = h a
    rw [ih (fun q hq => hL q (List.mem_cons_of_mem _ hq))]
    cases hb : Nat.beq a p.1 with
    | true => rw [hL p List.mem_cons_self, Nat.eq_of_beq_eq_true hb]; rfl
    | false => rfl
section EVV
variable {sh : List CS} {M : MI} {pc : Nat} {ls : List (Option AV)} {st : List AV} {h : Hp} {post : Option AV → Hp → Prop}
theorem ev_getI' {own : String} (n : Nat) (z v : Int) {i ci j q : Nat} {sl : List SK} {b : Nat} (hL : FL own i ci j) (ho : own = M.1.cls) (hd : decode M.2.1 pc = .ok (.getfield i, 3)) (hn : pc + 3 = n) (hq : sh[q]? = some (.inr (ci, sl))) (hx : sl[j]? = some (.inl b)) (hb : ¬ b = 1) (hz : (j : Int) = z) (hv : h q z = v) (k : Ev sh M n ls (vi v :: st) h post) : Ev sh M pc ls (vr q :: st) h post := ev_getI n z hL ho hd hn hq hx hb hz (by rw [hv]; exact k)
theorem ev_iald' (n : Nat) (v : Int) {q N : Nat} {i : Int} (hd : decode M.2.1 pc = .ok (.iaload, 1)) (hn : pc + 1 = n) (hq : sh[q]? = some (.inl (0, N))) (hN : N < 2147483648) (hi : 0 ≤ i ∧ i < N) (hv : h q i = v) (k : Ev sh M n ls (vi v :: st) h post) : Ev sh M pc ls (vi i :: vr q :: st) h post := ev_iald n hd hn hq hN hi (by rw [hv]; exact k)
theorem ev_zald' (n : Nat) (v : Int) {q N : Nat} {i : Int} (hd : decode M.2.1 pc = .ok (.baload, 1)) (hn : pc + 1 = n) (hq : sh[q]? = some (.inl (1, N))) (hN : N < 2147483648) (hi : 0 ≤ i ∧ i < N) (hv : h q i = v) (k : Ev sh M n ls (vi v :: st) h post) : Ev sh M pc ls (vi i :: vr q :: st) h post := ev_zald n hd hn hq hN hi (by rw [hv]; exact k)
theorem ev_iast' (n : Nat) (h2 : Hp) {q N : Nat} {i v : Int} (hd : decode M.2.1 pc = .ok (.iastore, 1)) (hn : pc + 1 = n) (hq : sh[q]? = some (.inl (0, N))) (hN : N < 2147483648) (hi : 0 ≤ i ∧ i < N) (hh : hput h q (up (h q) i v) = h2) (k : Ev sh M n ls st h2 post) : Ev sh M pc ls (vi v :: vi i :: vr q :: st) h post := ev_iast n hd hn hq hN hi (by rw [hh]; exact k)
theorem ev_zast' (n : Nat) (h2 : Hp) {q N : Nat} {i v : Int} (hd : decode M.2.1 pc = .ok (.bastore, 1)) (hn : pc + 1 = n) (hq : sh[q]? = some (.inl (1, N))) (hN : N < 2147483648) (hi : 0 ≤ i ∧ i < N) (hv : v = 0 ∨ v = 1) (hh : hput h q (up (h q) i v) = h2) (k : Ev sh M n ls st h2 post) : Ev sh M pc ls (vi v :: vi i :: vr q :: st) h post := ev_zast n hd hn hq hN hi hv (by rw [hh]; exact k)
theorem ev_putI' {own : String} (n : Nat) (w : Int) (h2 : Hp) {i ci j q : Nat} {sl : List SK} {z : Int} (hL : FP own i ci j .int) (ho : own = M.1.cls) (hd : decode M.2.1 pc = .ok (.putfield i, 3)) (hn : pc + 3 = n) (hq : sh[q]? = some (.inr (ci, sl))) (hx : sl[j]? = some (.inl 0)) (hw : (j : Int) = w) (hh : hput h q (up (h q) w z) = h2) (k : Ev sh M n ls st h2 post) : Ev sh M pc ls (vi z :: vr q :: st) h post := ev_putI n w hL ho hd hn hq hx hw (by rw [hh]; exact k)
theorem ev_putL' {own : String} (n : Nat) (w : Int) (h2 : Hp) {i ci j q : Nat} {sl : List SK} {z : Int} (hL : FP own i ci j .long) (ho : own = M.1.cls) (hd : decode M.2.1 pc = .ok (.putfield i, 3)) (hn : pc + 3 = n) (hq : sh[q]? = some (.inr (ci, sl))) (hx : sl[j]? = some (.inl 1)) (hw : (j : Int) = w) (hh : hput h q (up (h q) w z) = h2) (k : Ev sh M n ls st h2 post) : Ev sh M pc ls (vl z :: vr q :: st) h post := ev_putL n w hL ho hd hn hq hx hw (by rw [hh]; exact k)
theorem ev_putZ' {own : String} (n : Nat) (w : Int) (h2 : Hp) {i ci j q : Nat} {sl : List SK} {z : Int} (hL : FP own i ci j .boolean) (ho : own = M.1.cls) (hd : decode M.2.1 pc = .ok (.putfield i, 3)) (hn : pc + 3 = n) (hq : sh[q]? = some (.inr (ci, sl))) (hx : sl[j]? = some (.inl 2)) (hz : z = 0 ∨ z = 1) (hw : (j : Int) = w) (hh : hput h q (up (h q) w z) = h2) (k : Ev sh M n ls st h2 post) : Ev sh M pc ls (vi z :: vr q :: st) h post := ev_putZ n w hL ho hd hn hq hx hz hw (by rw [hh]; exact k)
theorem ev_topi {x y : Int} (e : x = y) (k : Ev sh M pc ls (vi y :: st) h post) : Ev sh M pc ls (vi x :: st) h post := by rw [e]; exact k
theorem ev_heap {h2 : Hp} (e : h = h2) (k : Ev sh M pc ls st h2 post) : Ev sh M pc ls st h post := by rw [e]; exact k
theorem ev_loc {ls2 : List (Option AV)} (e : ls = ls2) (k : Ev sh M pc ls2 st h post) : Ev sh M pc ls st h post := by rw [e]; exact k
end EVV
