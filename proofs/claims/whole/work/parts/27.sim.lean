/-! the model's stack against the function of the state -/
def MT (r : sg) : Prop := ∃ q, q ≤ 16 ∧ r 17 2 = nI q
theorem MT.of {r r' : sg} (h : r' 17 2 = r 17 2) (m : MT r) : MT r' := by
  obtain ⟨q, h1, h2⟩ := m
  exact ⟨q, h1, h.trans h2⟩
theorem MT.inc {r : sg} (m : MT r) (h : r 17 2 < 16) : MT (tinc r 2) := by
  obtain ⟨q, h1, h2⟩ := m
  rw [h2] at h
  have h3 : q < 16 := (nI_ltI (b := 16) (by omega) (by decide)).mp h
  exact ⟨q + 1, by omega, by rw [← nI_1, ← h2]; exact s2_s _ _ _ _⟩
theorem MT.lt {r : sg} (m : MT r) (h : ¬ r 17 2 = 16) : r 17 2 < 16 := by
  obtain ⟨q, h1, h2⟩ := m
  rw [h2] at h ⊢
  have : q ≠ 16 := fun e => h (by rw [e]; rfl)
  exact (nI_ltI (b := 16) (by omega) (by decide)).mpr (by omega)
theorem mark_mt {r : sg} {k i : Nat} : (markF r k i).1 17 2 = r 17 2 := by
  unfold markF
  split
  · rfl
  · split
    · show fillN _ _ _ _ 17 2 = _
      rw [fillN_a, if_neg (by omega)]
    · split <;> rfl
theorem lay_mt {r : sg} {k i : Nat} : (layF r k i).1 17 2 = r 17 2 := by
  unfold layF
  split
  · rfl
  · split
    · rfl
    · split <;> rfl
theorem fall_mt {r : sg} {k : Nat} : fallF r k 17 2 = r 17 2 := by
  unfold fallF fall4
  have h2 : fall2 (fall1 r k) k 17 2 = r 17 2 := by
    unfold fall2
    split <;> rfl
  split
  · exact h2
  · exact h2
theorem spread_mt {C : sg → Nat → sg × Int32} (hC : ∀ r i, MT r → MT (C r i).1) {i : Nat} : ∀ (n j : Nat) (r : sg), MT r → MT (spreadF C i n j r).1 := by
  intro n
  induction n with
  | zero => intro j r h; exact h
  | succ n ih =>
    intro j r h
    unfold spreadF
    split
    · exact ih _ _ h
    · split
      · exact ih _ _ (hC _ _ h)
      · exact hC _ _ h
theorem job_mt {C : sg → Nat → sg × Int32} (hC : ∀ r i, MT r → MT (C r i).1) {r : sg} {k i : Nat} (h : MT r) : MT (jobF C r k i).1 := by
  unfold jobF
  split
  · unfold workF
    split
    · exact h.of rfl
    · split
      · exact h.of mark_mt
      · split
        · exact h.of lay_mt
        · split
          · unfold openF
            split
            · exact h
            · split
              · exact h
              · exact hC _ _ h
          · split
            · exact spread_mt hC _ _ _ h
            · exact h.of rfl
  · exact h
theorem over_mt {q : sg × Int32} {k : Nat} (h : MT q.1) : MT (overF q k).1 := by
  unfold overF
  split
  · exact h.of rfl
  · exact (MT.of (r' := metF q.1 k) rfl h).of fall_mt
theorem meet_mt {C : sg → Nat → sg × Int32} (hC : ∀ r i, MT r → MT (C r i).1) {r : sg} {k i : Nat} (h : MT r) : MT (meetF C r k i).1 := by
  unfold meetF
  split
  · rename_i hq
    exact over_mt (job_mt hC (h.inc hq))
  · exact h
theorem carry_mt : ∀ (n : Nat) (r : sg) (i : Nat), MT r → MT (carryF n r i).1 := by
  intro n
  induction n with
  | zero => intro r i h; exact h.of rfl
  | succ n ih =>
    intro r i h
    unfold carryF
    have h1 := meet_mt (fun r i => ih r i) (k := 7 - n) (i := i) h
    split
    · split
      · exact h1.of rfl
      · split
        · exact h1
        · exact ih _ _ h1
    · exact ih _ _ h
/-! which answers a sending gives -/
def RF (f : Int32) : Prop := f = 0 ∨ f = 1 ∨ f = 2 ∨ f = 3 ∨ f = 4 ∨ f = 5
def RV (v : Int32) : Prop := (∃ k, k < 8 ∧ v = nI k) ∨ v = -4 ∨ v = -11 ∨ v = -12 ∨ v = -13 ∨ v = -14 ∨ v = -15
theorem fail_rf {v : Int32} (h : RV v) : RF (failI v) := by
  rcases h with ⟨k, hk, rfl⟩ | rfl | rfl | rfl | rfl | rfl | rfl
  · rcases (show k = 0 ∨ k = 1 ∨ k = 2 ∨ k = 3 ∨ k = 4 ∨ k = 5 ∨ k = 6 ∨ k = 7 by omega) with rfl | rfl | rfl | rfl | rfl | rfl | rfl | rfl <;> (unfold RF; decide)
  all_goals (unfold RF; decide)
theorem rv_ne {v : Int32} (h : RV v) : ¬ v = -100 := by
  rcases h with ⟨k, hk, rfl⟩ | rfl | rfl | rfl | rfl | rfl | rfl
  · rcases (show k = 0 ∨ k = 1 ∨ k = 2 ∨ k = 3 ∨ k = 4 ∨ k = 5 ∨ k = 6 ∨ k = 7 by omega) with rfl | rfl | rfl | rfl | rfl | rfl | rfl | rfl <;> decide
  all_goals decide
theorem rf_rv {f : Int32} (h : RF f) (h0 : ¬ f = 0) : RV (-10 - f) := by
  rcases h with rfl | rfl | rfl | rfl | rfl | rfl
  · exact absurd rfl h0
  · exact Or.inr (Or.inr (Or.inl (by decide)))
  · exact Or.inr (Or.inr (Or.inr (Or.inl (by decide))))
  · exact Or.inr (Or.inr (Or.inr (Or.inr (Or.inl (by decide)))))
  · exact Or.inr (Or.inr (Or.inr (Or.inr (Or.inr (Or.inl (by decide))))))
  · exact Or.inr (Or.inr (Or.inr (Or.inr (Or.inr (Or.inr (by decide))))))
theorem mark_v {r : sg} {k i : Nat} : (markF r k i).2 = 0 ∨ (markF r k i).2 = 2 := by
  unfold markF
  split
  · exact Or.inl rfl
  · split
    · exact Or.inl rfl
    · split
      · exact Or.inr rfl
      · exact Or.inl rfl
theorem lay_v {r : sg} {k i : Nat} : (layF r k i).2 = 0 ∨ (layF r k i).2 = 1 ∨ (layF r k i).2 = 2 ∨ (layF r k i).2 = 3 := by
  unfold layF
  split
  · exact Or.inr (Or.inl rfl)
  · split
    · exact Or.inr (Or.inr (Or.inl rfl))
    · split
      · exact Or.inr (Or.inr (Or.inr rfl))
      · exact Or.inl rfl
theorem spread_rf {C : sg → Nat → sg × Int32} (hC : ∀ r i, RV (C r i).2) {i : Nat} : ∀ (n j : Nat) (r : sg), RF (spreadF C i n j r).2 := by
  intro n
  induction n with
  | zero => intro j r; exact Or.inl rfl
  | succ n ih =>
    intro j r
    unfold spreadF
    split
    · exact ih _ _
    · split
      · exact ih _ _
      · exact fail_rf (hC _ _)
theorem job_rf {C : sg → Nat → sg × Int32} (hC : ∀ r i, RV (C r i).2) {r : sg} {k i : Nat} : RF (jobF C r k i).2 := by
  unfold jobF
  split
  · unfold workF
    split
    · exact Or.inl rfl
    · split
      · rcases mark_v (r := r) (k := k) (i := i) with h | h <;> rw [h] <;> (unfold RF; decide)
      · split
        · rcases lay_v (r := r) (k := k) (i := i) with h | h | h | h <;> rw [h] <;> (unfold RF; decide)
        · split
          · unfold openF
            split
            · exact Or.inr (Or.inr (Or.inl rfl))
            · split
              · exact Or.inr (Or.inr (Or.inr (Or.inr (Or.inl rfl))))
              · exact fail_rf (hC _ _)
          · split
            · exact spread_rf hC _ _ _
            · exact Or.inl rfl
  · exact Or.inr (Or.inl rfl)
theorem meet_rf {C : sg → Nat → sg × Int32} (hC : ∀ r i, RV (C r i).2) {r : sg} {k i : Nat} : RF (meetF C r k i).2 := by
  unfold meetF
  split
  · unfold overF
    split
    · exact Or.inl rfl
    · exact job_rf hC
  · exact Or.inr (Or.inr (Or.inr (Or.inr (Or.inr rfl))))
theorem carry_rv : ∀ (n : Nat) (r : sg) (i : Nat), RV (carryF n r i).2 := by
  intro n
  induction n with
  | zero => intro r i; exact Or.inr (Or.inl rfl)
  | succ n ih =>
    intro r i
    unfold carryF
    split
    · split
      · exact Or.inl ⟨7 - n, by omega, rfl⟩
      · rename_i h0
        split
        · exact rf_rv (meet_rf ih) h0
        · exact ih _ _
    · exact ih _ _
/-! the counter that a message meets next -/
theorem nI_m1 {c : Nat} (h : c < 8) : ¬ nI c = -1 := by
  rcases (show c = 0 ∨ c = 1 ∨ c = 2 ∨ c = 3 ∨ c = 4 ∨ c = 5 ∨ c = 6 ∨ c = 7 by omega) with rfl | rfl | rfl | rfl | rfl | rfl | rfl | rfl <;> decide
theorem carry_none {r : sg} {i : Nat} : ∀ (n : Nat), n ≤ 8 → meetN r i n = -1 → carryF n r i = (tinc r 4, -4) := by
  intro n
  induction n with
  | zero => intro _ _; rfl
  | succ n ih =>
    intro hn h
    unfold meetN at h
    by_cases ha : asksB r (7 - n) i = true
    · rw [if_pos ha] at h
      exact absurd h (nI_m1 (by omega))
    · rw [if_neg ha] at h
      unfold carryF
      rw [if_neg ha]
      exact ih (by omega) h
theorem carry_some {r : sg} {i c : Nat} (hc : c < 8) : ∀ (n : Nat), n ≤ 8 → meetN r i n = nI c → carryF n r i = carryF (8 - c) r i := by
  intro n
  induction n with
  | zero => intro _ h; exact absurd h.symm (nI_m1 hc)
  | succ n ih =>
    intro hn h
    unfold meetN at h
    by_cases ha : asksB r (7 - n) i = true
    · rw [if_pos ha] at h
      have : 7 - n = c := (nI_eq (by omega) (by omega)).mp h
      rw [show 8 - c = n + 1 by omega]
    · rw [if_neg ha] at h
      have e1 : carryF (n + 1) r i = carryF n r i := by
        conv => lhs; unfold carryF
        rw [if_neg ha]
      rw [e1]
      exact ih (by omega) h
theorem spF_spread {C : sg → Nat → sg × Int32} {r t : sg} {lv i : Nat} : ∀ (n j : Nat), (spF r t lv i n j).1 = 0 → spreadF C i n j r = (r, 0) := by
  intro n
  induction n with
  | zero => intro j _; rfl
  | succ n ih =>
    intro j h
    unfold spF at h
    unfold spreadF
    split
    · rename_i hq
      rw [if_pos hq] at h
      exact ih _ h
    · rename_i hq
      rw [if_neg hq] at h
      exact absurd h (show ¬ (1 : Int32) = 0 by decide)
theorem works_imm {C : sg → Nat → sg × Int32} {r t : sg} {lv i c : Nat} (h : fitB r i (r 10 c) (r 11 c) = false ∨ (¬ r 12 c = 3 ∧ ¬ r 12 c = 4)) : ¬ (worksF r t lv i c).1 = -100 ∧ jobF C r c i = ((worksF r t lv i c).2.1, (worksF r t lv i c).1) ∧ (worksF r t lv i c).2.2 = t := by
  by_cases hf : fitB r i (r 10 c) (r 11 c) = false
  · have e1 : worksF r t lv i c = (1, r, t) := if_pos hf
    have e2 : jobF C r c i = (r, 1) := if_neg (by rw [hf]; decide)
    rw [e1, e2]
    exact ⟨by show ¬ (1 : Int32) = -100; decide, rfl, rfl⟩
  · obtain ⟨j3, j4⟩ := h.resolve_left hf
    have hf' : fitB r i (r 10 c) (r 11 c) = true := by simpa using hf
    have e2 : jobF C r c i = workF C r c i := if_pos hf'
    rw [e2]
    unfold worksF workF
    rw [if_neg hf]
    by_cases j0 : r 12 c = 0
    · rw [if_pos j0, if_pos j0]
      exact ⟨by show ¬ (0 : Int32) = -100; decide, rfl, rfl⟩
    · rw [if_neg j0, if_neg j0]
      by_cases j1 : r 12 c = 1
      · rw [if_pos j1, if_pos j1]
        refine ⟨?_, rfl, rfl⟩
        show ¬ (markF r c i).2 = -100
        rcases mark_v (r := r) (k := c) (i := i) with q | q <;> rw [q] <;> decide
      · rw [if_neg j1, if_neg j1]
        by_cases j2 : r 12 c = 2
        · rw [if_pos j2, if_pos j2]
          refine ⟨?_, rfl, rfl⟩
          show ¬ (layF r c i).2 = -100
          rcases lay_v (r := r) (k := c) (i := i) with q | q | q | q <;> rw [q] <;> decide
        · rw [if_neg j2, if_neg j2, if_neg j3, if_neg j3, if_neg j4, if_neg j4]
          exact ⟨by show ¬ (0 : Int32) = -100; decide, rfl, rfl⟩
theorem begT_lo {t : sg} {tp : Nat} {m k : Int32} {f j : Nat} (hf : f < 4) (hj : j ≠ tp) : begT t tp m k f j = t f j := by
  unfold begT
  rw [s2_a, if_neg (by omega), s2_a, if_neg (by omega), s2_a, if_neg (by omega), s2_a, if_neg (by omega)]
theorem begT_0 {t : sg} {tp : Nat} {m k : Int32} : begT t tp m k 0 tp = m := by simp [begT, s2_a]
theorem begT_1 {t : sg} {tp : Nat} {m k : Int32} : begT t tp m k 1 tp = k := by simp [begT, s2_a]
theorem begT_4 {t : sg} {tp : Nat} {m k : Int32} : begT t tp m k 4 0 = t 4 0 + 1 := by simp [begT, s2_a]
def FRM (r t : sg) (lv i k : Nat) : Prop := t 4 0 = nI (lv + 1) ∧ t 0 lv = nI i ∧ t 1 lv = nI k ∧ i < nm r ∧ k ≤ 8 ∧ lv ≤ k
def SB (t t' : sg) (lv : Nat) : Prop := ∀ f j, f < 4 → j < lv → t' f j = t f j
def QS (Q : Int32 → sg → sg → Prop) : Prop := ∀ (r t : sg) (lv i k c : Nat), IV r → FRM r t lv i k → (¬ meetN r i (8 - k) = -1 → meetN r i (8 - k) = nI c ∧ c < 8 ∧ r 5 c ≠ 0) → Q (stepF r t lv i (meetN r i (8 - k)) c).1 (stepF r t lv i (meetN r i (8 - k)) c).2.1 (stepF r t lv i (meetN r i (8 - k)) c).2.2 → Q (-100) r t
def QB (Q : Int32 → sg → sg → Prop) : Prop := ∀ (r t : sg) (lv i c n j : Nat) (o : Int32), IV r → t 4 0 = nI (lv + 2) → lv < 30 → t 0 lv = nI i → i < nm r → t 2 lv = nI c → c < 8 → (r 12 c = 4 → t 3 lv = nI j ∧ j + n = ix (r 3 i)) → ¬ o = -100 → Q (backF r (s2 t 4 0 (nI (lv + 1))) lv i c n j o).1 (backF r (s2 t 4 0 (nI (lv + 1))) lv i c n j o).2.1 (backF r (s2 t 4 0 (nI (lv + 1))) lv i c n j o).2.2 → Q o r t
theorem fail0 {o : Int32} (h : ¬ o < -10) : failI o = 0 := if_neg h
theorem fail1 {o : Int32} (h : o < -10) : failI o = -10 - o := if_pos h
theorem fail1n {o : Int32} (h : o < -10) : ¬ (-10 - o) = 0 := fun e => by
  have e2 : o = -10 := by
    have h1 : -10 - o + o = 0 + o := by rw [e]
    rw [Int32.sub_add_cancel, Int32.zero_add] at h1
    exact h1.symm
  rw [e2] at h
  exact absurd h (by decide)
