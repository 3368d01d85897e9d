/-! the sending, as a function of the state -/
def tinc (r : sg) (j : Nat) : sg := s2 r 17 j (r 17 j + 1)
def inB (v n : Int32) : Bool := !decide (v < 0) && decide (v < n)
def wt (r : sg) (i : Nat) : Int32 := if r 1 i = 0 then 1 else r 3 i
def markS (r : sg) (k i : Nat) : Int32 := if r 10 k = 3 then r 2 i - r 13 k else if r 0 i = 1 then 2 * r 13 k else r 13 k
def markF (r : sg) (k i : Nat) : sg × Int32 := if r 1 i = 0 then (s2 r 2 i (markS r k i), 0) else if figB (r 0 i) (r 1 i) then (fillN r i (lowI (r 0 i) (r 13 k)) (ix (r 3 i)), 0) else if r 3 i = 0 then (r, 2) else (s2 r 4 (8 * i) (-1), 0)
def layF (r : sg) (k i : Nat) : sg × Int32 := if ¬ r 14 k = -1 ∧ fitB r (ix (r 14 k)) (r 10 k) (r 11 k - 1) = false then (r, 1) else if inB (r 13 k) (r 3 i) = false then (r, 2) else if holdB r i (r 14 k) = false then (r, 3) else (s2 r 4 (8 * i + ix (r 13 k)) (r 14 k), 0)
def openF (C : sg → Nat → sg × Int32) (r : sg) (k i : Nat) : sg × Int32 := if inB (r 13 k) (r 3 i) = false then (r, 2) else if r 4 (8 * i + ix (r 13 k)) = -1 then (r, 4) else ((C r (ix (r 4 (8 * i + ix (r 13 k))))).1, failI (C r (ix (r 4 (8 * i + ix (r 13 k))))).2)
def spreadF (C : sg → Nat → sg × Int32) (i : Nat) : Nat → Nat → sg → sg × Int32
  | 0, _, r => (r, 0)
  | n + 1, j, r => if r 4 (8 * i + j) = -1 then spreadF C i n (j + 1) r else if failI (C r (ix (r 4 (8 * i + j)))).2 = 0 then spreadF C i n (j + 1) (C r (ix (r 4 (8 * i + j)))).1 else ((C r (ix (r 4 (8 * i + j)))).1, failI (C r (ix (r 4 (8 * i + j)))).2)
def workF (C : sg → Nat → sg × Int32) (r : sg) (k i : Nat) : sg × Int32 := if r 12 k = 0 then (s2 r 13 k (r 13 k + wt r i), 0) else if r 12 k = 1 then markF r k i else if r 12 k = 2 then layF r k i else if r 12 k = 3 then openF C r k i else if r 12 k = 4 then spreadF C i (ix (r 3 i)) 0 r else (s2 r 14 k (nI i), 0)
def rem3 (a : Int32) : Int32 := a - a / 3 * 3
def fall1 (r : sg) (k : Nat) : sg := s2 r 16 k (r 16 k + 1)
def fall2 (r : sg) (k : Nat) : sg := if rem3 (r 16 k) = 0 then s2 r 6 k 1 else r
def fall4 (r : sg) (k : Nat) : sg := if r 17 6 = -1 then s2 r 17 6 (nI k) else r
def fallF (r : sg) (k : Nat) : sg := fall4 (tinc (fall2 (fall1 r k) k) 5) k
def jobF (C : sg → Nat → sg × Int32) (r : sg) (k i : Nat) : sg × Int32 := if fitB r i (r 10 k) (r 11 k) then workF C r k i else (r, 1)
def metF (r : sg) (k : Nat) : sg := s2 r 15 k (r 15 k + 1)
def overF (q : sg × Int32) (k : Nat) : sg × Int32 := if q.2 = 0 then (metF q.1 k, 0) else (fallF (metF q.1 k) k, q.2)
def meetF (C : sg → Nat → sg × Int32) (r : sg) (k i : Nat) : sg × Int32 := if r 17 2 < 16 then overF (jobF C (tinc r 2) k i) k else (r, 5)
def asksB (r : sg) (k i : Nat) : Bool := r 5 k != 0 && (r 6 k == 0 && fitB r i (r 8 k) (r 9 k))
def carryF : Nat → sg → Nat → sg × Int32
  | 0 => fun r _ => (tinc r 4, -4)
  | n + 1 => fun r i => if asksB r (7 - n) i then (if (meetF (carryF n) r (7 - n) i).2 = 0 then (tinc (meetF (carryF n) r (7 - n) i).1 3, nI (7 - n)) else if (meetF (carryF n) r (7 - n) i).2 = 5 ∨ (meetF (carryF n) r (7 - n) i).1 7 (7 - n) = 0 then ((meetF (carryF n) r (7 - n) i).1, -10 - (meetF (carryF n) r (7 - n) i).2) else carryF n (meetF (carryF n) r (7 - n) i).1 i) else carryF n r i
/-! what holds of every state -/
def IVk (r : sg) (k : Nat) : Prop := (r 5 k = 0 ∨ r 5 k = 1) ∧ ((r 6 k = 0 ∨ r 6 k = 1) ∧ ¬ r 11 k < 0) ∧ (r 7 k = 0 ∨ r 7 k = 1) ∧ (r 5 k ≠ 0 → (r 14 k = -1 ∨ isMb r (r 14 k) = true) ∧ ((r 12 k = 2 ∨ r 12 k = 3 ∨ r 12 k = 4) → figB (r 10 k) (r 11 k) = false))
def IVm (r : sg) (i : Nat) : Prop := ¬ r 1 i < 0 ∧ (r 1 i = 0 → r 3 i = 0) ∧ ¬ r 3 i < 0 ∧ ix (r 3 i) ≤ 8 ∧ (figB (r 0 i) (r 1 i) = false → ∀ j, j < ix (r 3 i) → r 4 (8 * i + j) = -1 ∨ isMb r (r 4 (8 * i + j)) = true)
def IV (r : sg) : Prop := ¬ r 17 0 < 0 ∧ nm r ≤ 60 ∧ (∀ i, i < nm r → IVm r i) ∧ ∀ k, k < 8 → IVk r k
/-- r' is a later state of a sending -/
def OK (r r' : sg) : Prop := IV r' ∧ (∀ f, f = 0 ∨ f = 1 ∨ f = 3 ∨ f = 5 ∨ (7 ≤ f ∧ f ≤ 12) → r' f = r f) ∧ r' 17 0 = r 17 0 ∧ r' 17 1 = r 17 1
theorem OK.rf {r : sg} (h : IV r) : OK r r := ⟨h, fun _ _ => rfl, rfl, rfl⟩
theorem OK.tr {r r1 r2 : sg} (h : OK r r1) (h2 : OK r1 r2) : OK r r2 := ⟨h2.1, fun f hf => (h2.2.1 f hf).trans (h.2.1 f hf), h2.2.2.1.trans h.2.2.1, h2.2.2.2.trans h.2.2.2⟩
theorem OK.cnt {r r1 : sg} (h : OK r r1) : nm r1 = nm r := by simp only [nm, h.2.2.1]
theorem isMb_c {r r' : sg} (h : r' 17 0 = r 17 0) (m : Int32) : isMb r' m = isMb r m := by rw [isMb, isMb, nm, nm, h]
/-- a state that differs in registers that no rule speaks of -/
theorem IV.inert {r r' : sg} (h : IV r) (h0 : ∀ f, f = 0 ∨ f = 1 ∨ f = 3 ∨ f = 4 ∨ f = 5 ∨ f = 6 ∨ (7 ≤ f ∧ f ≤ 12) ∨ f = 14 → r' f = r f) (h1 : r' 17 0 = r 17 0) (h2 : r' 17 1 = r 17 1) : OK r r' := by
  obtain ⟨a1, a2, a3, a4⟩ := h
  have en : nm r' = nm r := by simp only [nm, h1]
  refine ⟨⟨by rw [h1]; exact a1, by rw [en]; exact a2, fun i hi => ?_, fun k hk => ?_⟩, fun f hf => h0 f (by omega), h1, h2⟩
  · have := a3 i (en ▸ hi)
    simp only [IVm, h0 0 (by omega), h0 1 (by omega), h0 3 (by omega), h0 4 (by omega), isMb_c h1]
    exact this
  · have := a4 k hk
    simp only [IVk, h0 5 (by omega), h0 6 (by omega), h0 7 (by omega), h0 10 (by omega), h0 11 (by omega), h0 12 (by omega), h0 14 (by omega), isMb_c h1]
    exact this
theorem OK.in {r : sg} (h : IV r) {f j : Nat} (hf : f = 2 ∨ f = 13 ∨ f = 15 ∨ f = 16 ∨ (f = 17 ∧ 2 ≤ j)) (v : Int32) : OK r (s2 r f j v) :=
  h.inert (fun q hq => s2_f _ _ _ (by omega)) (by rw [s2_a, if_neg (by omega)]) (by rw [s2_a, if_neg (by omega)])
theorem OK.shut {r : sg} (h : IV r) {k : Nat} : OK r (s2 r 6 k 1) := by
  obtain ⟨a1, a2, a3, a4⟩ := h
  refine ⟨⟨a1, a2, a3, fun q hq => ?_⟩, fun f hf => s2_f _ _ _ (by omega), rfl, rfl⟩
  obtain ⟨b1, b2, b3, b4⟩ := a4 q hq
  refine ⟨b1, ⟨?_, b2.2⟩, b3, b4⟩
  rw [s2_a]
  by_cases hk : q = k
  · rw [if_pos ⟨rfl, hk⟩]; exact Or.inr rfl
  · rw [if_neg (fun z => hk z.2)]; exact b2.1
theorem OK.own {r : sg} (h : IV r) {k : Nat} {v : Int32} (hv : v = -1 ∨ isMb r v = true) : OK r (s2 r 14 k v) := by
  obtain ⟨a1, a2, a3, a4⟩ := h
  refine ⟨⟨a1, a2, a3, fun q hq => ?_⟩, fun f hf => s2_f _ _ _ (by omega), rfl, rfl⟩
  obtain ⟨b1, b2, b3, b4⟩ := a4 q hq
  refine ⟨b1, b2, b3, fun hs => ⟨?_, (b4 hs).2⟩⟩
  rw [s2_a]
  by_cases hk : q = k
  · rw [if_pos ⟨rfl, hk⟩]; exact hv
  · rw [if_neg (fun z => hk z.2)]; exact (b4 hs).1
theorem OK.item {r : sg} (h : IV r) {i : Nat} {r' : sg} (h0 : ∀ f, f ≠ 4 → r' f = r f) (h1 : ∀ i' j, i' ≠ i → j < 8 → r' 4 (8 * i' + j) = r 4 (8 * i' + j)) (h2 : i < nm r → figB (r 0 i) (r 1 i) = false → ∀ j, j < ix (r 3 i) → r' 4 (8 * i + j) = -1 ∨ isMb r (r' 4 (8 * i + j)) = true) : OK r r' := by
  obtain ⟨a1, a2, a3, a4⟩ := h
  have e17 := h0 17 (by decide)
  have en : nm r' = nm r := by simp only [nm, e17]
  have e0 : r' 17 0 = r 17 0 := by rw [e17]
  refine ⟨⟨by rw [e17]; exact a1, by rw [en]; exact a2, fun q hq => ?_, fun k hk => ?_⟩, fun f hf => h0 f (by omega), e0, by rw [e17]⟩
  · rw [en] at hq
    obtain ⟨b1, b2, b3, b4, b5⟩ := a3 q hq
    simp only [IVm, h0 0 (by decide), h0 1 (by decide), h0 3 (by decide), isMb_c e0]
    refine ⟨b1, b2, b3, b4, fun hf j hj => ?_⟩
    by_cases hqi : q = i
    · subst hqi
      exact h2 hq hf j hj
    · rw [h1 q j hqi (by omega)]
      exact b5 hf j hj
  · have := a4 k hk
    simp only [IVk, h0 5 (by omega), h0 6 (by omega), h0 7 (by omega), h0 10 (by omega), h0 11 (by omega), h0 12 (by omega), h0 14 (by omega), isMb_c e0]
    exact this
theorem OK.item1 {r : sg} (h : IV r) {i j : Nat} (hj : j < 8) {v : Int32} (hv : v = -1 ∨ isMb r v = true) : OK r (s2 r 4 (8 * i + j) v) := by
  refine OK.item h (i := i) (fun f hf => s2_f _ _ _ hf) (fun i' j' hi hj' => by rw [s2_a, if_neg (by omega)]) (fun hi hf q hq => ?_)
  rw [s2_a]
  by_cases hqj : 8 * i + q = 8 * i + j
  · rw [if_pos ⟨rfl, hqj⟩]; exact hv
  · rw [if_neg (fun z => hqj z.2)]
    exact (h.2.2.1 i hi).2.2.2.2 hf q hq
theorem OK.fill {r : sg} (h : IV r) {i n : Nat} (hn : n ≤ 8) {v : Int32} (hf : figB (r 0 i) (r 1 i) = true) : OK r (fillN r i v n) :=
  OK.item h (i := i) (fun f hf => by funext q; rw [fillN_a, if_neg (fun z => hf z.1)]) (fun i' j' hi hj' => by rw [fillN_a, if_neg (by omega)]) (fun _ hf2 => by rw [hf] at hf2; cases hf2)
theorem ix_lt8 {v n : Int32} (h : inB v n = true) (hn : ix n ≤ 8) : ix v < 8 := by
  simp only [inB, Bool.and_eq_true, Bool.not_eq_true', decide_eq_false_iff_not, decide_eq_true_eq] at h
  obtain ⟨h1, h2⟩ := h
  have h3 : ¬ n < 0 := fun q => by
    rw [Int32.lt_iff_toInt_lt] at q h2 h1
    simp at q h1
    omega
  rw [Int32.lt_iff_toInt_lt, ix_i h1, ix_i h3] at h2
  omega
theorem mark_ok {r : sg} (h : IV r) {k i : Nat} (hi : i < nm r) : OK r (markF r k i).1 := by
  unfold markF
  split
  · exact OK.in h (by omega) _
  · split
    · rename_i hf
      exact OK.fill h (h.2.2.1 i hi).2.2.2.1 hf
    · split
      · exact OK.rf h
      · exact OK.item1 h (j := 0) (by decide) (Or.inl rfl)
theorem lay_ok {r : sg} (h : IV r) {k i : Nat} (hk : k < 8) (hs : r 5 k ≠ 0) (hi : i < nm r) : OK r (layF r k i).1 := by
  unfold layF
  split
  · exact OK.rf h
  · split
    · exact OK.rf h
    · rename_i hb
      split
      · exact OK.rf h
      · exact OK.item1 h (ix_lt8 (by simpa using hb) (h.2.2.1 i hi).2.2.2.1) ((h.2.2.2 k hk).2.2.2 hs).1
theorem spread_ok {C : sg → Nat → sg × Int32} (hC : ∀ r i, IV r → i < nm r → OK r (C r i).1) {r0 : sg} {i : Nat} (hf : figB (r0 0 i) (r0 1 i) = false) : ∀ (n j : Nat) (r : sg), OK r0 r → i < nm r0 → j + n ≤ ix (r0 3 i) → OK r0 (spreadF C i n j r).1 := by
  intro n
  induction n with
  | zero => intro j r h _ _; exact h
  | succ n ih =>
    intro j r h hi hj
    unfold spreadF
    have hn := h.cnt
    have hv : ¬ r 4 (8 * i + j) = -1 → isMb r (r 4 (8 * i + j)) = true := fun q => ((h.1.2.2.1 i (by omega)).2.2.2.2 (by rw [h.2.1 0 (by omega), h.2.1 1 (by omega)]; exact hf) j (by rw [h.2.1 3 (by omega)]; omega)).resolve_left q
    split
    · exact ih (j + 1) r h hi (by omega)
    · rename_i hq
      have h1 := hC r (ix (r 4 (8 * i + j))) h.1 (isMb_lt (hv hq))
      split
      · exact ih (j + 1) _ (h.tr h1) hi (by omega)
      · exact h.tr h1
theorem pass_fig {a b d : Int32} (h : passB a b = true) (hf : figB b d = false) : figB a d = false := by
  simp only [passB, Bool.or_eq_true, Bool.and_eq_true, beq_iff_eq] at h
  rcases h with h | ⟨-, h | h⟩ | ⟨-, h⟩
  · rw [h]; exact hf
  · rw [h]; first | (simp [figB]; done) | (simp [figB]; decide)
  · rw [h]; first | (simp [figB]; done) | (simp [figB]; decide)
  · rw [h]; first | (simp [figB]; done) | (simp [figB]; decide)
theorem work_ok {C : sg → Nat → sg × Int32} (hC : ∀ r i, IV r → i < nm r → OK r (C r i).1) {r : sg} (h : IV r) {k i : Nat} (hk : k < 8) (hs : r 5 k ≠ 0) (hi : i < nm r) (hw : fitB r i (r 10 k) (r 11 k) = true) : OK r (workF C r k i).1 := by
  have hfig : (r 12 k = 2 ∨ r 12 k = 3 ∨ r 12 k = 4) → figB (r 0 i) (r 1 i) = false := fun q => by
    simp only [fitB, Bool.and_eq_true, beq_iff_eq] at hw
    rw [hw.1]
    exact pass_fig hw.2 (((h.2.2.2 k hk).2.2.2 hs).2 q)
  unfold workF
  split
  · exact OK.in h (by omega) _
  · split
    · exact mark_ok h hi
    · split
      · exact lay_ok h hk hs hi
      · split
        · rename_i hj
          unfold openF
          split
          · exact OK.rf h
          · rename_i hb
            split
            · exact OK.rf h
            · rename_i hq
              refine hC r _ h (isMb_lt (((h.2.2.1 i hi).2.2.2.2 (hfig (Or.inr (Or.inl hj))) _ ?_).resolve_left hq))
              have hb' : inB (r 13 k) (r 3 i) = true := by simpa using hb
              simp only [inB, Bool.and_eq_true, Bool.not_eq_true', decide_eq_false_iff_not, decide_eq_true_eq] at hb'
              have h3 := (h.2.2.1 i hi).2.2.1
              have h2 := hb'.2
              rw [Int32.lt_iff_toInt_lt, ix_i hb'.1, ix_i h3] at h2
              omega
        · split
          · rename_i hj
            exact spread_ok hC (hfig (Or.inr (Or.inr hj))) _ 0 r (OK.rf h) hi (by omega)
          · refine OK.own h (Or.inr ?_)
            have h60 := h.2.1
            simp only [isMb, nI_pos (show i < 2 ^ 31 by omega), ix, nI_clamp (show i < 2 ^ 31 by omega), hi]
            rfl
theorem fall_ok {r : sg} (h : IV r) {k : Nat} : OK r (fallF r k) := by
  have h1 : OK r (fall1 r k) := OK.in h (by omega) _
  have h2 : OK r (fall2 (fall1 r k) k) := by
    unfold fall2
    split
    · exact h1.tr (OK.shut h1.1)
    · exact h1
  have h3 : OK r (tinc (fall2 (fall1 r k) k) 5) := h2.tr (OK.in h2.1 (by omega) _)
  show OK r (fall4 (tinc (fall2 (fall1 r k) k) 5) k)
  unfold fall4
  split
  · exact h3.tr (OK.in h3.1 (by omega) _)
  · exact h3
theorem job_ok {C : sg → Nat → sg × Int32} (hC : ∀ r i, IV r → i < nm r → OK r (C r i).1) {r : sg} (h : IV r) {k i : Nat} (hk : k < 8) (hs : r 5 k ≠ 0) (hi : i < nm r) : OK r (jobF C r k i).1 := by
  unfold jobF
  split
  · rename_i hw
    exact work_ok hC h hk hs hi hw
  · exact OK.rf h
theorem meet_ok {C : sg → Nat → sg × Int32} (hC : ∀ r i, IV r → i < nm r → OK r (C r i).1) {r : sg} (h : IV r) {k i : Nat} (hk : k < 8) (hs : r 5 k ≠ 0) (hi : i < nm r) : OK r (meetF C r k i).1 := by
  unfold meetF
  split
  · have h1 : OK r (tinc r 2) := OK.in h (by omega) _
    have h2 := h1.tr (job_ok hC h1.1 hk (by rw [h1.2.1 5 (by omega)]; exact hs) (by rw [h1.cnt]; exact hi))
    have h3 : OK r (metF (jobF C (tinc r 2) k i).1 k) := h2.tr (OK.in h2.1 (by omega) _)
    unfold overF
    split
    · exact h3
    · exact h3.tr (fall_ok h3.1)
  · exact OK.rf h
theorem carry_ok : ∀ (n : Nat) (r : sg) (i : Nat), IV r → i < nm r → OK r (carryF n r i).1 := by
  intro n
  induction n with
  | zero => intro r i h hi; exact OK.in h (by omega) _
  | succ n ih =>
    intro r i h hi
    unfold carryF
    split
    · rename_i ha
      have hs : r 5 (7 - n) ≠ 0 := by
        simp only [asksB, Bool.and_eq_true, bne_iff_ne] at ha
        exact ha.1
      have h1 := meet_ok (fun r i => ih r i) h (k := 7 - n) (by omega) hs hi
      split
      · exact h1.tr (OK.in h1.1 (by omega) _)
      · split
        · exact h1
        · exact h1.tr (ih _ i h1.1 (by rw [h1.cnt]; exact hi))
    · exact ih r i h hi
