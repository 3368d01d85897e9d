/-! The state: registers by row and place; what the hall's and the model's cells hold of it. -/
abbrev sg : Type := Nat → Nat → Int32
abbrev ix (i : Int32) : Nat := i.toNatClampNeg
def s2 (r : sg) (f i : Nat) (v : Int32) : sg := fun f' => if f' = f then upd (r f) i v else r f'
theorem s2_a (r : sg) (f i : Nat) (v : Int32) (f' i' : Nat) : s2 r f i v f' i' = if f' = f ∧ i' = i then v else r f' i' := by
  by_cases h : f' = f
  · subst h
    by_cases h2 : i' = i <;> simp [s2, upd, h2]
  · simp [s2, h]
theorem s2_r (r : sg) (f i : Nat) (v : Int32) : s2 r f i v f = upd (r f) i v := by simp [s2]
theorem s2_s (r : sg) (f i : Nat) (v : Int32) : s2 r f i v f i = v := by simp [s2_a]
theorem s2_f (r : sg) {f f' : Nat} (i : Nat) (v : Int32) (h : f' ≠ f) : s2 r f i v f' = r f' := by simp [s2, h]
theorem s2_i (r : sg) {i i' : Nat} (f : Nat) (v : Int32) (h : i' ≠ i) : s2 r f i v f i' = r f i' := by simp [s2_a, h]
def nm (r : sg) : Nat := ix (r 17 0)
def passB (a b : Int32) : Bool := a == b || ((b == 0 && (a == 1 || a == 2)) || (b == 3 && a == 2))
def figB (b d : Int32) : Bool := !decide (b < 4) && d == 1
def fitB (r : sg) (i : Nat) (b d : Int32) : Bool := r 1 i == d && passB (r 0 i) b
def nsetN (r : sg) : Nat → Int32
  | 0 => 0
  | k + 1 => nsetN r k + bI (r 5 k != 0)
def tal (z : Bool) (r : sg) (j : Nat) : Int32 := if z then (if j = 6 then -1 else 0) else r 17 j
abbrev hfs (xa xk : Nat) (z : Bool) (r : sg) : List Value := [.ref xa, .ref xk, .int (r 17 0), .int (nsetN r 8), .int (r 17 1), .int (tal z r 2), .int (tal z r 3), .int (tal z r 4), .int (tal z r 5), .int (tal z r 6)]
abbrev mfl (r : sg) (pa : Nat → Nat) (i : Nat) : List Value := [.int (nI i), .int (r 0 i), .int (r 1 i), .int (bI (figB (r 0 i) (r 1 i))), .ref (pa i), .int (r 2 i)]
abbrev kfl (r : sg) (k : Nat) : List Value := [.int (nI k), .int (r 8 k), .int (r 9 k), .int (r 10 k), .int (r 11 k), .int (r 12 k), .int (r 13 k), .int (r 14 k), .int (r 7 k), .int (r 6 k), .int (r 15 k), .int (r 16 k)]
def mrw (r : sg) (ma : Nat → Nat) : Nat → Option Nat := fun i => if i < nm r then some (ma i) else none
def krw (r : sg) (ka : Nat → Nat) : Nat → Option Nat := fun k => if r 5 k = 0 then none else some (ka k)
/-- the hall's cells: the object x, its two rows, each message with its places, each counter -/
def HR (E : gE) (x xa xk : Nat) (ma pa ka : Nat → Nat) (z : Bool) (r : sg) (g : gm) : Prop :=
  g x = some (.inr (2, hfs xa xk z r)) ∧ g xa = some (.inl (E.2 2, 60, .inr (.inr (.inr (.inr (mrw r ma)))))) ∧ g xk = some (.inl (E.2 3, 8, .inr (.inr (.inr (.inr (krw r ka)))))) ∧
  (∀ i, i < nm r → g (ma i) = some (.inr (1, mfl r pa i)) ∧ (∃ f : Nat → Int32, g (pa i) = some (.inl (E.2 0, ix (r 3 i), .inl f)) ∧ ∀ j, j < ix (r 3 i) → f j = r 4 (8 * i + j)) ∧ ¬ r 3 i < 0 ∧ ix (r 3 i) ≤ 8) ∧
  (∀ k, k < 8 → r 5 k ≠ 0 → g (ka k) = some (.inr (0, kfl r k))) ∧ (∀ i j, i < nm r → j < nm r → pa i = pa j → i = j) ∧ nm r ≤ 60
def kd : va_E → Nat
  | .inl (_, _, .inl _) => 10
  | .inl (_, n, .inr _) => 20 + n
  | .inr (c, _) => c
theorem ne_kd {g : gm} {a b : Nat} {ea eb : va_E} (ha : g a = some ea) (hb : g b = some eb) (h : kd ea ≠ kd eb) : a ≠ b := fun e => by
  subst e
  rw [ha] at hb
  cases hb
  exact h rfl
theorem mrw_c {r r' : sg} {ma : Nat → Nat} (h : nm r' = nm r) : mrw r' ma = mrw r ma := by
  funext i
  simp [mrw, h]
theorem krw_c {r r' : sg} {ka : Nat → Nat} (h : r' 5 = r 5) : krw r' ka = krw r ka := by
  funext i
  simp [krw, h]
section HRL
variable {E : gE} {x xa xk : Nat} {ma pa ka : Nat → Nat} {z : Bool} {r : sg} {g : gm}
theorem HR.ma_inj (h : HR E x xa xk ma pa ka z r g) {i j : Nat} (hi : i < nm r) (hj : j < nm r) (e : ma i = ma j) : i = j := by
  have h1 := (h.2.2.2.1 i hi).1
  have h2 := (h.2.2.2.1 j hj).1
  rw [e, h2] at h1
  have h3 := h.2.2.2.2.2.2
  have h4 : (nI j) = (nI i) := by simpa using congrArg (fun o : Option va_E => match o with | some (.inr (_, .int v :: _)) => v | _ => 0) h1
  exact ((nI_eq (by omega) (by omega)).mp h4).symm
theorem HR.ka_inj (h : HR E x xa xk ma pa ka z r g) {i j : Nat} (hi : i < 8) (hj : j < 8) (si : r 5 i ≠ 0) (sj : r 5 j ≠ 0) (e : ka i = ka j) : i = j := by
  have h1 := h.2.2.2.2.1 i hi si
  have h2 := h.2.2.2.2.1 j hj sj
  rw [e, h2] at h1
  have h4 : (nI j) = (nI i) := by simpa using congrArg (fun o : Option va_E => match o with | some (.inr (_, .int v :: _)) => v | _ => 0) h1
  exact ((nI_eq (by omega) (by omega)).mp h4).symm
theorem nset_congr {r r' : sg} (h : r' 5 = r 5) (n : Nat) : nsetN r' n = nsetN r n := by
  induction n with
  | zero => rfl
  | succ n ih => simp only [nsetN, ih, h]
/-- the object's own fields change -/
theorem HR.obj (h : HR E x xa xk ma pa ka z r g) {z' : Bool} {r' : sg} (h0 : ∀ f, f < 17 → r' f = r f) (h1 : r' 17 0 = r 17 0) : HR E x xa xk ma pa ka z' r' (gu g x (.inr (2, hfs xa xk z' r'))) := by
  obtain ⟨a1, a2, a3, a4, a5, a6, a7⟩ := h
  have en : nm r' = nm r := by simp [nm, h1]
  refine ⟨gu_s _ _ _, ?_, ?_, fun i hi => ?_, fun k hk hs => ?_, fun i j hi hj => a6 i j (en ▸ hi) (en ▸ hj), en ▸ a7⟩
  · rw [gu_n _ _ (ne_kd a2 a1 (by simp [kd])), a2]
    rw [mrw_c en]
  · rw [gu_n _ _ (ne_kd a3 a1 (by simp [kd])), a3]
    rw [krw_c (h0 5 (by decide))]
  · rw [en] at hi
    obtain ⟨b1, ⟨f, b2, b3⟩, b4, b5⟩ := a4 i hi
    rw [gu_n _ _ (ne_kd b1 a1 (by simp [kd])), gu_n _ _ (ne_kd b2 a1 (by simp [kd]))]
    simp only [mfl, h0 0 (by decide), h0 1 (by decide), h0 2 (by decide), h0 3 (by decide), h0 4 (by decide)]
    exact ⟨b1, ⟨f, b2, b3⟩, b4, b5⟩
  · rw [h0 5 (by decide)] at hs
    have b := a5 k hk hs
    rw [gu_n _ _ (ne_kd b a1 (by simp [kd]))]
    simp only [kfl, h0 6 (by decide), h0 7 (by decide), h0 8 (by decide), h0 9 (by decide), h0 10 (by decide), h0 11 (by decide), h0 12 (by decide), h0 13 (by decide), h0 14 (by decide), h0 15 (by decide), h0 16 (by decide)]
    exact b
/-- a stamp changes -/
theorem HR.msg (h : HR E x xa xk ma pa ka z r g) {i : Nat} (hi : i < nm r) (v : Int32) : HR E x xa xk ma pa ka z (s2 r 2 i v) (gu g (ma i) (.inr (1, mfl (s2 r 2 i v) pa i))) := by
  have hinj := @HR.ma_inj E x xa xk ma pa ka z r g h
  obtain ⟨a1, a2, a3, a4, a5, a6, a7⟩ := h
  have en : nm (s2 r 2 i v) = nm r := rfl
  have ei := (a4 i hi).1
  refine ⟨?_, ?_, ?_, fun j hj => ?_, fun k hk hs => ?_, a6, a7⟩
  · rw [gu_n _ _ (ne_kd a1 ei (by simp [kd])), a1]
    rfl
  · rw [gu_n _ _ (ne_kd a2 ei (by simp [kd])), a2]
    rfl
  · rw [gu_n _ _ (ne_kd a3 ei (by simp [kd])), a3]
    rfl
  · obtain ⟨b1, ⟨f, b2, b3⟩, b4, b5⟩ := a4 j hj
    refine ⟨?_, ⟨f, ?_, b3⟩, b4, b5⟩
    · by_cases hji : j = i
      · subst hji
        exact gu_s _ _ _
      · rw [gu_n _ _ (fun e => hji (hinj hj hi e)), b1]
        simp [s2_a, hji]
    · rw [gu_n _ _ (ne_kd b2 ei (by simp [kd])), b2]
      rfl
  · have b := a5 k hk hs
    rw [gu_n _ _ (ne_kd b ei (by simp [kd])), b]
    rfl
/-- a counter changes -/
theorem HR.ctr (h : HR E x xa xk ma pa ka z r g) {k : Nat} (hk : k < 8) (hs : r 5 k ≠ 0) {r' : sg} (h0 : ∀ f, f < 6 → r' f = r f) (h1 : r' 17 = r 17) (h2 : ∀ k', k' ≠ k → kfl r' k' = kfl r k') : HR E x xa xk ma pa ka z r' (gu g (ka k) (.inr (0, kfl r' k))) := by
  have hinj := @HR.ka_inj E x xa xk ma pa ka z r g h
  obtain ⟨a1, a2, a3, a4, a5, a6, a7⟩ := h
  have en : nm r' = nm r := by simp [nm, h1]
  have ei := a5 k hk hs
  have e5 : r' 5 = r 5 := h0 5 (by decide)
  refine ⟨?_, ?_, ?_, fun j hj => ?_, fun k' hk' hs' => ?_, fun i j hi hj => a6 i j (en ▸ hi) (en ▸ hj), en ▸ a7⟩
  · rw [gu_n _ _ (ne_kd a1 ei (by simp [kd])), a1]
    simp [hfs, tal, h1, nset_congr e5]
  · rw [gu_n _ _ (ne_kd a2 ei (by simp [kd])), a2]
    rw [mrw_c en]
  · rw [gu_n _ _ (ne_kd a3 ei (by simp [kd])), a3]
    rw [krw_c e5]
  · rw [en] at hj
    obtain ⟨b1, ⟨f, b2, b3⟩, b4, b5⟩ := a4 j hj
    rw [gu_n _ _ (ne_kd b1 ei (by simp [kd])), gu_n _ _ (ne_kd b2 ei (by simp [kd]))]
    simp only [mfl, h0 0 (by decide), h0 1 (by decide), h0 2 (by decide), h0 3 (by decide), h0 4 (by decide)]
    exact ⟨b1, ⟨f, b2, b3⟩, b4, b5⟩
  · rw [e5] at hs'
    by_cases hkk : k' = k
    · subst hkk
      exact gu_s _ _ _
    · rw [gu_n _ _ (fun e => hkk (hinj hk' hk hs' hs e)), h2 k' hkk]
      exact a5 k' hk' hs'
/-- a message's places change -/
theorem HR.row (h : HR E x xa xk ma pa ka z r g) {i : Nat} (hi : i < nm r) {r' : sg} {f' : Nat → Int32} (h0 : ∀ f, f ≠ 4 → r' f = r f) (h1 : ∀ j, j < ix (r 3 i) → f' j = r' 4 (8 * i + j)) (h2 : ∀ i' j, i' ≠ i → j < 8 → r' 4 (8 * i' + j) = r 4 (8 * i' + j)) : HR E x xa xk ma pa ka z r' (gu g (pa i) (.inl (E.2 0, ix (r 3 i), .inl f'))) := by
  obtain ⟨a1, a2, a3, a4, a5, a6, a7⟩ := h
  have e17 := h0 17 (by decide)
  have en : nm r' = nm r := by simp [nm, e17]
  obtain ⟨-, ⟨f0, ei, -⟩, -, -⟩ := a4 i hi
  refine ⟨?_, ?_, ?_, fun j hj => ?_, fun k' hk' hs' => ?_, fun i j hi hj => a6 i j (en ▸ hi) (en ▸ hj), en ▸ a7⟩
  · rw [gu_n _ _ (ne_kd a1 ei (by simp [kd])), a1]
    simp [hfs, tal, e17, nset_congr (h0 5 (by decide))]
  · rw [gu_n _ _ (ne_kd a2 ei (by simp [kd])), a2]
    rw [mrw_c en]
  · rw [gu_n _ _ (ne_kd a3 ei (by simp [kd])), a3]
    rw [krw_c (h0 5 (by decide))]
  · rw [en] at hj
    obtain ⟨b1, ⟨f, b2, b3⟩, b4, b5⟩ := a4 j hj
    rw [gu_n _ _ (ne_kd b1 ei (by simp [kd]))]
    simp only [mfl, h0 0 (by decide), h0 1 (by decide), h0 2 (by decide), h0 3 (by decide)]
    refine ⟨b1, ?_, b4, b5⟩
    by_cases hji : j = i
    · subst hji
      exact ⟨f', gu_s _ _ _, h1⟩
    · refine ⟨f, ?_, fun q hq => ?_⟩
      · rw [gu_n _ _ (fun e => hji (a6 j i hj hi e)), b2]
      · rw [h2 j q hji (by omega)]
        exact b3 q hq
  · rw [h0 5 (by decide)] at hs'
    have b := a5 k' hk' hs'
    rw [gu_n _ _ (ne_kd b ei (by simp [kd]))]
    simp only [kfl, h0 6 (by decide), h0 7 (by decide), h0 8 (by decide), h0 9 (by decide), h0 10 (by decide), h0 11 (by decide), h0 12 (by decide), h0 13 (by decide), h0 14 (by decide), h0 15 (by decide), h0 16 (by decide)]
    exact b
end HRL
