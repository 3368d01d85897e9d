/-! what holds of every state stays -/
theorem isMb_mono {r r' : sg} (h : nm r ≤ nm r') {m : Int32} (hm : isMb r m = true) : isMb r' m = true := by
  have h1 := isMb_nn hm
  have h2 := isMb_lt hm
  simp only [isMb, h1, Nat.lt_of_lt_of_le h2 h]
  rfl
theorem IV_ent {r : sg} (h : IV r) (h60 : nm r < 60) {b d n st : Int32} (hd : ¬ d < 0) (hd0 : d = 0 → n = 0) (hn : ¬ n < 0) (hn8 : ix n ≤ 8) : IV (entF r b d n st) ∧ entF r b d n st 17 1 = r 17 1 := by
  have en := nm_ent (b := b) (d := d) (n := n) (st := st) h.1 h60
  obtain ⟨a1, a2, a3, a4⟩ := h
  have eN : r 17 0 = nI (nm r) := (nI_ix a1).symm
  have r5 : ∀ f, 5 ≤ f → f ≤ 16 → entF r b d n st f = r f := fun f h1 h2 => by
    funext j
    simp [entF, keptF, s2_a, fillN_a, show f ≠ 2 by omega, show f ≠ 17 by omega, show f ≠ 4 by omega, show f ≠ 3 by omega, show f ≠ 1 by omega, show f ≠ 0 by omega]
  have r0 : ∀ i, entF r b d n st 0 i = if i = nm r then b else r 0 i := fun i => by simp [entF, keptF, s2_a, fillN_a]
  have r1 : ∀ i, entF r b d n st 1 i = if i = nm r then d else r 1 i := fun i => by simp [entF, keptF, s2_a, fillN_a]
  have r3 : ∀ i, entF r b d n st 3 i = if i = nm r then n else r 3 i := fun i => by simp [entF, keptF, s2_a, fillN_a]
  have r4 : ∀ j, entF r b d n st 4 j = if 8 * nm r ≤ j ∧ j < 8 * nm r + 8 then (if figB b d then 0 else -1) else r 4 j := fun j => by simp [entF, keptF, s2_a, fillN_a]
  have r17 : entF r b d n st 17 0 = r 17 0 + 1 := by simp [entF, keptF, s2_a]
  have mono : ∀ {m : Int32}, isMb r m = true → isMb (entF r b d n st) m = true := fun hm => isMb_mono (by rw [en]; omega) hm
  refine ⟨⟨by rw [r17, eN, nI_1]; exact nI_pos (by omega), by rw [en]; omega, fun i hi => ?_, fun k hk => ?_⟩, by simp [entF, keptF, s2_a, fillN_a]⟩
  · rw [en] at hi
    by_cases hin : i = nm r
    · subst hin
      simp only [IVm, r0, r1, r3, if_true]
      refine ⟨hd, hd0, hn, hn8, fun hf j hj => Or.inl ?_⟩
      rw [r4, if_pos (c := 8 * nm r ≤ 8 * nm r + j ∧ 8 * nm r + j < 8 * nm r + 8) (by omega), hf]
      rfl
    · obtain ⟨b1, b2, b3, b4, b5⟩ := a3 i (by omega)
      simp only [IVm, r0, r1, r3, if_neg hin]
      refine ⟨b1, b2, b3, b4, fun hf j hj => ?_⟩
      rw [r4, if_neg (c := 8 * nm r ≤ 8 * i + j ∧ 8 * i + j < 8 * nm r + 8) (by omega)]
      exact (b5 hf j hj).imp id mono
  · obtain ⟨b1, b2, b3, b4⟩ := a4 k hk
    simp only [IVk, r5 5 (by decide) (by decide), r5 6 (by decide) (by decide), r5 7 (by decide) (by decide), r5 10 (by decide) (by decide), r5 11 (by decide) (by decide), r5 12 (by decide) (by decide), r5 14 (by decide) (by decide)]
    exact ⟨b1, b2, b3, fun hs => ⟨(b4 hs).1.imp id mono, (b4 hs).2⟩⟩
theorem lt60 {r : sg} (h : IV r) (h2 : r 17 0 < 60) : nm r < 60 := (ix_lt (n := 60) (by decide) h.1).mpr h2
theorem IV_slip {r : sg} (h : IV r) (b st : Int32) : IV (Fslip r b st).2 ∧ (Fslip r b st).2 17 1 = r 17 1 := by
  unfold Fslip
  split
  · exact ⟨h, rfl⟩
  · split
    · rename_i h2
      exact IV_ent h (lt60 h h2) (by decide) (fun _ => rfl) (by decide) (by decide)
    · exact ⟨h, rfl⟩
theorem d1 {d : Int32} (h : ¬ d < 1) : ¬ d < 0 ∧ ¬ d = 0 := by
  rw [Int32.lt_iff_toInt_lt] at h
  have h' : ¬ d.toInt < 1 := h
  refine ⟨fun q => ?_, fun q => ?_⟩
  · have q' : d.toInt < 0 := Int32.lt_iff_toInt_lt.mp q
    omega
  · rw [q] at h'
    exact h' (by decide)
theorem IV_bundle {r : sg} (h : IV r) (b d n : Int32) : IV (Fbundle r b d n).2 ∧ (Fbundle r b d n).2 17 1 = r 17 1 := by
  unfold Fbundle
  split
  · exact ⟨h, rfl⟩
  · rename_i h0
    split
    · rename_i h2
      split
      · exact ⟨h, rfl⟩
      · rename_i h3
        have h4 : ¬ d < 1 := fun q => h0 (Or.inl q)
        exact IV_ent h (lt60 h h2) (d1 h4).1 (fun q => absurd q (d1 h4).2) h3 (ix_le8 (fun q => h0 (Or.inr (Or.inr q))))
    · exact ⟨h, rfl⟩
theorem IV_place {r : sg} (h : IV r) (m i x : Int32) : IV (Fplace r m i x).2 ∧ (Fplace r m i x).2 17 1 = r 17 1 := by
  unfold Fplace
  split
  · rename_i h0
    simp only [Bool.and_eq_true, Bool.or_eq_true, beq_iff_eq] at h0
    split
    · rename_i h1
      simp only [Bool.and_eq_true] at h1
      have h8 := (h.2.2.1 _ (isMb_lt h0.1)).2.2.2.1
      have := (hasP_lt h1.1).2
      exact ⟨(OK.item1 h (i := ix m) (j := ix i) (by omega) (h0.2.symm)).1, rfl⟩
    · exact ⟨h, rfl⟩
  · exact ⟨h, rfl⟩
theorem IV_figure {r : sg} (h : IV r) (m i v : Int32) : IV (Ffigure r m i v).2 ∧ (Ffigure r m i v).2 17 1 = r 17 1 := by
  unfold Ffigure
  split
  · rename_i h0
    split
    · rename_i h1
      have h8 := (h.2.2.1 _ (isMb_lt h0)).2.2.2.1
      have hl := (hasN_lt h1).2
      have hf : figB (r 0 (ix m)) (r 1 (ix m)) = true := by
        simp only [hasN, Bool.and_eq_true] at h1
        exact h1.1
      exact ⟨(OK.item h (i := ix m) (fun f hf => s2_f _ _ _ hf) (fun i' j' hi hj' => by rw [s2_a, if_neg (by omega)]) (fun _ hf2 => by rw [hf] at hf2; cases hf2)).1, rfl⟩
    · exact ⟨h, rfl⟩
  · exact ⟨h, rfl⟩
theorem IV_shut {r : sg} (h : IV r) (k : Int32) (on : Bool) : IV (Fshut r k on).2 ∧ (Fshut r k on).2 17 1 = r 17 1 := by
  unfold Fshut
  split
  · refine ⟨⟨h.1, h.2.1, h.2.2.1, fun q hq => ?_⟩, rfl⟩
    obtain ⟨b1, b2, b3, b4⟩ := h.2.2.2 q hq
    refine ⟨b1, ⟨?_, b2.2⟩, b3, b4⟩
    show s2 r 6 (ix k) (bI on) 6 q = 0 ∨ s2 r 6 (ix k) (bI on) 6 q = 1
    rw [s2_a]
    by_cases hk : q = ix k
    · rw [if_pos ⟨rfl, hk⟩]
      cases on
      · exact Or.inl rfl
      · exact Or.inr rfl
    · rw [if_neg (fun z => hk z.2)]; exact b2.1
  · exact ⟨h, rfl⟩
theorem IV_job {r : sg} (h : IV r) (k j n o q : Int32) : IV (Fjob r k j n o q).2 ∧ (Fjob r k j n o q).2 17 1 = r 17 1 := by
  unfold Fjob
  split
  · rename_i h0
    simp only [Bool.and_eq_true, Bool.or_eq_true, beq_iff_eq] at h0
    obtain ⟨-, hcan, ho, -⟩ := h0
    refine ⟨⟨h.1, h.2.1, h.2.2.1, fun p hp => ?_⟩, rfl⟩
    obtain ⟨b1, b2, b3, b4⟩ := h.2.2.2 p hp
    by_cases hk : p = ix k
    · subst hk
      refine ⟨b1, b2, ?_, fun hs => ⟨?_, fun hj => ?_⟩⟩
      · show s2 _ 7 (ix k) _ 7 (ix k) = 0 ∨ s2 _ 7 (ix k) _ 7 (ix k) = 1
        rw [s2_s]
        by_cases hq : q = 1
        · rw [if_pos hq]; exact Or.inr rfl
        · rw [if_neg hq]; exact Or.inl rfl
      · show s2 _ 14 (ix k) o 14 (ix k) = -1 ∨ isMb r (s2 _ 14 (ix k) o 14 (ix k)) = true
        rw [s2_s]
        exact ho
      · show figB (r 10 (ix k)) (r 11 (ix k)) = false
        have hj' : j = 2 ∨ j = 3 ∨ j = 4 := by
          have e : ∀ v : Int32, s2 (s2 (s2 (s2 r 12 (ix k) j) 13 (ix k) n) 14 (ix k) o) 7 (ix k) v 12 (ix k) = j := fun v => by simp [s2_a]
          dsimp only at hj
          rw [e] at hj
          exact hj
        simp only [canB, if_pos hj', Bool.and_eq_true, Bool.not_eq_true'] at hcan
        exact hcan.2
    · have e : ∀ (f : Nat) (v : Int32), s2 (s2 (s2 (s2 r 12 (ix k) j) 13 (ix k) n) 14 (ix k) o) 7 (ix k) v f p = r f p := fun f v => by simp [s2_a, hk]
      simp only [IVk, e]
      exact ⟨b1, b2, b3, b4⟩
  · exact ⟨h, rfl⟩
theorem kind_d {b d : Int32} (h : kindB b d = true) : ¬ d < 0 := by
  simp only [kindB, Bool.and_eq_true, Bool.not_eq_true', decide_eq_false_iff_not] at h
  obtain ⟨-, -, h1, -⟩ := h
  by_cases hb : b < 4
  · rw [if_pos hb] at h1; exact h1
  · rw [if_neg hb] at h1; exact (d1 h1).1
theorem IV_counter {r : sg} (h : IV r) (k a b d f : Int32) : IV (Fcounter r k a b d f).2 ∧ (Fcounter r k a b d f).2 17 1 = r 17 1 := by
  unfold Fcounter
  split
  · rename_i h0
    simp only [Bool.and_eq_true] at h0
    refine ⟨⟨h.1, h.2.1, h.2.2.1, fun p hp => ?_⟩, rfl⟩
    by_cases hk : p = ix k
    · subst hk
      have e5 : ctrF r (ix k) a b d f 5 (ix k) = 1 := by simp [ctrF, s2_a]
      have e6 : ctrF r (ix k) a b d f 6 (ix k) = 0 := by simp [ctrF, s2_a]
      have e7 : ctrF r (ix k) a b d f 7 (ix k) = 0 := by simp [ctrF, s2_a]
      have e11 : ctrF r (ix k) a b d f 11 (ix k) = f := by simp [ctrF, s2_a]
      have e12 : ctrF r (ix k) a b d f 12 (ix k) = 0 := by simp [ctrF, s2_a]
      have e14 : ctrF r (ix k) a b d f 14 (ix k) = -1 := by simp [ctrF, s2_a]
      show IVk (ctrF r (ix k) a b d f) (ix k)
      exact ⟨Or.inr e5, ⟨Or.inl e6, by rw [e11]; exact kind_d h0.2.2.2⟩, Or.inl e7, fun _ => ⟨Or.inl e14, fun q => absurd q (by rw [e12]; decide)⟩⟩
    · have e : ∀ (q : Nat), ctrF r (ix k) a b d f q p = r q p := fun q => by simp [ctrF, s2_a, hk]
      have em : ∀ v, isMb (ctrF r (ix k) a b d f) v = isMb r v := fun v => isMb_c (by simp [ctrF, s2_a]) v
      simp only [IVk, e, em]
      exact h.2.2.2 p hp
  · exact ⟨h, rfl⟩
theorem IV_Fsend {r : sg} (h : IV r) (m k : Int32) : IV (Fsend r m k).2 ∧ (Fsend r m k).2 17 1 = if sendB r m k then r 17 1 + 1 else r 17 1 := by
  unfold Fsend
  split
  · rename_i h0
    have hm : isMb r m = true := by
      simp only [sendB, Bool.and_eq_true] at h0
      exact h0.1
    have hok := carry_ok (8 - ix k) (sendR r) (ix m) (IV_send h) (isMb_lt hm)
    exact ⟨hok.1, hok.2.2.2.trans (by simp [sendR, s2_a])⟩
  · exact ⟨h, rfl⟩
def LI (r : sg) (z : Bool) (q : Nat) : Prop := IV r ∧ z = (r 17 1 == 0) ∧ ∃ c, c ≤ q ∧ r 17 1 = nI c
theorem LI.keep {r r' : sg} {z : Bool} {q : Nat} (h : LI r z q) (h1 : IV r' ∧ r' 17 1 = r 17 1) : LI r' z (q + 1) := by
  obtain ⟨a, b, c, d, e⟩ := h
  exact ⟨h1.1, by rw [h1.2]; exact b, c, by omega, h1.2.trans e⟩
theorem LI.same {r : sg} {z : Bool} {q : Nat} (h : LI r z q) : LI r z (q + 1) := h.keep ⟨h.1, rfl⟩
theorem LI.send {r : sg} {z : Bool} {q : Nat} (hq : q < 1000) (h : LI r z q) (m k : Int32) : LI (Fsend r m k).2 (if sendB r m k then false else z) (q + 1) := by
  obtain ⟨a, b, c, d, e⟩ := h
  obtain ⟨h1, h2⟩ := IV_Fsend a m k
  cases hs : sendB r m k with
  | true =>
    rw [hs] at h2
    have e2 : (Fsend r m k).2 17 1 = nI (c + 1) := by rw [h2]; show r 17 1 + 1 = _; rw [e, nI_1]
    refine ⟨h1, ?_, c + 1, by omega, e2⟩
    rw [e2]
    have : ¬ nI (c + 1) = 0 := nI_ne0 (by omega) (by omega)
    simp [this]
  | false =>
    rw [hs] at h2
    have e2 : (Fsend r m k).2 17 1 = r 17 1 := h2
    refine ⟨h1, ?_, c, by omega, e2.trans e⟩
    rw [e2]
    exact b
