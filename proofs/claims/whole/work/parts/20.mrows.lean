/-! the model's cells -/
def mln : Nat → Nat
  | 0 => 60 | 1 => 60 | 2 => 60 | 3 => 60 | 4 => 480
  | 5 => 8 | 6 => 8 | 7 => 8 | 8 => 8 | 9 => 8 | 10 => 8 | 11 => 8 | 12 => 8 | 13 => 8 | 14 => 8 | 15 => 8 | 16 => 8
  | _ => 40
def mcl : Nat → Nat
  | 5 => 1 | 6 => 1 | 7 => 1
  | _ => 0
def mrow (r t : sg) (f : Nat) : Nat → Int32 := if f < 17 then r f else t (f - 17)
abbrev mfs (ad : Nat → Nat) (r t : sg) : List Value := [.int (r 17 0), .ref (ad 0), .ref (ad 1), .ref (ad 2), .ref (ad 3), .ref (ad 4), .ref (ad 5), .ref (ad 6), .ref (ad 7), .ref (ad 8), .ref (ad 9), .ref (ad 10), .ref (ad 11), .ref (ad 12), .ref (ad 13), .ref (ad 14), .ref (ad 15), .ref (ad 16), .int (r 17 1), .int (r 17 2), .int (r 17 3), .int (r 17 4), .int (r 17 5), .int (r 17 6), .int (t 4 0), .ref (ad 17), .ref (ad 18), .ref (ad 19), .ref (ad 20)]
def MR (E : gE) (y : Nat) (ad : Nat → Nat) (r t : sg) (g : gm) : Prop := g y = some (.inr (3, mfs ad r t)) ∧ (∀ f, f < 21 → g (ad f) = some (.inl (E.2 (mcl f), mln f, .inl (mrow r t f)))) ∧ ∀ f f', f < 21 → f' < 21 → ad f = ad f' → f = f'
section MRL
variable {E : gE} {y : Nat} {ad : Nat → Nat} {r t : sg} {g : gm}
theorem MR.obj (h : MR E y ad r t g) {r' t' : sg} (h0 : ∀ f, f < 17 → r' f = r f) (h1 : ∀ f, f < 4 → t' f = t f) : MR E y ad r' t' (gu g y (.inr (3, mfs ad r' t'))) := by
  obtain ⟨a1, a2, a3⟩ := h
  refine ⟨gu_s _ _ _, fun f hf => ?_, a3⟩
  have b := a2 f hf
  rw [gu_n _ _ (ne_kd b a1 (by simp [kd])), b]
  have : mrow r' t' f = mrow r t f := by
    simp only [mrow]
    by_cases hq : f < 17
    · rw [if_pos hq, if_pos hq, h0 f hq]
    · rw [if_neg hq, if_neg hq, h1 (f - 17) (by omega)]
  rw [this]
theorem MR.arr (h : MR E y ad r t g) {f : Nat} (hf : f < 17) (j : Nat) (v : Int32) : MR E y ad (s2 r f j v) t (gu g (ad f) (.inl (E.2 (mcl f), mln f, .inl (upd (mrow r t f) j v)))) := by
  obtain ⟨a1, a2, a3⟩ := h
  have b := a2 f (by omega)
  refine ⟨?_, fun q hq => ?_, a3⟩
  · rw [gu_n _ _ (ne_kd a1 b (by simp [kd])), a1]
    simp [mfs, s2_f r (f := f) (f' := 17) j v (by omega)]
  · by_cases hqf : q = f
    · subst hqf
      rw [gu_s]
      simp [mrow, hf, s2_r]
    · rw [gu_n _ _ (fun e => hqf (a3 q f hq (by omega) e)), a2 q hq]
      have : mrow (s2 r f j v) t q = mrow r t q := by
        simp only [mrow]
        by_cases h17 : q < 17
        · rw [if_pos h17, if_pos h17, s2_f _ _ _ hqf]
        · rw [if_neg h17, if_neg h17]
      rw [this]
theorem MR.scr (h : MR E y ad r t g) {f : Nat} (hf : f < 4) (j : Nat) (v : Int32) : MR E y ad r (s2 t f j v) (gu g (ad (f + 17)) (.inl (E.2 (mcl (f + 17)), mln (f + 17), .inl (upd (mrow r t (f + 17)) j v)))) := by
  obtain ⟨a1, a2, a3⟩ := h
  have b := a2 (f + 17) (by omega)
  refine ⟨?_, fun q hq => ?_, a3⟩
  · rw [gu_n _ _ (ne_kd a1 b (by simp [kd])), a1]
    simp [mfs, s2_f t (f := f) (f' := 4) j v (by omega)]
  · by_cases hqf : q = f + 17
    · subst hqf
      rw [gu_s]
      simp [mrow, s2_r, show ¬ f + 17 < 17 by omega]
    · rw [gu_n _ _ (fun e => hqf (a3 q (f + 17) hq (by omega) e)), a2 q hq]
      have : mrow r (s2 t f j v) q = mrow r t q := by
        simp only [mrow]
        by_cases h17 : q < 17
        · rw [if_pos h17, if_pos h17]
        · rw [if_neg h17, if_neg h17, s2_f _ _ _ (by omega)]
      rw [this]
end MRL
section MROW
variable {p : Program} {l : Launch} {e : Env} {R : Room} {s : State} {m : MethodId} {args : Array Value} {below : List Frame} {meth : Method} {c : Code} {H : Heap} {locs : List Loc} {cells slots : Nat} {Q : State → Prop}
variable {cc : ByteArray} {pc : Nat} {ls : Array Slot} {rest : List Value} {E : gE} {A : Nat → Prop} {H0 : Heap} {g : gm} {y : Nat} {ad : Nat → Nat} {r t : sg} {own : String} {index : Nat}
theorem m_get (hx : p.tables.exec = Jvm.exec) (hb : c.code = cc) (hts : ∀ w ∈ wsL_law, w.before args s = true) (hown : s.vm.findClass own = some m.cls) (hK : KC E s) (hW : PW E A H0 H locs g) (hM : MR E y ad r t g) (k : Nat) (hk : k < 29) (hlink : Cond.fieldLink own index (TX3 k).1 (TX3 k).2.1 (TX3 k).2.2.1 ∈ wsL_law) {v : Value} (hv : (mfs ad r t)[k]? = some v) (hdg : decode cc pc = .ok (.getfield index, 3))
    (kk : W p l e R s m args below meth c H locs cells slots Q (F0 m (pc + 3) ls (v :: rest))) : W p l e R s m args below meth c H locs cells slots Q (F0 m pc ls (.ref y :: rest)) :=
  g_get hx hb hts inlX3 rfl hown hK hW hM.1 k hk hlink hv hdg kk
theorem m_put {r' t' : sg} {v : Int32} (hx : p.tables.exec = Jvm.exec) (hb : c.code = cc) (hts : ∀ w ∈ wsL_law, w.before args s = true) (hown : s.vm.findClass own = some m.cls) (hK : KC E s) (hW : PW E A H0 H locs g) (hM : MR E y ad r t g) (k : Nat) (hk : k < 29) (hlink : Cond.fieldLink own index (TX3 k).1 (TX3 k).2.1 (TX3 k).2.2.1 ∈ wsL_law) (hfin : (TX3 k).2.2.2 = false) (hty : tyX3 k = .int) (h0 : ∀ f, f < 17 → r' f = r f) (h1 : ∀ f, f < 4 → t' f = t f) (hset : (mfs ad r t).set k (.int v) = mfs ad r' t') (hdg : decode cc pc = .ok (.putfield index, 3))
    (kk : ∀ (H1 : Heap) (locs1 : List Loc) (g1 : gm), PW E A H0 H1 locs1 g1 → MR E y ad r' t' g1 → W p l e R s m args below meth c H1 locs1 cells slots Q (F0 m (pc + 3) ls rest)) : W p l e R s m args below meth c H locs cells slots Q (F0 m pc ls (.int v :: .ref y :: rest)) := by
  refine g_put hx hb hts inlX3 rfl tyX3 tyX3_ok nmX3 hown hK hW hM.1 k hk hlink hfin (by rw [hty]; rfl) (by rw [hty]; rfl) hk hdg (fun H1 locs1 hW1 => ?_)
  rw [hset] at hW1
  exact kk H1 locs1 _ hW1 (hM.obj h0 h1)
theorem m_iald (f : Nat) {j : Nat} {i v : Int32} (hx : p.tables.exec = Jvm.exec) (hb : c.code = cc) (hK : KC E s) (hW : PW E A H0 H locs g) (hM : MR E y ad r t g) (hf : f < 21) (hc : mcl f = 0) (hi : i = nI j) (hj : j < mln f) (hv : mrow r t f j = v) (hdg : decode cc pc = .ok (.iaload, 1))
    (kk : W p l e R s m args below meth c H locs cells slots Q (F0 m (pc + 1) ls (.int v :: rest))) : W p l e R s m args below meth c H locs cells slots Q (F0 m pc ls (.int i :: .ref (ad f) :: rest)) := by
  have b := hM.2.1 f hf
  rw [hc] at b
  have h480 : mln f ≤ 480 := by unfold mln; split <;> omega
  subst hi
  refine g_iald hx hb hK hW b (vp_in_nI hj (by omega)) hdg ?_
  rw [nI_clamp (by omega), hv]
  exact kk
theorem m_zald (f : Nat) {j : Nat} {i v : Int32} (hx : p.tables.exec = Jvm.exec) (hb : c.code = cc) (hK : KC E s) (hW : PW E A H0 H locs g) (hM : MR E y ad r t g) (hf : f < 21) (hc : mcl f = 1) (hi : i = nI j) (hj : j < mln f) (hv : mrow r t f j = v) (hdg : decode cc pc = .ok (.baload, 1))
    (kk : W p l e R s m args below meth c H locs cells slots Q (F0 m (pc + 1) ls (.int v :: rest))) : W p l e R s m args below meth c H locs cells slots Q (F0 m pc ls (.int i :: .ref (ad f) :: rest)) := by
  have b := hM.2.1 f hf
  rw [hc] at b
  have h480 : mln f ≤ 480 := by unfold mln; split <;> omega
  subst hi
  refine g_zald hx hb hK hW b (vp_in_nI hj (by omega)) hdg ?_
  rw [nI_clamp (by omega), hv]
  exact kk
theorem m_iast (f : Nat) {j : Nat} {i v : Int32} (hx : p.tables.exec = Jvm.exec) (hb : c.code = cc) (hK : KC E s) (hW : PW E A H0 H locs g) (hM : MR E y ad r t g) (hf : f < 17) (hc : mcl f = 0) (hi : i = nI j) (hj : j < mln f) (hdg : decode cc pc = .ok (.iastore, 1))
    (kk : ∀ (H1 : Heap) (locs1 : List Loc) (g1 : gm), PW E A H0 H1 locs1 g1 → MR E y ad (s2 r f j v) t g1 → W p l e R s m args below meth c H1 locs1 cells slots Q (F0 m (pc + 1) ls rest)) : W p l e R s m args below meth c H locs cells slots Q (F0 m pc ls (.int v :: .int i :: .ref (ad f) :: rest)) := by
  have b := hM.2.1 f (by omega)
  have hm := hM.arr hf j v
  rw [hc] at b hm
  have h480 : mln f ≤ 480 := by unfold mln; split <;> omega
  subst hi
  refine g_iast hx hb hK hW b (vp_in_nI hj (by omega)) hdg (fun H1 locs1 hW1 => ?_)
  rw [nI_clamp (by omega)] at hW1
  exact kk H1 locs1 _ hW1 hm
theorem m_zast (f : Nat) {j : Nat} {i v : Int32} (hx : p.tables.exec = Jvm.exec) (hb : c.code = cc) (hK : KC E s) (hW : PW E A H0 H locs g) (hM : MR E y ad r t g) (hf : f < 17) (hc : mcl f = 1) (hi : i = nI j) (hj : j < mln f) (hn : vp_nar .boolean v = v) (hdg : decode cc pc = .ok (.bastore, 1))
    (kk : ∀ (H1 : Heap) (locs1 : List Loc) (g1 : gm), PW E A H0 H1 locs1 g1 → MR E y ad (s2 r f j v) t g1 → W p l e R s m args below meth c H1 locs1 cells slots Q (F0 m (pc + 1) ls rest)) : W p l e R s m args below meth c H locs cells slots Q (F0 m pc ls (.int v :: .int i :: .ref (ad f) :: rest)) := by
  have b := hM.2.1 f (by omega)
  have hm := hM.arr hf j v
  rw [hc] at b hm
  have h480 : mln f ≤ 480 := by unfold mln; split <;> omega
  subst hi
  refine g_zast hx hb hK hW b (vp_in_nI hj (by omega)) hdg (fun H1 locs1 hW1 => ?_)
  rw [nI_clamp (by omega), hn] at hW1
  exact kk H1 locs1 _ hW1 hm
theorem m_sast (f : Nat) {j : Nat} {i v : Int32} (hx : p.tables.exec = Jvm.exec) (hb : c.code = cc) (hK : KC E s) (hW : PW E A H0 H locs g) (hM : MR E y ad r t g) (hf : f < 4) (hi : i = nI j) (hj : j < 40) (hdg : decode cc pc = .ok (.iastore, 1))
    (kk : ∀ (H1 : Heap) (locs1 : List Loc) (g1 : gm), PW E A H0 H1 locs1 g1 → MR E y ad r (s2 t f j v) g1 → W p l e R s m args below meth c H1 locs1 cells slots Q (F0 m (pc + 1) ls rest)) : W p l e R s m args below meth c H locs cells slots Q (F0 m pc ls (.int v :: .int i :: .ref (ad (f + 17)) :: rest)) := by
  have b := hM.2.1 (f + 17) (by omega)
  have hm := hM.scr hf j v
  have hc : mcl (f + 17) = 0 := by unfold mcl; split <;> omega
  have hl : mln (f + 17) = 40 := by unfold mln; split <;> omega
  rw [hc, hl] at b hm
  subst hi
  refine g_iast hx hb hK hW b (vp_in_nI hj (by omega)) hdg (fun H1 locs1 hW1 => ?_)
  rw [nI_clamp (by omega)] at hW1
  exact kk H1 locs1 _ hW1 hm
theorem it_e {a b : Nat} {x z : Int32} (ha : x = nI a) (hb : z = nI b) : (8 : Int32) * x + z = nI (8 * a + b) := by rw [ha, hb, show (8 : Int32) = nI 8 from rfl, pk_mul, nI_add]
theorem it_0 {a : Nat} {x : Int32} (ha : x = nI a) : (8 : Int32) * x = nI (8 * a) := by rw [ha, show (8 : Int32) = nI 8 from rfl, pk_mul]
end MROW
/-! the model's questions, as the state has them -/
def mIn (v lo hi : Int32) : Bool := !decide (v < lo) && !decide (hi < v)
theorem mIn_n {v : Int32} {n : Nat} (hn : n < 2 ^ 30) : mIn v 0 (nI n - 1) = (!decide (v < 0) && decide (v < nI n)) := by
  have e : (nI n - 1).toInt = (n : Int) - 1 := by
    exact pk_sub_toInt (a := n) (b := 1) hn (by decide)
  have e2 : (nI n - 1 < v) ↔ ¬ (v < nI n) := by
    rw [Int32.lt_iff_toInt_lt, Int32.lt_iff_toInt_lt, e, nI_toInt (by omega)]
    omega
  by_cases h : v < nI n
  · have : ¬ (nI n - 1 < v) := fun q => (e2.mp q) h
    simp [mIn, h, this]
  · have := e2.mpr h
    simp [mIn, h, this]
theorem mIn_isM {r : sg} (h0 : ¬ r 17 0 < 0) (h60 : nm r ≤ 60) (m : Int32) : mIn m 0 (r 17 0 - 1) = isMb r m := by
  have e1 : r 17 0 = nI (nm r) := (nI_ix h0).symm
  rw [e1, mIn_n (by omega)]
  by_cases hm : m < 0
  · simp [isMb, hm]
  · simp [isMb, hm, ix_lt (show nm r < 2 ^ 31 by omega) hm]
theorem mIn_in {n : Int32} (hn : ¬ n < 0) (h8 : ix n ≤ 8) (v : Int32) : mIn v 0 (n - 1) = inB v n := by
  have e1 : n = nI (ix n) := (nI_ix hn).symm
  rw [e1, mIn_n (by omega)]
  rfl
theorem lt4 (b : Int32) : b < 4 ↔ ¬ 3 < b := by
  rw [Int32.lt_iff_toInt_lt, Int32.lt_iff_toInt_lt]
  show b.toInt < 4 ↔ ¬ 3 < b.toInt
  omega
theorem cut_e (v : Int32) : v &&& 65535 = (v.toUInt32 % 65536).toInt32 := by rw [pk_char, pk_and v 16 (by decide)]
