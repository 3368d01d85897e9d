section HROW
variable {p : Program} {l : Launch} {e : Env} {R : Room} {s : State} {m : MethodId} {args : Array Value} {below : List Frame} {meth : Method} {c : Code} {H : Heap} {locs : List Loc} {cells slots : Nat} {Q : State → Prop}
variable {cc : ByteArray} {pc : Nat} {ls : Array Slot} {rest : List Value} {E : gE} {A : Nat → Prop} {H0 : Heap} {g : gm} {x xa xk : Nat} {ma pa ka : Nat → Nat} {z : Bool} {r : sg} {own : String} {index : Nat}
theorem h_get (hx : p.tables.exec = Jvm.exec) (hb : c.code = cc) (hts : ∀ w ∈ wsL_law, w.before args s = true) (hown : s.vm.findClass own = some m.cls) (hK : KC E s) (hW : PW E A H0 H locs g) (hR : HR E x xa xk ma pa ka z r g) (k : Nat) (hk : k < 10) (hlink : Cond.fieldLink own index (TX2 k).1 (TX2 k).2.1 (TX2 k).2.2.1 ∈ wsL_law) {v : Value} (hv : (hfs xa xk z r)[k]? = some v) (hdg : decode cc pc = .ok (.getfield index, 3))
    (kk : W p l e R s m args below meth c H locs cells slots Q (F0 m (pc + 3) ls (v :: rest))) : W p l e R s m args below meth c H locs cells slots Q (F0 m pc ls (.ref x :: rest)) :=
  g_get hx hb hts inlX2 rfl hown hK hW hR.1 k hk hlink hv hdg kk
theorem hm_get {i : Nat} (hx : p.tables.exec = Jvm.exec) (hb : c.code = cc) (hts : ∀ w ∈ wsL_law, w.before args s = true) (hown : s.vm.findClass own = some m.cls) (hK : KC E s) (hW : PW E A H0 H locs g) (hR : HR E x xa xk ma pa ka z r g) (hi : i < nm r) (k : Nat) (hk : k < 6) (hlink : Cond.fieldLink own index (TX1 k).1 (TX1 k).2.1 (TX1 k).2.2.1 ∈ wsL_law) {v : Value} (hv : (mfl r pa i)[k]? = some v) (hdg : decode cc pc = .ok (.getfield index, 3))
    (kk : W p l e R s m args below meth c H locs cells slots Q (F0 m (pc + 3) ls (v :: rest))) : W p l e R s m args below meth c H locs cells slots Q (F0 m pc ls (.ref (ma i) :: rest)) :=
  g_get hx hb hts inlX1 rfl hown hK hW (hR.2.2.2.1 i hi).1 k hk hlink hv hdg kk
theorem hk_get {i : Nat} (hx : p.tables.exec = Jvm.exec) (hb : c.code = cc) (hts : ∀ w ∈ wsL_law, w.before args s = true) (hown : s.vm.findClass own = some m.cls) (hK : KC E s) (hW : PW E A H0 H locs g) (hR : HR E x xa xk ma pa ka z r g) (hi : i < 8) (hs : r 5 i ≠ 0) (k : Nat) (hk : k < 12) (hlink : Cond.fieldLink own index (TX0 k).1 (TX0 k).2.1 (TX0 k).2.2.1 ∈ wsL_law) {v : Value} (hv : (kfl r i)[k]? = some v) (hdg : decode cc pc = .ok (.getfield index, 3))
    (kk : W p l e R s m args below meth c H locs cells slots Q (F0 m (pc + 3) ls (v :: rest))) : W p l e R s m args below meth c H locs cells slots Q (F0 m pc ls (.ref (ka i) :: rest)) :=
  g_get hx hb hts inlX0 rfl hown hK hW (hR.2.2.2.2.1 i hi hs) k hk hlink hv hdg kk
/-- the object's tallies -/
theorem h_tput (j : Nat) {v : Int32} (hx : p.tables.exec = Jvm.exec) (hb : c.code = cc) (hts : ∀ w ∈ wsL_law, w.before args s = true) (hown : s.vm.findClass own = some m.cls) (hK : KC E s) (hW : PW E A H0 H locs g) (hR : HR E x xa xk ma pa ka false r g) (k : Nat) (hk : k < 10) (hlink : Cond.fieldLink own index (TX2 k).1 (TX2 k).2.1 (TX2 k).2.2.1 ∈ wsL_law) (hfin : (TX2 k).2.2.2 = false) (hty : tyX2 k = .int) (hj : j ≠ 0) (hset : (hfs xa xk false r).set k (.int v) = hfs xa xk false (s2 r 17 j v)) (hdg : decode cc pc = .ok (.putfield index, 3))
    (kk : ∀ (H1 : Heap) (locs1 : List Loc) (g1 : gm), PW E A H0 H1 locs1 g1 → HR E x xa xk ma pa ka false (s2 r 17 j v) g1 → W p l e R s m args below meth c H1 locs1 cells slots Q (F0 m (pc + 3) ls rest)) : W p l e R s m args below meth c H locs cells slots Q (F0 m pc ls (.int v :: .ref x :: rest)) := by
  refine g_put hx hb hts inlX2 rfl tyX2 tyX2_ok nmX2 hown hK hW hR.1 k hk hlink hfin (by rw [hty]; rfl) (by rw [hty]; rfl) hk hdg (fun H1 locs1 hW1 => ?_)
  rw [hset] at hW1
  exact kk H1 locs1 _ hW1 (hR.obj (fun f hf => s2_f _ _ _ (by omega)) (by rw [s2_a]; simp [Ne.symm hj]))
theorem hm_put {i : Nat} {v : Int32} (hx : p.tables.exec = Jvm.exec) (hb : c.code = cc) (hts : ∀ w ∈ wsL_law, w.before args s = true) (hown : s.vm.findClass own = some m.cls) (hK : KC E s) (hW : PW E A H0 H locs g) (hR : HR E x xa xk ma pa ka z r g) (hi : i < nm r) (hlink : Cond.fieldLink own index (TX1 5).1 (TX1 5).2.1 (TX1 5).2.2.1 ∈ wsL_law) (hdg : decode cc pc = .ok (.putfield index, 3))
    (kk : ∀ (H1 : Heap) (locs1 : List Loc) (g1 : gm), PW E A H0 H1 locs1 g1 → HR E x xa xk ma pa ka z (s2 r 2 i v) g1 → W p l e R s m args below meth c H1 locs1 cells slots Q (F0 m (pc + 3) ls rest)) : W p l e R s m args below meth c H locs cells slots Q (F0 m pc ls (.int v :: .ref (ma i) :: rest)) := by
  refine g_put hx hb hts inlX1 rfl tyX1 tyX1_ok nmX1 hown hK hW (hR.2.2.2.1 i hi).1 5 (by decide) hlink rfl rfl rfl (show 5 < 6 by decide) hdg (fun H1 locs1 hW1 => ?_)
  have e1 : (mfl r pa i).set 5 (.int v) = mfl (s2 r 2 i v) pa i := by simp [s2_a]
  rw [e1] at hW1
  exact kk H1 locs1 _ hW1 (hR.msg hi v)
theorem hk_put (f : Nat) {i : Nat} {v : Int32} (hx : p.tables.exec = Jvm.exec) (hb : c.code = cc) (hts : ∀ w ∈ wsL_law, w.before args s = true) (hown : s.vm.findClass own = some m.cls) (hK : KC E s) (hW : PW E A H0 H locs g) (hR : HR E x xa xk ma pa ka z r g) (hi : i < 8) (hs : r 5 i ≠ 0) (k : Nat) (hk : k < 12) (hlink : Cond.fieldLink own index (TX0 k).1 (TX0 k).2.1 (TX0 k).2.2.1 ∈ wsL_law) (hfin : (TX0 k).2.2.2 = false) (hn : narrow (tyX0 k) (.int v) = .int v) (hfit : fits (tyX0 k) (.int v) = true) (hf : 6 ≤ f ∧ f ≤ 16) (hset : (kfl r i).set k (.int v) = kfl (s2 r f i v) i) (hdg : decode cc pc = .ok (.putfield index, 3))
    (kk : ∀ (H1 : Heap) (locs1 : List Loc) (g1 : gm), PW E A H0 H1 locs1 g1 → HR E x xa xk ma pa ka z (s2 r f i v) g1 → W p l e R s m args below meth c H1 locs1 cells slots Q (F0 m (pc + 3) ls rest)) : W p l e R s m args below meth c H locs cells slots Q (F0 m pc ls (.int v :: .ref (ka i) :: rest)) := by
  refine g_put hx hb hts inlX0 rfl tyX0 tyX0_ok nmX0 hown hK hW (hR.2.2.2.2.1 i hi hs) k hk hlink hfin hn hfit hk hdg (fun H1 locs1 hW1 => ?_)
  rw [hset] at hW1
  exact kk H1 locs1 _ hW1 (hR.ctr hi hs (fun q hq => s2_f _ _ _ (by omega)) (s2_f _ _ _ (by omega)) (fun k' hk' => by simp [s2_a, hk']))
theorem hp_ald {i : Nat} {j : Int32} (hx : p.tables.exec = Jvm.exec) (hb : c.code = cc) (hK : KC E s) (hW : PW E A H0 H locs g) (hR : HR E x xa xk ma pa ka z r g) (hi : i < nm r) (h0 : ¬ j < 0) (h1 : ix j < ix (r 3 i)) (hdg : decode cc pc = .ok (.iaload, 1))
    (kk : W p l e R s m args below meth c H locs cells slots Q (F0 m (pc + 1) ls (.int (r 4 (8 * i + ix j)) :: rest))) : W p l e R s m args below meth c H locs cells slots Q (F0 m pc ls (.int j :: .ref (pa i) :: rest)) := by
  obtain ⟨-, ⟨f, b2, b3⟩, b4, b5⟩ := hR.2.2.2.1 i hi
  refine g_iald hx hb hK hW b2 (fun q => q.elim h0 (fun q => absurd h1 (Nat.not_lt.mpr q))) hdg ?_
  rw [b3 _ h1]
  exact kk
theorem hp_len {i : Nat} (hx : p.tables.exec = Jvm.exec) (hb : c.code = cc) (hK : KC E s) (hW : PW E A H0 H locs g) (hR : HR E x xa xk ma pa ka z r g) (hi : i < nm r) (hdg : decode cc pc = .ok (.arraylength, 1))
    (kk : W p l e R s m args below meth c H locs cells slots Q (F0 m (pc + 1) ls (.int (r 3 i) :: rest))) : W p l e R s m args below meth c H locs cells slots Q (F0 m pc ls (.ref (pa i) :: rest)) := by
  obtain ⟨-, ⟨f, b2, b3⟩, b4, b5⟩ := hR.2.2.2.1 i hi
  refine g_alen hx hb hK hW b2 hdg ?_
  have e1 : nI (ix (r 3 i)) = r 3 i := by
    obtain ⟨q, h1, h2⟩ := nI_of b4
    rw [h2, ix, nI_clamp h1]
  rw [e1]
  exact kk
theorem hp_ast {i : Nat} {j v : Int32} (hx : p.tables.exec = Jvm.exec) (hb : c.code = cc) (hK : KC E s) (hW : PW E A H0 H locs g) (hR : HR E x xa xk ma pa ka z r g) (hi : i < nm r) (h0 : ¬ j < 0) (h1 : ix j < ix (r 3 i)) (hdg : decode cc pc = .ok (.iastore, 1))
    (kk : ∀ (H1 : Heap) (locs1 : List Loc) (g1 : gm), PW E A H0 H1 locs1 g1 → HR E x xa xk ma pa ka z (s2 r 4 (8 * i + ix j) v) g1 → W p l e R s m args below meth c H1 locs1 cells slots Q (F0 m (pc + 1) ls rest)) : W p l e R s m args below meth c H locs cells slots Q (F0 m pc ls (.int v :: .int j :: .ref (pa i) :: rest)) := by
  obtain ⟨-, ⟨f, b2, b3⟩, b4, b5⟩ := hR.2.2.2.1 i hi
  refine g_iast hx hb hK hW b2 (fun q => q.elim h0 (fun q => absurd h1 (Nat.not_lt.mpr q))) hdg (fun H1 locs1 hW1 => ?_)
  refine kk H1 locs1 _ hW1 (hR.row hi (fun q hq => s2_f _ _ _ hq) (fun q hq => ?_) (fun i' q hi' hq => ?_))
  · rw [s2_a]
    by_cases hqj : q = ix j
    · subst hqj
      simp [upd]
    · rw [if_neg (by omega), ← b3 q hq]
      simp [upd, hqj]
  · rw [s2_a, if_neg (by omega)]
theorem nI_ix {j : Int32} (h : ¬ j < 0) : nI (ix j) = j := by
  obtain ⟨q, h1, h2⟩ := nI_of h
  rw [h2, ix, nI_clamp h1]
theorem bI_ne0 {b : Bool} (h : ¬ bI b = 0) : b = true := by cases b <;> first | rfl | exact absurd rfl h
end HROW
