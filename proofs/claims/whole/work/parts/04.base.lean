/-! The world as a partial map from addresses to cells; contracts over it. -/
abbrev gm : Type := Nat → Option va_E
abbrev gE : Type := va_G × (Nat → ClassId)
def gu (g : gm) (a : Nat) (e : va_E) : gm := fun b => if b = a then some e else g b
theorem gu_s (g : gm) (a : Nat) (e : va_E) : gu g a e a = some e := by simp [gu]
theorem gu_n (g : gm) {a b : Nat} (e : va_E) (h : b ≠ a) : gu g a e b = g b := by simp [gu, h]
def fr (g : gm) (sz : Nat) : Nat → Prop := fun q => (g q).isSome = true ∨ sz ≤ q
abbrev nw1 : Cond := .methodLinkNest "PostHall$Message" 21 yX2_isOfFigures "PostHall"
abbrev nw2 : Cond := .methodLinkNest "PostHall$Message" 37 yX2_passesFor "PostHall"
abbrev nw3 : Cond := .methodLinkNest "PostHall$Counter" 55 yX2_isOfFigures "PostHall"
abbrev tys4 (E : gE) : List (ClassId × FieldType) := [(E.2 0, .int), (E.2 1, .boolean), (E.2 2, .object RX1), (E.2 3, .object RX0)]
def KC (E : gE) (U : State) : Prop := va_K E.1 vwCl (tys4 E) U ∧ va_Nw nw1 U ∧ va_Nw nw2 U ∧ va_Nw nw3 U ∧ va_AO RX1 U ∧ va_AO RX0 U
theorem KC.warm {E : gE} {s U : State} (hW : s.WarmedH U.vm) (h : KC E s) : KC E U :=
  ⟨va_K.moved hW.alike h.1, va_Nw.warmM hW h.2.1, va_Nw.warmM hW h.2.2.1, va_Nw.warmM hW h.2.2.2.1, va_AO.moved hW.alike h.2.2.2.2.1, va_AO.moved hW.alike h.2.2.2.2.2⟩
theorem KC.same {E : gE} {s U : State} (e : s.vm = U.vm) (h : KC E s) : KC E U :=
  ⟨va_K.moved (by rw [e]; exact Vm.Alike.refl _) h.1, va_Nw.same rfl e h.2.1, va_Nw.same rfl e h.2.2.1, va_Nw.same rfl e h.2.2.2.1, va_AO.moved (by rw [e]; exact Vm.Alike.refl _) h.2.2.2.2.1, va_AO.moved (by rw [e]; exact Vm.Alike.refl _) h.2.2.2.2.2⟩
/-- the world g in the heap H: each cell as g says, each in A; since H0 nothing outside A has changed -/
def PW (E : gE) (A : Nat → Prop) (H0 H : Heap) (locs : List Loc) (g : gm) : Prop := (∀ a e, g a = some e → va_at E.1 vwCl (a, e) H ∧ A a) ∧ va_S A H0 H locs ∧ ∀ q, H0.size ≤ q → A q
def QC (E : gE) (g : gm) (sz : Nat) (post : Option Value → gm → Prop) : Array Value → State → Outcome → State → Prop := fun _ st oc t => (∃ (v : Option Value) (g' : gm), oc = .returned v ∧ post v g' ∧ ∀ a e, g' a = some e → va_at E.1 vwCl (a, e) t.heap ∧ fr g sz a) ∧ va_F (fr g sz) st t
def PC (E : gE) (g : gm) (sz : Nat) : State → Prop := fun U => U.heap.size = sz ∧ (∀ a e, g a = some e → va_at E.1 vwCl (a, e) U.heap) ∧ KC E U
/-- a method's contract over the world -/
def CM (l : Launch) (y : MethodName) (cc : ByteArray) (n : Nat) (ret : Option FieldType) (rm : Room) (E : gE) (av : List Value) (g : gm) (post : Option Value → gm → Prop) : Prop :=
  ∀ sz : Nat, Met l y (.code y cc n ret :: wsL_law) rm (va_Pc av (PC E g sz)) (QC E g sz post) rm.cells rm.slots (fr g sz)
/-- what a method's body stands on -/
def MX (p : Program) (s : State) (m : MethodId) (meth : Method) (c : Code) (args : Array Value) (y : MethodName) (cc : ByteArray) (n : Nat) (ret : Option FieldType) : Prop :=
  p.tables.exec = Jvm.exec ∧ c.code = cc ∧ meth.sig.returnType = ret ∧ c.maxLocals = n ∧ s.vm.findClass y.cls = some m.cls ∧ (∀ w ∈ wsL_law, w.before args s = true) ∧ meth.locks = false ∧ meth.name = y.name
theorem CM.of {l : Launch} {y : MethodName} {cc : ByteArray} {n : Nat} {ret : Option FieldType} {rm : Room} {E : gE} {av : List Value} {g : gm} {post : Option Value → gm → Prop} (hy : plainName y.cls = true) (hn : (lg_sl av).length ≤ n)
    (body : ∀ (p : Program) (e : Env) (s : State) (m : MethodId) (below : List Frame) (meth : Method) (c : Code) (ls : Array Slot), MX p s m meth c av.toArray y cc n ret → KC E s → PW E (fr g s.heap.size) s.heap s.heap [] g → lv_has ls n (lv_args 0 av) →
      W p l e rm s m av.toArray below meth c s.heap [] 0 0 (MQ below (QC E g s.heap.size post) av.toArray s rm.cells rm.slots (fr g s.heap.size)) (F0 m 0 ls [])) : CM l y cc n ret rm E av g post := by
  intro sz
  refine Met.ofW (cc := cc) (maxL := n) (ret := ret) hy rfl ?_
  intro p e s m args below meth c s₁ B hml hv
  obtain ⟨rfl, hsz, hP, hK⟩ := hv
  subst hsz
  have hts := atoms_spec (ws := .code y cc n ret :: wsL_law) B.pre
  rw [lg_entry_eq]
  exact body p e s m below meth c _ ⟨B.exec, B.bytes, B.returns, hml, findClass_of_methodNamed B.named, fun w hw => hts w (List.mem_cons_of_mem _ hw), B.notSynchronized, (name_of_methodNamed B.named B.method).1⟩ hK ⟨fun a e h => ⟨hP a e h, Or.inl (by rw [h]; rfl)⟩, va_S.rf, fun q h => Or.inr h⟩ (lv_entry av hn)
theorem PW.lt {E : gE} {A : Nat → Prop} {H0 H : Heap} {locs : List Loc} {g : gm} (h : PW E A H0 H locs g) {a : Nat} {e : va_E} (hg : g a = some e) : a < H.size := (h.1 a e hg).1.lt
theorem PW.one {E : gE} {A : Nat → Prop} {H0 H : Heap} {locs : List Loc} {g : gm} (h : PW E A H0 H locs g) {a : Nat} {e : va_E} (hg : g a = some e) : va_P E.1 vwCl [(a, e)] H := fun k q hq => by
  match k, hq with
  | 0, hq => cases hq; exact (h.1 a e hg).1
  | k + 1, hq => simp at hq
theorem PW.list {E : gE} {A : Nat → Prop} {H0 H : Heap} {locs : List Loc} {g : gm} (h : PW E A H0 H locs g) : ∃ ws : va_W, va_P E.1 vwCl ws H ∧ va_D A ws ∧ (∀ a e, g a = some e → ∃ k : Nat, ws[k]? = some (a, e)) ∧ ∀ (k : Nat) (q : Nat × va_E), ws[k]? = some q → g q.1 = some q.2 := by
  have key : ∀ n : Nat, ∃ ws : va_W, va_D A ws ∧ (∀ a e, a < n → g a = some e → ∃ k : Nat, ws[k]? = some (a, e)) ∧ ∀ (k : Nat) (q : Nat × va_E), ws[k]? = some q → g q.1 = some q.2 ∧ q.1 < n := by
    intro n
    induction n with
    | zero => exact ⟨[], ⟨fun i j p q hp => by simp at hp, fun k q hq => by simp at hq⟩, fun a e h => absurd h (Nat.not_lt_zero _), fun k q hq => by simp at hq⟩
    | succ n ih =>
      obtain ⟨ws, h1, h2, h3⟩ := ih
      cases hg : g n with
      | none =>
        refine ⟨ws, h1, fun a e ha hge => ?_, fun k q hq => ⟨(h3 k q hq).1, Nat.lt_succ_of_lt (h3 k q hq).2⟩⟩
        rcases Nat.lt_succ_iff_lt_or_eq.mp ha with ha | ha
        · exact h2 a e ha hge
        · subst ha; rw [hg] at hge; cases hge
      | some e0 =>
        refine ⟨ws ++ [(n, e0)], va_D.app h1 ⟨fun i j p q hp hq _ => ?_, fun k q hq => ?_⟩ (fun i j p q hp hq hpq => ?_), fun a e ha hge => ?_, fun k q hq => ?_⟩
        · have hi : i < 1 := (List.getElem?_eq_some_iff.mp hp).1
          have hj : j < 1 := (List.getElem?_eq_some_iff.mp hq).1
          omega
        · have hi : k < 1 := (List.getElem?_eq_some_iff.mp hq).1
          rw [show k = 0 by omega] at hq
          cases hq
          exact (h.1 n e0 hg).2
        · have hj : j < 1 := (List.getElem?_eq_some_iff.mp hq).1
          rw [show j = 0 by omega] at hq
          cases hq
          have := (h3 i p hp).2
          simp at hpq
          omega
        · rcases Nat.lt_succ_iff_lt_or_eq.mp ha with ha | ha
          · obtain ⟨k, hk⟩ := h2 a e ha hge
            exact ⟨k, by rw [List.getElem?_append_left (List.getElem?_eq_some_iff.mp hk).1]; exact hk⟩
          · subst ha
            rw [hg] at hge
            cases hge
            exact ⟨ws.length, by rw [List.getElem?_append_right (Nat.le_refl _), Nat.sub_self]; rfl⟩
        · rcases List.mem_append.mp (List.mem_of_getElem? hq) with hm | hm
          · obtain ⟨i, hi⟩ := List.getElem?_of_mem hm
            exact ⟨(h3 i q hi).1, Nat.lt_succ_of_lt (h3 i q hi).2⟩
          · rw [List.mem_singleton.mp hm]
            exact ⟨hg, Nat.lt_succ_self _⟩
  obtain ⟨ws, h1, h2, h3⟩ := key H.size
  exact ⟨ws, fun k q hq => (h.1 q.1 q.2 (h3 k q hq).1).1, h1, fun a e hge => h2 a e (h.lt hge) hge, fun k q hq => (h3 k q hq).1⟩
theorem PW.back {E : gE} {A : Nat → Prop} {H0 H H1 : Heap} {locs locs1 : List Loc} {g : gm} (h : PW E A H0 H locs g) {ws : va_W} (hw : ∀ a e, g a = some e → ∃ k : Nat, ws[k]? = some (a, e)) {k a : Nat} {e e1 : va_E} (hk : ws[k]? = some (a, e)) (hg : g a = some e) (hP : va_P E.1 vwCl (ws.set k (a, e1)) H1) (hS : va_S A H0 H1 locs1) : PW E A H0 H1 locs1 (gu g a e1) := by
  refine ⟨fun b e2 hb => ?_, hS, h.2.2⟩
  by_cases hba : b = a
  · subst hba
    rw [gu_s] at hb
    cases hb
    exact ⟨hP k _ (List.getElem?_set_self (List.getElem?_eq_some_iff.mp hk).1), (h.1 b e hg).2⟩
  · rw [gu_n _ _ hba] at hb
    obtain ⟨j, hj⟩ := hw b e2 hb
    have hjk : k ≠ j := fun q => by subst q; rw [hk] at hj; cases hj; exact hba rfl
    exact ⟨hP j _ (by rw [List.getElem?_set_ne hjk]; exact hj), (h.1 b e2 hb).2⟩
theorem PW.push {E : gE} {A : Nat → Prop} {H0 H H1 : Heap} {locs : List Loc} {g : gm} (h : PW E A H0 H locs g) {ws : va_W} (hw : ∀ a e, g a = some e → ∃ k : Nat, ws[k]? = some (a, e)) {q : Nat} {e : va_E} (hP : va_P E.1 vwCl (ws ++ [(q, e)]) H1) (hD : va_D A (ws ++ [(q, e)])) (hS : va_S A H0 H1 locs) : g q = none ∧ PW E A H0 H1 locs (gu g q e) := by
  have hlast : (ws ++ [(q, e)])[ws.length]? = some (q, e) := by rw [List.getElem?_append_right (Nat.le_refl _), Nat.sub_self]; rfl
  have hold : ∀ (b : Nat) (e2 : va_E), g b = some e2 → ∃ k : Nat, k < ws.length ∧ (ws ++ [(q, e)])[k]? = some (b, e2) := fun b e2 hb => by
    obtain ⟨k, hk⟩ := hw b e2 hb
    have hl := (List.getElem?_eq_some_iff.mp hk).1
    exact ⟨k, hl, by rw [List.getElem?_append_left hl]; exact hk⟩
  have hn : g q = none := by
    cases hg : g q with
    | none => rfl
    | some e2 =>
      obtain ⟨k, hl, hk⟩ := hold q e2 hg
      have := hD.1 _ _ _ _ hk hlast rfl
      omega
  refine ⟨hn, fun b e2 hb => ?_, hS, h.2.2⟩
  by_cases hba : b = q
  · subst hba
    rw [gu_s] at hb
    cases hb
    exact ⟨hP _ _ hlast, hD.2 _ _ hlast⟩
  · rw [gu_n _ _ hba] at hb
    obtain ⟨k, hl, hk⟩ := hold b e2 hb
    exact ⟨hP k _ hk, (h.1 b e2 hb).2⟩
section GR
variable {p : Program} {l : Launch} {e : Env} {R : Room} {s : State} {m : MethodId} {args : Array Value} {below : List Frame} {meth : Method} {c : Code} {H : Heap} {locs : List Loc} {cells slots : Nat} {Q : State → Prop}
variable {cc : ByteArray} {pc : Nat} {ls : Array Slot} {rest : List Value} {E : gE} {A : Nat → Prop} {a : Nat} {H0 : Heap} {g : gm}
theorem g_get (hexec : p.tables.exec = Jvm.exec) (hb : c.code = cc) {own C : String} {T : u_T} {N ci index : Nat} (hts : ∀ w ∈ wsL_law, w.before args s = true) (hin : ∀ w ∈ u_ws C T N, w ∈ wsL_law) (hc : vwCl[ci]? = some (C, T, N)) (hown : s.vm.findClass own = some m.cls) (hK : KC E s) (hW : PW E A H0 H locs g) {fs : List Value} (he : g a = some (.inr (ci, fs))) (k : Nat) (hk : k < N) (hlink : Cond.fieldLink own index (T k).1 (T k).2.1 (T k).2.2.1 ∈ wsL_law) {v : Value} (hv : fs[k]? = some v) (hdg : decode cc pc = .ok (.getfield index, 3))
    (kk : W p l e R s m args below meth c H locs cells slots Q (F0 m (pc + 3) ls (v :: rest))) : W p l e R s m args below meth c H locs cells slots Q (F0 m pc ls (.ref a :: rest)) :=
  va_get hexec hb hts hin hown hK.1 (hW.one he) 0 rfl hc k hk (hts _ hlink) (fun _ h => h) hv hdg kk
theorem g_put (hexec : p.tables.exec = Jvm.exec) (hb : c.code = cc) {own C : String} {T : u_T} {N ci index : Nat} (hts : ∀ w ∈ wsL_law, w.before args s = true) (hin : ∀ w ∈ u_ws C T N, w ∈ wsL_law) (hc : vwCl[ci]? = some (C, T, N)) (ty0 : Nat → FieldType) (hty : ∀ k, k < N → parseFieldDescriptor (T k).2.2.1 = some (ty0 k)) (hnm : ∀ a, a < N → ∀ b, b < N → a ≠ b → (T a).2.1 ≠ (T b).2.1) (hown : s.vm.findClass own = some m.cls) (hK : KC E s) (hW : PW E A H0 H locs g) {fs : List Value} (he : g a = some (.inr (ci, fs))) (k : Nat) (hk : k < N) (hlink : Cond.fieldLink own index (T k).1 (T k).2.1 (T k).2.2.1 ∈ wsL_law) (hfin : (T k).2.2.2 = false) {v : Value} (hn : narrow (ty0 k) v = v) (hfit : fits (ty0 k) v = true) (hl : k < fs.length) (hdg : decode cc pc = .ok (.putfield index, 3))
    (kk : ∀ (H1 : Heap) (locs1 : List Loc), PW E A H0 H1 locs1 (gu g a (.inr (ci, fs.set k v))) → W p l e R s m args below meth c H1 locs1 cells slots Q (F0 m (pc + 3) ls rest)) : W p l e R s m args below meth c H locs cells slots Q (F0 m pc ls (v :: .ref a :: rest)) := by
  obtain ⟨ws, hP, hD, hw, -⟩ := hW.list
  obtain ⟨q0, hq0⟩ := hw a _ he
  exact va_put hexec hb hts hin ty0 hty hnm hown hK.1 hP hD hW.2.1 q0 hq0 hc k hk (hts _ hlink) (fun _ h => h) hfin (hty k hk) hn hfit hl hdg (fun H1 locs1 hP1 _ hS1 => kk H1 locs1 (hW.back hw hq0 he hP1 hS1))
theorem g_putF (hexec : p.tables.exec = Jvm.exec) (hb : c.code = cc) {own C : String} {T : u_T} {N ci index : Nat} (hts : ∀ w ∈ wsL_law, w.before args s = true) (hin : ∀ w ∈ u_ws C T N, w ∈ wsL_law) (hc : vwCl[ci]? = some (C, T, N)) (ty0 : Nat → FieldType) (hty : ∀ k, k < N → parseFieldDescriptor (T k).2.2.1 = some (ty0 k)) (hnm : ∀ a, a < N → ∀ b, b < N → a ≠ b → (T a).2.1 ≠ (T b).2.1) (hown : s.vm.findClass own = some m.cls) (hK : KC E s) (hW : PW E A H0 H locs g) {fs : List Value} (he : g a = some (.inr (ci, fs))) (k : Nat) (hk : k < N) (hlink : Cond.fieldLink own index (T k).1 (T k).2.1 (T k).2.2.1 ∈ wsL_law) (hfin : (T k).2.2.2 = true) (hin2 : meth.name = "<init>") (hdecl : (T k).1 = own) {v : Value} (hn : narrow (ty0 k) v = v) (hfit : fits (ty0 k) v = true) (hl : k < fs.length) (hdg : decode cc pc = .ok (.putfield index, 3))
    (kk : ∀ (H1 : Heap) (locs1 : List Loc), PW E A H0 H1 locs1 (gu g a (.inr (ci, fs.set k v))) → W p l e R s m args below meth c H1 locs1 cells slots Q (F0 m (pc + 3) ls rest)) : W p l e R s m args below meth c H locs cells slots Q (F0 m pc ls (v :: .ref a :: rest)) := by
  obtain ⟨ws, hP, hD, hw, -⟩ := hW.list
  obtain ⟨q0, hq0⟩ := hw a _ he
  exact va_putF hexec hb hts hin ty0 hty hnm hown hK.1 hP hD hW.2.1 q0 hq0 hc k hk (hts _ hlink) (fun _ h => h) hfin hin2 hdecl (hty k hk) hn hfit hl hdg (fun H1 locs1 hP1 _ hS1 => kk H1 locs1 (hW.back hw hq0 he hP1 hS1))
theorem g_iald (hexec : p.tables.exec = Jvm.exec) (hb : c.code = cc) (hK : KC E s) (hW : PW E A H0 H locs g) {n : Nat} {f : Nat → Int32} (ha : g a = some (.inl (E.2 0, n, .inl f))) {i : Int32} (hin : vp_in i n) (hdg : decode cc pc = .ok (.iaload, 1))
    (kk : W p l e R s m args below meth c H locs cells slots Q (F0 m (pc + 1) ls (.int (f i.toNatClampNeg) :: rest))) : W p l e R s m args below meth c H locs cells slots Q (F0 m pc ls (.int i :: .ref a :: rest)) :=
  va_iald hexec hb hK.1 (hW.one ha) 0 0 rfl rfl hin hdg kk
theorem g_zald (hexec : p.tables.exec = Jvm.exec) (hb : c.code = cc) (hK : KC E s) (hW : PW E A H0 H locs g) {n : Nat} {f : Nat → Int32} (ha : g a = some (.inl (E.2 1, n, .inl f))) {i : Int32} (hin : vp_in i n) (hdg : decode cc pc = .ok (.baload, 1))
    (kk : W p l e R s m args below meth c H locs cells slots Q (F0 m (pc + 1) ls (.int (f i.toNatClampNeg) :: rest))) : W p l e R s m args below meth c H locs cells slots Q (F0 m pc ls (.int i :: .ref a :: rest)) :=
  va_zald hexec hb hK.1 (hW.one ha) 0 1 rfl rfl hin hdg kk
theorem g_iast (hexec : p.tables.exec = Jvm.exec) (hb : c.code = cc) (hK : KC E s) (hW : PW E A H0 H locs g) {n : Nat} {f : Nat → Int32} (ha : g a = some (.inl (E.2 0, n, .inl f))) {i x : Int32} (hin : vp_in i n) (hdg : decode cc pc = .ok (.iastore, 1))
    (kk : ∀ (H1 : Heap) (locs1 : List Loc), PW E A H0 H1 locs1 (gu g a (.inl (E.2 0, n, .inl (upd f i.toNatClampNeg x)))) → W p l e R s m args below meth c H1 locs1 cells slots Q (F0 m (pc + 1) ls rest)) : W p l e R s m args below meth c H locs cells slots Q (F0 m pc ls (.int x :: .int i :: .ref a :: rest)) := by
  obtain ⟨ws, hP, hD, hw, -⟩ := hW.list
  obtain ⟨q0, hq0⟩ := hw a _ ha
  exact va_iast hexec hb hK.1 hP hD hW.2.1 q0 0 hq0 rfl hin hdg (fun H1 locs1 hP1 _ hS1 => kk H1 locs1 (hW.back hw hq0 ha hP1 hS1))
theorem g_zast (hexec : p.tables.exec = Jvm.exec) (hb : c.code = cc) (hK : KC E s) (hW : PW E A H0 H locs g) {n : Nat} {f : Nat → Int32} (ha : g a = some (.inl (E.2 1, n, .inl f))) {i x : Int32} (hin : vp_in i n) (hdg : decode cc pc = .ok (.bastore, 1))
    (kk : ∀ (H1 : Heap) (locs1 : List Loc), PW E A H0 H1 locs1 (gu g a (.inl (E.2 1, n, .inl (upd f i.toNatClampNeg (vp_nar .boolean x))))) → W p l e R s m args below meth c H1 locs1 cells slots Q (F0 m (pc + 1) ls rest)) : W p l e R s m args below meth c H locs cells slots Q (F0 m pc ls (.int x :: .int i :: .ref a :: rest)) := by
  obtain ⟨ws, hP, hD, hw, -⟩ := hW.list
  obtain ⟨q0, hq0⟩ := hw a _ ha
  exact va_zast hexec hb hK.1 hP hD hW.2.1 q0 1 hq0 rfl hin hdg (fun H1 locs1 hP1 _ hS1 => kk H1 locs1 (hW.back hw hq0 ha hP1 hS1))
theorem g_alen (hexec : p.tables.exec = Jvm.exec) (hb : c.code = cc) (hK : KC E s) (hW : PW E A H0 H locs g) {n : Nat} {f : Nat → Int32} (ha : g a = some (.inl (E.2 0, n, .inl f))) (hdg : decode cc pc = .ok (.arraylength, 1))
    (kk : W p l e R s m args below meth c H locs cells slots Q (F0 m (pc + 1) ls (.int (nI n) :: rest))) : W p l e R s m args below meth c H locs cells slots Q (F0 m pc ls (.ref a :: rest)) :=
  va_alen (tys := tys4 E) hexec hb hK.1 (hW.one ha) 0 0 rfl rfl rfl hdg kk
theorem g_aldM (hexec : p.tables.exec = Jvm.exec) (hb : c.code = cc) (hK : KC E s) (hW : PW E A H0 H locs g) {n : Nat} {f : Nat → Option Nat} (ha : g a = some (.inl (E.2 2, n, .inr (.inr (.inr (.inr f)))))) {i : Int32} (hin : vp_in i n) (hdg : decode cc pc = .ok (.aaload, 1))
    (kk : W p l e R s m args below meth c H locs cells slots Q (F0 m (pc + 1) ls (va_rf (f i.toNatClampNeg) :: rest))) : W p l e R s m args below meth c H locs cells slots Q (F0 m pc ls (.int i :: .ref a :: rest)) :=
  va_aldq hexec hb hK.1 (hW.one ha) 0 2 rfl rfl hin hdg kk
theorem g_aldC (hexec : p.tables.exec = Jvm.exec) (hb : c.code = cc) (hK : KC E s) (hW : PW E A H0 H locs g) {n : Nat} {f : Nat → Option Nat} (ha : g a = some (.inl (E.2 3, n, .inr (.inr (.inr (.inr f)))))) {i : Int32} (hin : vp_in i n) (hdg : decode cc pc = .ok (.aaload, 1))
    (kk : W p l e R s m args below meth c H locs cells slots Q (F0 m (pc + 1) ls (va_rf (f i.toNatClampNeg) :: rest))) : W p l e R s m args below meth c H locs cells slots Q (F0 m pc ls (.int i :: .ref a :: rest)) :=
  va_aldq hexec hb hK.1 (hW.one ha) 0 3 rfl rfl hin hdg kk
theorem g_astM (hexec : p.tables.exec = Jvm.exec) (hb : c.code = cc) (hK : KC E s) (hW : PW E A H0 H locs g) {n v : Nat} {f : Nat → Option Nat} {vs : List Value} (ha : g a = some (.inl (E.2 2, n, .inr (.inr (.inr (.inr f)))))) (hv : g v = some (.inr (1, vs))) {i : Int32} (hin : vp_in i n) (hdg : decode cc pc = .ok (.aastore, 1))
    (kk : ∀ (H1 : Heap) (locs1 : List Loc), PW E A H0 H1 locs1 (gu g a (.inl (E.2 2, n, .inr (.inr (.inr (.inr (va_up f i.toNatClampNeg (some v)))))))) → W p l e R s m args below meth c H1 locs1 cells slots Q (F0 m (pc + 1) ls rest)) : W p l e R s m args below meth c H locs cells slots Q (F0 m pc ls (.ref v :: .int i :: .ref a :: rest)) := by
  obtain ⟨ws, hP, hD, hw, -⟩ := hW.list
  obtain ⟨q0, hq0⟩ := hw a _ ha
  obtain ⟨qk, hqk⟩ := hw v _ hv
  exact va_astq (r := (RX1, TX1, 6)) hexec hb hK.1 hP hD hW.2.1 q0 2 qk 1 hq0 rfl hqk rfl hin hdg (fun H1 locs1 hP1 _ hS1 => kk H1 locs1 (hW.back hw hq0 ha hP1 hS1))
theorem g_astC (hexec : p.tables.exec = Jvm.exec) (hb : c.code = cc) (hK : KC E s) (hW : PW E A H0 H locs g) {n v : Nat} {f : Nat → Option Nat} {vs : List Value} (ha : g a = some (.inl (E.2 3, n, .inr (.inr (.inr (.inr f)))))) (hv : g v = some (.inr (0, vs))) {i : Int32} (hin : vp_in i n) (hdg : decode cc pc = .ok (.aastore, 1))
    (kk : ∀ (H1 : Heap) (locs1 : List Loc), PW E A H0 H1 locs1 (gu g a (.inl (E.2 3, n, .inr (.inr (.inr (.inr (va_up f i.toNatClampNeg (some v)))))))) → W p l e R s m args below meth c H1 locs1 cells slots Q (F0 m (pc + 1) ls rest)) : W p l e R s m args below meth c H locs cells slots Q (F0 m pc ls (.ref v :: .int i :: .ref a :: rest)) := by
  obtain ⟨ws, hP, hD, hw, -⟩ := hW.list
  obtain ⟨q0, hq0⟩ := hw a _ ha
  obtain ⟨qk, hqk⟩ := hw v _ hv
  exact va_astq (r := (RX0, TX0, 12)) hexec hb hK.1 hP hD hW.2.1 q0 3 qk 0 hq0 rfl hqk rfl hin hdg (fun H1 locs1 hP1 _ hS1 => kk H1 locs1 (hW.back hw hq0 ha hP1 hS1))
theorem g_newI (hexec : p.tables.exec = Jvm.exec) (hb : c.code = cc) (harr : (Cond.arrayClass .int).before args s = true) (hK : KC E s) (hW : PW E A H0 H locs g) {n : Int32} {N' : Nat} (hn : ¬ n < 0) (hN : n.toNatClampNeg = N') (hbytes : N' ≤ 1000000) (hcells : cells + 1 ≤ R.cells) (hslots : slots + N' ≤ R.slots) (hdg : decode cc pc = .ok (.newarray .int, 2))
    (kk : ∀ (q : Nat) (H1 : Heap), g q = none → PW E A H0 H1 locs (gu g q (.inl (E.2 0, N', .inl (fun _ => 0)))) → W p l e R s m args below meth c H1 locs (cells + 1) (slots + N') Q (F0 m (pc + 2) ls (.ref q :: rest))) : W p l e R s m args below meth c H locs cells slots Q (F0 m pc ls (.int n :: rest)) := by
  obtain ⟨ws, hP, hD, hw, -⟩ := hW.list
  refine va_newa (a0 := (N', .inl (fun _ => 0))) (ty := .int) hexec hb (atype := .int) harr rfl hK.1 hP hD hW.2.1 hW.2.2 (fun cA => rfl) hn hN (by simp [componentBytes]; omega) hcells hslots hdg (fun q cA H1 hK1 hP1 hD1 hS1 => ?_)
  have e1 : cA = E.2 0 := Option.some.inj ((show s.vm.findClass ("[" ++ (FieldType.int).toString) = some cA from (hK1.2 4 (cA, .int) rfl).2).symm.trans (show s.vm.findClass ("[" ++ (FieldType.int).toString) = some (E.2 0) from (hK.1.2 0 (E.2 0, .int) rfl).2))
  subst e1
  obtain ⟨h1, h2⟩ := hW.push hw hP1 hD1 hS1
  exact kk q H1 h1 h2
theorem g_newZ (hexec : p.tables.exec = Jvm.exec) (hb : c.code = cc) (harr : (Cond.arrayClass .boolean).before args s = true) (hK : KC E s) (hW : PW E A H0 H locs g) {n : Int32} {N' : Nat} (hn : ¬ n < 0) (hN : n.toNatClampNeg = N') (hbytes : N' ≤ 1000000) (hcells : cells + 1 ≤ R.cells) (hslots : slots + N' ≤ R.slots) (hdg : decode cc pc = .ok (.newarray .boolean, 2))
    (kk : ∀ (q : Nat) (H1 : Heap), g q = none → PW E A H0 H1 locs (gu g q (.inl (E.2 1, N', .inl (fun _ => 0)))) → W p l e R s m args below meth c H1 locs (cells + 1) (slots + N') Q (F0 m (pc + 2) ls (.ref q :: rest))) : W p l e R s m args below meth c H locs cells slots Q (F0 m pc ls (.int n :: rest)) := by
  obtain ⟨ws, hP, hD, hw, -⟩ := hW.list
  refine va_newa (a0 := (N', .inl (fun _ => 0))) (ty := .boolean) hexec hb (atype := .boolean) harr rfl hK.1 hP hD hW.2.1 hW.2.2 (fun cA => rfl) hn hN (by simp [componentBytes]; omega) hcells hslots hdg (fun q cA H1 hK1 hP1 hD1 hS1 => ?_)
  have e1 : cA = E.2 1 := Option.some.inj ((show s.vm.findClass ("[" ++ (FieldType.boolean).toString) = some cA from (hK1.2 4 (cA, .boolean) rfl).2).symm.trans (show s.vm.findClass ("[" ++ (FieldType.boolean).toString) = some (E.2 1) from (hK.1.2 1 (E.2 1, .boolean) rfl).2))
  subst e1
  obtain ⟨h1, h2⟩ := hW.push hw hP1 hD1 hS1
  exact kk q H1 h1 h2
theorem g_newM (hexec : p.tables.exec = Jvm.exec) (hb : c.code = cc) {own : String} {index : Nat} (hown : s.vm.findClass own = some m.cls) (hclink : (Cond.classLink own index RX1).before args s = true) (hK : KC E s) (hW : PW E A H0 H locs g) {n : Int32} {N' : Nat} (hn : ¬ n < 0) (hN : n.toNatClampNeg = N') (hbytes : N' ≤ 1000000) (hcells : cells + 1 ≤ R.cells) (hslots : slots + N' ≤ R.slots) (hdg : decode cc pc = .ok (.anewarray index, 3))
    (kk : ∀ (q : Nat) (H1 : Heap), g q = none → PW E A H0 H1 locs (gu g q (.inl (E.2 2, N', .inr (.inr (.inr (.inr (fun _ => none))))))) → W p l e R s m args below meth c H1 locs (cells + 1) (slots + N') Q (F0 m (pc + 3) ls (.ref q :: rest))) : W p l e R s m args below meth c H locs cells slots Q (F0 m pc ls (.int n :: rest)) := by
  obtain ⟨ws, hP, hD, hw, -⟩ := hW.list
  refine va_newq hexec hb hown hclink hK.2.2.2.2.1 hK.1 hP hD hW.2.1 hW.2.2 hn hN (by omega) hcells hslots hdg (fun q cA H1 hK1 hP1 hD1 hS1 => ?_)
  obtain ⟨kA, cp, -, -, -, f1⟩ := (hK1.2 4 (cA, .object RX1) rfl).2
  obtain ⟨kA2, cp2, -, -, -, f2⟩ := (hK.1.2 2 (E.2 2, .object RX1) rfl).2
  have e1 : cA = E.2 2 := Option.some.inj (f1.symm.trans f2)
  subst e1
  obtain ⟨h1, h2⟩ := hW.push hw hP1 hD1 hS1
  exact kk q H1 h1 h2
theorem g_newC (hexec : p.tables.exec = Jvm.exec) (hb : c.code = cc) {own : String} {index : Nat} (hown : s.vm.findClass own = some m.cls) (hclink : (Cond.classLink own index RX0).before args s = true) (hK : KC E s) (hW : PW E A H0 H locs g) {n : Int32} {N' : Nat} (hn : ¬ n < 0) (hN : n.toNatClampNeg = N') (hbytes : N' ≤ 1000000) (hcells : cells + 1 ≤ R.cells) (hslots : slots + N' ≤ R.slots) (hdg : decode cc pc = .ok (.anewarray index, 3))
    (kk : ∀ (q : Nat) (H1 : Heap), g q = none → PW E A H0 H1 locs (gu g q (.inl (E.2 3, N', .inr (.inr (.inr (.inr (fun _ => none))))))) → W p l e R s m args below meth c H1 locs (cells + 1) (slots + N') Q (F0 m (pc + 3) ls (.ref q :: rest))) : W p l e R s m args below meth c H locs cells slots Q (F0 m pc ls (.int n :: rest)) := by
  obtain ⟨ws, hP, hD, hw, -⟩ := hW.list
  refine va_newq hexec hb hown hclink hK.2.2.2.2.2 hK.1 hP hD hW.2.1 hW.2.2 hn hN (by omega) hcells hslots hdg (fun q cA H1 hK1 hP1 hD1 hS1 => ?_)
  obtain ⟨kA, cp, -, -, -, f1⟩ := (hK1.2 4 (cA, .object RX0) rfl).2
  obtain ⟨kA2, cp2, -, -, -, f2⟩ := (hK.1.2 3 (E.2 3, .object RX0) rfl).2
  have e1 : cA = E.2 3 := Option.some.inj (f1.symm.trans f2)
  subst e1
  obtain ⟨h1, h2⟩ := hW.push hw hP1 hD1 hS1
  exact kk q H1 h1 h2
theorem g_new {c0 : Code} (hexec : p.tables.exec = Jvm.exec) (hb : c0.code = cc) {own C : String} {T : u_T} {N ci index : Nat} (hts : ∀ w ∈ wsL_law, w.before args s = true) (hin : ∀ w ∈ u_ws C T N, w ∈ wsL_law) (hc : vwCl[ci]? = some (C, T, N)) (ty : Nat → FieldType) (hty : ∀ k, k < N → parseFieldDescriptor (T k).2.2.1 = some (ty k)) (hown : s.vm.findClass own = some m.cls) (hcl : Cond.classLink own index C ∈ wsL_law) (hinst : Cond.instantiable C N ∈ wsL_law) (hini : Cond.initialized C ∈ wsL_law)
    (hK : KC E s) (hW : PW E A H0 H locs g) {fs : List Value} (hfs : ∀ j, j < N → defaultValue (ty j) = vp_V fs j) (hcells : cells + 1 ≤ R.cells) (hslots : slots + N ≤ R.slots) (hdg : decode cc pc = .ok (.new index, 3))
    (kk : ∀ (q : Nat) (H1 : Heap), g q = none → PW E A H0 H1 locs (gu g q (.inr (ci, fs))) → W p l e R s m args below meth c0 H1 locs (cells + 1) (slots + N) Q (F0 m (pc + 3) ls (.ref q :: rest))) : W p l e R s m args below meth c0 H locs cells slots Q (F0 m pc ls rest) := by
  obtain ⟨ws, hP, hD, hw, -⟩ := hW.list
  exact va_new hexec hb hts hin ty hty hown (hts _ hcl) (hts _ hinst) (hts _ hini) hK.1 hP hD hW.2.1 hW.2.2 hc hfs hcells hslots hdg (fun q H1 hP1 hD1 hS1 => kk q H1 (hW.push hw hP1 hD1 hS1).1 (hW.push hw hP1 hD1 hS1).2)
end GR
