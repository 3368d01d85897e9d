theorem gi_law {ws : List Cond} (h : ∀ w ∈ ws, w ∈ wsL_law) : GoodIn wsL_law ws := fun w hw => ⟨h w hw, wsL_good w (h w hw)⟩
theorem gi_code {y : MethodName} {cc : ByteArray} {n : Nat} {ret : Option FieldType} (h : Cond.code y cc n ret ∈ wsL_law) : ∀ w ∈ (Cond.code y cc n ret :: wsL_law), w ∈ wsL_law := fun w hw => (List.mem_cons.mp hw).elim (fun e => e ▸ h) id
theorem pc_blind (E : gE) (g : gm) (sz : Nat) (av : List Value) : FrameBlind (va_Pc av (PC E g sz)) := fun a U g' mk h => ⟨h.1, h.2.1, h.2.2.1, KC.same (s := U) rfl h.2.2.2⟩
section CR
variable {p : Program} {l : Launch} {e : Env} {R : Room} {s : State} {m : MethodId} {args : Array Value} {below : List Frame} {meth : Method} {c : Code} {H : Heap} {locs : List Loc} {cells slots : Nat} {Q : State → Prop}
variable {cc : ByteArray} {pc nL : Nat} {ls : Array Slot} {rest st0 : List Value} {E : gE} {A : Nat → Prop} {H0 : Heap} {g : gm} {post : Option Value → gm → Prop}
/-- behind a call: the callee's world, and every world apart from it -/
def KT (E : gE) (A : Nat → Prop) (H0 H H1 : Heap) (locs locs1 : List Loc) (g g' : gm) : Prop := ∀ gf : gm, PW E A H0 H locs gf → (∀ a, (gf a).isSome = true → g a = none) → PW E A H0 H1 locs1 gf ∧ ∀ a, (gf a).isSome = true → g' a = none
theorem c_run {mc ms : Nat} {a0 : Array Value} (hr : va_Run p l e R s m args below meth c H locs cells slots mc ms (F0 m pc ls st0) rest (QC E g H.size post a0) (fr g H.size)) (hW : PW E A H0 H locs g)
    (kk : ∀ (v : Option Value) (g' : gm) (H1 : Heap) (locs1 : List Loc), post v g' → PW E A H0 H1 locs1 g' → KT E A H0 H H1 locs locs1 g g' → W p l e R s m args below meth c H1 locs1 (cells + mc) (slots + ms) Q (F0 m (pc + 3) ls (v.toList ++ rest))) : W p l e R s m args below meth c H locs cells slots Q (F0 m pc ls st0) := by
  intro T hT X
  obtain ⟨v, st₀, t, T', L, h0, X', hL, e1, e2, ⟨⟨v', g', hv, hp, hc⟩, hz, hk⟩, st⟩ := hr T hT X
  cases hv
  rw [h0] at hz hk
  have hfr : ∀ q, fr g H.size q → A q := fun q h => by
    rcases h with h | h
    · cases hg : g q with
      | none => rw [hg] at h; cases h
      | some e0 => exact (hW.1 q e0 hg).2
    · exact hW.2.2 q (Nat.le_trans hW.2.1.1 h)
  have hS1 : va_S A H0 T'.heap (locs ++ L) := ⟨Nat.le_trans hW.2.1.1 (by rw [e1]; exact hz), fun q h1 h2 => by rw [e1, hk q (Nat.lt_of_lt_of_le h1 hW.2.1.1) (fun z => h2 (hfr q z))]; exact hW.2.1.2.1 q h1 h2, fun q hq => by
      rcases List.mem_append.mp hq with h | h
      · exact hW.2.1.2.2 q h
      · exact hfr _ (hL q h)⟩
  obtain ⟨t2, a1, b1⟩ := kk v g' T'.heap (locs ++ L) hp ⟨fun a e h => ⟨by rw [e1]; exact (hc a e h).1, hfr a (hc a e h).2⟩, hS1, hW.2.2⟩ (fun gf hF hdis => by
    have hap : ∀ a e, gf a = some e → a < H.size ∧ ¬ fr g H.size a := fun a e h => by
      have hl := hF.lt h
      refine ⟨hl, fun q => ?_⟩
      rcases q with q | q
      · rw [hdis a (by rw [h]; rfl)] at q; cases q
      · omega
    refine ⟨⟨fun a e h => ⟨(hF.1 a e h).1.kept (by rw [e1]; exact hk a (hap a e h).1 (hap a e h).2), (hF.1 a e h).2⟩, hS1, hW.2.2⟩, fun a h => ?_⟩
    cases hg : g' a with
    | none => rfl
    | some e0 =>
      cases hf : gf a with
      | none => rw [hf] at h; cases h
      | some e2 => exact absurd (hc a e0 hg).2 (hap a e2 hf).2) T' rfl X'
  exact ⟨t2, st t2 a1, b1⟩
theorem c_virt {y : MethodName} {bytes : ByteArray} {maxL index : Nat} {ret : Option FieldType} {rm : Room} {own : String} {b : Nat} {As : List Value} (hx : p.tables.exec = Jvm.exec) (hb : c.code = cc) (hml : c.maxLocals = nL) (hown : s.vm.findClass own = some m.cls) (hts : ∀ w ∈ wsL_law, w.before args s = true) (hK : KC E s) (hW : PW E A H0 H locs g)
    (hM : CM l y bytes maxL ret rm E (.ref b :: As) g post) (h1 : Cond.methodLink own index y ∈ wsL_law) (h2 : Cond.instanceMethod y ∈ wsL_law) (h3 : Cond.selects y.cls y y ∈ wsL_law) (h4 : Cond.initialized y.cls ∈ wsL_law) (h5 : Cond.code y bytes maxL ret ∈ wsL_law)
    (n : Nat) (hd : y.cls ≠ "java/lang/invoke/MethodHandle" ∧ y.cls ≠ "java/lang/invoke/VarHandle" ∧ (parseMethodDescriptor y.desc).map (fun d => d.parameters.length) = some n) (hR : rm.frames + 1 ≤ R.frames ∧ 8 + (maxL + 11) + rm.locals ≤ R.locals)
    {ci : Nat} {fs : List Value} {q : vw_C} (he : g b = some (.inr (ci, fs))) (hc : vwCl[ci]? = some q) (hcq : q.1 = y.cls) (hn : As.length = n) (hsize : ls.size = nL) (hstack : st0 = As.reverse ++ .ref b :: rest) (hst : (rest.map fun v => v.category).sum ≤ 8) (hdg : decode cc pc = .ok (.invokevirtual index, 3)) (hf : cells + rm.cells ≤ R.cells ∧ slots + rm.slots ≤ R.slots)
    (kk : ∀ (v : Option Value) (g' : gm) (H1 : Heap) (locs1 : List Loc), post v g' → PW E A H0 H1 locs1 g' → KT E A H0 H H1 locs locs1 g g' → W p l e R s m args below meth c H1 locs1 (cells + rm.cells) (slots + rm.slots) Q (F0 m (pc + 3) ls (v.toList ++ rest))) : W p l e R s m args below meth c H locs cells slots Q (F0 m pc ls st0) := by
  have hG : GoodIn wsL_law (wsV own index y.cls y (Cond.code y bytes maxL ret :: wsL_law)) := gi_law (fun w hw => by
    rcases List.mem_append.mp hw with h | h
    · simp only [List.mem_cons, List.not_mem_nil, or_false] at h
      rcases h with rfl | rfl | rfl | rfl
      · exact h1
      · exact h2
      · exact h3
      · exact h4
    · exact gi_code h5 w h)
  have hrec := va_recv hK.1 (hW.one he) hc (q0 := 0) rfl
  rw [hcq] at hrec
  exact c_run (va_runV (As := As) (rest := rest) (C := y.cls) ⟨hx, hb, hml, hown, hts⟩ (hM H.size) (cwV n hts hG rfl rfl rfl ⟨rfl, hd⟩ hR) ⟨pc_blind E g H.size _, hrec, fun U hU hWm => ⟨rfl, by rw [hU], fun a e h => by rw [hU]; exact (hW.1 a e h).1, hK.warm hWm⟩⟩ rfl hn hsize hstack (lv_room hst) hdg hf) hW kk
theorem c_stat {y : MethodName} {bytes : ByteArray} {maxL index : Nat} {ret : Option FieldType} {rm : Room} {own : String} {As : List Value} (hx : p.tables.exec = Jvm.exec) (hb : c.code = cc) (hml : c.maxLocals = nL) (hown : s.vm.findClass own = some m.cls) (hts : ∀ w ∈ wsL_law, w.before args s = true) (hK : KC E s) (hW : PW E A H0 H locs g)
    (hM : CM l y bytes maxL ret rm E As g post) (h1 : Cond.methodLink own index y ∈ wsL_law) (h2 : Cond.static y ∈ wsL_law) (h4 : Cond.initialized y.cls ∈ wsL_law) (h5 : Cond.code y bytes maxL ret ∈ wsL_law)
    (n : Nat) (hd : y.cls ≠ "java/lang/invoke/MethodHandle" ∧ y.cls ≠ "java/lang/invoke/VarHandle" ∧ (parseMethodDescriptor y.desc).map (fun d => d.parameters.length) = some n) (hR : rm.frames + 1 ≤ R.frames ∧ 8 + (maxL + 11) + rm.locals ≤ R.locals)
    (hn : As.length = n) (hsize : ls.size = nL) (hstack : st0 = As.reverse ++ rest) (hst : (rest.map fun v => v.category).sum ≤ 8) (hdg : decode cc pc = .ok (.invokestatic index, 3)) (hf : cells + rm.cells ≤ R.cells ∧ slots + rm.slots ≤ R.slots)
    (kk : ∀ (v : Option Value) (g' : gm) (H1 : Heap) (locs1 : List Loc), post v g' → PW E A H0 H1 locs1 g' → KT E A H0 H H1 locs locs1 g g' → W p l e R s m args below meth c H1 locs1 (cells + rm.cells) (slots + rm.slots) Q (F0 m (pc + 3) ls (v.toList ++ rest))) : W p l e R s m args below meth c H locs cells slots Q (F0 m pc ls st0) := by
  have hG : GoodIn wsL_law (va_wsS own index y (Cond.code y bytes maxL ret :: wsL_law)) := gi_law (fun w hw => by
    rcases List.mem_append.mp hw with h | h
    · simp only [List.mem_cons, List.not_mem_nil, or_false] at h
      rcases h with rfl | rfl | rfl
      · exact h1
      · exact h2
      · exact h4
    · exact gi_code h5 w h)
  exact c_run (va_runS (As := As) (rest := rest) ⟨hx, hb, hml, hown, hts⟩ (hM H.size) (va_cwS n hts hG rfl rfl rfl hd hR) ⟨pc_blind E g H.size _, fun U hU hWm => ⟨rfl, by rw [hU], fun a e h => by rw [hU]; exact (hW.1 a e h).1, hK.warm hWm⟩⟩ rfl hn hsize hstack (lv_room hst) hdg hf) hW kk
theorem c_statN {y : MethodName} {bytes : ByteArray} {maxL index : Nat} {ret : Option FieldType} {rm : Room} {own host : String} {As : List Value} (hx : p.tables.exec = Jvm.exec) (hb : c.code = cc) (hml : c.maxLocals = nL) (hown : s.vm.findClass own = some m.cls) (hts : ∀ w ∈ wsL_law, w.before args s = true) (hK : KC E s) (hW : PW E A H0 H locs g)
    (hM : CM l y bytes maxL ret rm E As g post) (h1 : va_Nw (.methodLinkNest own index y host) s) (h2 : Cond.static y ∈ wsL_law) (h4 : Cond.initialized y.cls ∈ wsL_law) (h5 : Cond.code y bytes maxL ret ∈ wsL_law)
    (n : Nat) (hd : y.cls ≠ "java/lang/invoke/MethodHandle" ∧ y.cls ≠ "java/lang/invoke/VarHandle" ∧ (parseMethodDescriptor y.desc).map (fun d => d.parameters.length) = some n) (hR : rm.frames + 1 ≤ R.frames ∧ 8 + (maxL + 11) + rm.locals ≤ R.locals)
    (hn : As.length = n) (hsize : ls.size = nL) (hstack : st0 = As.reverse ++ rest) (hst : (rest.map fun v => v.category).sum ≤ 8) (hdg : decode cc pc = .ok (.invokestatic index, 3)) (hf : cells + rm.cells ≤ R.cells ∧ slots + rm.slots ≤ R.slots)
    (kk : ∀ (v : Option Value) (g' : gm) (H1 : Heap) (locs1 : List Loc), post v g' → PW E A H0 H1 locs1 g' → KT E A H0 H H1 locs locs1 g g' → W p l e R s m args below meth c H1 locs1 (cells + rm.cells) (slots + rm.slots) Q (F0 m (pc + 3) ls (v.toList ++ rest))) : W p l e R s m args below meth c H locs cells slots Q (F0 m pc ls st0) :=
  c_run (va_runSN (As := As) (rest := rest) ⟨hx, hb, hml, hown, hts⟩ (hM H.size) ⟨va_cnB n hts (gi_law (gi_code h5)) rfl rfl rfl h1 (hts _ h4) hd hR, hts _ h2, trivial⟩ ⟨pc_blind E g H.size _, fun U hU hWm => ⟨rfl, by rw [hU], fun a e h => by rw [hU]; exact (hW.1 a e h).1, hK.warm hWm⟩⟩ rfl hn hsize hstack (lv_room hst) hdg hf) hW kk
theorem c_init {y : MethodName} {bytes : ByteArray} {maxL index : Nat} {rm : Room} {own : String} {b : Nat} {As : List Value} (hx : p.tables.exec = Jvm.exec) (hb : c.code = cc) (hml : c.maxLocals = nL) (hown : s.vm.findClass own = some m.cls) (hts : ∀ w ∈ wsL_law, w.before args s = true) (hK : KC E s) (hW : PW E A H0 H locs g)
    (hM : CM l y bytes maxL none rm E (.ref b :: As) g post) (h1 : Cond.methodLink own index y ∈ wsL_law) (h2 : Cond.instanceMethod y ∈ wsL_law) (h4 : Cond.initialized y.cls ∈ wsL_law) (h5 : Cond.code y bytes maxL none ∈ wsL_law) (hy1 : y.name = "<init>")
    (n : Nat) (hd : y.cls ≠ "java/lang/invoke/MethodHandle" ∧ y.cls ≠ "java/lang/invoke/VarHandle" ∧ (parseMethodDescriptor y.desc).map (fun d => d.parameters.length) = some n) (hR : rm.frames + 1 ≤ R.frames ∧ 8 + (maxL + 11) + rm.locals ≤ R.locals)
    (hn : As.length = n) (hsize : ls.size = nL) (hstack : st0 = As.reverse ++ .ref b :: rest) (hst : (rest.map fun v => v.category).sum ≤ 8) (hdg : decode cc pc = .ok (.invokespecial index, 3)) (hf : cells + rm.cells ≤ R.cells ∧ slots + rm.slots ≤ R.slots)
    (kk : ∀ (v : Option Value) (g' : gm) (H1 : Heap) (locs1 : List Loc), post v g' → PW E A H0 H1 locs1 g' → KT E A H0 H H1 locs locs1 g g' → W p l e R s m args below meth c H1 locs1 (cells + rm.cells) (slots + rm.slots) Q (F0 m (pc + 3) ls (v.toList ++ rest))) : W p l e R s m args below meth c H locs cells slots Q (F0 m pc ls st0) :=
  c_run (va_runI (As := As) (rest := rest) ⟨hx, hb, hml, hown, hts⟩ (hM H.size) (cwI n hts (gi_law (gi_code h5)) rfl rfl rfl (hts _ h4) (hts _ h1) (hts _ h2) hy1 hd hR) ⟨pc_blind E g H.size _, fun U hU hWm => ⟨rfl, by rw [hU], fun a e h => by rw [hU]; exact (hW.1 a e h).1, hK.warm hWm⟩⟩ rfl hn hsize hstack (lv_room hst) hdg hf) hW kk
theorem r_int {v : Int32} {mc ms : Nat} {g0 : gm} (hx : p.tables.exec = Jvm.exec) (hb : c.code = cc) (hr : meth.sig.returnType = some .int) (hlk : meth.locks = false) (hW : PW E (fr g0 s.heap.size) s.heap H locs g) (hq : post (some (.int v)) g) (hmc : cells ≤ mc) (hms : slots ≤ ms) (hdg : decode cc pc = .ok (.ireturn, 1)) : W p l e R s m args below meth c H locs cells slots (MQ below (QC E g0 s.heap.size post) args s mc ms (fr g0 s.heap.size)) (F0 m pc ls [.int v]) :=
  W.widen hmc hms (W.iret hx hb hr (fun t ht _ => ⟨⟨_, g, rfl, hq, fun a e h => by rw [ht]; exact hW.1 a e h⟩, hW.2.1.F ht⟩) hW.2.1.2.2 hdg hlk)
theorem r_bool {v : Int32} {mc ms : Nat} {g0 : gm} (hx : p.tables.exec = Jvm.exec) (hb : c.code = cc) (hr : meth.sig.returnType = some .boolean) (hlk : meth.locks = false) (hW : PW E (fr g0 s.heap.size) s.heap H locs g) (hn : narrow .boolean (.int v) = .int v) (hq : post (some (.int v)) g) (hmc : cells ≤ mc) (hms : slots ≤ ms) (hdg : decode cc pc = .ok (.ireturn, 1)) : W p l e R s m args below meth c H locs cells slots (MQ below (QC E g0 s.heap.size post) args s mc ms (fr g0 s.heap.size)) (F0 m pc ls [.int v]) :=
  W.widen hmc hms (W.zret hx hb hr hn (fun t ht _ => ⟨⟨_, g, rfl, hq, fun a e h => by rw [ht]; exact hW.1 a e h⟩, hW.2.1.F ht⟩) hW.2.1.2.2 hdg hlk)
theorem r_void {mc ms : Nat} {g0 : gm} (hx : p.tables.exec = Jvm.exec) (hb : c.code = cc) (hr : meth.sig.returnType = none) (hlk : meth.locks = false) (hW : PW E (fr g0 s.heap.size) s.heap H locs g) (hq : post none g) (hmc : cells ≤ mc) (hms : slots ≤ ms) (hdg : decode cc pc = .ok (.return_, 1)) : W p l e R s m args below meth c H locs cells slots (MQ below (QC E g0 s.heap.size post) args s mc ms (fr g0 s.heap.size)) (F0 m pc ls []) :=
  W.widen hmc hms (W.vret hx hb hr (fun t ht _ => ⟨⟨_, g, rfl, hq, fun a e h => by rw [ht]; exact hW.1 a e h⟩, hW.2.1.F ht⟩) hW.2.1.2.2 hdg hlk)
theorem r_ref {v : Option Nat} {mc ms : Nat} {g0 : gm} {C : String} (hx : p.tables.exec = Jvm.exec) (hb : c.code = cc) (hr : meth.sig.returnType = some (.object C)) (hlk : meth.locks = false) (hW : PW E (fr g0 s.heap.size) s.heap H locs g) (hq : post (some (va_rf v)) g) (hmc : cells ≤ mc) (hms : slots ≤ ms) (hdg : decode cc pc = .ok (.areturn, 1)) : W p l e R s m args below meth c H locs cells slots (MQ below (QC E g0 s.heap.size post) args s mc ms (fr g0 s.heap.size)) (F0 m pc ls [va_rf v]) :=
  W.widen hmc hms (W.aret hx hb hr (Or.inl ⟨_, rfl⟩) (va_rf_or v) (fun t ht _ => ⟨⟨_, g, rfl, hq, fun a e h => by rw [ht]; exact hW.1 a e h⟩, hW.2.1.F ht⟩) hW.2.1.2.2 hdg hlk)
end CR
/-! bits -/
def bI (b : Bool) : Int32 := if b then 1 else 0
theorem bI_eq0 (b : Bool) : bI b = 0 ↔ b = false := by cases b <;> decide
theorem bI_eq1 (b : Bool) : bI b = 1 ↔ b = true := by cases b <;> decide
theorem bI_t : bI true = 1 := rfl
theorem bI_f : bI false = 0 := rfl
theorem nb_bI (b : Bool) : narrow .boolean (.int (bI b)) = .int (bI b) := by cases b <;> decide
theorem nr_bI (b : Bool) : vp_nar .boolean (bI b) = bI b := by cases b <;> decide
