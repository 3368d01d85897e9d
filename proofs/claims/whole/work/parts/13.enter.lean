def fillN (r : sg) (i : Nat) (v : Int32) : Nat → sg
  | 0 => r
  | n + 1 => s2 (fillN r i v n) 4 (8 * i + n) v
theorem fillN_a (r : sg) (i : Nat) (v : Int32) (n f j : Nat) : fillN r i v n f j = if f = 4 ∧ 8 * i ≤ j ∧ j < 8 * i + n then v else r f j := by
  induction n with
  | zero => rw [if_neg (by omega)]; rfl
  | succ n ih =>
    simp only [fillN, s2_a, ih]
    by_cases h : f = 4
    · subst h
      by_cases h1 : j = 8 * i + n
      · rw [if_pos ⟨rfl, h1⟩, if_pos (by omega)]
      · rw [if_neg (by omega)]
        by_cases h2 : 8 * i ≤ j ∧ j < 8 * i + n
        · rw [if_pos ⟨rfl, h2⟩, if_pos (by omega)]
        · rw [if_neg (fun q => h2 q.2), if_neg (by omega)]
    · rw [if_neg (fun q => h q.1), if_neg (fun q => h q.1), if_neg (fun q => h q.1)]
def keptF (r : sg) (b d n fl : Int32) : sg := s2 (fillN (s2 (s2 (s2 (s2 r 0 (nm r) b) 1 (nm r) d) 2 (nm r) 0) 3 (nm r) n) (nm r) fl 8) 17 0 (r 17 0 + 1)
def entF (r : sg) (b d n st : Int32) : sg := s2 (keptF r b d n (if figB b d then 0 else -1)) 2 (nm r) st
theorem ne_none {g : gm} {a b : Nat} {e : va_E} (ha : g a = none) (hb : g b = some e) : b ≠ a := fun q => by rw [q, ha] at hb; cases hb
theorem nm_ent {r : sg} {b d n st : Int32} (h0 : ¬ r 17 0 < 0) (h60 : nm r < 60) : nm (entF r b d n st) = nm r + 1 := by
  have e1 : r 17 0 = nI (nm r) := (nI_ix h0).symm
  have e2 : entF r b d n st 17 0 = r 17 0 + 1 := by simp [entF, keptF, s2_a]
  rw [nm, e2, e1, nI_1, ix, nI_clamp (by omega)]
set_option maxHeartbeats 4000000 in
theorem HR.new {E : gE} {x xa xk : Nat} {ma pa ka : Nat → Nat} {z : Bool} {r : sg} {g g' : gm} (h : HR E x xa xk ma pa ka z r g) (hn0 : ¬ r 17 0 < 0) (h60 : nm r < 60) {b d n st : Int32} (hn : ¬ n < 0) (hn8 : ix n ≤ 8) {q0 q : Nat} {f : Nat → Int32}
    (e0 : g' q0 = some (.inr (1, [.int (r 17 0), .int b, .int d, .int (bI (figB b d)), .ref q, .int st]))) (e1 : g' q = some (.inl (E.2 0, ix n, .inl f))) (e2 : ∀ j, j < ix n → f j = if figB b d then 0 else -1) (e3 : g' xa = some (.inl (E.2 2, 60, .inr (.inr (.inr (.inr (va_up (mrw r ma) (ix (r 17 0)) (some q0)))))))) (e4 : g' x = some (.inr (2, [.ref xa, .ref xk, .int (r 17 0 + 1), .int (nsetN r 8), .int (r 17 1), .int (tal z r 2), .int (tal z r 3), .int (tal z r 4), .int (tal z r 5), .int (tal z r 6)])))
    (e5 : ∀ a, a ≠ x → a ≠ xa → a ≠ q0 → a ≠ q → g' a = g a) (f1 : g q0 = none) (f2 : g q = none) : HR E x xa xk (va_up ma (nm r) q0) (va_up pa (nm r) q) ka z (entF r b d n st) g' := by
  have en := nm_ent (b := b) (d := d) (n := n) (st := st) hn0 h60
  obtain ⟨a1, a2, a3, a4, a5, a6, a7⟩ := h
  have eN : r 17 0 = nI (nm r) := (nI_ix hn0).symm
  have r5 : ∀ f, 5 ≤ f → f ≤ 16 → entF r b d n st f = r f := fun f h1 h2 => by
    funext j
    simp [entF, keptF, s2_a, fillN_a, show f ≠ 2 by omega, show f ≠ 17 by omega, show f ≠ 4 by omega, show f ≠ 3 by omega, show f ≠ 1 by omega, show f ≠ 0 by omega]
  have rt : ∀ j, 0 < j → entF r b d n st 17 j = r 17 j := fun j hj => by simp [entF, keptF, s2_a, fillN_a, show j ≠ 0 by omega]
  have r0 : ∀ i, entF r b d n st 0 i = if i = nm r then b else r 0 i := fun i => by simp [entF, keptF, s2_a, fillN_a]
  have r1 : ∀ i, entF r b d n st 1 i = if i = nm r then d else r 1 i := fun i => by simp [entF, keptF, s2_a, fillN_a]
  have r2 : ∀ i, entF r b d n st 2 i = if i = nm r then st else r 2 i := fun i => by
    by_cases hi : i = nm r <;> simp [entF, keptF, s2_a, fillN_a, hi]
  have r3 : ∀ i, entF r b d n st 3 i = if i = nm r then n else r 3 i := fun i => by simp [entF, keptF, s2_a, fillN_a]
  have r4 : ∀ j, entF r b d n st 4 j = if 8 * nm r ≤ j ∧ j < 8 * nm r + 8 then (if figB b d then 0 else -1) else r 4 j := fun j => by simp [entF, keptF, s2_a, fillN_a]
  have r17 : entF r b d n st 17 0 = r 17 0 + 1 := by simp [entF, keptF, s2_a]
  refine ⟨?_, ?_, ?_, fun i hi => ?_, fun k hk hs => ?_, fun i j hi hj hij => ?_, by rw [en]; omega⟩
  · rw [e4]
    have t : ∀ j, 0 < j → tal z (entF r b d n st) j = tal z r j := fun j hj => by simp [tal, rt j hj]
    simp [hfs, r17, t, rt, nset_congr (r5 5 (by decide) (by decide))]
  · rw [e3]
    have : va_up (mrw r ma) (ix (r 17 0)) (some q0) = mrw (entF r b d n st) (va_up ma (nm r) q0) := by
      funext j
      show va_up (mrw r ma) (nm r) (some q0) j = _
      by_cases hj : j = nm r
      · subst hj
        simp [mrw, en, va_up]
      · by_cases h2 : j < nm r
        · simp [mrw, en, va_up, hj, h2, show j < nm r + 1 by omega]
        · simp [mrw, en, va_up, hj, h2, show ¬ j < nm r + 1 by omega]
    rw [this]
  · rw [e5 xk (ne_kd a3 a1 (by simp [kd])) (ne_kd a3 a2 (by simp [kd])) (ne_none f1 a3) (ne_none f2 a3), a3, krw_c (r5 5 (by decide) (by decide))]
  · rw [en] at hi
    by_cases hin : i = nm r
    · subst hin
      rw [r3, if_pos rfl]
      refine ⟨?_, ⟨f, ?_, fun j hj => ?_⟩, hn, hn8⟩
      · simp only [va_up_self, mfl, r0, r1, r2, if_true]
        rw [e0, eN]
      · rw [va_up_self, e1]
      · rw [e2 j hj, r4, if_pos (c := 8 * nm r ≤ 8 * nm r + j ∧ 8 * nm r + j < 8 * nm r + 8) (by omega)]
    · obtain ⟨b1, ⟨f', b2, b3⟩, b4, b5⟩ := a4 i (by omega)
      rw [r3, if_neg hin, va_up_ne _ _ hin, va_up_ne _ _ hin]
      refine ⟨?_, ⟨f', ?_, fun j hj => ?_⟩, b4, b5⟩
      · rw [e5 _ (ne_kd b1 a1 (by simp [kd])) (ne_kd b1 a2 (by simp [kd])) (ne_none f1 b1) (ne_none f2 b1), b1]
        simp [mfl, r0, r1, r2, hin, va_up]
      · rw [e5 _ (ne_kd b2 a1 (by simp [kd])) (ne_kd b2 a2 (by simp [kd])) (ne_none f1 b2) (ne_none f2 b2), b2]
      · rw [b3 j hj, r4, if_neg (by omega)]
  · rw [r5 5 (by decide) (by decide)] at hs
    have b1 := a5 k hk hs
    rw [e5 _ (ne_kd b1 a1 (by simp [kd])) (ne_kd b1 a2 (by simp [kd])) (ne_none f1 b1) (ne_none f2 b1), b1]
    simp [kfl, r5 6 (by decide) (by decide), r5 7 (by decide) (by decide), r5 8 (by decide) (by decide), r5 9 (by decide) (by decide), r5 10 (by decide) (by decide), r5 11 (by decide) (by decide), r5 12 (by decide) (by decide), r5 13 (by decide) (by decide), r5 14 (by decide) (by decide), r5 15 (by decide) (by decide), r5 16 (by decide) (by decide)]
  · rw [en] at hi hj
    have ne : ∀ i, i < nm r → pa i ≠ q := fun i hi e9 => by
      obtain ⟨-, ⟨f', b2, -⟩, -, -⟩ := a4 i hi
      rw [e9, f2] at b2
      cases b2
    by_cases h1 : i = nm r
    · by_cases h2 : j = nm r
      · rw [h1, h2]
      · rw [h1, va_up_self, va_up_ne _ _ h2] at hij
        exact absurd hij.symm (ne j (by omega))
    · by_cases h2 : j = nm r
      · rw [h2, va_up_self, va_up_ne _ _ h1] at hij
        exact absurd hij (ne i (by omega))
      · rw [va_up_ne _ _ h1, va_up_ne _ _ h2] at hij
        exact a6 i j (by omega) (by omega) hij

def enterI (r : sg) (n : Int32) : Int32 := if r 17 0 < 60 then (if n < 0 then -6 else r 17 0) else -3

set_option maxHeartbeats 4000000 in
set_option maxRecDepth 100000 in
theorem k_X2_enter (l : Launch) {E : gE} {x xa xk : Nat} {ma pa ka : Nat → Nat} {z : Bool} {r : sg} {g : gm} (hR : HR E x xa xk ma pa ka z r g) (hn0 : ¬ r 17 0 < 0) (b d : Int32) {n : Int32} (hn8 : ix n ≤ 8) (st : Int32) : CM l yX2_enter cX2_enter 6 (some .int) ({ frames := 3, cells := 2, slots := 14, locals := 100 }) E [.ref (x), .int (b), .int (d), .int (n), .int (st)] g (fun vv g' => vv = some (.int (enterI r n)) ∧ if r 17 0 < 60 ∧ ¬ n < 0 then ∃ ma' pa', HR E x xa xk ma' pa' ka z (entF r b d n st) g' else ∃ ma' pa', HR E x xa xk ma' pa' ka z r g') := by
  refine CM.of (by decide) (Nat.le_of_ble_eq_true rfl) ?_
  intro p e s m below meth c ls hM hK hW hl
  obtain ⟨hx, hb, hr, hml, hown, hts, hlk, hnm⟩ := hM
  have hown : s.vm.findClass RX2 = some m.cls := hown
  have hl : lv_has ls 6 [(0, .ref (x)), (1, .int (b)), (2, .int (d)), (3, .int (n)), (4, .int (st))] := hl
  refine lv_aload_n hx hb dX2_enter_0 rfl (lv_at hl 0 rfl) ?_
  refine g_get hx hb hts inlX2 rfl hown hK hW hR.1 2 (by decide) fl_RX2_130 (v := .int (r 17 0)) rfl dX2_enter_1 ?_
  refine lv_bipush (v := 60) hx hb dX2_enter_4 (by decide) ?_
  refine lv_icmp_lt (tgt := 12) hx hb dX2_enter_6 (by decide) (fun c_146 => ?_) (fun c_146 => ?_)
  · skip
    refine lv_iload_n hx hb dX2_enter_12 rfl (lv_at hl 3 rfl) ?_
    refine lv_if_ge (tgt := 19) hx hb dX2_enter_13 (by decide) (fun c_147 => ?_) (fun c_147 => ?_)
    · skip
      have c_147 := Int32.not_lt.mpr c_147
      refine g_new (ci := 1) (fs := [.int 0, .int 0, .int 0, .int 0, .null, .int 0]) hx hb hts inlX1 rfl tyX1 tyX1_ok hown cl_RX2_9 ia_RX1 in_RX1 hK hW (fun j hj => by rcases (show j = 0 ∨ j = 1 ∨ j = 2 ∨ j = 3 ∨ j = 4 ∨ j = 5 by omega) with rfl | rfl | rfl | rfl | rfl | rfl <;> rfl) (Nat.le_of_ble_eq_true rfl) (Nat.le_of_ble_eq_true rfl) dX2_enter_19 (fun q0 H1 f1 hW => ?_)
      obtain ⟨g_148, ge_149⟩ : ∃ zz, zz = gu g q0 (.inr (1, [.int (0), .int (0), .int (0), .int (0), .null, .int (0)])) := ⟨_, rfl⟩
      have hW : PW E (fr g s.heap.size) s.heap H1 [] g_148 := by rw [ge_149]; exact hW
      have h_151 : g_148 x = some (.inr (2, [.ref (xa), .ref (xk), .int (r 17 0), .int (nsetN r 8), .int (r 17 1), .int (tal z r 2), .int (tal z r 3), .int (tal z r 4), .int (tal z r 5), .int (tal z r 6)])) := ((congrFun ge_149 _).trans (gu_n _ _ (ne_none f1 hR.1))).trans hR.1
      have h_152 : g_148 xa = some (.inl (E.2 2, 60, .inr (.inr (.inr (.inr (mrw r ma)))))) := ((congrFun ge_149 _).trans (gu_n _ _ (ne_none f1 hR.2.1))).trans hR.2.1
      have h_153 : g_148 xk = some (.inl (E.2 3, 8, .inr (.inr (.inr (.inr (krw r ka)))))) := ((congrFun ge_149 _).trans (gu_n _ _ (ne_none f1 hR.2.2.1))).trans hR.2.2.1
      have h_150 : g_148 q0 = some (.inr (1, [.int (0), .int (0), .int (0), .int (0), .null, .int (0)])) := (congrFun ge_149 _).trans (gu_s _ _ _)
      refine lv_dup hx hb dX2_enter_22 rfl ?_
      refine lv_aload_n hx hb dX2_enter_23 rfl (lv_at hl 0 rfl) ?_
      refine g_get hx hb hts inlX2 rfl hown hK hW h_151 2 (by decide) fl_RX2_130 (v := .int (r 17 0)) rfl dX2_enter_24 ?_
      refine lv_iload_n hx hb dX2_enter_27 rfl (lv_at hl 1 rfl) ?_
      refine lv_iload_n hx hb dX2_enter_28 rfl (lv_at hl 2 rfl) ?_
      refine lv_iload_n hx hb dX2_enter_29 rfl (lv_at hl 3 rfl) ?_
      refine c_init (own := RX2) (As := [.int (r 17 0), .int (b), .int (d), .int (n)]) (rest := [.ref (q0)]) hx hb hml hown hts hK hW (k_X1_init l h_150 _ _ _ c_147 hn8) ml_RX2_133 im_yX1_init in_RX1 cd_yX1_init rfl 4 (by decide +kernel) ⟨Nat.le_of_ble_eq_true rfl, Nat.le_of_ble_eq_true rfl⟩ rfl hl.1 rfl (Nat.le_of_ble_eq_true rfl) dX2_enter_30 ⟨Nat.le_of_ble_eq_true rfl, Nat.le_of_ble_eq_true rfl⟩ (fun v g2 H1 locs1 hp hW hKT => ?_)
      obtain ⟨rfl, q, f, i0, i1, i2, i3, i4⟩ := hp
      refine W.eq (g2 := F0 m 33 ls [.ref (q0)]) rfl ?_
      have h_154 : g2 x = some (.inr (2, [.ref (xa), .ref (xk), .int (r 17 0), .int (nsetN r 8), .int (r 17 1), .int (tal z r 2), .int (tal z r 3), .int (tal z r 4), .int (tal z r 5), .int (tal z r 6)])) := (i4 _ (ne_none f1 hR.1) (ne_none i2 h_151)).trans h_151
      have h_155 : g2 xa = some (.inl (E.2 2, 60, .inr (.inr (.inr (.inr (mrw r ma)))))) := (i4 _ (ne_none f1 hR.2.1) (ne_none i2 h_152)).trans h_152
      have h_156 : g2 xk = some (.inl (E.2 3, 8, .inr (.inr (.inr (.inr (krw r ka)))))) := (i4 _ (ne_none f1 hR.2.2.1) (ne_none i2 h_153)).trans h_153
      refine lv_astore (lv' := [(5, .ref (q0)), (0, .ref (x)), (1, .int (b)), (2, .int (d)), (3, .int (n)), (4, .int (st))]) hx hb dX2_enter_33 hl (by decide) rfl (fun ls hl => ?_)
      refine lv_aload hx hb dX2_enter_35 (lv_at hl 0 rfl) ?_
      refine lv_iload hx hb dX2_enter_37 (lv_at hl 5 rfl) ?_
      refine g_put hx hb hts inlX1 rfl tyX1 tyX1_ok nmX1 hown hK hW i0 5 (by decide) fl_RX2_59 rfl rfl rfl (show 5 < 6 by decide) dX2_enter_39 (fun H1 locs1 hW => ?_)
      obtain ⟨g_157, ge_158⟩ : ∃ zz, zz = gu g2 q0 (.inr (1, [.int (r 17 0), .int (b), .int (d), .int (bI (figB b d)), .ref (q), .int (st)])) := ⟨_, rfl⟩
      have hW : PW E (fr g s.heap.size) s.heap H1 locs1 g_157 := by rw [ge_158]; exact hW
      have h_160 : g_157 x = some (.inr (2, [.ref (xa), .ref (xk), .int (r 17 0), .int (nsetN r 8), .int (r 17 1), .int (tal z r 2), .int (tal z r 3), .int (tal z r 4), .int (tal z r 5), .int (tal z r 6)])) := ((congrFun ge_158 _).trans (gu_n _ _ (ne_kd h_154 i0 (by simp [kd])))).trans h_154
      have h_161 : g_157 xa = some (.inl (E.2 2, 60, .inr (.inr (.inr (.inr (mrw r ma)))))) := ((congrFun ge_158 _).trans (gu_n _ _ (ne_kd h_155 i0 (by simp [kd])))).trans h_155
      have h_162 : g_157 xk = some (.inl (E.2 3, 8, .inr (.inr (.inr (.inr (krw r ka)))))) := ((congrFun ge_158 _).trans (gu_n _ _ (ne_kd h_156 i0 (by simp [kd])))).trans h_156
      have h_163 : g_157 q = some (.inl (E.2 0, ix n, .inl f)) := ((congrFun ge_158 _).trans (gu_n _ _ (ne_kd i1 i0 (by simp [kd])))).trans i1
      have h_159 : g_157 q0 = some (.inr (1, [.int (r 17 0), .int (b), .int (d), .int (bI (figB b d)), .ref (q), .int (st)])) := (congrFun ge_158 _).trans (gu_s _ _ _)
      refine lv_aload_n hx hb dX2_enter_42 rfl (lv_at hl 1 rfl) ?_
      refine g_get hx hb hts inlX2 rfl hown hK hW h_160 0 (by decide) fl_RX2_11 (v := .ref (xa)) rfl dX2_enter_43 ?_
      refine lv_aload_n hx hb dX2_enter_46 rfl (lv_at hl 1 rfl) ?_
      refine g_get hx hb hts inlX2 rfl hown hK hW h_160 2 (by decide) fl_RX2_130 (v := .int (r 17 0)) rfl dX2_enter_47 ?_
      refine lv_aload hx hb dX2_enter_50 (lv_at hl 0 rfl) ?_
      refine g_astM hx hb hK hW h_161 h_159 (vin (n := 60) (by decide) hn0 c_146) dX2_enter_52 (fun H1 locs1 hW => ?_)
      obtain ⟨g_164, ge_165⟩ : ∃ zz, zz = gu g_157 xa (.inl (E.2 2, 60, .inr (.inr (.inr (.inr (va_up (mrw r ma) (ix (r 17 0)) (some q0))))))) := ⟨_, rfl⟩
      have hW : PW E (fr g s.heap.size) s.heap H1 locs1 g_164 := by rw [ge_165]; exact hW
      have h_167 : g_164 x = some (.inr (2, [.ref (xa), .ref (xk), .int (r 17 0), .int (nsetN r 8), .int (r 17 1), .int (tal z r 2), .int (tal z r 3), .int (tal z r 4), .int (tal z r 5), .int (tal z r 6)])) := ((congrFun ge_165 _).trans (gu_n _ _ (ne_kd h_160 h_161 (by simp [kd])))).trans h_160
      have h_168 : g_164 xk = some (.inl (E.2 3, 8, .inr (.inr (.inr (.inr (krw r ka)))))) := ((congrFun ge_165 _).trans (gu_n _ _ (ne_kd h_162 h_161 (by simp [kd])))).trans h_162
      have h_169 : g_164 q0 = some (.inr (1, [.int (r 17 0), .int (b), .int (d), .int (bI (figB b d)), .ref (q), .int (st)])) := ((congrFun ge_165 _).trans (gu_n _ _ (ne_kd h_159 h_161 (by simp [kd])))).trans h_159
      have h_170 : g_164 q = some (.inl (E.2 0, ix n, .inl f)) := ((congrFun ge_165 _).trans (gu_n _ _ (ne_kd h_163 h_161 (by simp [kd])))).trans h_163
      have h_166 : g_164 xa = some (.inl (E.2 2, 60, .inr (.inr (.inr (.inr (va_up (mrw r ma) (ix (r 17 0)) (some q0))))))) := (congrFun ge_165 _).trans (gu_s _ _ _)
      refine lv_aload_n hx hb dX2_enter_53 rfl (lv_at hl 1 rfl) ?_
      refine lv_dup hx hb dX2_enter_54 rfl ?_
      refine g_get hx hb hts inlX2 rfl hown hK hW h_167 2 (by decide) fl_RX2_130 (v := .int (r 17 0)) rfl dX2_enter_55 ?_
      refine lv_iconst (v := 1) hx hb dX2_enter_58 (by decide) ?_
      refine lv_iadd hx hb dX2_enter_59 ?_
      refine g_put hx hb hts inlX2 rfl tyX2 tyX2_ok nmX2 hown hK hW h_167 2 (by decide) fl_RX2_130 rfl rfl rfl (show 2 < 10 by decide) dX2_enter_60 (fun H1 locs1 hW => ?_)
      obtain ⟨g_171, ge_172⟩ : ∃ zz, zz = gu g_164 x (.inr (2, [.ref (xa), .ref (xk), .int ((r 17 0) + (1)), .int (nsetN r 8), .int (r 17 1), .int (tal z r 2), .int (tal z r 3), .int (tal z r 4), .int (tal z r 5), .int (tal z r 6)])) := ⟨_, rfl⟩
      have hW : PW E (fr g s.heap.size) s.heap H1 locs1 g_171 := by rw [ge_172]; exact hW
      have h_174 : g_171 xa = some (.inl (E.2 2, 60, .inr (.inr (.inr (.inr (va_up (mrw r ma) (ix (r 17 0)) (some q0))))))) := ((congrFun ge_172 _).trans (gu_n _ _ (ne_kd h_166 h_167 (by simp [kd])))).trans h_166
      have h_175 : g_171 xk = some (.inl (E.2 3, 8, .inr (.inr (.inr (.inr (krw r ka)))))) := ((congrFun ge_172 _).trans (gu_n _ _ (ne_kd h_168 h_167 (by simp [kd])))).trans h_168
      have h_176 : g_171 q0 = some (.inr (1, [.int (r 17 0), .int (b), .int (d), .int (bI (figB b d)), .ref (q), .int (st)])) := ((congrFun ge_172 _).trans (gu_n _ _ (ne_kd h_169 h_167 (by simp [kd])))).trans h_169
      have h_177 : g_171 q = some (.inl (E.2 0, ix n, .inl f)) := ((congrFun ge_172 _).trans (gu_n _ _ (ne_kd h_170 h_167 (by simp [kd])))).trans h_170
      have h_173 : g_171 x = some (.inr (2, [.ref (xa), .ref (xk), .int ((r 17 0) + (1)), .int (nsetN r 8), .int (r 17 1), .int (tal z r 2), .int (tal z r 3), .int (tal z r 4), .int (tal z r 5), .int (tal z r 6)])) := (congrFun ge_172 _).trans (gu_s _ _ _)
      refine lv_aload hx hb dX2_enter_63 (lv_at hl 0 rfl) ?_
      refine g_get hx hb hts inlX1 rfl hown hK hW h_176 0 (by decide) fl_RX2_135 (v := .int (r 17 0)) rfl dX2_enter_65 ?_
      exact r_int hx hb hr hlk hW (by have hqn0 : q ≠ q0 := ne_kd h_177 h_176 (by simp [kd]); exact ⟨by simp [enterI, c_146, c_147], by rw [if_pos (by simp [c_146, c_147])]; exact ⟨_, _, HR.new hR hn0 ((ix_lt (n := 60) (by decide) hn0).mpr c_146) c_147 hn8 h_176 h_177 i3 h_174 h_173 (fun a ha hb hc hd => ((congrFun ge_172 a).trans (gu_n _ _ ha)).trans (((congrFun ge_165 a).trans (gu_n _ _ hb)).trans (((congrFun ge_158 a).trans (gu_n _ _ hc)).trans ((i4 a hc hd).trans ((congrFun ge_149 a).trans (gu_n _ _ hc)))))) f1 (((congrFun ge_149 q).trans (gu_n _ _ hqn0)).symm.trans i2)⟩⟩) (Nat.le_of_ble_eq_true rfl) (Nat.le_of_ble_eq_true rfl) dX2_enter_68
    · skip
      have c_147 := Int32.not_le.mp c_147
      refine lv_bipush (v := -6) hx hb dX2_enter_16 (by decide) ?_
      exact r_int hx hb hr hlk hW (by exact ⟨by simp [enterI, c_146, c_147], by simp [enterI, c_146, c_147]; exact ⟨_, _, hR⟩⟩) (Nat.le_of_ble_eq_true rfl) (Nat.le_of_ble_eq_true rfl) dX2_enter_18
  · skip
    refine lv_bipush (v := -3) hx hb dX2_enter_9 (by decide) ?_
    exact r_int hx hb hr hlk hW (by exact ⟨by simp [enterI, c_146], by simp [enterI, c_146]; exact ⟨_, _, hR⟩⟩) (Nat.le_of_ble_eq_true rfl) (Nat.le_of_ble_eq_true rfl) dX2_enter_11
