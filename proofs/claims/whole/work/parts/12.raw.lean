theorem gu_gu (g : gm) (a : Nat) (e e' : va_E) : gu (gu g a e) a e' = gu g a e' := by
  funext b
  by_cases h : b = a <;> simp [gu, h]
theorem gu_id {g : gm} {a : Nat} {e : va_E} (h : g a = some e) : gu g a e = g := by
  funext b
  by_cases hb : b = a
  · rw [hb, gu_s, h]
  · rw [gu_n _ _ hb]
def filF (f : Nat → Int32) (v : Int32) (n : Nat) : Nat → Int32 := fun j => if j < n then v else f j
theorem filF_0 (f : Nat → Int32) (v : Int32) : filF f v 0 = f := by
  funext j
  simp [filF]
theorem filF_s (f : Nat → Int32) (v : Int32) (i : Nat) (hi : i < 2 ^ 31) : upd (filF f v i) (Int32.toNatClampNeg (nI i)) v = filF f v (i + 1) := by
  rw [nI_clamp hi]
  funext j
  by_cases h : j = i
  · simp [upd, filF, h]
  · by_cases h2 : j < i
    · simp [upd, filF, h, h2, Nat.lt_succ_of_lt h2]
    · simp [upd, filF, h, h2, show ¬ j < i + 1 by omega]

set_option maxHeartbeats 4000000 in
set_option maxRecDepth 100000 in
theorem k_X1_fill (l : Launch) {E : gE} {g : gm} {h0 q n : Nat} {v0 v1 v2 v3 v5 : Value} {f : Nat → Int32} (hh : g h0 = some (.inr (1, [v0, v1, v2, v3, .ref q, v5]))) (hq : g q = some (.inl (E.2 0, n, .inl f))) (hn : n < 2 ^ 31) (v : Int32) : CM l yX1_fill cX1_fill 3 none ({ frames := 0, cells := 0, slots := 0, locals := 0 }) E [.ref (h0), .int (v)] g (fun vv g' => vv = none ∧ g' = gu g q (.inl (E.2 0, n, .inl (filF f v n)))) := by
  refine CM.of (by decide) (Nat.le_of_ble_eq_true rfl) ?_
  intro p e s m below meth c ls hM hK hW hl
  obtain ⟨hx, hb, hr, hml, hown, hts, hlk, hnm⟩ := hM
  have hown : s.vm.findClass RX1 = some m.cls := hown
  have hl : lv_has ls 3 [(0, .ref (h0)), (1, .int (v))] := hl
  have hne : h0 ≠ q := ne_kd hh hq (by simp [kd])
  have loop : ∀ (k i : Nat), n < i + k → i ≤ n → ∀ (H : Heap) (locs : List Loc) (ls : Array Slot), PW E (fr g s.heap.size) s.heap H locs (gu g q (.inl (E.2 0, n, .inl (filF f v i)))) → lv_has ls 3 [(2, .int (nI i)), (0, .ref (h0)), (1, .int (v))] → W p l e ({ frames := 0, cells := 0, slots := 0, locals := 0 }) s m ([.ref (h0), .int (v)] : List Value).toArray below meth c H locs 0 0 (MQ below (QC E g s.heap.size (fun vv g' => vv = none ∧ g' = gu g q (.inl (E.2 0, n, .inl (filF f v n))))) ([.ref (h0), .int (v)] : List Value).toArray s (Room.cells ({ frames := 0, cells := 0, slots := 0, locals := 0 })) (Room.slots ({ frames := 0, cells := 0, slots := 0, locals := 0 })) (fr g s.heap.size)) (F0 m 2 ls []) := by
    intro k
    induction k with
    | zero =>
      intro i h1 h2
      exact absurd h1 (by omega)
    | succ k ih =>
      intro i h1 h2 H locs ls hW hl
      have hhG : (gu g q (.inl (E.2 0, n, .inl (filF f v i)))) h0 = some (.inr (1, [v0, v1, v2, v3, .ref q, v5])) := (gu_n _ _ hne).trans hh
      have hqG : (gu g q (.inl (E.2 0, n, .inl (filF f v i)))) q = some (.inl (E.2 0, n, .inl (filF f v i))) := gu_s _ _ _
      refine lv_iload_n hx hb dX1_fill_2 rfl (lv_at hl 0 rfl) ?_
      refine lv_aload_n hx hb dX1_fill_3 rfl (lv_at hl 1 rfl) ?_
      refine g_get hx hb hts inlX1 rfl hown hK hW hhG 4 (by decide) fl_RX1_29 (v := .ref (q)) rfl dX1_fill_4 ?_
      refine g_alen hx hb hK hW hqG dX1_fill_7 ?_
      refine lv_icmp_ge (tgt := 24) hx hb dX1_fill_8 (by decide) (fun c_126 => ?_) (fun c_126 => ?_)
      · skip
        have c_126 := Int32.not_lt.mpr c_126
        have hin : i = n := by
          rcases Nat.lt_or_ge i n with q1 | q1
          · exact absurd (nI_lt q1 hn) c_126
          · omega
        exact r_void hx hb hr hlk hW (by exact ⟨rfl, by rw [hin]⟩) (Nat.le_of_ble_eq_true rfl) (Nat.le_of_ble_eq_true rfl) dX1_fill_24
      · skip
        have c_126 := Int32.not_le.mp c_126
        have hin : i < n := (nI_ltI (by omega) hn).mp c_126
        refine lv_aload_n hx hb dX1_fill_11 rfl (lv_at hl 1 rfl) ?_
        refine g_get hx hb hts inlX1 rfl hown hK hW hhG 4 (by decide) fl_RX1_29 (v := .ref (q)) rfl dX1_fill_12 ?_
        refine lv_iload_n hx hb dX1_fill_15 rfl (lv_at hl 0 rfl) ?_
        refine lv_iload_n hx hb dX1_fill_16 rfl (lv_at hl 2 rfl) ?_
        refine g_iast hx hb hK hW hqG (vp_in_nI hin hn) dX1_fill_17 (fun H1 locs1 hW => ?_)
        rw [gu_gu, filF_s f v i (by omega)] at hW
        refine lv_iinc (v := (nI i) + (1)) (lv' := [(2, .int ((nI i) + (1))), (0, .ref (h0)), (1, .int (v))]) hx hb dX1_fill_18 hl (k := 0) rfl rfl (by decide) rfl (fun ls hl => ?_)
        refine lv_goto (tgt := 2) hx hb dX1_fill_21 (by decide) ?_
        exact ih (i + 1) (by omega) (by omega) _ _ _ hW (by rw [← nI_1]; exact lv_sub hl [0, 1, 2] rfl)
  refine lv_iconst (v := 0) hx hb dX1_fill_0 (by decide) ?_
  refine lv_istore_n (lv' := [(2, .int (0)), (0, .ref (h0)), (1, .int (v))]) hx hb dX1_fill_1 rfl hl (by decide) rfl (fun ls hl => ?_)
  exact loop (n + 1) 0 (by omega) (by omega) _ _ _ (by rw [filF_0, gu_id hq]; exact hW) (lv_sub hl [0, 1, 2] rfl)

set_option maxHeartbeats 4000000 in
set_option maxRecDepth 100000 in
theorem k_X1_init (l : Launch) {E : gE} {g : gm} {h0 : Nat} (hh : g h0 = some (.inr (1, [.int 0, .int 0, .int 0, .int 0, .null, .int 0]))) (a0 a1 a2 : Int32) {n : Int32} (hn : ¬ n < 0) (hn8 : ix n ≤ 8) : CM l yX1_init cX1_init 5 none ({ frames := 2, cells := 1, slots := 8, locals := 60 }) E [.ref (h0), .int (a0), .int (a1), .int (a2), .int (n)] g (fun vv g' => vv = none ∧ ∃ (q : Nat) (f : Nat → Int32), g' h0 = some (.inr (1, [.int a0, .int a1, .int a2, .int (bI (figB a1 a2)), .ref q, .int 0])) ∧ g' q = some (.inl (E.2 0, ix n, .inl f)) ∧ g q = none ∧ (∀ j, j < ix n → f j = if figB a1 a2 then 0 else -1) ∧ ∀ a, a ≠ h0 → a ≠ q → g' a = g a) := by
  refine CM.of (by decide) (Nat.le_of_ble_eq_true rfl) ?_
  intro p e s m below meth c ls hM hK hW hl
  obtain ⟨hx, hb, hr, hml, hown, hts, hlk, hnm⟩ := hM
  have hown : s.vm.findClass RX1 = some m.cls := hown
  have hl : lv_has ls 5 [(0, .ref (h0)), (1, .int (a0)), (2, .int (a1)), (3, .int (a2)), (4, .int (n))] := hl
  have hoth : ∀ a, a ≠ h0 → g a = g a := fun a ha => rfl
  refine lv_aload_n hx hb dX1_init_0 rfl (lv_at hl 0 rfl) ?_
  refine W.objInit hx hb hown (hts _ ml_RX1_3) (hts _ im_objectInit) (hts _ cd_objectInit) rfl (by rw [hml]; exact hl.1) rfl dX1_init_1 (Nat.le_of_ble_eq_true rfl) (Nat.le_of_ble_eq_true rfl) ?_
  refine W.eq (g2 := F0 m 4 ls []) rfl ?_
  refine lv_aload_n hx hb dX1_init_4 rfl (lv_at hl 0 rfl) ?_
  refine lv_iload_n hx hb dX1_init_5 rfl (lv_at hl 1 rfl) ?_
  refine g_putF hx hb hts inlX1 rfl tyX1 tyX1_ok nmX1 hown hK hW hh 0 (by decide) fl_RX1_9 rfl hnm rfl rfl rfl (show 0 < 6 by decide) dX1_init_6 (fun H1 locs1 hW => ?_)
  obtain ⟨g_128, ge_129⟩ : ∃ z, z = gu g h0 (.inr (1, [.int (a0), .int (0), .int (0), .int (0), .null, .int (0)])) := ⟨_, rfl⟩
  have hW : PW E (fr g s.heap.size) s.heap H1 locs1 g_128 := by rw [ge_129]; exact hW
  have h0_127 : g_128 h0 = some (.inr (1, [.int (a0), .int (0), .int (0), .int (0), .null, .int (0)])) := by rw [ge_129]; exact gu_s _ _ _
  have hoth : ∀ a, a ≠ h0 → g_128 a = g a := fun a ha => ((congrFun ge_129 a).trans (gu_n _ _ ha)).trans (hoth a ha)
  refine lv_aload_n hx hb dX1_init_9 rfl (lv_at hl 0 rfl) ?_
  refine lv_iload_n hx hb dX1_init_10 rfl (lv_at hl 2 rfl) ?_
  refine g_putF hx hb hts inlX1 rfl tyX1 tyX1_ok nmX1 hown hK hW h0_127 1 (by decide) fl_RX1_15 rfl hnm rfl rfl rfl (show 1 < 6 by decide) dX1_init_11 (fun H1 locs1 hW => ?_)
  obtain ⟨g_131, ge_132⟩ : ∃ z, z = gu g_128 h0 (.inr (1, [.int (a0), .int (a1), .int (0), .int (0), .null, .int (0)])) := ⟨_, rfl⟩
  have hW : PW E (fr g s.heap.size) s.heap H1 locs1 g_131 := by rw [ge_132]; exact hW
  have h0_130 : g_131 h0 = some (.inr (1, [.int (a0), .int (a1), .int (0), .int (0), .null, .int (0)])) := by rw [ge_132]; exact gu_s _ _ _
  have hoth : ∀ a, a ≠ h0 → g_131 a = g a := fun a ha => ((congrFun ge_132 a).trans (gu_n _ _ ha)).trans (hoth a ha)
  refine lv_aload_n hx hb dX1_init_14 rfl (lv_at hl 0 rfl) ?_
  refine lv_iload_n hx hb dX1_init_15 rfl (lv_at hl 3 rfl) ?_
  refine g_putF hx hb hts inlX1 rfl tyX1 tyX1_ok nmX1 hown hK hW h0_130 2 (by decide) fl_RX1_18 rfl hnm rfl rfl rfl (show 2 < 6 by decide) dX1_init_16 (fun H1 locs1 hW => ?_)
  obtain ⟨g_134, ge_135⟩ : ∃ z, z = gu g_131 h0 (.inr (1, [.int (a0), .int (a1), .int (a2), .int (0), .null, .int (0)])) := ⟨_, rfl⟩
  have hW : PW E (fr g s.heap.size) s.heap H1 locs1 g_134 := by rw [ge_135]; exact hW
  have h0_133 : g_134 h0 = some (.inr (1, [.int (a0), .int (a1), .int (a2), .int (0), .null, .int (0)])) := by rw [ge_135]; exact gu_s _ _ _
  have hoth : ∀ a, a ≠ h0 → g_134 a = g a := fun a ha => ((congrFun ge_135 a).trans (gu_n _ _ ha)).trans (hoth a ha)
  refine lv_aload_n hx hb dX1_init_19 rfl (lv_at hl 0 rfl) ?_
  refine lv_iload_n hx hb dX1_init_20 rfl (lv_at hl 2 rfl) ?_
  refine lv_iload_n hx hb dX1_init_21 rfl (lv_at hl 3 rfl) ?_
  refine c_statN (own := RX1) (As := [.int (a1), .int (a2)]) (rest := [.ref (h0)]) hx hb hml hown hts hK hW (k_X2_isOfFigures l _ _) hK.2.1 st_yX2_isOfFigures in_RX2 cd_yX2_isOfFigures 2 (by decide +kernel) ⟨Nat.le_of_ble_eq_true rfl, Nat.le_of_ble_eq_true rfl⟩ rfl hl.1 rfl (Nat.le_of_ble_eq_true rfl) dX1_init_22 ⟨Nat.le_of_ble_eq_true rfl, Nat.le_of_ble_eq_true rfl⟩ (fun v g2 H1 locs1 hp hW hKT => ?_)
  obtain ⟨rfl, hg⟩ := hp
  rw [hg] at hW
  refine W.eq (g2 := F0 m 25 ls [.int (bI (figB (a1) (a2))), .ref (h0)]) rfl ?_
  refine g_putF hx hb hts inlX1 rfl tyX1 tyX1_ok nmX1 hown hK hW h0_133 3 (by decide) fl_RX1_25 rfl hnm rfl (nb_bI _) (fb_bI _) (show 3 < 6 by decide) dX1_init_25 (fun H1 locs1 hW => ?_)
  obtain ⟨g_137, ge_138⟩ : ∃ z, z = gu g_134 h0 (.inr (1, [.int (a0), .int (a1), .int (a2), .int (bI (figB (a1) (a2))), .null, .int (0)])) := ⟨_, rfl⟩
  have hW : PW E (fr g s.heap.size) s.heap H1 locs1 g_137 := by rw [ge_138]; exact hW
  have h0_136 : g_137 h0 = some (.inr (1, [.int (a0), .int (a1), .int (a2), .int (bI (figB (a1) (a2))), .null, .int (0)])) := by rw [ge_138]; exact gu_s _ _ _
  have hoth : ∀ a, a ≠ h0 → g_137 a = g a := fun a ha => ((congrFun ge_138 a).trans (gu_n _ _ ha)).trans (hoth a ha)
  refine lv_aload_n hx hb dX1_init_28 rfl (lv_at hl 0 rfl) ?_
  refine lv_iload hx hb dX1_init_29 (lv_at hl 4 rfl) ?_
  refine g_newI (N' := ix n) hx hb (hts _ ac_int) hK hW hn rfl (by omega) (Nat.le_of_ble_eq_true rfl) (show 0 + ix n ≤ 8 by omega) dX1_init_31 (fun q H1 hqn0 hW => ?_)
  refine W.widen (k := 1) (n := 8) (Nat.le_refl _) (show 0 + ix n ≤ 8 by omega) ?_
  have hqn : q ≠ h0 := fun e1 => by rw [e1, h0_136] at hqn0; cases hqn0
  have hq0 : g q = none := by rw [← hoth q hqn]; exact hqn0
  obtain ⟨g_140, ge_141⟩ : ∃ z, z = gu g_137 q (.inl (E.2 0, ix n, .inl (fun _ => 0))) := ⟨_, rfl⟩
  have hW : PW E (fr g s.heap.size) s.heap H1 locs1 g_140 := by rw [ge_141]; exact hW
  have h0_139 : g_140 h0 = some (.inr (1, [.int (a0), .int (a1), .int (a2), .int (bI (figB (a1) (a2))), .null, .int (0)])) := by rw [ge_141, gu_n _ _ (Ne.symm hqn)]; exact h0_136
  have hqq : g_140 q = some (.inl (E.2 0, ix n, .inl (fun _ => 0))) := by rw [ge_141]; exact gu_s _ _ _
  have hoth : ∀ a, a ≠ h0 → a ≠ q → g_140 a = g a := fun a ha hb => by rw [ge_141, gu_n _ _ hb]; exact hoth a ha
  refine g_putF hx hb hts inlX1 rfl tyX1 tyX1_ok nmX1 hown hK hW h0_139 4 (by decide) fl_RX1_29 rfl hnm rfl rfl rfl (show 4 < 6 by decide) dX1_init_33 (fun H1 locs1 hW => ?_)
  obtain ⟨g_143, ge_144⟩ : ∃ z, z = gu g_140 h0 (.inr (1, [.int (a0), .int (a1), .int (a2), .int (bI (figB (a1) (a2))), .ref (q), .int (0)])) := ⟨_, rfl⟩
  have hW : PW E (fr g s.heap.size) s.heap H1 locs1 g_143 := by rw [ge_144]; exact hW
  have h0_142 : g_143 h0 = some (.inr (1, [.int (a0), .int (a1), .int (a2), .int (bI (figB (a1) (a2))), .ref (q), .int (0)])) := by rw [ge_144]; exact gu_s _ _ _
  have hqq : g_143 q = some (.inl (E.2 0, ix n, .inl (fun _ => 0))) := by rw [ge_144, gu_n _ _ hqn]; exact hqq
  have hoth : ∀ a, a ≠ h0 → a ≠ q → g_143 a = g a := fun a ha hb => ((congrFun ge_144 a).trans (gu_n _ _ ha)).trans (hoth a ha hb)
  refine lv_aload_n hx hb dX1_init_36 rfl (lv_at hl 0 rfl) ?_
  refine g_get hx hb hts inlX1 rfl hown hK hW h0_142 3 (by decide) fl_RX1_25 (v := .int (bI (figB (a1) (a2)))) rfl dX1_init_37 ?_
  refine lv_if_ne (tgt := 48) hx hb dX1_init_40 (by decide) (fun c_145 => ?_) (fun c_145 => ?_)
  · skip
    have c_145 := bI_ne0 c_145
    exact r_void hx hb hr hlk hW (by exact ⟨rfl, q, _, h0_142, hqq, hq0, fun j hj => by rw [c_145]; simp, hoth⟩) (Nat.le_of_ble_eq_true rfl) (Nat.le_of_ble_eq_true rfl) dX1_init_48
  · skip
    have c_145 := (bI_eq0 _).mp c_145
    refine lv_aload_n hx hb dX1_init_43 rfl (lv_at hl 0 rfl) ?_
    refine lv_iconst (v := -1) hx hb dX1_init_44 (by decide) ?_
    refine c_virt (own := RX1) (As := [.int (-1)]) (rest := []) hx hb hml hown hts hK hW (k_X1_fill l h0_142 hqq (by omega) (-1)) ml_RX1_33 im_yX1_fill se_yX1_fill in_RX1 cd_yX1_fill 1 (by decide +kernel) ⟨Nat.le_of_ble_eq_true rfl, Nat.le_of_ble_eq_true rfl⟩ h0_142 rfl rfl rfl hl.1 rfl (Nat.le_of_ble_eq_true rfl) dX1_init_45 ⟨Nat.le_of_ble_eq_true rfl, Nat.le_of_ble_eq_true rfl⟩ (fun v g2 H1 locs1 hp hW hKT => ?_)
    obtain ⟨rfl, hg⟩ := hp
    rw [hg] at hW
    refine W.eq (g2 := F0 m 48 ls []) rfl ?_
    exact r_void hx hb hr hlk hW (by exact ⟨rfl, q, _, by rw [gu_n _ _ (Ne.symm hqn)]; exact h0_142, gu_s _ _ _, hq0, fun j hj => by rw [c_145]; simp [filF, hj], fun a ha hb => by rw [gu_n _ _ hb]; exact hoth a ha hb⟩) (Nat.le_of_ble_eq_true rfl) (Nat.le_of_ble_eq_true rfl) dX1_init_48

set_option maxHeartbeats 4000000 in
set_option maxRecDepth 100000 in
theorem k_X0_init (l : Launch) {E : gE} {g : gm} {h0 : Nat} (hh : g h0 = some (.inr (0, [.int 0, .int 0, .int 0, .int 0, .int 0, .int 0, .int 0, .int 0, .int 0, .int 0, .int 0, .int 0]))) (a0 : Int32) : CM l yX0_init cX0_init 2 none ({ frames := 1, cells := 0, slots := 0, locals := 24 }) E [.ref (h0), .int (a0)] g (fun vv g' => vv = none ∧ g' = gu g h0 (.inr (0, [.int a0, .int 0, .int 0, .int 0, .int 0, .int 0, .int 0, .int 0, .int 0, .int 0, .int 0, .int 0]))) := by
  refine CM.of (by decide) (Nat.le_of_ble_eq_true rfl) ?_
  intro p e s m below meth c ls hM hK hW hl
  obtain ⟨hx, hb, hr, hml, hown, hts, hlk, hnm⟩ := hM
  have hown : s.vm.findClass RX0 = some m.cls := hown
  have hl : lv_has ls 2 [(0, .ref (h0)), (1, .int (a0))] := hl
  refine lv_aload_n hx hb dX0_init_0 rfl (lv_at hl 0 rfl) ?_
  refine W.objInit hx hb hown (hts _ ml_RX0_3) (hts _ im_objectInit) (hts _ cd_objectInit) rfl (by rw [hml]; exact hl.1) rfl dX0_init_1 (Nat.le_of_ble_eq_true rfl) (Nat.le_of_ble_eq_true rfl) ?_
  refine W.eq (g2 := F0 m 4 ls []) rfl ?_
  refine lv_aload_n hx hb dX0_init_4 rfl (lv_at hl 0 rfl) ?_
  refine lv_iload_n hx hb dX0_init_5 rfl (lv_at hl 1 rfl) ?_
  refine g_putF hx hb hts inlX0 rfl tyX0 tyX0_ok nmX0 hown hK hW hh 0 (by decide) fl_RX0_9 rfl hnm rfl rfl rfl (show 0 < 12 by decide) dX0_init_6 (fun H1 locs1 hW => ?_)
  exact r_void hx hb hr hlk hW (by exact ⟨rfl, rfl⟩) (Nat.le_of_ble_eq_true rfl) (Nat.le_of_ble_eq_true rfl) dX0_init_9

def setF (r : sg) (k : Nat) (a b d f : Int32) : sg := s2 (s2 (s2 (s2 (s2 (s2 (s2 (s2 (s2 (s2 (s2 r 8 k a) 9 k b) 10 k d) 11 k f) 12 k 0) 13 k 0) 14 k (-1)) 7 k 0) 6 k 0) 15 k 0) 16 k 0
set_option maxHeartbeats 4000000 in
set_option maxRecDepth 100000 in
theorem k_X0_setAnew (l : Launch) {E : gE} {x xa xk : Nat} {ma pa ka : Nat → Nat} {z : Bool} {r : sg} {g : gm} (hR : HR E x xa xk ma pa ka z r g) {k : Nat} (hk : k < 8) (hs : r 5 k ≠ 0) (a b d f : Int32) : CM l yX0_setAnew cX0_setAnew 5 none ({ frames := 0, cells := 0, slots := 0, locals := 0 }) E [.ref (ka k), .int (a), .int (b), .int (d), .int (f)] g (fun vv g' => vv = none ∧ HR E x xa xk ma pa ka z (setF r k a b d f) g') := by
  refine CM.of (by decide) (Nat.le_of_ble_eq_true rfl) ?_
  intro p e s m below meth c ls hM hK hW hl
  obtain ⟨hx, hb, hr, hml, hown, hts, hlk, hnm⟩ := hM
  have hown : s.vm.findClass RX0 = some m.cls := hown
  have hl : lv_has ls 5 [(0, .ref (ka k)), (1, .int (a)), (2, .int (b)), (3, .int (d)), (4, .int (f))] := hl
  refine lv_aload_n hx hb dX0_setAnew_0 rfl (lv_at hl 0 rfl) ?_
  refine lv_iload_n hx hb dX0_setAnew_1 rfl (lv_at hl 1 rfl) ?_
  refine hk_put 8 hx hb hts hown hK hW hR hk hs 1 (by decide) fl_RX0_15 rfl rfl rfl (by decide) (by simp [s2_a]) dX0_setAnew_2 (fun H1 locs1 g1 hW hR => ?_)
  refine lv_aload_n hx hb dX0_setAnew_5 rfl (lv_at hl 0 rfl) ?_
  refine lv_iload_n hx hb dX0_setAnew_6 rfl (lv_at hl 2 rfl) ?_
  refine hk_put 9 hx hb hts hown hK hW hR hk hs 2 (by decide) fl_RX0_18 rfl rfl rfl (by decide) (by simp [s2_a]) dX0_setAnew_7 (fun H1 locs1 g1 hW hR => ?_)
  refine lv_aload_n hx hb dX0_setAnew_10 rfl (lv_at hl 0 rfl) ?_
  refine lv_iload_n hx hb dX0_setAnew_11 rfl (lv_at hl 3 rfl) ?_
  refine hk_put 10 hx hb hts hown hK hW hR hk hs 3 (by decide) fl_RX0_21 rfl rfl rfl (by decide) (by simp [s2_a]) dX0_setAnew_12 (fun H1 locs1 g1 hW hR => ?_)
  refine lv_aload_n hx hb dX0_setAnew_15 rfl (lv_at hl 0 rfl) ?_
  refine lv_iload hx hb dX0_setAnew_16 (lv_at hl 4 rfl) ?_
  refine hk_put 11 hx hb hts hown hK hW hR hk hs 4 (by decide) fl_RX0_24 rfl rfl rfl (by decide) (by simp [s2_a]) dX0_setAnew_18 (fun H1 locs1 g1 hW hR => ?_)
  refine lv_aload_n hx hb dX0_setAnew_21 rfl (lv_at hl 0 rfl) ?_
  refine lv_iconst (v := 0) hx hb dX0_setAnew_22 (by decide) ?_
  refine hk_put 12 hx hb hts hown hK hW hR hk hs 5 (by decide) fl_RX0_27 rfl rfl rfl (by decide) (by simp [s2_a]) dX0_setAnew_23 (fun H1 locs1 g1 hW hR => ?_)
  refine lv_aload_n hx hb dX0_setAnew_26 rfl (lv_at hl 0 rfl) ?_
  refine lv_iconst (v := 0) hx hb dX0_setAnew_27 (by decide) ?_
  refine hk_put 13 hx hb hts hown hK hW hR hk hs 6 (by decide) fl_RX0_30 rfl rfl rfl (by decide) (by simp [s2_a]) dX0_setAnew_28 (fun H1 locs1 g1 hW hR => ?_)
  refine lv_aload_n hx hb dX0_setAnew_31 rfl (lv_at hl 0 rfl) ?_
  refine lv_iconst (v := -1) hx hb dX0_setAnew_32 (by decide) ?_
  refine hk_put 14 hx hb hts hown hK hW hR hk hs 7 (by decide) fl_RX0_33 rfl rfl rfl (by decide) (by simp [s2_a]) dX0_setAnew_33 (fun H1 locs1 g1 hW hR => ?_)
  refine lv_aload_n hx hb dX0_setAnew_36 rfl (lv_at hl 0 rfl) ?_
  refine lv_iconst (v := 0) hx hb dX0_setAnew_37 (by decide) ?_
  refine hk_put 7 hx hb hts hown hK hW hR hk hs 8 (by decide) fl_RX0_36 rfl rfl rfl (by decide) (by simp [s2_a]) dX0_setAnew_38 (fun H1 locs1 g1 hW hR => ?_)
  refine lv_aload_n hx hb dX0_setAnew_41 rfl (lv_at hl 0 rfl) ?_
  refine lv_iconst (v := 0) hx hb dX0_setAnew_42 (by decide) ?_
  refine hk_put 6 hx hb hts hown hK hW hR hk hs 9 (by decide) fl_RX0_40 rfl rfl rfl (by decide) (by simp [s2_a]) dX0_setAnew_43 (fun H1 locs1 g1 hW hR => ?_)
  refine lv_aload_n hx hb dX0_setAnew_46 rfl (lv_at hl 0 rfl) ?_
  refine lv_iconst (v := 0) hx hb dX0_setAnew_47 (by decide) ?_
  refine hk_put 15 hx hb hts hown hK hW hR hk hs 10 (by decide) fl_RX0_43 rfl rfl rfl (by decide) (by simp [s2_a]) dX0_setAnew_48 (fun H1 locs1 g1 hW hR => ?_)
  refine lv_aload_n hx hb dX0_setAnew_51 rfl (lv_at hl 0 rfl) ?_
  refine lv_iconst (v := 0) hx hb dX0_setAnew_52 (by decide) ?_
  refine hk_put 16 hx hb hts hown hK hW hR hk hs 11 (by decide) fl_RX0_46 rfl rfl rfl (by decide) (by simp [s2_a]) dX0_setAnew_53 (fun H1 locs1 g1 hW hR => ?_)
  exact r_void hx hb hr hlk hW (by exact ⟨rfl, hR⟩) (Nat.le_of_ble_eq_true rfl) (Nat.le_of_ble_eq_true rfl) dX0_setAnew_56
