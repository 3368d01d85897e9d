theorem s2_id {r : sg} {f i : Nat} {v : Int32} (h : r f i = v) : s2 r f i v = r := by
  funext q j
  rw [s2_a]
  by_cases hq : q = f ∧ j = i
  · rw [if_pos hq, hq.1, hq.2, h]
  · rw [if_neg hq]
theorem m60 {r : sg} (h0 : ¬ r 17 0 < 0) (h60 : nm r ≤ 60) : r 17 0 = 60 ↔ ¬ r 17 0 < 60 := by
  have e := ix_i h0
  have h60' : ix (r 17 0) ≤ 60 := h60
  rw [Int32.lt_iff_toInt_lt, ← Int32.toInt_inj]
  simp only [show (60 : Int32).toInt = 60 from rfl]
  omega
theorem m60n {r : sg} (h0 : ¬ r 17 0 < 0) (h60 : nm r ≤ 60) (h : ¬ r 17 0 = 60) : nm r < 60 := by
  have e := ix_i h0
  have h60' : ix (r 17 0) ≤ 60 := h60
  rw [← Int32.toInt_inj] at h
  simp only [show (60 : Int32).toInt = 60 from rfl] at h
  show ix (r 17 0) < 60
  omega
theorem ent_kept {r : sg} {b d n : Int32} : entF r b d n 0 = keptF r b d n (if figB b d then 0 else -1) := s2_id (by simp [keptF, s2_a, fillN_a])
theorem fig_0 (b : Int32) : figB b 0 = false := by simp [figB]
theorem bun_c (b d n : Int32) : (d < 1 ∨ kindB b d = false ∨ 8 < n) ↔ (mIn b 0 5 = false ∨ mIn d 1 3 = false ∨ 8 < n) := by
  rw [← view_kind]
  have h4 : ∀ a c : Int32, a < c ↔ a.toInt < c.toInt := fun _ _ => Int32.lt_iff_toInt_lt
  simp only [mIn, Bool.or_eq_false_iff, Bool.and_eq_false_iff, Bool.not_eq_false', decide_eq_true_eq, h4, show (0 : Int32).toInt = 0 from rfl, show (1 : Int32).toInt = 1 from rfl, show (3 : Int32).toInt = 3 from rfl, show (4 : Int32).toInt = 4 from rfl, show (5 : Int32).toInt = 5 from rfl, show (8 : Int32).toInt = 8 from rfl]
  omega
theorem add1 (x : Int32) : x + 1 - 1 = x := by rw [Int32.sub_eq_add_neg, Int32.add_assoc]; simp

set_option maxHeartbeats 4000000 in
set_option maxRecDepth 100000 in
theorem k_X3_kept (l : Launch) {E : gE} {y : Nat} {ad : Nat → Nat} {r t : sg} {g : gm} (hM : MR E y ad r t g) (hn0 : ¬ r 17 0 < 0) (h60 : nm r < 60) (b d n fl : Int32) : CM l yX3_kept cX3_kept 6 (some .int) ({ frames := 0, cells := 0, slots := 0, locals := 0 }) E [.ref (y), .int (b), .int (d), .int (n), .int (fl)] g (fun vv g' => vv = some (.int (r 17 0)) ∧ MR E y ad (keptF r b d n fl) t g') := by
  refine CM.of (by decide) (Nat.le_of_ble_eq_true rfl) ?_
  intro p e s m below meth c ls hMX hK hW hl
  obtain ⟨hx, hb, hr, hml, hown, hts, hlk, hnm⟩ := hMX
  have hown : s.vm.findClass RX3 = some m.cls := hown
  have hl : lv_has ls 6 [(0, .ref (y)), (1, .int (b)), (2, .int (d)), (3, .int (n)), (4, .int (fl))] := hl
  have eN : r 17 0 = nI (nm r) := (nI_ix hn0).symm
  have loop : ∀ (k j : Nat), 8 < j + k → j ≤ 8 → ∀ (g1 : gm) (H : Heap) (locs : List Loc) (ls : Array Slot), PW E (fr g s.heap.size) s.heap H locs g1 → MR E y ad (fillN (s2 (s2 (s2 (s2 r 0 (nm r) (b)) 1 (nm r) (d)) 2 (nm r) (0)) 3 (nm r) (n)) (nm r) fl j) t g1 → lv_has ls 6 [(5, .int (nI j)), (0, .ref (y)), (1, .int (b)), (2, .int (d)), (3, .int (n)), (4, .int (fl))] → W p l e ({ frames := 0, cells := 0, slots := 0, locals := 0 }) s m ([.ref (y), .int (b), .int (d), .int (n), .int (fl)] : List Value).toArray below meth c H locs 0 0 (MQ below (QC E g s.heap.size (fun vv g' => vv = some (.int (r 17 0)) ∧ MR E y ad (keptF r b d n fl) t g')) ([.ref (y), .int (b), .int (d), .int (n), .int (fl)] : List Value).toArray s (Room.cells ({ frames := 0, cells := 0, slots := 0, locals := 0 })) (Room.slots ({ frames := 0, cells := 0, slots := 0, locals := 0 })) (fr g s.heap.size)) (F0 m 43 ls []) := by
    intro k
    induction k with
    | zero =>
      intro j h1 h2
      exact absurd h1 (by omega)
    | succ k ih =>
      intro j h1 h2 g1 H locs ls hW hM hl
      obtain ⟨R, hR⟩ : ∃ zz, zz = fillN (s2 (s2 (s2 (s2 r 0 (nm r) (b)) 1 (nm r) (d)) 2 (nm r) (0)) 3 (nm r) (n)) (nm r) fl j := ⟨_, rfl⟩
      have e17 : fillN (s2 (s2 (s2 (s2 r 0 (nm r) (b)) 1 (nm r) (d)) 2 (nm r) (0)) 3 (nm r) (n)) (nm r) fl j 17 0 = r 17 0 := by rw [fillN_a, if_neg (by omega)]; rfl
      have hM : MR E y ad R t g1 := by rw [hR]; exact hM
      have eR : R 17 0 = nI (nm r) := by rw [hR, e17, eN]
      refine lv_iload hx hb dX3_kept_43 (lv_at hl 0 rfl) ?_
      refine lv_bipush (v := 8) hx hb dX3_kept_45 (by decide) ?_
      refine lv_icmp_ge (tgt := 73) hx hb dX3_kept_47 (by decide) (fun c_425 => ?_) (fun c_425 => ?_)
      · skip
        have c_425 := Int32.not_lt.mpr c_425
        have hj8 : j = 8 := by
          rcases Nat.lt_or_ge j 8 with q1 | q1
          · exact absurd ((nI_ltI (b := 8) (by omega) (by decide)).mpr q1) c_425
          · omega
        refine lv_aload_n hx hb dX3_kept_73 rfl (lv_at hl 1 rfl) ?_
        refine lv_dup hx hb dX3_kept_74 rfl ?_
        refine m_get hx hb hts hown hK hW hM 0 (by decide) fl_RX3_74 (v := .int (R 17 0)) rfl dX3_kept_75 ?_
        refine lv_iconst (v := 1) hx hb dX3_kept_78 (by decide) ?_
        refine lv_iadd hx hb dX3_kept_79 ?_
        refine m_put (r' := s2 R 17 0 ((R 17 0) + (1))) (t' := t) hx hb hts hown hK hW hM 0 (by decide) fl_RX3_74 rfl rfl (fun f hf => s2_f _ _ _ (by omega)) (fun _ _ => rfl) rfl dX3_kept_80 (fun H1 locs1 g1 hW hM => ?_)
        refine lv_aload_n hx hb dX3_kept_83 rfl (lv_at hl 1 rfl) ?_
        refine m_get hx hb hts hown hK hW hM 0 (by decide) fl_RX3_74 (v := .int ((s2 R 17 0 ((R 17 0) + (1))) 17 0)) rfl dX3_kept_84 ?_
        refine lv_iconst (v := 1) hx hb dX3_kept_87 (by decide) ?_
        refine lv_isub hx hb dX3_kept_88 ?_
        exact r_int hx hb hr hlk hW (by have e1 : keptF r b d n fl = s2 R 17 0 ((R 17 0) + (1)) := (by subst hj8; rw [hR, e17]; rfl); rw [e1]; exact ⟨by rw [show (((s2 R 17 0 ((R 17 0) + (1))) 17 0) - (1) : Int32) = r 17 0 from by show (R 17 0 + 1) - 1 = _; rw [add1, hR, e17]], hM⟩) (Nat.le_of_ble_eq_true rfl) (Nat.le_of_ble_eq_true rfl) dX3_kept_89
      · skip
        have c_425 := Int32.not_le.mp c_425
        have hj8 : j < 8 := (nI_ltI (b := 8) (by omega) (by decide)).mp c_425
        refine lv_aload_n hx hb dX3_kept_50 rfl (lv_at hl 1 rfl) ?_
        refine m_get hx hb hts hown hK hW hM 5 (by decide) fl_RX3_22 (v := .ref (ad 4)) rfl dX3_kept_51 ?_
        refine lv_bipush (v := 8) hx hb dX3_kept_54 (by decide) ?_
        refine lv_aload_n hx hb dX3_kept_56 rfl (lv_at hl 1 rfl) ?_
        refine m_get hx hb hts hown hK hW hM 0 (by decide) fl_RX3_74 (v := .int (R 17 0)) rfl dX3_kept_57 ?_
        refine lv_imul hx hb dX3_kept_60 ?_
        refine lv_iload hx hb dX3_kept_61 (lv_at hl 0 rfl) ?_
        refine lv_iadd hx hb dX3_kept_63 ?_
        refine lv_iload hx hb dX3_kept_64 (lv_at hl 5 rfl) ?_
        refine m_iast 4 (j := 8 * (nm r) + j) hx hb hK hW hM (by decide) rfl ((it_e eR rfl)) (show 8 * (nm r) + j < 480 from by omega) dX3_kept_66 (fun H1 locs1 g1 hW hM => ?_)
        refine lv_iinc (v := (nI j) + (1)) (lv' := [(5, .int ((nI j) + (1))), (0, .ref (y)), (1, .int (b)), (2, .int (d)), (3, .int (n)), (4, .int (fl))]) hx hb dX3_kept_67 hl (k := 0) rfl rfl (by decide) rfl (fun ls hl => ?_)
        refine lv_goto (tgt := 43) hx hb dX3_kept_70 (by decide) ?_
        exact ih (j + 1) (by omega) (by omega) _ _ _ _ hW (by rw [hR] at hM; exact hM) (by rw [← nI_1]; exact lv_sub hl [0, 1, 2, 3, 4, 5] rfl)
  refine lv_aload_n hx hb dX3_kept_0 rfl (lv_at hl 0 rfl) ?_
  refine m_get hx hb hts hown hK hW hM 1 (by decide) fl_RX3_7 (v := .ref (ad 0)) rfl dX3_kept_1 ?_
  refine lv_aload_n hx hb dX3_kept_4 rfl (lv_at hl 0 rfl) ?_
  refine m_get hx hb hts hown hK hW hM 0 (by decide) fl_RX3_74 (v := .int (r 17 0)) rfl dX3_kept_5 ?_
  refine lv_iload_n hx hb dX3_kept_8 rfl (lv_at hl 1 rfl) ?_
  refine m_iast 0 (j := nm r) hx hb hK hW hM (by decide) rfl eN (show nm r < 60 from by omega) dX3_kept_9 (fun H1 locs1 g1 hW hM => ?_)
  refine lv_aload_n hx hb dX3_kept_10 rfl (lv_at hl 0 rfl) ?_
  refine m_get hx hb hts hown hK hW hM 2 (by decide) fl_RX3_13 (v := .ref (ad 1)) rfl dX3_kept_11 ?_
  refine lv_aload_n hx hb dX3_kept_14 rfl (lv_at hl 0 rfl) ?_
  refine m_get hx hb hts hown hK hW hM 0 (by decide) fl_RX3_74 (v := .int (r 17 0)) rfl dX3_kept_15 ?_
  refine lv_iload_n hx hb dX3_kept_18 rfl (lv_at hl 2 rfl) ?_
  refine m_iast 1 (j := nm r) hx hb hK hW hM (by decide) rfl eN (show nm r < 60 from by omega) dX3_kept_19 (fun H1 locs1 g1 hW hM => ?_)
  refine lv_aload_n hx hb dX3_kept_20 rfl (lv_at hl 0 rfl) ?_
  refine m_get hx hb hts hown hK hW hM 3 (by decide) fl_RX3_16 (v := .ref (ad 2)) rfl dX3_kept_21 ?_
  refine lv_aload_n hx hb dX3_kept_24 rfl (lv_at hl 0 rfl) ?_
  refine m_get hx hb hts hown hK hW hM 0 (by decide) fl_RX3_74 (v := .int (r 17 0)) rfl dX3_kept_25 ?_
  refine lv_iconst (v := 0) hx hb dX3_kept_28 (by decide) ?_
  refine m_iast 2 (j := nm r) hx hb hK hW hM (by decide) rfl eN (show nm r < 60 from by omega) dX3_kept_29 (fun H1 locs1 g1 hW hM => ?_)
  refine lv_aload_n hx hb dX3_kept_30 rfl (lv_at hl 0 rfl) ?_
  refine m_get hx hb hts hown hK hW hM 4 (by decide) fl_RX3_19 (v := .ref (ad 3)) rfl dX3_kept_31 ?_
  refine lv_aload_n hx hb dX3_kept_34 rfl (lv_at hl 0 rfl) ?_
  refine m_get hx hb hts hown hK hW hM 0 (by decide) fl_RX3_74 (v := .int (r 17 0)) rfl dX3_kept_35 ?_
  refine lv_iload_n hx hb dX3_kept_38 rfl (lv_at hl 3 rfl) ?_
  refine m_iast 3 (j := nm r) hx hb hK hW hM (by decide) rfl eN (show nm r < 60 from by omega) dX3_kept_39 (fun H1 locs1 g1 hW hM => ?_)
  refine lv_iconst (v := 0) hx hb dX3_kept_40 (by decide) ?_
  refine lv_istore (lv' := [(5, .int (0)), (0, .ref (y)), (1, .int (b)), (2, .int (d)), (3, .int (n)), (4, .int (fl))]) hx hb dX3_kept_41 hl (by decide) rfl (fun ls hl => ?_)
  exact loop 9 0 (by omega) (by omega) _ _ _ _ hW hM (lv_sub hl [0, 1, 2, 3, 4, 5] rfl)

theorem sl_c (b : Int32) : (b < 0 ∨ 2 < b) ↔ mIn b 0 2 = false := by
  simp only [mIn, Bool.and_eq_false_iff, Bool.not_eq_false', decide_eq_true_eq]

set_option maxHeartbeats 4000000 in
set_option maxRecDepth 100000 in
theorem k_X3_slip (l : Launch) {E : gE} {y : Nat} {ad : Nat → Nat} {r t : sg} {g : gm} (hM : MR E y ad r t g) (hIV : IV r) (b st : Int32) : CM l yX3_slip cX3_slip 4 (some .int) ({ frames := 1, cells := 0, slots := 0, locals := 25 }) E [.ref (y), .int (b), .int (st)] g (fun vv g' => vv = some (.int (Fslip r b st).1) ∧ MR E y ad (Fslip r b st).2 t g') := by
  refine CM.of (by decide) (Nat.le_of_ble_eq_true rfl) ?_
  intro p e s m below meth c ls hM hK hW hl
  obtain ⟨hx, hb, hr, hml, hown, hts, hlk, hnm⟩ := hM
  have hown : s.vm.findClass RX3 = some m.cls := hown
  have hl : lv_has ls 4 [(0, .ref (y)), (1, .int (b)), (2, .int (st))] := hl
  refine lv_iload_n hx hb dX3_slip_0 rfl (lv_at hl 1 rfl) ?_
  refine lv_iconst (v := 0) hx hb dX3_slip_1 (by decide) ?_
  refine lv_iconst (v := 2) hx hb dX3_slip_2 (by decide) ?_
  refine c_stat (own := RX3) (As := [.int (b), .int (0), .int (2)]) (rest := []) hx hb hml hown hts hK hW (k_X3_in l _ _ _) ml_RX3_78 st_yX3_in in_RX3 cd_yX3_in 3 (by decide +kernel) ⟨Nat.le_of_ble_eq_true rfl, Nat.le_of_ble_eq_true rfl⟩ rfl hl.1 rfl (Nat.le_of_ble_eq_true rfl) dX3_slip_3 ⟨Nat.le_of_ble_eq_true rfl, Nat.le_of_ble_eq_true rfl⟩ (fun v g2 H1 locs1 hp hW hKT => ?_)
  obtain ⟨rfl, hg⟩ := hp
  rw [hg] at hW
  refine W.eq (g2 := F0 m 6 ls [.int (bI (mIn (b) (0) (2)))]) rfl ?_
  refine lv_if_ne (tgt := 12) hx hb dX3_slip_6 (by decide) (fun c_426 => ?_) (fun c_426 => ?_)
  · skip
    have c_426 := bI_ne0 c_426
    refine lv_aload_n hx hb dX3_slip_12 rfl (lv_at hl 0 rfl) ?_
    refine m_get hx hb hts hown hK hW hM 0 (by decide) fl_RX3_74 (v := .int (r 17 0)) rfl dX3_slip_13 ?_
    refine lv_bipush (v := 60) hx hb dX3_slip_16 (by decide) ?_
    refine lv_icmp_ne (tgt := 24) hx hb dX3_slip_18 (by decide) (fun c_427 => ?_) (fun c_427 => ?_)
    · skip
      have hn60 := m60n hIV.1 hIV.2.1 c_427
      have hz_428 : r 17 0 < 60 := Decidable.not_not.mp (fun q => c_427 ((m60 hIV.1 hIV.2.1).mpr q))
      refine lv_aload_n hx hb dX3_slip_24 rfl (lv_at hl 0 rfl) ?_
      refine lv_iload_n hx hb dX3_slip_25 rfl (lv_at hl 1 rfl) ?_
      refine lv_iconst (v := 0) hx hb dX3_slip_26 (by decide) ?_
      refine lv_iconst (v := 0) hx hb dX3_slip_27 (by decide) ?_
      refine lv_iconst (v := -1) hx hb dX3_slip_28 (by decide) ?_
      refine c_virt (own := RX3) (As := [.int (b), .int (0), .int (0), .int (-1)]) (rest := []) hx hb hml hown hts hK hW (k_X3_kept l hM hIV.1 hn60 _ _ _ _) ml_RX3_93 im_yX3_kept se_yX3_kept in_RX3 cd_yX3_kept 4 (by decide +kernel) ⟨Nat.le_of_ble_eq_true rfl, Nat.le_of_ble_eq_true rfl⟩ hM.1 rfl rfl rfl hl.1 rfl (Nat.le_of_ble_eq_true rfl) dX3_slip_29 ⟨Nat.le_of_ble_eq_true rfl, Nat.le_of_ble_eq_true rfl⟩ (fun v g2 H1 locs1 hp hW hKT => ?_)
      obtain ⟨rfl, hM⟩ := hp
      refine W.eq (g2 := F0 m 32 ls [.int (r 17 0)]) rfl ?_
      refine lv_istore_n (lv' := [(3, .int (r 17 0)), (0, .ref (y)), (1, .int (b)), (2, .int (st))]) hx hb dX3_slip_32 rfl hl (by decide) rfl (fun ls hl => ?_)
      refine lv_aload_n hx hb dX3_slip_33 rfl (lv_at hl 1 rfl) ?_
      refine m_get hx hb hts hown hK hW hM 3 (by decide) fl_RX3_16 (v := .ref (ad 2)) rfl dX3_slip_34 ?_
      refine lv_iload_n hx hb dX3_slip_37 rfl (lv_at hl 0 rfl) ?_
      refine lv_iload_n hx hb dX3_slip_38 rfl (lv_at hl 3 rfl) ?_
      refine m_iast 2 (j := nm r) hx hb hK hW hM (by decide) rfl ((nI_ix hIV.1).symm) (show nm r < 60 from by omega) dX3_slip_39 (fun H1 locs1 g1 hW hM => ?_)
      refine lv_iload_n hx hb dX3_slip_40 rfl (lv_at hl 0 rfl) ?_
      exact r_int hx hb hr hlk hW (by have e1 : Fslip r b st = (r 17 0, s2 (keptF r (b) (0) (0) (-1)) 2 (nm r) (st)) := (by simp [Fslip, sl_c, entF, fig_0, c_426, c_427, hz_428]); rw [e1]; exact ⟨rfl, hM⟩) (Nat.le_of_ble_eq_true rfl) (Nat.le_of_ble_eq_true rfl) dX3_slip_41
    · skip
      have hz_429 : ¬ r 17 0 < 60 := (m60 hIV.1 hIV.2.1).mp c_427
      refine lv_bipush (v := -3) hx hb dX3_slip_21 (by decide) ?_
      exact r_int hx hb hr hlk hW (by have e1 : Fslip r b st = (-3, r) := (by simp [Fslip, sl_c, entF, fig_0, c_426, c_427, hz_429]); rw [e1]; exact ⟨rfl, hM⟩) (Nat.le_of_ble_eq_true rfl) (Nat.le_of_ble_eq_true rfl) dX3_slip_23
  · skip
    have c_426 := (bI_eq0 _).mp c_426
    refine lv_bipush (v := -2) hx hb dX3_slip_9 (by decide) ?_
    exact r_int hx hb hr hlk hW (by have e1 : Fslip r b st = (-2, r) := (by simp [Fslip, sl_c, entF, fig_0, c_426]); rw [e1]; exact ⟨rfl, hM⟩) (Nat.le_of_ble_eq_true rfl) (Nat.le_of_ble_eq_true rfl) dX3_slip_11

set_option maxHeartbeats 4000000 in
set_option maxRecDepth 100000 in
theorem k_X3_bundle (l : Launch) {E : gE} {y : Nat} {ad : Nat → Nat} {r t : sg} {g : gm} (hM : MR E y ad r t g) (hIV : IV r) (b d n : Int32) : CM l yX3_bundle cX3_bundle 4 (some .int) ({ frames := 1, cells := 0, slots := 0, locals := 25 }) E [.ref (y), .int (b), .int (d), .int (n)] g (fun vv g' => vv = some (.int (Fbundle r b d n).1) ∧ MR E y ad (Fbundle r b d n).2 t g') := by
  refine CM.of (by decide) (Nat.le_of_ble_eq_true rfl) ?_
  intro p e s m below meth c ls hM hK hW hl
  obtain ⟨hx, hb, hr, hml, hown, hts, hlk, hnm⟩ := hM
  have hown : s.vm.findClass RX3 = some m.cls := hown
  have hl : lv_has ls 4 [(0, .ref (y)), (1, .int (b)), (2, .int (d)), (3, .int (n))] := hl
  refine lv_iload_n hx hb dX3_bundle_0 rfl (lv_at hl 1 rfl) ?_
  refine lv_iconst (v := 0) hx hb dX3_bundle_1 (by decide) ?_
  refine lv_iconst (v := 5) hx hb dX3_bundle_2 (by decide) ?_
  refine c_stat (own := RX3) (As := [.int (b), .int (0), .int (5)]) (rest := []) hx hb hml hown hts hK hW (k_X3_in l _ _ _) ml_RX3_78 st_yX3_in in_RX3 cd_yX3_in 3 (by decide +kernel) ⟨Nat.le_of_ble_eq_true rfl, Nat.le_of_ble_eq_true rfl⟩ rfl hl.1 rfl (Nat.le_of_ble_eq_true rfl) dX3_bundle_3 ⟨Nat.le_of_ble_eq_true rfl, Nat.le_of_ble_eq_true rfl⟩ (fun v g2 H1 locs1 hp hW hKT => ?_)
  obtain ⟨rfl, hg⟩ := hp
  rw [hg] at hW
  refine W.eq (g2 := F0 m 6 ls [.int (bI (mIn (b) (0) (5)))]) rfl ?_
  refine lv_if_eq (tgt := 24) hx hb dX3_bundle_6 (by decide) (fun c_430 => ?_) (fun c_430 => ?_)
  · skip
    have c_430 := (bI_eq0 _).mp c_430
    refine lv_bipush (v := -2) hx hb dX3_bundle_24 (by decide) ?_
    exact r_int hx hb hr hlk hW (by have e1 : Fbundle r b d n = (-2, r) := (by simp only [Fbundle, bun_c]; simp [ent_kept, figB, lt4, show mIn 1 1 3 = true from rfl, c_430]); rw [e1]; exact ⟨rfl, hM⟩) (Nat.le_of_ble_eq_true rfl) (Nat.le_of_ble_eq_true rfl) dX3_bundle_26
  · skip
    have c_430 := bI_ne0 c_430
    refine lv_iload_n hx hb dX3_bundle_9 rfl (lv_at hl 2 rfl) ?_
    refine lv_iconst (v := 1) hx hb dX3_bundle_10 (by decide) ?_
    refine lv_iconst (v := 3) hx hb dX3_bundle_11 (by decide) ?_
    refine c_stat (own := RX3) (As := [.int (d), .int (1), .int (3)]) (rest := []) hx hb hml hown hts hK hW (k_X3_in l _ _ _) ml_RX3_78 st_yX3_in in_RX3 cd_yX3_in 3 (by decide +kernel) ⟨Nat.le_of_ble_eq_true rfl, Nat.le_of_ble_eq_true rfl⟩ rfl hl.1 rfl (Nat.le_of_ble_eq_true rfl) dX3_bundle_12 ⟨Nat.le_of_ble_eq_true rfl, Nat.le_of_ble_eq_true rfl⟩ (fun v g2 H1 locs1 hp hW hKT => ?_)
    obtain ⟨rfl, hg⟩ := hp
    rw [hg] at hW
    refine W.eq (g2 := F0 m 15 ls [.int (bI (mIn (d) (1) (3)))]) rfl ?_
    refine lv_if_eq (tgt := 24) hx hb dX3_bundle_15 (by decide) (fun c_431 => ?_) (fun c_431 => ?_)
    · skip
      have c_431 := (bI_eq0 _).mp c_431
      refine lv_bipush (v := -2) hx hb dX3_bundle_24 (by decide) ?_
      exact r_int hx hb hr hlk hW (by have e1 : Fbundle r b d n = (-2, r) := (by simp only [Fbundle, bun_c]; simp [ent_kept, figB, lt4, show mIn 1 1 3 = true from rfl, c_430, c_431]); rw [e1]; exact ⟨rfl, hM⟩) (Nat.le_of_ble_eq_true rfl) (Nat.le_of_ble_eq_true rfl) dX3_bundle_26
    · skip
      have c_431 := bI_ne0 c_431
      refine lv_iload_n hx hb dX3_bundle_18 rfl (lv_at hl 3 rfl) ?_
      refine lv_bipush (v := 8) hx hb dX3_bundle_19 (by decide) ?_
      refine lv_icmp_le (tgt := 27) hx hb dX3_bundle_21 (by decide) (fun c_432 => ?_) (fun c_432 => ?_)
      · skip
        have c_432 := Int32.not_lt.mpr c_432
        refine lv_aload_n hx hb dX3_bundle_27 rfl (lv_at hl 0 rfl) ?_
        refine m_get hx hb hts hown hK hW hM 0 (by decide) fl_RX3_74 (v := .int (r 17 0)) rfl dX3_bundle_28 ?_
        refine lv_bipush (v := 60) hx hb dX3_bundle_31 (by decide) ?_
        refine lv_icmp_ne (tgt := 39) hx hb dX3_bundle_33 (by decide) (fun c_433 => ?_) (fun c_433 => ?_)
        · skip
          have hn60 := m60n hIV.1 hIV.2.1 c_433
          have hz_434 : r 17 0 < 60 := Decidable.not_not.mp (fun q => c_433 ((m60 hIV.1 hIV.2.1).mpr q))
          refine lv_iload_n hx hb dX3_bundle_39 rfl (lv_at hl 3 rfl) ?_
          refine lv_if_ge (tgt := 48) hx hb dX3_bundle_40 (by decide) (fun c_435 => ?_) (fun c_435 => ?_)
          · skip
            have c_435 := Int32.not_lt.mpr c_435
            refine lv_aload_n hx hb dX3_bundle_48 rfl (lv_at hl 0 rfl) ?_
            refine lv_iload_n hx hb dX3_bundle_49 rfl (lv_at hl 1 rfl) ?_
            refine lv_iload_n hx hb dX3_bundle_50 rfl (lv_at hl 2 rfl) ?_
            refine lv_iload_n hx hb dX3_bundle_51 rfl (lv_at hl 3 rfl) ?_
            refine lv_iload_n hx hb dX3_bundle_52 rfl (lv_at hl 1 rfl) ?_
            refine lv_iconst (v := 3) hx hb dX3_bundle_53 (by decide) ?_
            refine lv_icmp_le (tgt := 66) hx hb dX3_bundle_54 (by decide) (fun c_436 => ?_) (fun c_436 => ?_)
            · skip
              have c_436 := Int32.not_lt.mpr c_436
              refine lv_iconst (v := -1) hx hb dX3_bundle_66 (by decide) ?_
              refine c_virt (own := RX3) (As := [.int (b), .int (d), .int (n), .int (-1)]) (rest := []) hx hb hml hown hts hK hW (k_X3_kept l hM hIV.1 hn60 _ _ _ _) ml_RX3_93 im_yX3_kept se_yX3_kept in_RX3 cd_yX3_kept 4 (by decide +kernel) ⟨Nat.le_of_ble_eq_true rfl, Nat.le_of_ble_eq_true rfl⟩ hM.1 rfl rfl rfl hl.1 rfl (Nat.le_of_ble_eq_true rfl) dX3_bundle_67 ⟨Nat.le_of_ble_eq_true rfl, Nat.le_of_ble_eq_true rfl⟩ (fun v g2 H1 locs1 hp hW hKT => ?_)
              obtain ⟨rfl, hM⟩ := hp
              refine W.eq (g2 := F0 m 70 ls [.int (r 17 0)]) rfl ?_
              exact r_int hx hb hr hlk hW (by have e1 : Fbundle r b d n = (r 17 0, keptF r (b) (d) (n) (-1)) := (by simp only [Fbundle, bun_c]; simp [ent_kept, figB, lt4, show mIn 1 1 3 = true from rfl, c_430, c_431, c_432, c_433, hz_434, c_435, c_436]); rw [e1]; exact ⟨rfl, hM⟩) (Nat.le_of_ble_eq_true rfl) (Nat.le_of_ble_eq_true rfl) dX3_bundle_70
            · skip
              have c_436 := Int32.not_le.mp c_436
              refine lv_iload_n hx hb dX3_bundle_57 rfl (lv_at hl 2 rfl) ?_
              refine lv_iconst (v := 1) hx hb dX3_bundle_58 (by decide) ?_
              refine lv_icmp_ne (tgt := 66) hx hb dX3_bundle_59 (by decide) (fun c_437 => ?_) (fun c_437 => ?_)
              · skip
                refine lv_iconst (v := -1) hx hb dX3_bundle_66 (by decide) ?_
                refine c_virt (own := RX3) (As := [.int (b), .int (d), .int (n), .int (-1)]) (rest := []) hx hb hml hown hts hK hW (k_X3_kept l hM hIV.1 hn60 _ _ _ _) ml_RX3_93 im_yX3_kept se_yX3_kept in_RX3 cd_yX3_kept 4 (by decide +kernel) ⟨Nat.le_of_ble_eq_true rfl, Nat.le_of_ble_eq_true rfl⟩ hM.1 rfl rfl rfl hl.1 rfl (Nat.le_of_ble_eq_true rfl) dX3_bundle_67 ⟨Nat.le_of_ble_eq_true rfl, Nat.le_of_ble_eq_true rfl⟩ (fun v g2 H1 locs1 hp hW hKT => ?_)
                obtain ⟨rfl, hM⟩ := hp
                refine W.eq (g2 := F0 m 70 ls [.int (r 17 0)]) rfl ?_
                exact r_int hx hb hr hlk hW (by have e1 : Fbundle r b d n = (r 17 0, keptF r (b) (d) (n) (-1)) := (by simp only [Fbundle, bun_c]; simp [ent_kept, figB, lt4, show mIn 1 1 3 = true from rfl, c_430, c_431, c_432, c_433, hz_434, c_435, c_436, c_437]); rw [e1]; exact ⟨rfl, hM⟩) (Nat.le_of_ble_eq_true rfl) (Nat.le_of_ble_eq_true rfl) dX3_bundle_70
              · skip
                refine lv_iconst (v := 0) hx hb dX3_bundle_62 (by decide) ?_
                refine lv_goto (tgt := 67) hx hb dX3_bundle_63 (by decide) ?_
                refine c_virt (own := RX3) (As := [.int (b), .int (d), .int (n), .int (0)]) (rest := []) hx hb hml hown hts hK hW (k_X3_kept l hM hIV.1 hn60 _ _ _ _) ml_RX3_93 im_yX3_kept se_yX3_kept in_RX3 cd_yX3_kept 4 (by decide +kernel) ⟨Nat.le_of_ble_eq_true rfl, Nat.le_of_ble_eq_true rfl⟩ hM.1 rfl rfl rfl hl.1 rfl (Nat.le_of_ble_eq_true rfl) dX3_bundle_67 ⟨Nat.le_of_ble_eq_true rfl, Nat.le_of_ble_eq_true rfl⟩ (fun v g2 H1 locs1 hp hW hKT => ?_)
                obtain ⟨rfl, hM⟩ := hp
                refine W.eq (g2 := F0 m 70 ls [.int (r 17 0)]) rfl ?_
                exact r_int hx hb hr hlk hW (by have e1 : Fbundle r b d n = (r 17 0, keptF r (b) (d) (n) (0)) := (by simp only [Fbundle, bun_c]; simp [ent_kept, figB, lt4, show mIn 1 1 3 = true from rfl, c_430, c_431, c_432, c_433, hz_434, c_435, c_436, c_437]); rw [e1]; exact ⟨rfl, hM⟩) (Nat.le_of_ble_eq_true rfl) (Nat.le_of_ble_eq_true rfl) dX3_bundle_70
          · skip
            have c_435 := Int32.not_le.mp c_435
            refine lv_bipush (v := -6) hx hb dX3_bundle_43 (by decide) ?_
            refine lv_goto (tgt := 70) hx hb dX3_bundle_45 (by decide) ?_
            exact r_int hx hb hr hlk hW (by have e1 : Fbundle r b d n = (-6, r) := (by simp only [Fbundle, bun_c]; simp [ent_kept, figB, lt4, show mIn 1 1 3 = true from rfl, c_430, c_431, c_432, c_433, hz_434, c_435]); rw [e1]; exact ⟨rfl, hM⟩) (Nat.le_of_ble_eq_true rfl) (Nat.le_of_ble_eq_true rfl) dX3_bundle_70
        · skip
          have hz_438 : ¬ r 17 0 < 60 := (m60 hIV.1 hIV.2.1).mp c_433
          refine lv_bipush (v := -3) hx hb dX3_bundle_36 (by decide) ?_
          exact r_int hx hb hr hlk hW (by have e1 : Fbundle r b d n = (-3, r) := (by simp only [Fbundle, bun_c]; simp [ent_kept, figB, lt4, show mIn 1 1 3 = true from rfl, c_430, c_431, c_432, c_433, hz_438]); rw [e1]; exact ⟨rfl, hM⟩) (Nat.le_of_ble_eq_true rfl) (Nat.le_of_ble_eq_true rfl) dX3_bundle_38
      · skip
        have c_432 := Int32.not_le.mp c_432
        refine lv_bipush (v := -2) hx hb dX3_bundle_24 (by decide) ?_
        exact r_int hx hb hr hlk hW (by have e1 : Fbundle r b d n = (-2, r) := (by simp only [Fbundle, bun_c]; simp [ent_kept, figB, lt4, show mIn 1 1 3 = true from rfl, c_430, c_431, c_432]); rw [e1]; exact ⟨rfl, hM⟩) (Nat.le_of_ble_eq_true rfl) (Nat.le_of_ble_eq_true rfl) dX3_bundle_26

def begT (t : sg) (tp : Nat) (m k : Int32) : sg := s2 (s2 (s2 (s2 t 0 tp m) 1 tp k) 2 tp (-1)) 4 0 (t 4 0 + 1)

set_option maxHeartbeats 4000000 in
set_option maxRecDepth 100000 in
theorem k_X3_begin (l : Launch) {E : gE} {y : Nat} {ad : Nat → Nat} {r t : sg} {g : gm} (hM : MR E y ad r t g) {tp : Nat} (htp : t 4 0 = nI tp) (ht40 : tp < 40) (a b : Int32) : CM l yX3_begin cX3_begin 3 none ({ frames := 0, cells := 0, slots := 0, locals := 0 }) E [.ref (y), .int (a), .int (b)] g (fun vv g' => vv = none ∧ MR E y ad r (begT t tp a b) g') := by
  refine CM.of (by decide) (Nat.le_of_ble_eq_true rfl) ?_
  intro p e s m below meth c ls hM hK hW hl
  obtain ⟨hx, hb, hr, hml, hown, hts, hlk, hnm⟩ := hM
  have hown : s.vm.findClass RX3 = some m.cls := hown
  have hl : lv_has ls 3 [(0, .ref (y)), (1, .int (a)), (2, .int (b))] := hl
  refine lv_aload_n hx hb dX3_begin_0 rfl (lv_at hl 0 rfl) ?_
  refine m_get hx hb hts hown hK hW hM 25 (by decide) fl_RX3_62 (v := .ref (ad 17)) rfl dX3_begin_1 ?_
  refine lv_aload_n hx hb dX3_begin_4 rfl (lv_at hl 0 rfl) ?_
  refine m_get hx hb hts hown hK hW hM 24 (by decide) fl_RX3_117 (v := .int (t 4 0)) rfl dX3_begin_5 ?_
  refine lv_iload_n hx hb dX3_begin_8 rfl (lv_at hl 1 rfl) ?_
  refine m_sast 0 (j := tp) hx hb hK hW hM (by decide) htp (show tp < 40 from by omega) dX3_begin_9 (fun H1 locs1 g1 hW hM => ?_)
  refine lv_aload_n hx hb dX3_begin_10 rfl (lv_at hl 0 rfl) ?_
  refine m_get hx hb hts hown hK hW hM 26 (by decide) fl_RX3_65 (v := .ref (ad 18)) rfl dX3_begin_11 ?_
  refine lv_aload_n hx hb dX3_begin_14 rfl (lv_at hl 0 rfl) ?_
  refine m_get hx hb hts hown hK hW hM 24 (by decide) fl_RX3_117 (v := .int (t 4 0)) rfl dX3_begin_15 ?_
  refine lv_iload_n hx hb dX3_begin_18 rfl (lv_at hl 2 rfl) ?_
  refine m_sast 1 (j := tp) hx hb hK hW hM (by decide) htp (show tp < 40 from by omega) dX3_begin_19 (fun H1 locs1 g1 hW hM => ?_)
  refine lv_aload_n hx hb dX3_begin_20 rfl (lv_at hl 0 rfl) ?_
  refine m_get hx hb hts hown hK hW hM 27 (by decide) fl_RX3_68 (v := .ref (ad 19)) rfl dX3_begin_21 ?_
  refine lv_aload_n hx hb dX3_begin_24 rfl (lv_at hl 0 rfl) ?_
  refine m_get hx hb hts hown hK hW hM 24 (by decide) fl_RX3_117 (v := .int (t 4 0)) rfl dX3_begin_25 ?_
  refine lv_iconst (v := -1) hx hb dX3_begin_28 (by decide) ?_
  refine m_sast 2 (j := tp) hx hb hK hW hM (by decide) htp (show tp < 40 from by omega) dX3_begin_29 (fun H1 locs1 g1 hW hM => ?_)
  refine lv_aload_n hx hb dX3_begin_30 rfl (lv_at hl 0 rfl) ?_
  refine lv_dup hx hb dX3_begin_31 rfl ?_
  refine m_get hx hb hts hown hK hW hM 24 (by decide) fl_RX3_117 (v := .int (t 4 0)) rfl dX3_begin_32 ?_
  refine lv_iconst (v := 1) hx hb dX3_begin_35 (by decide) ?_
  refine lv_iadd hx hb dX3_begin_36 ?_
  refine m_put (r' := r) (t' := s2 (s2 (s2 (s2 t 0 tp (a)) 1 tp (b)) 2 tp (-1)) 4 0 ((t 4 0) + (1))) hx hb hts hown hK hW hM 24 (by decide) fl_RX3_117 rfl rfl (fun _ _ => rfl) (fun f hf => s2_f _ _ _ (by omega)) rfl dX3_begin_37 (fun H1 locs1 g1 hW hM => ?_)
  exact r_void hx hb hr hlk hW (by exact ⟨rfl, hM⟩) (Nat.le_of_ble_eq_true rfl) (Nat.le_of_ble_eq_true rfl) dX3_begin_40

set_option maxHeartbeats 4000000 in
set_option maxRecDepth 100000 in
theorem k_X3_count (l : Launch) {E : gE} {y : Nat} {ad : Nat → Nat} {r t : sg} {g : gm} (hM : MR E y ad r t g) (a : Int32) : CM l yX3_count cX3_count 4 (some .int) ({ frames := 0, cells := 0, slots := 0, locals := 0 }) E [.ref (y), .int (a)] g (fun vv g' => vv = some (.int (Fcount r a)) ∧ g' = g) := by
  refine CM.of (by decide) (Nat.le_of_ble_eq_true rfl) ?_
  intro p e s m below meth c ls hMX hK hW hl
  obtain ⟨hx, hb, hr, hml, hown, hts, hlk, hnm⟩ := hMX
  have hown : s.vm.findClass RX3 = some m.cls := hown
  have hl : lv_has ls 4 [(0, .ref (y)), (1, .int (a))] := hl
  have loop : a = 1 → ∀ (k j : Nat), 8 < j + k → j ≤ 8 → ∀ (H : Heap) (locs : List Loc) (ls : Array Slot), PW E (fr g s.heap.size) s.heap H locs g → lv_has ls 4 [(3, .int (nI j)), (2, .int (nsetN r j)), (0, .ref (y)), (1, .int (a))] → W p l e ({ frames := 0, cells := 0, slots := 0, locals := 0 }) s m ([.ref (y), .int (a)] : List Value).toArray below meth c H locs 0 0 (MQ below (QC E g s.heap.size (fun vv g' => vv = some (.int (Fcount r a)) ∧ g' = g)) ([.ref (y), .int (a)] : List Value).toArray s (Room.cells ({ frames := 0, cells := 0, slots := 0, locals := 0 })) (Room.slots ({ frames := 0, cells := 0, slots := 0, locals := 0 })) (fr g s.heap.size)) (F0 m 9 ls []) := by
    intro ha1 k
    induction k with
    | zero =>
      intro j h1 h2
      exact absurd h1 (by omega)
    | succ k ih =>
      intro j h1 h2 H locs ls hW hl
      refine lv_iload_n hx hb dX3_count_9 rfl (lv_at hl 0 rfl) ?_
      refine lv_bipush (v := 8) hx hb dX3_count_10 (by decide) ?_
      refine lv_icmp_ge (tgt := 38) hx hb dX3_count_12 (by decide) (fun c_439 => ?_) (fun c_439 => ?_)
      · skip
        have c_439 := Int32.not_lt.mpr c_439
        have hj8 : j = 8 := by
          rcases Nat.lt_or_ge j 8 with q1 | q1
          · exact absurd ((nI_ltI (b := 8) (by omega) (by decide)).mpr q1) c_439
          · omega
        refine lv_iload_n hx hb dX3_count_38 rfl (lv_at hl 1 rfl) ?_
        exact r_int hx hb hr hlk hW (by exact ⟨by rw [hj8, ha1]; rfl, rfl⟩) (Nat.le_of_ble_eq_true rfl) (Nat.le_of_ble_eq_true rfl) dX3_count_39
      · skip
        have c_439 := Int32.not_le.mp c_439
        have hj8 : j < 8 := (nI_ltI (b := 8) (by omega) (by decide)).mp c_439
        refine lv_iload_n hx hb dX3_count_15 rfl (lv_at hl 1 rfl) ?_
        refine lv_aload_n hx hb dX3_count_16 rfl (lv_at hl 2 rfl) ?_
        refine m_get hx hb hts hown hK hW hM 6 (by decide) fl_RX3_25 (v := .ref (ad 5)) rfl dX3_count_17 ?_
        refine lv_iload_n hx hb dX3_count_20 rfl (lv_at hl 0 rfl) ?_
        refine m_zald 5 (j := j) (v := r 5 j) hx hb hK hW hM (by decide) rfl rfl (show j < 8 from by omega) rfl dX3_count_21 ?_
        refine lv_if_eq (tgt := 29) hx hb dX3_count_22 (by decide) (fun c_440 => ?_) (fun c_440 => ?_)
        · skip
          refine lv_iconst (v := 0) hx hb dX3_count_29 (by decide) ?_
          refine lv_iadd hx hb dX3_count_30 ?_
          refine lv_istore_n (lv' := [(2, .int ((nsetN r j) + (0))), (3, .int (nI j)), (0, .ref (y)), (1, .int (a))]) hx hb dX3_count_31 rfl hl (by decide) rfl (fun ls hl => ?_)
          refine lv_iinc (v := (nI j) + (1)) (lv' := [(3, .int ((nI j) + (1))), (2, .int ((nsetN r j) + (0))), (0, .ref (y)), (1, .int (a))]) hx hb dX3_count_32 hl (k := 1) rfl rfl (by decide) rfl (fun ls hl => ?_)
          refine lv_goto (tgt := 9) hx hb dX3_count_35 (by decide) ?_
          have e5 : nsetN r (j + 1) = (nsetN r j) + (0) := by simp [nsetN, bI, c_440]
          exact ih (j + 1) (by omega) (by omega) _ _ _ hW (by rw [← nI_1, e5]; exact lv_sub hl [0, 1, 2, 3] rfl)
        · skip
          refine lv_iconst (v := 1) hx hb dX3_count_25 (by decide) ?_
          refine lv_goto (tgt := 30) hx hb dX3_count_26 (by decide) ?_
          refine lv_iadd hx hb dX3_count_30 ?_
          refine lv_istore_n (lv' := [(2, .int ((nsetN r j) + (1))), (3, .int (nI j)), (0, .ref (y)), (1, .int (a))]) hx hb dX3_count_31 rfl hl (by decide) rfl (fun ls hl => ?_)
          refine lv_iinc (v := (nI j) + (1)) (lv' := [(3, .int ((nI j) + (1))), (2, .int ((nsetN r j) + (1))), (0, .ref (y)), (1, .int (a))]) hx hb dX3_count_32 hl (k := 1) rfl rfl (by decide) rfl (fun ls hl => ?_)
          refine lv_goto (tgt := 9) hx hb dX3_count_35 (by decide) ?_
          have e5 : nsetN r (j + 1) = (nsetN r j) + (1) := by simp [nsetN, bI, c_440]
          exact ih (j + 1) (by omega) (by omega) _ _ _ hW (by rw [← nI_1, e5]; exact lv_sub hl [0, 1, 2, 3] rfl)
  refine lv_iload_n hx hb dX3_count_0 rfl (lv_at hl 1 rfl) ?_
  refine lv_iconst (v := 1) hx hb dX3_count_1 (by decide) ?_
  refine lv_icmp_ne (tgt := 40) hx hb dX3_count_2 (by decide) (fun c_441 => ?_) (fun c_441 => ?_)
  · skip
    refine lv_iload_n hx hb dX3_count_40 rfl (lv_at hl 1 rfl) ?_
    refine lv_if_ne (tgt := 51) hx hb dX3_count_41 (by decide) (fun c_442 => ?_) (fun c_442 => ?_)
    · skip
      refine lv_iload_n hx hb dX3_count_51 rfl (lv_at hl 1 rfl) ?_
      refine lv_iconst (v := 2) hx hb dX3_count_52 (by decide) ?_
      refine lv_icmp_ne (tgt := 63) hx hb dX3_count_53 (by decide) (fun c_443 => ?_) (fun c_443 => ?_)
      · skip
        refine lv_bipush (v := -2) hx hb dX3_count_63 (by decide) ?_
        exact r_int hx hb hr hlk hW (by refine ⟨?_, rfl⟩; simp [Fcount, c_441, c_442, c_443]) (Nat.le_of_ble_eq_true rfl) (Nat.le_of_ble_eq_true rfl) dX3_count_65
      · skip
        refine lv_aload_n hx hb dX3_count_56 rfl (lv_at hl 0 rfl) ?_
        refine m_get hx hb hts hown hK hW hM 18 (by decide) fl_RX3_158 (v := .int (r 17 1)) rfl dX3_count_57 ?_
        refine lv_goto (tgt := 65) hx hb dX3_count_60 (by decide) ?_
        exact r_int hx hb hr hlk hW (by refine ⟨?_, rfl⟩; simp [Fcount, c_441, c_442, c_443]) (Nat.le_of_ble_eq_true rfl) (Nat.le_of_ble_eq_true rfl) dX3_count_65
    · skip
      refine lv_aload_n hx hb dX3_count_44 rfl (lv_at hl 0 rfl) ?_
      refine m_get hx hb hts hown hK hW hM 0 (by decide) fl_RX3_74 (v := .int (r 17 0)) rfl dX3_count_45 ?_
      refine lv_goto (tgt := 65) hx hb dX3_count_48 (by decide) ?_
      exact r_int hx hb hr hlk hW (by refine ⟨?_, rfl⟩; simp [Fcount, c_441, c_442]) (Nat.le_of_ble_eq_true rfl) (Nat.le_of_ble_eq_true rfl) dX3_count_65
  · skip
    refine lv_iconst (v := 0) hx hb dX3_count_5 (by decide) ?_
    refine lv_istore_n (lv' := [(2, .int (0)), (0, .ref (y)), (1, .int (a))]) hx hb dX3_count_6 rfl hl (by decide) rfl (fun ls hl => ?_)
    refine lv_iconst (v := 0) hx hb dX3_count_7 (by decide) ?_
    refine lv_istore_n (lv' := [(3, .int (0)), (2, .int (0)), (0, .ref (y)), (1, .int (a))]) hx hb dX3_count_8 rfl hl (by decide) rfl (fun ls hl => ?_)
    exact loop c_441 9 0 (by omega) (by omega) _ _ _ hW (lv_sub hl [0, 1, 2, 3] rfl)
