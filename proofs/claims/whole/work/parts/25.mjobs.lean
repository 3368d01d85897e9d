def meetN (r : sg) (i : Nat) : Nat → Int32
  | 0 => -1
  | n + 1 => if asksB r (7 - n) i then nI (7 - n) else meetN r i n
def overV (r : sg) (c : Nat) (b : Int32) : Int32 := if b = 0 then nI c else if fallF (metF r c) c 7 c = 0 ∨ b = 5 then -10 - b else -100
def overR (r : sg) (c : Nat) (b : Int32) : sg := if b = 0 then tinc (metF r c) 3 else fallF (metF r c) c
def spF (r t : sg) (lv i : Nat) : Nat → Nat → Int32 × sg
  | 0, _ => (0, t)
  | n + 1, j => if r 4 (8 * i + j) = -1 then spF r t lv i n (j + 1) else (1, begT (s2 t 3 lv (nI j + 1)) (ix (t 4 0)) (r 4 (8 * i + j)) (t 2 lv + 1))
theorem fall2_A {B : sg} {c : Nat} (h : B 6 c = 1) : s2 B 6 c 1 = fall2 B c := by
  unfold fall2
  split
  · rfl
  · exact s2_id h
theorem fall2_C {B : sg} {c : Nat} (h : B 6 c = 0) (h2 : ¬ rem3 (B 16 c) = 0) : s2 B 6 c 0 = fall2 B c := by
  unfold fall2
  rw [if_neg h2]
  exact s2_id h
theorem own_v {r : sg} (h60 : nm r ≤ 60) {x : Int32} (h : x = -1 ∨ isMb r x = true) : x = -1 ∨ (¬ x < 0 ∧ ix x < 60) := h.imp id (fun q => ⟨isMb_nn q, Nat.lt_of_lt_of_le (isMb_lt q) h60⟩)

set_option maxHeartbeats 4000000 in
set_option maxRecDepth 100000 in
theorem k_X3_meeting (l : Launch) {E : gE} {y : Nat} {ad : Nat → Nat} {r t : sg} {g : gm} (hM : MR E y ad r t g) {i k : Nat} {a b : Int32} (ha : a = nI i) (hi : i < 60) (hbk : b = nI k) (hk : k ≤ 8) : CM l yX3_meeting cX3_meeting 4 (some .int) ({ frames := 2, cells := 0, slots := 0, locals := 44 }) E [.ref (y), .int (a), .int (b)] g (fun vv g' => vv = some (.int (meetN r i (8 - k))) ∧ g' = g) := by
  refine CM.of (by decide) (Nat.le_of_ble_eq_true rfl) ?_
  intro p e s m below meth c ls hMX hK hW hl
  obtain ⟨hx, hb, hr, hml, hown, hts, hlk, hnm⟩ := hMX
  have hown : s.vm.findClass RX3 = some m.cls := hown
  have hl : lv_has ls 4 [(0, .ref (y)), (1, .int (a)), (2, .int (b))] := hl
  have loop : ∀ (q : Nat), q ≤ 8 → meetN r i q = meetN r i (8 - k) → ∀ (H : Heap) (locs : List Loc) (ls : Array Slot), PW E (fr g s.heap.size) s.heap H locs g → lv_has ls 4 [(3, .int (nI (8 - q))), (0, .ref (y)), (1, .int (a)), (2, .int (b))] → W p l e ({ frames := 2, cells := 0, slots := 0, locals := 44 }) s m ([.ref (y), .int (a), .int (b)] : List Value).toArray below meth c H locs 0 0 (MQ below (QC E g s.heap.size (fun vv g' => vv = some (.int (meetN r i (8 - k))) ∧ g' = g)) ([.ref (y), .int (a), .int (b)] : List Value).toArray s (Room.cells ({ frames := 2, cells := 0, slots := 0, locals := 44 })) (Room.slots ({ frames := 2, cells := 0, slots := 0, locals := 44 })) (fr g s.heap.size)) (F0 m 2 ls []) := by
    intro q
    induction q with
    | zero =>
      intro hq hF H locs ls hW hl
      refine lv_iload_n hx hb dX3_meeting_2 rfl (lv_at hl 0 rfl) ?_
      refine lv_bipush (v := 8) hx hb dX3_meeting_3 (by decide) ?_
      refine lv_icmp_ge (tgt := 54) hx hb dX3_meeting_5 (by decide) (fun c_444 => ?_) (fun c_444 => ?_)
      · skip
        have c_444 := Int32.not_lt.mpr c_444
        refine lv_iconst (v := -1) hx hb dX3_meeting_54 (by decide) ?_
        exact r_int hx hb hr hlk hW (by exact ⟨by rw [← hF]; rfl, rfl⟩) (Nat.le_of_ble_eq_true rfl) (Nat.le_of_ble_eq_true rfl) dX3_meeting_55
      · skip
        have c_444 := Int32.not_le.mp c_444
        exact absurd c_444 (by rw [show nI (8 - 0) = (8 : Int32) from rfl]; decide)
    | succ q ih =>
      intro hq hF H locs ls hW hl
      obtain ⟨c0, hcq⟩ : ∃ c0, c0 = 7 - q := ⟨_, rfl⟩
      rw [show 8 - (q + 1) = c0 from by omega] at hl
      have eC : meetN r i (q + 1) = if asksB r c0 i then nI c0 else meetN r i q := by rw [hcq]; rfl
      refine lv_iload_n hx hb dX3_meeting_2 rfl (lv_at hl 0 rfl) ?_
      refine lv_bipush (v := 8) hx hb dX3_meeting_3 (by decide) ?_
      refine lv_icmp_ge (tgt := 54) hx hb dX3_meeting_5 (by decide) (fun c_445 => ?_) (fun c_445 => ?_)
      · skip
        have c_445 := Int32.not_lt.mpr c_445
        exact absurd ((nI_ltI (a := c0) (b := 8) (by omega) (by decide)).mpr (by omega)) c_445
      · skip
        have c_445 := Int32.not_le.mp c_445
        refine lv_aload_n hx hb dX3_meeting_8 rfl (lv_at hl 1 rfl) ?_
        refine m_get hx hb hts hown hK hW hM 6 (by decide) fl_RX3_25 (v := .ref (ad 5)) rfl dX3_meeting_9 ?_
        refine lv_iload_n hx hb dX3_meeting_12 rfl (lv_at hl 0 rfl) ?_
        refine m_zald 5 (j := c0) (v := r 5 c0) hx hb hK hW hM (by decide) rfl rfl (show c0 < 8 from by omega) rfl dX3_meeting_13 ?_
        refine lv_if_eq (tgt := 48) hx hb dX3_meeting_14 (by decide) (fun c_446 => ?_) (fun c_446 => ?_)
        · skip
          refine lv_iinc (v := (nI c0) + (1)) (lv' := [(3, .int ((nI c0) + (1))), (0, .ref (y)), (1, .int (a)), (2, .int (b))]) hx hb dX3_meeting_48 hl (k := 0) rfl rfl (by decide) rfl (fun ls hl => ?_)
          refine lv_goto (tgt := 2) hx hb dX3_meeting_51 (by decide) ?_
          exact ih (by omega) (by rw [← hF, eC]; simp [asksB, c_445, c_446]) _ _ _ hW (by rw [show nI (8 - q) = nI c0 + 1 from by rw [nI_1]; congr 1; omega]; exact lv_sub hl [0, 1, 2, 3] rfl)
        · skip
          refine lv_aload_n hx hb dX3_meeting_17 rfl (lv_at hl 1 rfl) ?_
          refine m_get hx hb hts hown hK hW hM 7 (by decide) fl_RX3_29 (v := .ref (ad 6)) rfl dX3_meeting_18 ?_
          refine lv_iload_n hx hb dX3_meeting_21 rfl (lv_at hl 0 rfl) ?_
          refine m_zald 6 (j := c0) (v := r 6 c0) hx hb hK hW hM (by decide) rfl rfl (show c0 < 8 from by omega) rfl dX3_meeting_22 ?_
          refine lv_if_ne (tgt := 48) hx hb dX3_meeting_23 (by decide) (fun c_447 => ?_) (fun c_447 => ?_)
          · skip
            refine lv_iinc (v := (nI c0) + (1)) (lv' := [(3, .int ((nI c0) + (1))), (0, .ref (y)), (1, .int (a)), (2, .int (b))]) hx hb dX3_meeting_48 hl (k := 0) rfl rfl (by decide) rfl (fun ls hl => ?_)
            refine lv_goto (tgt := 2) hx hb dX3_meeting_51 (by decide) ?_
            exact ih (by omega) (by rw [← hF, eC]; simp [asksB, c_445, c_446, c_447]) _ _ _ hW (by rw [show nI (8 - q) = nI c0 + 1 from by rw [nI_1]; congr 1; omega]; exact lv_sub hl [0, 1, 2, 3] rfl)
          · skip
            refine lv_aload_n hx hb dX3_meeting_26 rfl (lv_at hl 1 rfl) ?_
            refine lv_iload_n hx hb dX3_meeting_27 rfl (lv_at hl 2 rfl) ?_
            refine lv_aload_n hx hb dX3_meeting_28 rfl (lv_at hl 1 rfl) ?_
            refine m_get hx hb hts hown hK hW hM 9 (by decide) fl_RX3_35 (v := .ref (ad 8)) rfl dX3_meeting_29 ?_
            refine lv_iload_n hx hb dX3_meeting_32 rfl (lv_at hl 0 rfl) ?_
            refine m_iald 8 (j := c0) (v := r 8 c0) hx hb hK hW hM (by decide) rfl rfl (show c0 < 8 from by omega) rfl dX3_meeting_33 ?_
            refine lv_aload_n hx hb dX3_meeting_34 rfl (lv_at hl 1 rfl) ?_
            refine m_get hx hb hts hown hK hW hM 10 (by decide) fl_RX3_38 (v := .ref (ad 9)) rfl dX3_meeting_35 ?_
            refine lv_iload_n hx hb dX3_meeting_38 rfl (lv_at hl 0 rfl) ?_
            refine m_iald 9 (j := c0) (v := r 9 c0) hx hb hK hW hM (by decide) rfl rfl (show c0 < 8 from by omega) rfl dX3_meeting_39 ?_
            refine c_virt (own := RX3) (As := [.int (a), .int (r 8 c0), .int (r 9 c0)]) (rest := []) hx hb hml hown hts hK hW (k_X3_isOf l hM (i := i) ha (by omega) _ _) ml_RX3_90 im_yX3_isOf se_yX3_isOf in_RX3 cd_yX3_isOf 3 (by decide +kernel) ⟨Nat.le_of_ble_eq_true rfl, Nat.le_of_ble_eq_true rfl⟩ hM.1 rfl rfl rfl hl.1 rfl (Nat.le_of_ble_eq_true rfl) dX3_meeting_40 ⟨Nat.le_of_ble_eq_true rfl, Nat.le_of_ble_eq_true rfl⟩ (fun v g2 H1 locs1 hp hW hKT => ?_)
            obtain ⟨rfl, hg⟩ := hp
            rw [hg] at hW
            refine W.eq (g2 := F0 m 43 ls [.int (bI (fitB r i (r 8 c0) (r 9 c0)))]) rfl ?_
            refine lv_if_eq (tgt := 48) hx hb dX3_meeting_43 (by decide) (fun c_448 => ?_) (fun c_448 => ?_)
            · skip
              have c_448 := (bI_eq0 _).mp c_448
              refine lv_iinc (v := (nI c0) + (1)) (lv' := [(3, .int ((nI c0) + (1))), (0, .ref (y)), (1, .int (a)), (2, .int (b))]) hx hb dX3_meeting_48 hl (k := 0) rfl rfl (by decide) rfl (fun ls hl => ?_)
              refine lv_goto (tgt := 2) hx hb dX3_meeting_51 (by decide) ?_
              exact ih (by omega) (by rw [← hF, eC]; simp [asksB, c_445, c_446, c_447, c_448]) _ _ _ hW (by rw [show nI (8 - q) = nI c0 + 1 from by rw [nI_1]; congr 1; omega]; exact lv_sub hl [0, 1, 2, 3] rfl)
            · skip
              have c_448 := bI_ne0 c_448
              refine lv_iload_n hx hb dX3_meeting_46 rfl (lv_at hl 0 rfl) ?_
              exact r_int hx hb hr hlk hW (by refine ⟨?_, rfl⟩; rw [← hF, eC]; simp [asksB, c_445, c_446, c_447, c_448]) (Nat.le_of_ble_eq_true rfl) (Nat.le_of_ble_eq_true rfl) dX3_meeting_47
  refine lv_iload_n hx hb dX3_meeting_0 rfl (lv_at hl 2 rfl) ?_
  refine lv_istore_n (lv' := [(3, .int (b)), (0, .ref (y)), (1, .int (a)), (2, .int (b))]) hx hb dX3_meeting_1 rfl hl (by decide) rfl (fun ls hl => ?_)
  exact loop (8 - k) (by omega) rfl _ _ _ hW (by rw [show 8 - (8 - k) = k from by omega, ← hbk]; exact lv_sub hl [0, 1, 2, 3] rfl)

set_option maxHeartbeats 4000000 in
set_option maxRecDepth 100000 in
theorem k_X3_mark (l : Launch) {E : gE} {y : Nat} {ad : Nat → Nat} {r t : sg} {g : gm} (hM : MR E y ad r t g) (hIV : IV r) {k i : Nat} {a b : Int32} (ha : a = nI k) (hk : k < 8) (hbi : b = nI i) (hi : i < nm r) : CM l yX3_mark cX3_mark 4 (some .int) ({ frames := 1, cells := 0, slots := 0, locals := 21 }) E [.ref (y), .int (a), .int (b)] g (fun vv g' => vv = some (.int (markF r k i).2) ∧ MR E y ad (markF r k i).1 t g') := by
  refine CM.of (by decide) (Nat.le_of_ble_eq_true rfl) ?_
  intro p e s m below meth c ls hMX hK hW hl
  obtain ⟨hx, hb, hr, hml, hown, hts, hlk, hnm⟩ := hMX
  have hown : s.vm.findClass RX3 = some m.cls := hown
  have hl : lv_has ls 4 [(0, .ref (y)), (1, .int (a)), (2, .int (b))] := hl
  have hm := hIV.2.2.1 i hi
  have h8 := hm.2.2.2.1
  have hi60 : i < 60 := Nat.lt_of_lt_of_le hi hIV.2.1
  have loop : ¬ r 1 i = 0 → figB (r 0 i) (r 1 i) = true → ∀ (q j : Nat), ix (r 3 i) < j + q → j ≤ ix (r 3 i) → ∀ (g1 : gm) (H : Heap) (locs : List Loc) (ls : Array Slot), PW E (fr g s.heap.size) s.heap H locs g1 → MR E y ad (fillN r i (lowI (r 0 i) (r 13 k)) j) t g1 → lv_has ls 4 [(3, .int (nI j)), (0, .ref (y)), (1, .int (a)), (2, .int (b))] → W p l e ({ frames := 1, cells := 0, slots := 0, locals := 21 }) s m ([.ref (y), .int (a), .int (b)] : List Value).toArray below meth c H locs 0 0 (MQ below (QC E g s.heap.size (fun vv g' => vv = some (.int (markF r k i).2) ∧ MR E y ad (markF r k i).1 t g')) ([.ref (y), .int (a), .int (b)] : List Value).toArray s (Room.cells ({ frames := 1, cells := 0, slots := 0, locals := 21 })) (Room.slots ({ frames := 1, cells := 0, slots := 0, locals := 21 })) (fr g s.heap.size)) (F0 m 82 ls []) := by
    intro hd0 hf0 q
    induction q with
    | zero =>
      intro j h1 h2
      exact absurd h1 (by omega)
    | succ q ih =>
      intro j h1 h2 g1 H locs ls hW hM hl
      have fz : ∀ f p, f ≠ 4 → fillN r i (lowI (r 0 i) (r 13 k)) j f p = r f p := fun f p hf => by rw [fillN_a, if_neg (fun z9 => hf z9.1)]
      refine lv_iload_n hx hb dX3_mark_82 rfl (lv_at hl 0 rfl) ?_
      refine lv_aload_n hx hb dX3_mark_83 rfl (lv_at hl 1 rfl) ?_
      refine m_get hx hb hts hown hK hW hM 4 (by decide) fl_RX3_19 (v := .ref (ad 3)) rfl dX3_mark_84 ?_
      refine lv_iload_n hx hb dX3_mark_87 rfl (lv_at hl 3 rfl) ?_
      refine m_iald 3 (j := i) (v := r 3 i) hx hb hK hW hM (by decide) rfl hbi (show i < 60 from by omega) (fz 3 i (by decide)) dX3_mark_88 ?_
      refine lv_icmp_ge (tgt := 124) hx hb dX3_mark_89 (by decide) (fun c_449 => ?_) (fun c_449 => ?_)
      · skip
        have c_449 := Int32.not_lt.mpr c_449
        have hj9 : j = ix (r 3 i) := by
          rcases Nat.lt_or_ge j (ix (r 3 i)) with q1 | q1
          · exact absurd (by rw [← nI_ix hm.2.2.1, nI_ltI (by omega) (by omega)]; exact q1) c_449
          · omega
        refine lv_iconst (v := 0) hx hb dX3_mark_124 (by decide) ?_
        exact r_int hx hb hr hlk hW (by have e1 : markF r k i = (fillN r i (lowI (r 0 i) (r 13 k)) j, 0) := (by simp [markF, hd0, hf0, hj9]); rw [e1]; exact ⟨rfl, hM⟩) (Nat.le_of_ble_eq_true rfl) (Nat.le_of_ble_eq_true rfl) dX3_mark_125
      · skip
        have c_449 := Int32.not_le.mp c_449
        have hj9 : j < ix (r 3 i) := by
          rw [← nI_ix hm.2.2.1, nI_ltI (by omega) (by omega)] at c_449
          exact c_449
        refine lv_aload_n hx hb dX3_mark_92 rfl (lv_at hl 1 rfl) ?_
        refine m_get hx hb hts hown hK hW hM 5 (by decide) fl_RX3_22 (v := .ref (ad 4)) rfl dX3_mark_93 ?_
        refine lv_bipush (v := 8) hx hb dX3_mark_96 (by decide) ?_
        refine lv_iload_n hx hb dX3_mark_98 rfl (lv_at hl 3 rfl) ?_
        refine lv_imul hx hb dX3_mark_99 ?_
        refine lv_iload_n hx hb dX3_mark_100 rfl (lv_at hl 0 rfl) ?_
        refine lv_iadd hx hb dX3_mark_101 ?_
        refine lv_aload_n hx hb dX3_mark_102 rfl (lv_at hl 1 rfl) ?_
        refine m_get hx hb hts hown hK hW hM 1 (by decide) fl_RX3_7 (v := .ref (ad 0)) rfl dX3_mark_103 ?_
        refine lv_iload_n hx hb dX3_mark_106 rfl (lv_at hl 3 rfl) ?_
        refine m_iald 0 (j := i) (v := r 0 i) hx hb hK hW hM (by decide) rfl hbi (show i < 60 from by omega) (fz 0 i (by decide)) dX3_mark_107 ?_
        refine lv_aload_n hx hb dX3_mark_108 rfl (lv_at hl 1 rfl) ?_
        refine m_get hx hb hts hown hK hW hM 14 (by decide) fl_RX3_50 (v := .ref (ad 13)) rfl dX3_mark_109 ?_
        refine lv_iload_n hx hb dX3_mark_112 rfl (lv_at hl 2 rfl) ?_
        refine m_iald 13 (j := k) (v := r 13 k) hx hb hK hW hM (by decide) rfl ha (show k < 8 from by omega) (fz 13 k (by decide)) dX3_mark_113 ?_
        refine c_stat (own := RX3) (As := [.int (r 0 i), .int (r 13 k)]) (rest := [.int (((8) * (b)) + (nI j)), .ref (ad 4)]) hx hb hml hown hts hK hW (k_X3_cut l _ _) ml_RX3_107 st_yX3_cut in_RX3 cd_yX3_cut 2 (by decide +kernel) ⟨Nat.le_of_ble_eq_true rfl, Nat.le_of_ble_eq_true rfl⟩ rfl hl.1 rfl (Nat.le_of_ble_eq_true rfl) dX3_mark_114 ⟨Nat.le_of_ble_eq_true rfl, Nat.le_of_ble_eq_true rfl⟩ (fun v g2 H1 locs1 hp hW hKT => ?_)
        obtain ⟨rfl, hg⟩ := hp
        rw [hg] at hW
        refine W.eq (g2 := F0 m 117 ls [.int (lowI (r 0 i) (r 13 k)), .int (((8) * (b)) + (nI j)), .ref (ad 4)]) rfl ?_
        refine m_iast 4 (j := 8 * i + j) hx hb hK hW hM (by decide) rfl ((it_e hbi rfl)) (show 8 * i + j < 480 from by omega) dX3_mark_117 (fun H1 locs1 g1 hW hM => ?_)
        refine lv_iinc (v := (nI j) + (1)) (lv' := [(3, .int ((nI j) + (1))), (0, .ref (y)), (1, .int (a)), (2, .int (b))]) hx hb dX3_mark_118 hl (k := 0) rfl rfl (by decide) rfl (fun ls hl => ?_)
        refine lv_goto (tgt := 82) hx hb dX3_mark_121 (by decide) ?_
        exact ih (j + 1) (by omega) (by omega) _ _ _ _ hW hM (by rw [← nI_1]; exact lv_sub hl [0, 1, 2, 3] rfl)
  refine lv_aload_n hx hb dX3_mark_0 rfl (lv_at hl 0 rfl) ?_
  refine m_get hx hb hts hown hK hW hM 2 (by decide) fl_RX3_13 (v := .ref (ad 1)) rfl dX3_mark_1 ?_
  refine lv_iload_n hx hb dX3_mark_4 rfl (lv_at hl 2 rfl) ?_
  refine m_iald 1 (j := i) (v := r 1 i) hx hb hK hW hM (by decide) rfl hbi (show i < 60 from by omega) rfl dX3_mark_5 ?_
  refine lv_if_ne (tgt := 72) hx hb dX3_mark_6 (by decide) (fun c_450 => ?_) (fun c_450 => ?_)
  · skip
    refine lv_aload_n hx hb dX3_mark_72 rfl (lv_at hl 0 rfl) ?_
    refine lv_iload_n hx hb dX3_mark_73 rfl (lv_at hl 2 rfl) ?_
    refine c_virt (own := RX3) (As := [.int (b)]) (rest := []) hx hb hml hown hts hK hW (k_X3_isFigures l hM (i := i) hbi (by omega)) ml_RX3_86 im_yX3_isFigures se_yX3_isFigures in_RX3 cd_yX3_isFigures 1 (by decide +kernel) ⟨Nat.le_of_ble_eq_true rfl, Nat.le_of_ble_eq_true rfl⟩ hM.1 rfl rfl rfl hl.1 rfl (Nat.le_of_ble_eq_true rfl) dX3_mark_74 ⟨Nat.le_of_ble_eq_true rfl, Nat.le_of_ble_eq_true rfl⟩ (fun v g2 H1 locs1 hp hW hKT => ?_)
    obtain ⟨rfl, hg⟩ := hp
    rw [hg] at hW
    refine W.eq (g2 := F0 m 77 ls [.int (bI (figB (r 0 i) (r 1 i)))]) rfl ?_
    refine lv_if_eq (tgt := 126) hx hb dX3_mark_77 (by decide) (fun c_451 => ?_) (fun c_451 => ?_)
    · skip
      have c_451 := (bI_eq0 _).mp c_451
      refine lv_aload_n hx hb dX3_mark_126 rfl (lv_at hl 0 rfl) ?_
      refine m_get hx hb hts hown hK hW hM 4 (by decide) fl_RX3_19 (v := .ref (ad 3)) rfl dX3_mark_127 ?_
      refine lv_iload_n hx hb dX3_mark_130 rfl (lv_at hl 2 rfl) ?_
      refine m_iald 3 (j := i) (v := r 3 i) hx hb hK hW hM (by decide) rfl hbi (show i < 60 from by omega) rfl dX3_mark_131 ?_
      refine lv_if_ne (tgt := 137) hx hb dX3_mark_132 (by decide) (fun c_452 => ?_) (fun c_452 => ?_)
      · skip
        refine lv_aload_n hx hb dX3_mark_137 rfl (lv_at hl 0 rfl) ?_
        refine m_get hx hb hts hown hK hW hM 5 (by decide) fl_RX3_22 (v := .ref (ad 4)) rfl dX3_mark_138 ?_
        refine lv_bipush (v := 8) hx hb dX3_mark_141 (by decide) ?_
        refine lv_iload_n hx hb dX3_mark_143 rfl (lv_at hl 2 rfl) ?_
        refine lv_imul hx hb dX3_mark_144 ?_
        refine lv_iconst (v := -1) hx hb dX3_mark_145 (by decide) ?_
        refine m_iast 4 (j := 8 * i) hx hb hK hW hM (by decide) rfl ((it_0 hbi)) (show 8 * i < 480 from by omega) dX3_mark_146 (fun H1 locs1 g1 hW hM => ?_)
        refine lv_iconst (v := 0) hx hb dX3_mark_147 (by decide) ?_
        exact r_int hx hb hr hlk hW (by have e1 : markF r k i = (s2 r 4 (8 * i) (-1), 0) := (by simp [markF, markS, c_450, c_451, c_452]); rw [e1]; exact ⟨rfl, hM⟩) (Nat.le_of_ble_eq_true rfl) (Nat.le_of_ble_eq_true rfl) dX3_mark_148
      · skip
        refine lv_iconst (v := 2) hx hb dX3_mark_135 (by decide) ?_
        exact r_int hx hb hr hlk hW (by have e1 : markF r k i = (r, 2) := (by simp [markF, markS, c_450, c_451, c_452]); rw [e1]; exact ⟨rfl, hM⟩) (Nat.le_of_ble_eq_true rfl) (Nat.le_of_ble_eq_true rfl) dX3_mark_136
    · skip
      have c_451 := bI_ne0 c_451
      refine lv_iconst (v := 0) hx hb dX3_mark_80 (by decide) ?_
      refine lv_istore_n (lv' := [(3, .int (0)), (0, .ref (y)), (1, .int (a)), (2, .int (b))]) hx hb dX3_mark_81 rfl hl (by decide) rfl (fun ls hl => ?_)
      exact loop c_450 c_451 (ix (r 3 i) + 1) 0 (by omega) (by omega) _ _ _ _ hW hM (lv_sub hl [0, 1, 2, 3] rfl)
  · skip
    refine lv_aload_n hx hb dX3_mark_9 rfl (lv_at hl 0 rfl) ?_
    refine m_get hx hb hts hown hK hW hM 11 (by decide) fl_RX3_41 (v := .ref (ad 10)) rfl dX3_mark_10 ?_
    refine lv_iload_n hx hb dX3_mark_13 rfl (lv_at hl 1 rfl) ?_
    refine m_iald 10 (j := k) (v := r 10 k) hx hb hK hW hM (by decide) rfl ha (show k < 8 from by omega) rfl dX3_mark_14 ?_
    refine lv_iconst (v := 3) hx hb dX3_mark_15 (by decide) ?_
    refine lv_icmp_ne (tgt := 37) hx hb dX3_mark_16 (by decide) (fun c_453 => ?_) (fun c_453 => ?_)
    · skip
      refine lv_aload_n hx hb dX3_mark_37 rfl (lv_at hl 0 rfl) ?_
      refine m_get hx hb hts hown hK hW hM 3 (by decide) fl_RX3_16 (v := .ref (ad 2)) rfl dX3_mark_38 ?_
      refine lv_iload_n hx hb dX3_mark_41 rfl (lv_at hl 2 rfl) ?_
      refine lv_aload_n hx hb dX3_mark_42 rfl (lv_at hl 0 rfl) ?_
      refine m_get hx hb hts hown hK hW hM 1 (by decide) fl_RX3_7 (v := .ref (ad 0)) rfl dX3_mark_43 ?_
      refine lv_iload_n hx hb dX3_mark_46 rfl (lv_at hl 2 rfl) ?_
      refine m_iald 0 (j := i) (v := r 0 i) hx hb hK hW hM (by decide) rfl hbi (show i < 60 from by omega) rfl dX3_mark_47 ?_
      refine lv_iconst (v := 1) hx hb dX3_mark_48 (by decide) ?_
      refine lv_icmp_ne (tgt := 63) hx hb dX3_mark_49 (by decide) (fun c_454 => ?_) (fun c_454 => ?_)
      · skip
        refine lv_aload_n hx hb dX3_mark_63 rfl (lv_at hl 0 rfl) ?_
        refine m_get hx hb hts hown hK hW hM 14 (by decide) fl_RX3_50 (v := .ref (ad 13)) rfl dX3_mark_64 ?_
        refine lv_iload_n hx hb dX3_mark_67 rfl (lv_at hl 1 rfl) ?_
        refine m_iald 13 (j := k) (v := r 13 k) hx hb hK hW hM (by decide) rfl ha (show k < 8 from by omega) rfl dX3_mark_68 ?_
        refine m_iast 2 (j := i) hx hb hK hW hM (by decide) rfl hbi (show i < 60 from by omega) dX3_mark_69 (fun H1 locs1 g1 hW hM => ?_)
        refine lv_iconst (v := 0) hx hb dX3_mark_70 (by decide) ?_
        exact r_int hx hb hr hlk hW (by have e1 : markF r k i = (s2 r 2 i (r 13 k), 0) := (by simp [markF, markS, c_450, c_453, c_454]); rw [e1]; exact ⟨rfl, hM⟩) (Nat.le_of_ble_eq_true rfl) (Nat.le_of_ble_eq_true rfl) dX3_mark_71
      · skip
        refine lv_iconst (v := 2) hx hb dX3_mark_52 (by decide) ?_
        refine lv_aload_n hx hb dX3_mark_53 rfl (lv_at hl 0 rfl) ?_
        refine m_get hx hb hts hown hK hW hM 14 (by decide) fl_RX3_50 (v := .ref (ad 13)) rfl dX3_mark_54 ?_
        refine lv_iload_n hx hb dX3_mark_57 rfl (lv_at hl 1 rfl) ?_
        refine m_iald 13 (j := k) (v := r 13 k) hx hb hK hW hM (by decide) rfl ha (show k < 8 from by omega) rfl dX3_mark_58 ?_
        refine lv_imul hx hb dX3_mark_59 ?_
        refine lv_goto (tgt := 69) hx hb dX3_mark_60 (by decide) ?_
        refine m_iast 2 (j := i) hx hb hK hW hM (by decide) rfl hbi (show i < 60 from by omega) dX3_mark_69 (fun H1 locs1 g1 hW hM => ?_)
        refine lv_iconst (v := 0) hx hb dX3_mark_70 (by decide) ?_
        exact r_int hx hb hr hlk hW (by have e1 : markF r k i = (s2 r 2 i ((2) * (r 13 k)), 0) := (by simp [markF, markS, c_450, c_453, c_454]); rw [e1]; exact ⟨rfl, hM⟩) (Nat.le_of_ble_eq_true rfl) (Nat.le_of_ble_eq_true rfl) dX3_mark_71
    · skip
      refine lv_aload_n hx hb dX3_mark_19 rfl (lv_at hl 0 rfl) ?_
      refine m_get hx hb hts hown hK hW hM 3 (by decide) fl_RX3_16 (v := .ref (ad 2)) rfl dX3_mark_20 ?_
      refine lv_iload_n hx hb dX3_mark_23 rfl (lv_at hl 2 rfl) ?_
      refine lv_dup2_11 hx hb dX3_mark_24 rfl rfl ?_
      refine m_iald 2 (j := i) (v := r 2 i) hx hb hK hW hM (by decide) rfl hbi (show i < 60 from by omega) rfl dX3_mark_25 ?_
      refine lv_aload_n hx hb dX3_mark_26 rfl (lv_at hl 0 rfl) ?_
      refine m_get hx hb hts hown hK hW hM 14 (by decide) fl_RX3_50 (v := .ref (ad 13)) rfl dX3_mark_27 ?_
      refine lv_iload_n hx hb dX3_mark_30 rfl (lv_at hl 1 rfl) ?_
      refine m_iald 13 (j := k) (v := r 13 k) hx hb hK hW hM (by decide) rfl ha (show k < 8 from by omega) rfl dX3_mark_31 ?_
      refine lv_isub hx hb dX3_mark_32 ?_
      refine m_iast 2 (j := i) hx hb hK hW hM (by decide) rfl hbi (show i < 60 from by omega) dX3_mark_33 (fun H1 locs1 g1 hW hM => ?_)
      refine lv_goto (tgt := 70) hx hb dX3_mark_34 (by decide) ?_
      refine lv_iconst (v := 0) hx hb dX3_mark_70 (by decide) ?_
      exact r_int hx hb hr hlk hW (by have e1 : markF r k i = (s2 r 2 i ((r 2 i) - (r 13 k)), 0) := (by simp [markF, markS, c_450, c_453]); rw [e1]; exact ⟨rfl, hM⟩) (Nat.le_of_ble_eq_true rfl) (Nat.le_of_ble_eq_true rfl) dX3_mark_71

set_option maxHeartbeats 4000000 in
set_option maxRecDepth 100000 in
theorem k_X3_lay (l : Launch) {E : gE} {y : Nat} {ad : Nat → Nat} {r t : sg} {g : gm} (hM : MR E y ad r t g) (hIV : IV r) {k i : Nat} {a b : Int32} (ha : a = nI k) (hk : k < 8) (hbi : b = nI i) (hi : i < nm r) (hs : r 5 k ≠ 0) : CM l yX3_lay cX3_lay 4 (some .int) ({ frames := 3, cells := 0, slots := 0, locals := 66 }) E [.ref (y), .int (a), .int (b)] g (fun vv g' => vv = some (.int (layF r k i).2) ∧ MR E y ad (layF r k i).1 t g') := by
  refine CM.of (by decide) (Nat.le_of_ble_eq_true rfl) ?_
  intro p e s m below meth c ls hM hK hW hl
  obtain ⟨hx, hb, hr, hml, hown, hts, hlk, hnm⟩ := hM
  have hown : s.vm.findClass RX3 = some m.cls := hown
  have hl : lv_has ls 4 [(0, .ref (y)), (1, .int (a)), (2, .int (b))] := hl
  have hm := hIV.2.2.1 i hi
  have hi60 : i < 60 := Nat.lt_of_lt_of_le hi hIV.2.1
  have hxx := own_v hIV.2.1 ((hIV.2.2.2 k hk).2.2.2 hs).1
  refine lv_aload_n hx hb dX3_lay_0 rfl (lv_at hl 0 rfl) ?_
  refine m_get hx hb hts hown hK hW hM 15 (by decide) fl_RX3_53 (v := .ref (ad 14)) rfl dX3_lay_1 ?_
  refine lv_iload_n hx hb dX3_lay_4 rfl (lv_at hl 1 rfl) ?_
  refine m_iald 14 (j := k) (v := r 14 k) hx hb hK hW hM (by decide) rfl ha (show k < 8 from by omega) rfl dX3_lay_5 ?_
  refine lv_istore_n (lv' := [(3, .int (r 14 k)), (0, .ref (y)), (1, .int (a)), (2, .int (b))]) hx hb dX3_lay_6 rfl hl (by decide) rfl (fun ls hl => ?_)
  refine lv_iload_n hx hb dX3_lay_7 rfl (lv_at hl 0 rfl) ?_
  refine lv_iconst (v := -1) hx hb dX3_lay_8 (by decide) ?_
  refine lv_icmp_eq (tgt := 36) hx hb dX3_lay_9 (by decide) (fun c_455 => ?_) (fun c_455 => ?_)
  · skip
    refine lv_aload_n hx hb dX3_lay_36 rfl (lv_at hl 1 rfl) ?_
    refine m_get hx hb hts hown hK hW hM 14 (by decide) fl_RX3_50 (v := .ref (ad 13)) rfl dX3_lay_37 ?_
    refine lv_iload_n hx hb dX3_lay_40 rfl (lv_at hl 2 rfl) ?_
    refine m_iald 13 (j := k) (v := r 13 k) hx hb hK hW hM (by decide) rfl ha (show k < 8 from by omega) rfl dX3_lay_41 ?_
    refine lv_iconst (v := 0) hx hb dX3_lay_42 (by decide) ?_
    refine lv_aload_n hx hb dX3_lay_43 rfl (lv_at hl 1 rfl) ?_
    refine m_get hx hb hts hown hK hW hM 4 (by decide) fl_RX3_19 (v := .ref (ad 3)) rfl dX3_lay_44 ?_
    refine lv_iload_n hx hb dX3_lay_47 rfl (lv_at hl 3 rfl) ?_
    refine m_iald 3 (j := i) (v := r 3 i) hx hb hK hW hM (by decide) rfl hbi (show i < 60 from by omega) rfl dX3_lay_48 ?_
    refine lv_iconst (v := 1) hx hb dX3_lay_49 (by decide) ?_
    refine lv_isub hx hb dX3_lay_50 ?_
    refine c_stat (own := RX3) (As := [.int (r 13 k), .int (0), .int ((r 3 i) - (1))]) (rest := []) hx hb hml hown hts hK hW (k_X3_in l _ _ _) ml_RX3_78 st_yX3_in in_RX3 cd_yX3_in 3 (by decide +kernel) ⟨Nat.le_of_ble_eq_true rfl, Nat.le_of_ble_eq_true rfl⟩ rfl hl.1 rfl (Nat.le_of_ble_eq_true rfl) dX3_lay_51 ⟨Nat.le_of_ble_eq_true rfl, Nat.le_of_ble_eq_true rfl⟩ (fun v g2 H1 locs1 hp hW hKT => ?_)
    obtain ⟨rfl, hg⟩ := hp
    rw [hg] at hW
    refine W.eq (g2 := F0 m 54 ls [.int (bI (mIn (r 13 k) (0) ((r 3 i) - (1))))]) rfl ?_
    refine lv_if_ne (tgt := 59) hx hb dX3_lay_54 (by decide) (fun c_456 => ?_) (fun c_456 => ?_)
    · skip
      have c_456 := bI_ne0 c_456
      have hb_457 := inB_lt (by rw [← mIn_in hm.2.2.1 hm.2.2.2.1]; exact c_456) hm.2.2.1
      have hb_458 : ix (r 13 k) < 8 := Nat.lt_of_lt_of_le hb_457.2 hm.2.2.2.1
      refine lv_aload_n hx hb dX3_lay_59 rfl (lv_at hl 1 rfl) ?_
      refine lv_iload_n hx hb dX3_lay_60 rfl (lv_at hl 3 rfl) ?_
      refine lv_iload_n hx hb dX3_lay_61 rfl (lv_at hl 0 rfl) ?_
      refine c_virt (own := RX3) (As := [.int (b), .int (r 14 k)]) (rest := []) hx hb hml hown hts hK hW (k_X3_holds l hM (i := i) hbi (by omega) hxx) ml_RX3_103 im_yX3_holds se_yX3_holds in_RX3 cd_yX3_holds 2 (by decide +kernel) ⟨Nat.le_of_ble_eq_true rfl, Nat.le_of_ble_eq_true rfl⟩ hM.1 rfl rfl rfl hl.1 rfl (Nat.le_of_ble_eq_true rfl) dX3_lay_62 ⟨Nat.le_of_ble_eq_true rfl, Nat.le_of_ble_eq_true rfl⟩ (fun v g2 H1 locs1 hp hW hKT => ?_)
      obtain ⟨rfl, hg⟩ := hp
      rw [hg] at hW
      refine W.eq (g2 := F0 m 65 ls [.int (bI (holdB r i (r 14 k)))]) rfl ?_
      refine lv_if_ne (tgt := 70) hx hb dX3_lay_65 (by decide) (fun c_459 => ?_) (fun c_459 => ?_)
      · skip
        have c_459 := bI_ne0 c_459
        refine lv_aload_n hx hb dX3_lay_70 rfl (lv_at hl 1 rfl) ?_
        refine m_get hx hb hts hown hK hW hM 5 (by decide) fl_RX3_22 (v := .ref (ad 4)) rfl dX3_lay_71 ?_
        refine lv_bipush (v := 8) hx hb dX3_lay_74 (by decide) ?_
        refine lv_iload_n hx hb dX3_lay_76 rfl (lv_at hl 3 rfl) ?_
        refine lv_imul hx hb dX3_lay_77 ?_
        refine lv_aload_n hx hb dX3_lay_78 rfl (lv_at hl 1 rfl) ?_
        refine m_get hx hb hts hown hK hW hM 14 (by decide) fl_RX3_50 (v := .ref (ad 13)) rfl dX3_lay_79 ?_
        refine lv_iload_n hx hb dX3_lay_82 rfl (lv_at hl 2 rfl) ?_
        refine m_iald 13 (j := k) (v := r 13 k) hx hb hK hW hM (by decide) rfl ha (show k < 8 from by omega) rfl dX3_lay_83 ?_
        refine lv_iadd hx hb dX3_lay_84 ?_
        refine lv_iload_n hx hb dX3_lay_85 rfl (lv_at hl 0 rfl) ?_
        refine m_iast 4 (j := 8 * i + (ix (r 13 k))) hx hb hK hW hM (by decide) rfl ((it_e hbi ((nI_ix hb_457.1).symm))) (show 8 * i + (ix (r 13 k)) < 480 from by omega) dX3_lay_86 (fun H1 locs1 g1 hW hM => ?_)
        refine lv_iconst (v := 0) hx hb dX3_lay_87 (by decide) ?_
        exact r_int hx hb hr hlk hW (by have e1 : layF r k i = (s2 r 4 (8 * i + (ix (r 13 k))) (r 14 k), 0) := (by simp only [layF, ← mIn_in hm.2.2.1 hm.2.2.2.1]; first | (simp [c_455, c_456, c_459]; done) | (simp_all; done)); rw [e1]; exact ⟨rfl, hM⟩) (Nat.le_of_ble_eq_true rfl) (Nat.le_of_ble_eq_true rfl) dX3_lay_88
      · skip
        have c_459 := (bI_eq0 _).mp c_459
        refine lv_iconst (v := 3) hx hb dX3_lay_68 (by decide) ?_
        exact r_int hx hb hr hlk hW (by have e1 : layF r k i = (r, 3) := (by simp only [layF, ← mIn_in hm.2.2.1 hm.2.2.2.1]; first | (simp [c_455, c_456, c_459]; done) | (simp_all; done)); rw [e1]; exact ⟨rfl, hM⟩) (Nat.le_of_ble_eq_true rfl) (Nat.le_of_ble_eq_true rfl) dX3_lay_69
    · skip
      have c_456 := (bI_eq0 _).mp c_456
      refine lv_iconst (v := 2) hx hb dX3_lay_57 (by decide) ?_
      exact r_int hx hb hr hlk hW (by have e1 : layF r k i = (r, 2) := (by simp only [layF, ← mIn_in hm.2.2.1 hm.2.2.2.1]; first | (simp [c_455, c_456]; done) | (simp_all; done)); rw [e1]; exact ⟨rfl, hM⟩) (Nat.le_of_ble_eq_true rfl) (Nat.le_of_ble_eq_true rfl) dX3_lay_58
  · skip
    have hq := hxx.resolve_left c_455
    have hq2 := hq.2
    refine lv_aload_n hx hb dX3_lay_12 rfl (lv_at hl 1 rfl) ?_
    refine lv_iload_n hx hb dX3_lay_13 rfl (lv_at hl 0 rfl) ?_
    refine lv_aload_n hx hb dX3_lay_14 rfl (lv_at hl 1 rfl) ?_
    refine m_get hx hb hts hown hK hW hM 11 (by decide) fl_RX3_41 (v := .ref (ad 10)) rfl dX3_lay_15 ?_
    refine lv_iload_n hx hb dX3_lay_18 rfl (lv_at hl 2 rfl) ?_
    refine m_iald 10 (j := k) (v := r 10 k) hx hb hK hW hM (by decide) rfl ha (show k < 8 from by omega) rfl dX3_lay_19 ?_
    refine lv_aload_n hx hb dX3_lay_20 rfl (lv_at hl 1 rfl) ?_
    refine m_get hx hb hts hown hK hW hM 12 (by decide) fl_RX3_44 (v := .ref (ad 11)) rfl dX3_lay_21 ?_
    refine lv_iload_n hx hb dX3_lay_24 rfl (lv_at hl 2 rfl) ?_
    refine m_iald 11 (j := k) (v := r 11 k) hx hb hK hW hM (by decide) rfl ha (show k < 8 from by omega) rfl dX3_lay_25 ?_
    refine lv_iconst (v := 1) hx hb dX3_lay_26 (by decide) ?_
    refine lv_isub hx hb dX3_lay_27 ?_
    refine c_virt (own := RX3) (As := [.int (r 14 k), .int (r 10 k), .int ((r 11 k) - (1))]) (rest := []) hx hb hml hown hts hK hW (k_X3_isOf l hM (i := ix (r 14 k)) ((nI_ix hq.1).symm) (by omega) _ _) ml_RX3_90 im_yX3_isOf se_yX3_isOf in_RX3 cd_yX3_isOf 3 (by decide +kernel) ⟨Nat.le_of_ble_eq_true rfl, Nat.le_of_ble_eq_true rfl⟩ hM.1 rfl rfl rfl hl.1 rfl (Nat.le_of_ble_eq_true rfl) dX3_lay_28 ⟨Nat.le_of_ble_eq_true rfl, Nat.le_of_ble_eq_true rfl⟩ (fun v g2 H1 locs1 hp hW hKT => ?_)
    obtain ⟨rfl, hg⟩ := hp
    rw [hg] at hW
    refine W.eq (g2 := F0 m 31 ls [.int (bI (fitB r (ix (r 14 k)) (r 10 k) ((r 11 k) - (1))))]) rfl ?_
    refine lv_if_ne (tgt := 36) hx hb dX3_lay_31 (by decide) (fun c_460 => ?_) (fun c_460 => ?_)
    · skip
      have c_460 := bI_ne0 c_460
      refine lv_aload_n hx hb dX3_lay_36 rfl (lv_at hl 1 rfl) ?_
      refine m_get hx hb hts hown hK hW hM 14 (by decide) fl_RX3_50 (v := .ref (ad 13)) rfl dX3_lay_37 ?_
      refine lv_iload_n hx hb dX3_lay_40 rfl (lv_at hl 2 rfl) ?_
      refine m_iald 13 (j := k) (v := r 13 k) hx hb hK hW hM (by decide) rfl ha (show k < 8 from by omega) rfl dX3_lay_41 ?_
      refine lv_iconst (v := 0) hx hb dX3_lay_42 (by decide) ?_
      refine lv_aload_n hx hb dX3_lay_43 rfl (lv_at hl 1 rfl) ?_
      refine m_get hx hb hts hown hK hW hM 4 (by decide) fl_RX3_19 (v := .ref (ad 3)) rfl dX3_lay_44 ?_
      refine lv_iload_n hx hb dX3_lay_47 rfl (lv_at hl 3 rfl) ?_
      refine m_iald 3 (j := i) (v := r 3 i) hx hb hK hW hM (by decide) rfl hbi (show i < 60 from by omega) rfl dX3_lay_48 ?_
      refine lv_iconst (v := 1) hx hb dX3_lay_49 (by decide) ?_
      refine lv_isub hx hb dX3_lay_50 ?_
      refine c_stat (own := RX3) (As := [.int (r 13 k), .int (0), .int ((r 3 i) - (1))]) (rest := []) hx hb hml hown hts hK hW (k_X3_in l _ _ _) ml_RX3_78 st_yX3_in in_RX3 cd_yX3_in 3 (by decide +kernel) ⟨Nat.le_of_ble_eq_true rfl, Nat.le_of_ble_eq_true rfl⟩ rfl hl.1 rfl (Nat.le_of_ble_eq_true rfl) dX3_lay_51 ⟨Nat.le_of_ble_eq_true rfl, Nat.le_of_ble_eq_true rfl⟩ (fun v g2 H1 locs1 hp hW hKT => ?_)
      obtain ⟨rfl, hg⟩ := hp
      rw [hg] at hW
      refine W.eq (g2 := F0 m 54 ls [.int (bI (mIn (r 13 k) (0) ((r 3 i) - (1))))]) rfl ?_
      refine lv_if_ne (tgt := 59) hx hb dX3_lay_54 (by decide) (fun c_461 => ?_) (fun c_461 => ?_)
      · skip
        have c_461 := bI_ne0 c_461
        have hb_462 := inB_lt (by rw [← mIn_in hm.2.2.1 hm.2.2.2.1]; exact c_461) hm.2.2.1
        have hb_463 : ix (r 13 k) < 8 := Nat.lt_of_lt_of_le hb_462.2 hm.2.2.2.1
        refine lv_aload_n hx hb dX3_lay_59 rfl (lv_at hl 1 rfl) ?_
        refine lv_iload_n hx hb dX3_lay_60 rfl (lv_at hl 3 rfl) ?_
        refine lv_iload_n hx hb dX3_lay_61 rfl (lv_at hl 0 rfl) ?_
        refine c_virt (own := RX3) (As := [.int (b), .int (r 14 k)]) (rest := []) hx hb hml hown hts hK hW (k_X3_holds l hM (i := i) hbi (by omega) hxx) ml_RX3_103 im_yX3_holds se_yX3_holds in_RX3 cd_yX3_holds 2 (by decide +kernel) ⟨Nat.le_of_ble_eq_true rfl, Nat.le_of_ble_eq_true rfl⟩ hM.1 rfl rfl rfl hl.1 rfl (Nat.le_of_ble_eq_true rfl) dX3_lay_62 ⟨Nat.le_of_ble_eq_true rfl, Nat.le_of_ble_eq_true rfl⟩ (fun v g2 H1 locs1 hp hW hKT => ?_)
        obtain ⟨rfl, hg⟩ := hp
        rw [hg] at hW
        refine W.eq (g2 := F0 m 65 ls [.int (bI (holdB r i (r 14 k)))]) rfl ?_
        refine lv_if_ne (tgt := 70) hx hb dX3_lay_65 (by decide) (fun c_464 => ?_) (fun c_464 => ?_)
        · skip
          have c_464 := bI_ne0 c_464
          refine lv_aload_n hx hb dX3_lay_70 rfl (lv_at hl 1 rfl) ?_
          refine m_get hx hb hts hown hK hW hM 5 (by decide) fl_RX3_22 (v := .ref (ad 4)) rfl dX3_lay_71 ?_
          refine lv_bipush (v := 8) hx hb dX3_lay_74 (by decide) ?_
          refine lv_iload_n hx hb dX3_lay_76 rfl (lv_at hl 3 rfl) ?_
          refine lv_imul hx hb dX3_lay_77 ?_
          refine lv_aload_n hx hb dX3_lay_78 rfl (lv_at hl 1 rfl) ?_
          refine m_get hx hb hts hown hK hW hM 14 (by decide) fl_RX3_50 (v := .ref (ad 13)) rfl dX3_lay_79 ?_
          refine lv_iload_n hx hb dX3_lay_82 rfl (lv_at hl 2 rfl) ?_
          refine m_iald 13 (j := k) (v := r 13 k) hx hb hK hW hM (by decide) rfl ha (show k < 8 from by omega) rfl dX3_lay_83 ?_
          refine lv_iadd hx hb dX3_lay_84 ?_
          refine lv_iload_n hx hb dX3_lay_85 rfl (lv_at hl 0 rfl) ?_
          refine m_iast 4 (j := 8 * i + (ix (r 13 k))) hx hb hK hW hM (by decide) rfl ((it_e hbi ((nI_ix hb_462.1).symm))) (show 8 * i + (ix (r 13 k)) < 480 from by omega) dX3_lay_86 (fun H1 locs1 g1 hW hM => ?_)
          refine lv_iconst (v := 0) hx hb dX3_lay_87 (by decide) ?_
          exact r_int hx hb hr hlk hW (by have e1 : layF r k i = (s2 r 4 (8 * i + (ix (r 13 k))) (r 14 k), 0) := (by simp only [layF, ← mIn_in hm.2.2.1 hm.2.2.2.1]; first | (simp [c_455, c_460, c_461, c_464]; done) | (simp_all; done)); rw [e1]; exact ⟨rfl, hM⟩) (Nat.le_of_ble_eq_true rfl) (Nat.le_of_ble_eq_true rfl) dX3_lay_88
        · skip
          have c_464 := (bI_eq0 _).mp c_464
          refine lv_iconst (v := 3) hx hb dX3_lay_68 (by decide) ?_
          exact r_int hx hb hr hlk hW (by have e1 : layF r k i = (r, 3) := (by simp only [layF, ← mIn_in hm.2.2.1 hm.2.2.2.1]; first | (simp [c_455, c_460, c_461, c_464]; done) | (simp_all; done)); rw [e1]; exact ⟨rfl, hM⟩) (Nat.le_of_ble_eq_true rfl) (Nat.le_of_ble_eq_true rfl) dX3_lay_69
      · skip
        have c_461 := (bI_eq0 _).mp c_461
        refine lv_iconst (v := 2) hx hb dX3_lay_57 (by decide) ?_
        exact r_int hx hb hr hlk hW (by have e1 : layF r k i = (r, 2) := (by simp only [layF, ← mIn_in hm.2.2.1 hm.2.2.2.1]; first | (simp [c_455, c_460, c_461]; done) | (simp_all; done)); rw [e1]; exact ⟨rfl, hM⟩) (Nat.le_of_ble_eq_true rfl) (Nat.le_of_ble_eq_true rfl) dX3_lay_58
    · skip
      have c_460 := (bI_eq0 _).mp c_460
      refine lv_iconst (v := 1) hx hb dX3_lay_34 (by decide) ?_
      exact r_int hx hb hr hlk hW (by have e1 : layF r k i = (r, 1) := (by simp only [layF, ← mIn_in hm.2.2.1 hm.2.2.2.1]; first | (simp [c_455, c_460]; done) | (simp_all; done)); rw [e1]; exact ⟨rfl, hM⟩) (Nat.le_of_ble_eq_true rfl) (Nat.le_of_ble_eq_true rfl) dX3_lay_35

set_option maxHeartbeats 4000000 in
set_option maxRecDepth 100000 in
theorem k_X3_over (l : Launch) {E : gE} {y : Nat} {ad : Nat → Nat} {r t : sg} {g : gm} (hM : MR E y ad r t g) {lv c0 : Nat} {a : Int32} (ha : a = nI lv) (hlv : lv < 40) (hc0 : t 2 lv = nI c0) (hc8 : c0 < 8) (hIVk : IVk r c0) (b : Int32) : CM l yX3_over cX3_over 4 (some .int) ({ frames := 0, cells := 0, slots := 0, locals := 0 }) E [.ref (y), .int (a), .int (b)] g (fun vv g' => vv = some (.int (overV r c0 b)) ∧ MR E y ad (overR r c0 b) t g') := by
  refine CM.of (by decide) (Nat.le_of_ble_eq_true rfl) ?_
  intro p e s m below meth c ls hM hK hW hl
  obtain ⟨hx, hb, hr, hml, hown, hts, hlk, hnm⟩ := hM
  have hown : s.vm.findClass RX3 = some m.cls := hown
  have hl : lv_has ls 4 [(0, .ref (y)), (1, .int (a)), (2, .int (b))] := hl
  refine lv_aload_n hx hb dX3_over_0 rfl (lv_at hl 0 rfl) ?_
  refine m_get hx hb hts hown hK hW hM 27 (by decide) fl_RX3_68 (v := .ref (ad 19)) rfl dX3_over_1 ?_
  refine lv_iload_n hx hb dX3_over_4 rfl (lv_at hl 1 rfl) ?_
  refine m_iald 19 (j := lv) (v := t 2 lv) hx hb hK hW hM (by decide) rfl ha (show lv < 40 from by omega) rfl dX3_over_5 ?_
  refine lv_istore_n (lv' := [(3, .int (t 2 lv)), (0, .ref (y)), (1, .int (a)), (2, .int (b))]) hx hb dX3_over_6 rfl hl (by decide) rfl (fun ls hl => ?_)
  refine lv_aload_n hx hb dX3_over_7 rfl (lv_at hl 1 rfl) ?_
  refine m_get hx hb hts hown hK hW hM 16 (by decide) fl_RX3_56 (v := .ref (ad 15)) rfl dX3_over_8 ?_
  refine lv_iload_n hx hb dX3_over_11 rfl (lv_at hl 0 rfl) ?_
  refine lv_dup2_11 hx hb dX3_over_12 rfl rfl ?_
  refine m_iald 15 (j := c0) (v := r 15 c0) hx hb hK hW hM (by decide) rfl hc0 (show c0 < 8 from by omega) rfl dX3_over_13 ?_
  refine lv_iconst (v := 1) hx hb dX3_over_14 (by decide) ?_
  refine lv_iadd hx hb dX3_over_15 ?_
  refine m_iast 15 (j := c0) hx hb hK hW hM (by decide) rfl hc0 (show c0 < 8 from by omega) dX3_over_16 (fun H1 locs1 g1 hW hM => ?_)
  have hM : MR E y ad (metF r c0) t g1 := hM
  refine lv_iload_n hx hb dX3_over_17 rfl (lv_at hl 3 rfl) ?_
  refine lv_if_ne (tgt := 33) hx hb dX3_over_18 (by decide) (fun c_465 => ?_) (fun c_465 => ?_)
  · skip
    refine lv_aload_n hx hb dX3_over_33 rfl (lv_at hl 1 rfl) ?_
    refine m_get hx hb hts hown hK hW hM 17 (by decide) fl_RX3_59 (v := .ref (ad 16)) rfl dX3_over_34 ?_
    refine lv_iload_n hx hb dX3_over_37 rfl (lv_at hl 0 rfl) ?_
    refine lv_dup2_11 hx hb dX3_over_38 rfl rfl ?_
    refine m_iald 16 (j := c0) (v := (metF r c0) 16 c0) hx hb hK hW hM (by decide) rfl hc0 (show c0 < 8 from by omega) rfl dX3_over_39 ?_
    refine lv_iconst (v := 1) hx hb dX3_over_40 (by decide) ?_
    refine lv_iadd hx hb dX3_over_41 ?_
    refine m_iast 16 (j := c0) hx hb hK hW hM (by decide) rfl hc0 (show c0 < 8 from by omega) dX3_over_42 (fun H1 locs1 g1 hW hM => ?_)
    have hM : MR E y ad (fall1 (metF r c0) c0) t g1 := hM
    refine lv_aload_n hx hb dX3_over_43 rfl (lv_at hl 1 rfl) ?_
    refine m_get hx hb hts hown hK hW hM 7 (by decide) fl_RX3_29 (v := .ref (ad 6)) rfl dX3_over_44 ?_
    refine lv_iload_n hx hb dX3_over_47 rfl (lv_at hl 0 rfl) ?_
    refine lv_aload_n hx hb dX3_over_48 rfl (lv_at hl 1 rfl) ?_
    refine m_get hx hb hts hown hK hW hM 7 (by decide) fl_RX3_29 (v := .ref (ad 6)) rfl dX3_over_49 ?_
    refine lv_iload_n hx hb dX3_over_52 rfl (lv_at hl 0 rfl) ?_
    refine m_zald 6 (j := c0) (v := (fall1 (metF r c0) c0) 6 c0) hx hb hK hW hM (by decide) rfl hc0 (show c0 < 8 from by omega) rfl dX3_over_53 ?_
    refine lv_if_ne (tgt := 68) hx hb dX3_over_54 (by decide) (fun c_466 => ?_) (fun c_466 => ?_)
    · skip
      refine lv_iconst (v := 1) hx hb dX3_over_68 (by decide) ?_
      refine lv_goto (tgt := 73) hx hb dX3_over_69 (by decide) ?_
      refine m_zast 6 (j := c0) hx hb hK hW hM (by decide) rfl hc0 (show c0 < 8 from by omega) rfl dX3_over_73 (fun H1 locs1 g1 hW hM => ?_)
      have hM : MR E y ad (fall2 (fall1 (metF r c0) c0) c0) t g1 := by
        have e9 : s2 (fall1 (metF r c0) c0) 6 c0 (1) = fall2 (fall1 (metF r c0) c0) c0 := fall2_A (((hIVk.2.1.1).resolve_left c_466 : r 6 c0 = 1))
        rw [← e9]; exact hM
      refine lv_aload_n hx hb dX3_over_74 rfl (lv_at hl 1 rfl) ?_
      refine lv_dup hx hb dX3_over_75 rfl ?_
      refine m_get hx hb hts hown hK hW hM 22 (by decide) fl_RX3_136 (v := .int ((fall2 (fall1 (metF r c0) c0) c0) 17 5)) rfl dX3_over_76 ?_
      refine lv_iconst (v := 1) hx hb dX3_over_79 (by decide) ?_
      refine lv_iadd hx hb dX3_over_80 ?_
      refine m_put (r' := s2 (fall2 (fall1 (metF r c0) c0) c0) 17 5 (((fall2 (fall1 (metF r c0) c0) c0) 17 5) + (1))) (t' := t) hx hb hts hown hK hW hM 22 (by decide) fl_RX3_136 rfl rfl (fun f hf => s2_f _ _ _ (by omega)) (fun _ _ => rfl) rfl dX3_over_81 (fun H1 locs1 g1 hW hM => ?_)
      have hM : MR E y ad (tinc (fall2 (fall1 (metF r c0) c0) c0) 5) t g1 := hM
      refine lv_aload_n hx hb dX3_over_84 rfl (lv_at hl 1 rfl) ?_
      refine lv_aload_n hx hb dX3_over_85 rfl (lv_at hl 1 rfl) ?_
      refine m_get hx hb hts hown hK hW hM 23 (by decide) fl_RX3_139 (v := .int ((tinc (fall2 (fall1 (metF r c0) c0) c0) 5) 17 6)) rfl dX3_over_86 ?_
      refine lv_iconst (v := -1) hx hb dX3_over_89 (by decide) ?_
      refine lv_icmp_ne (tgt := 97) hx hb dX3_over_90 (by decide) (fun c_467 => ?_) (fun c_467 => ?_)
      · skip
        refine lv_aload_n hx hb dX3_over_97 rfl (lv_at hl 1 rfl) ?_
        refine m_get hx hb hts hown hK hW hM 23 (by decide) fl_RX3_139 (v := .int ((tinc (fall2 (fall1 (metF r c0) c0) c0) 5) 17 6)) rfl dX3_over_98 ?_
        refine m_put (r' := s2 (tinc (fall2 (fall1 (metF r c0) c0) c0) 5) 17 6 ((tinc (fall2 (fall1 (metF r c0) c0) c0) 5) 17 6)) (t' := t) hx hb hts hown hK hW hM 23 (by decide) fl_RX3_139 rfl rfl (fun f hf => s2_f _ _ _ (by omega)) (fun _ _ => rfl) rfl dX3_over_101 (fun H1 locs1 g1 hW hM => ?_)
        have hM : MR E y ad (fallF (metF r c0) c0) t g1 := by
          have e9 : fallF (metF r c0) c0 = tinc (fall2 (fall1 (metF r c0) c0) c0) 5 := (if_neg (c := (tinc (fall2 (fall1 (metF r c0) c0) c0) 5) 17 6 = -1) c_467)
          rw [e9]; rw [s2_id rfl] at hM; exact hM
        refine lv_aload_n hx hb dX3_over_104 rfl (lv_at hl 1 rfl) ?_
        refine m_get hx hb hts hown hK hW hM 8 (by decide) fl_RX3_32 (v := .ref (ad 7)) rfl dX3_over_105 ?_
        refine lv_iload_n hx hb dX3_over_108 rfl (lv_at hl 0 rfl) ?_
        refine m_zald 7 (j := c0) (v := (fallF (metF r c0) c0) 7 c0) hx hb hK hW hM (by decide) rfl hc0 (show c0 < 8 from by omega) rfl dX3_over_109 ?_
        refine lv_if_eq (tgt := 123) hx hb dX3_over_110 (by decide) (fun c_468 => ?_) (fun c_468 => ?_)
        · skip
          refine lv_bipush (v := -10) hx hb dX3_over_123 (by decide) ?_
          refine lv_iload_n hx hb dX3_over_125 rfl (lv_at hl 3 rfl) ?_
          refine lv_isub hx hb dX3_over_126 ?_
          exact r_int hx hb hr hlk hW (by have e1 : overV r c0 b = (-10) - (b) := (by simp [overV, c_465, c_466, c_467, c_468]); have e2 : overR r c0 b = fallF (metF r c0) c0 := (by simp [overR, c_465, c_466, c_467, c_468]); rw [e1, e2]; exact ⟨by rfl, hM⟩) (Nat.le_of_ble_eq_true rfl) (Nat.le_of_ble_eq_true rfl) dX3_over_127
        · skip
          refine lv_iload_n hx hb dX3_over_113 rfl (lv_at hl 3 rfl) ?_
          refine lv_iconst (v := 5) hx hb dX3_over_114 (by decide) ?_
          refine lv_icmp_eq (tgt := 123) hx hb dX3_over_115 (by decide) (fun c_469 => ?_) (fun c_469 => ?_)
          · skip
            refine lv_bipush (v := -10) hx hb dX3_over_123 (by decide) ?_
            refine lv_iload_n hx hb dX3_over_125 rfl (lv_at hl 3 rfl) ?_
            refine lv_isub hx hb dX3_over_126 ?_
            exact r_int hx hb hr hlk hW (by have e1 : overV r c0 b = (-10) - (b) := (by simp [overV, c_465, c_466, c_467, c_468, c_469]); have e2 : overR r c0 b = fallF (metF r c0) c0 := (by simp [overR, c_465, c_466, c_467, c_468, c_469]); rw [e1, e2]; exact ⟨by rfl, hM⟩) (Nat.le_of_ble_eq_true rfl) (Nat.le_of_ble_eq_true rfl) dX3_over_127
          · skip
            refine lv_bipush (v := -100) hx hb dX3_over_118 (by decide) ?_
            refine lv_goto (tgt := 127) hx hb dX3_over_120 (by decide) ?_
            exact r_int hx hb hr hlk hW (by have e1 : overV r c0 b = -100 := (by simp [overV, c_465, c_466, c_467, c_468, c_469]); have e2 : overR r c0 b = fallF (metF r c0) c0 := (by simp [overR, c_465, c_466, c_467, c_468, c_469]); rw [e1, e2]; exact ⟨by rfl, hM⟩) (Nat.le_of_ble_eq_true rfl) (Nat.le_of_ble_eq_true rfl) dX3_over_127
      · skip
        refine lv_iload_n hx hb dX3_over_93 rfl (lv_at hl 0 rfl) ?_
        refine lv_goto (tgt := 101) hx hb dX3_over_94 (by decide) ?_
        refine m_put (r' := s2 (tinc (fall2 (fall1 (metF r c0) c0) c0) 5) 17 6 (t 2 lv)) (t' := t) hx hb hts hown hK hW hM 23 (by decide) fl_RX3_139 rfl rfl (fun f hf => s2_f _ _ _ (by omega)) (fun _ _ => rfl) rfl dX3_over_101 (fun H1 locs1 g1 hW hM => ?_)
        have hM : MR E y ad (fallF (metF r c0) c0) t g1 := by
          have e9 : fallF (metF r c0) c0 = s2 (tinc (fall2 (fall1 (metF r c0) c0) c0) 5) 17 6 (nI c0) := (if_pos (c := (tinc (fall2 (fall1 (metF r c0) c0) c0) 5) 17 6 = -1) c_467)
          rw [e9, ← hc0]; exact hM
        refine lv_aload_n hx hb dX3_over_104 rfl (lv_at hl 1 rfl) ?_
        refine m_get hx hb hts hown hK hW hM 8 (by decide) fl_RX3_32 (v := .ref (ad 7)) rfl dX3_over_105 ?_
        refine lv_iload_n hx hb dX3_over_108 rfl (lv_at hl 0 rfl) ?_
        refine m_zald 7 (j := c0) (v := (fallF (metF r c0) c0) 7 c0) hx hb hK hW hM (by decide) rfl hc0 (show c0 < 8 from by omega) rfl dX3_over_109 ?_
        refine lv_if_eq (tgt := 123) hx hb dX3_over_110 (by decide) (fun c_470 => ?_) (fun c_470 => ?_)
        · skip
          refine lv_bipush (v := -10) hx hb dX3_over_123 (by decide) ?_
          refine lv_iload_n hx hb dX3_over_125 rfl (lv_at hl 3 rfl) ?_
          refine lv_isub hx hb dX3_over_126 ?_
          exact r_int hx hb hr hlk hW (by have e1 : overV r c0 b = (-10) - (b) := (by simp [overV, c_465, c_466, c_467, c_470]); have e2 : overR r c0 b = fallF (metF r c0) c0 := (by simp [overR, c_465, c_466, c_467, c_470]); rw [e1, e2]; exact ⟨by rfl, hM⟩) (Nat.le_of_ble_eq_true rfl) (Nat.le_of_ble_eq_true rfl) dX3_over_127
        · skip
          refine lv_iload_n hx hb dX3_over_113 rfl (lv_at hl 3 rfl) ?_
          refine lv_iconst (v := 5) hx hb dX3_over_114 (by decide) ?_
          refine lv_icmp_eq (tgt := 123) hx hb dX3_over_115 (by decide) (fun c_471 => ?_) (fun c_471 => ?_)
          · skip
            refine lv_bipush (v := -10) hx hb dX3_over_123 (by decide) ?_
            refine lv_iload_n hx hb dX3_over_125 rfl (lv_at hl 3 rfl) ?_
            refine lv_isub hx hb dX3_over_126 ?_
            exact r_int hx hb hr hlk hW (by have e1 : overV r c0 b = (-10) - (b) := (by simp [overV, c_465, c_466, c_467, c_470, c_471]); have e2 : overR r c0 b = fallF (metF r c0) c0 := (by simp [overR, c_465, c_466, c_467, c_470, c_471]); rw [e1, e2]; exact ⟨by rfl, hM⟩) (Nat.le_of_ble_eq_true rfl) (Nat.le_of_ble_eq_true rfl) dX3_over_127
          · skip
            refine lv_bipush (v := -100) hx hb dX3_over_118 (by decide) ?_
            refine lv_goto (tgt := 127) hx hb dX3_over_120 (by decide) ?_
            exact r_int hx hb hr hlk hW (by have e1 : overV r c0 b = -100 := (by simp [overV, c_465, c_466, c_467, c_470, c_471]); have e2 : overR r c0 b = fallF (metF r c0) c0 := (by simp [overR, c_465, c_466, c_467, c_470, c_471]); rw [e1, e2]; exact ⟨by rfl, hM⟩) (Nat.le_of_ble_eq_true rfl) (Nat.le_of_ble_eq_true rfl) dX3_over_127
    · skip
      refine lv_aload_n hx hb dX3_over_57 rfl (lv_at hl 1 rfl) ?_
      refine m_get hx hb hts hown hK hW hM 17 (by decide) fl_RX3_59 (v := .ref (ad 16)) rfl dX3_over_58 ?_
      refine lv_iload_n hx hb dX3_over_61 rfl (lv_at hl 0 rfl) ?_
      refine m_iald 16 (j := c0) (v := (fall1 (metF r c0) c0) 16 c0) hx hb hK hW hM (by decide) rfl hc0 (show c0 < 8 from by omega) rfl dX3_over_62 ?_
      refine lv_iconst (v := 3) hx hb dX3_over_63 (by decide) ?_
      refine lv_irem hx hb dX3_over_64 (by decide) ?_
      refine lv_if_ne (tgt := 72) hx hb dX3_over_65 (by decide) (fun c_472 => ?_) (fun c_472 => ?_)
      · skip
        refine lv_iconst (v := 0) hx hb dX3_over_72 (by decide) ?_
        refine m_zast 6 (j := c0) hx hb hK hW hM (by decide) rfl hc0 (show c0 < 8 from by omega) rfl dX3_over_73 (fun H1 locs1 g1 hW hM => ?_)
        have hM : MR E y ad (fall2 (fall1 (metF r c0) c0) c0) t g1 := by
          have e9 : s2 (fall1 (metF r c0) c0) 6 c0 (0) = fall2 (fall1 (metF r c0) c0) c0 := fall2_C (show (fall1 (metF r c0) c0) 6 c0 = 0 from c_466) c_472
          rw [← e9]; exact hM
        refine lv_aload_n hx hb dX3_over_74 rfl (lv_at hl 1 rfl) ?_
        refine lv_dup hx hb dX3_over_75 rfl ?_
        refine m_get hx hb hts hown hK hW hM 22 (by decide) fl_RX3_136 (v := .int ((fall2 (fall1 (metF r c0) c0) c0) 17 5)) rfl dX3_over_76 ?_
        refine lv_iconst (v := 1) hx hb dX3_over_79 (by decide) ?_
        refine lv_iadd hx hb dX3_over_80 ?_
        refine m_put (r' := s2 (fall2 (fall1 (metF r c0) c0) c0) 17 5 (((fall2 (fall1 (metF r c0) c0) c0) 17 5) + (1))) (t' := t) hx hb hts hown hK hW hM 22 (by decide) fl_RX3_136 rfl rfl (fun f hf => s2_f _ _ _ (by omega)) (fun _ _ => rfl) rfl dX3_over_81 (fun H1 locs1 g1 hW hM => ?_)
        have hM : MR E y ad (tinc (fall2 (fall1 (metF r c0) c0) c0) 5) t g1 := hM
        refine lv_aload_n hx hb dX3_over_84 rfl (lv_at hl 1 rfl) ?_
        refine lv_aload_n hx hb dX3_over_85 rfl (lv_at hl 1 rfl) ?_
        refine m_get hx hb hts hown hK hW hM 23 (by decide) fl_RX3_139 (v := .int ((tinc (fall2 (fall1 (metF r c0) c0) c0) 5) 17 6)) rfl dX3_over_86 ?_
        refine lv_iconst (v := -1) hx hb dX3_over_89 (by decide) ?_
        refine lv_icmp_ne (tgt := 97) hx hb dX3_over_90 (by decide) (fun c_473 => ?_) (fun c_473 => ?_)
        · skip
          refine lv_aload_n hx hb dX3_over_97 rfl (lv_at hl 1 rfl) ?_
          refine m_get hx hb hts hown hK hW hM 23 (by decide) fl_RX3_139 (v := .int ((tinc (fall2 (fall1 (metF r c0) c0) c0) 5) 17 6)) rfl dX3_over_98 ?_
          refine m_put (r' := s2 (tinc (fall2 (fall1 (metF r c0) c0) c0) 5) 17 6 ((tinc (fall2 (fall1 (metF r c0) c0) c0) 5) 17 6)) (t' := t) hx hb hts hown hK hW hM 23 (by decide) fl_RX3_139 rfl rfl (fun f hf => s2_f _ _ _ (by omega)) (fun _ _ => rfl) rfl dX3_over_101 (fun H1 locs1 g1 hW hM => ?_)
          have hM : MR E y ad (fallF (metF r c0) c0) t g1 := by
            have e9 : fallF (metF r c0) c0 = tinc (fall2 (fall1 (metF r c0) c0) c0) 5 := (if_neg (c := (tinc (fall2 (fall1 (metF r c0) c0) c0) 5) 17 6 = -1) c_473)
            rw [e9]; rw [s2_id rfl] at hM; exact hM
          refine lv_aload_n hx hb dX3_over_104 rfl (lv_at hl 1 rfl) ?_
          refine m_get hx hb hts hown hK hW hM 8 (by decide) fl_RX3_32 (v := .ref (ad 7)) rfl dX3_over_105 ?_
          refine lv_iload_n hx hb dX3_over_108 rfl (lv_at hl 0 rfl) ?_
          refine m_zald 7 (j := c0) (v := (fallF (metF r c0) c0) 7 c0) hx hb hK hW hM (by decide) rfl hc0 (show c0 < 8 from by omega) rfl dX3_over_109 ?_
          refine lv_if_eq (tgt := 123) hx hb dX3_over_110 (by decide) (fun c_474 => ?_) (fun c_474 => ?_)
          · skip
            refine lv_bipush (v := -10) hx hb dX3_over_123 (by decide) ?_
            refine lv_iload_n hx hb dX3_over_125 rfl (lv_at hl 3 rfl) ?_
            refine lv_isub hx hb dX3_over_126 ?_
            exact r_int hx hb hr hlk hW (by have e1 : overV r c0 b = (-10) - (b) := (by simp [overV, c_465, c_466, c_472, c_473, c_474]); have e2 : overR r c0 b = fallF (metF r c0) c0 := (by simp [overR, c_465, c_466, c_472, c_473, c_474]); rw [e1, e2]; exact ⟨by rfl, hM⟩) (Nat.le_of_ble_eq_true rfl) (Nat.le_of_ble_eq_true rfl) dX3_over_127
          · skip
            refine lv_iload_n hx hb dX3_over_113 rfl (lv_at hl 3 rfl) ?_
            refine lv_iconst (v := 5) hx hb dX3_over_114 (by decide) ?_
            refine lv_icmp_eq (tgt := 123) hx hb dX3_over_115 (by decide) (fun c_475 => ?_) (fun c_475 => ?_)
            · skip
              refine lv_bipush (v := -10) hx hb dX3_over_123 (by decide) ?_
              refine lv_iload_n hx hb dX3_over_125 rfl (lv_at hl 3 rfl) ?_
              refine lv_isub hx hb dX3_over_126 ?_
              exact r_int hx hb hr hlk hW (by have e1 : overV r c0 b = (-10) - (b) := (by simp [overV, c_465, c_466, c_472, c_473, c_474, c_475]); have e2 : overR r c0 b = fallF (metF r c0) c0 := (by simp [overR, c_465, c_466, c_472, c_473, c_474, c_475]); rw [e1, e2]; exact ⟨by rfl, hM⟩) (Nat.le_of_ble_eq_true rfl) (Nat.le_of_ble_eq_true rfl) dX3_over_127
            · skip
              refine lv_bipush (v := -100) hx hb dX3_over_118 (by decide) ?_
              refine lv_goto (tgt := 127) hx hb dX3_over_120 (by decide) ?_
              exact r_int hx hb hr hlk hW (by have e1 : overV r c0 b = -100 := (by simp [overV, c_465, c_466, c_472, c_473, c_474, c_475]); have e2 : overR r c0 b = fallF (metF r c0) c0 := (by simp [overR, c_465, c_466, c_472, c_473, c_474, c_475]); rw [e1, e2]; exact ⟨by rfl, hM⟩) (Nat.le_of_ble_eq_true rfl) (Nat.le_of_ble_eq_true rfl) dX3_over_127
        · skip
          refine lv_iload_n hx hb dX3_over_93 rfl (lv_at hl 0 rfl) ?_
          refine lv_goto (tgt := 101) hx hb dX3_over_94 (by decide) ?_
          refine m_put (r' := s2 (tinc (fall2 (fall1 (metF r c0) c0) c0) 5) 17 6 (t 2 lv)) (t' := t) hx hb hts hown hK hW hM 23 (by decide) fl_RX3_139 rfl rfl (fun f hf => s2_f _ _ _ (by omega)) (fun _ _ => rfl) rfl dX3_over_101 (fun H1 locs1 g1 hW hM => ?_)
          have hM : MR E y ad (fallF (metF r c0) c0) t g1 := by
            have e9 : fallF (metF r c0) c0 = s2 (tinc (fall2 (fall1 (metF r c0) c0) c0) 5) 17 6 (nI c0) := (if_pos (c := (tinc (fall2 (fall1 (metF r c0) c0) c0) 5) 17 6 = -1) c_473)
            rw [e9, ← hc0]; exact hM
          refine lv_aload_n hx hb dX3_over_104 rfl (lv_at hl 1 rfl) ?_
          refine m_get hx hb hts hown hK hW hM 8 (by decide) fl_RX3_32 (v := .ref (ad 7)) rfl dX3_over_105 ?_
          refine lv_iload_n hx hb dX3_over_108 rfl (lv_at hl 0 rfl) ?_
          refine m_zald 7 (j := c0) (v := (fallF (metF r c0) c0) 7 c0) hx hb hK hW hM (by decide) rfl hc0 (show c0 < 8 from by omega) rfl dX3_over_109 ?_
          refine lv_if_eq (tgt := 123) hx hb dX3_over_110 (by decide) (fun c_476 => ?_) (fun c_476 => ?_)
          · skip
            refine lv_bipush (v := -10) hx hb dX3_over_123 (by decide) ?_
            refine lv_iload_n hx hb dX3_over_125 rfl (lv_at hl 3 rfl) ?_
            refine lv_isub hx hb dX3_over_126 ?_
            exact r_int hx hb hr hlk hW (by have e1 : overV r c0 b = (-10) - (b) := (by simp [overV, c_465, c_466, c_472, c_473, c_476]); have e2 : overR r c0 b = fallF (metF r c0) c0 := (by simp [overR, c_465, c_466, c_472, c_473, c_476]); rw [e1, e2]; exact ⟨by rfl, hM⟩) (Nat.le_of_ble_eq_true rfl) (Nat.le_of_ble_eq_true rfl) dX3_over_127
          · skip
            refine lv_iload_n hx hb dX3_over_113 rfl (lv_at hl 3 rfl) ?_
            refine lv_iconst (v := 5) hx hb dX3_over_114 (by decide) ?_
            refine lv_icmp_eq (tgt := 123) hx hb dX3_over_115 (by decide) (fun c_477 => ?_) (fun c_477 => ?_)
            · skip
              refine lv_bipush (v := -10) hx hb dX3_over_123 (by decide) ?_
              refine lv_iload_n hx hb dX3_over_125 rfl (lv_at hl 3 rfl) ?_
              refine lv_isub hx hb dX3_over_126 ?_
              exact r_int hx hb hr hlk hW (by have e1 : overV r c0 b = (-10) - (b) := (by simp [overV, c_465, c_466, c_472, c_473, c_476, c_477]); have e2 : overR r c0 b = fallF (metF r c0) c0 := (by simp [overR, c_465, c_466, c_472, c_473, c_476, c_477]); rw [e1, e2]; exact ⟨by rfl, hM⟩) (Nat.le_of_ble_eq_true rfl) (Nat.le_of_ble_eq_true rfl) dX3_over_127
            · skip
              refine lv_bipush (v := -100) hx hb dX3_over_118 (by decide) ?_
              refine lv_goto (tgt := 127) hx hb dX3_over_120 (by decide) ?_
              exact r_int hx hb hr hlk hW (by have e1 : overV r c0 b = -100 := (by simp [overV, c_465, c_466, c_472, c_473, c_476, c_477]); have e2 : overR r c0 b = fallF (metF r c0) c0 := (by simp [overR, c_465, c_466, c_472, c_473, c_476, c_477]); rw [e1, e2]; exact ⟨by rfl, hM⟩) (Nat.le_of_ble_eq_true rfl) (Nat.le_of_ble_eq_true rfl) dX3_over_127
      · skip
        refine lv_iconst (v := 1) hx hb dX3_over_68 (by decide) ?_
        refine lv_goto (tgt := 73) hx hb dX3_over_69 (by decide) ?_
        refine m_zast 6 (j := c0) hx hb hK hW hM (by decide) rfl hc0 (show c0 < 8 from by omega) rfl dX3_over_73 (fun H1 locs1 g1 hW hM => ?_)
        have hM : MR E y ad (fall2 (fall1 (metF r c0) c0) c0) t g1 := by
          have e9 : s2 (fall1 (metF r c0) c0) 6 c0 (1) = fall2 (fall1 (metF r c0) c0) c0 := (if_pos (c := rem3 ((fall1 (metF r c0) c0) 16 c0) = 0) c_472).symm
          rw [← e9]; exact hM
        refine lv_aload_n hx hb dX3_over_74 rfl (lv_at hl 1 rfl) ?_
        refine lv_dup hx hb dX3_over_75 rfl ?_
        refine m_get hx hb hts hown hK hW hM 22 (by decide) fl_RX3_136 (v := .int ((fall2 (fall1 (metF r c0) c0) c0) 17 5)) rfl dX3_over_76 ?_
        refine lv_iconst (v := 1) hx hb dX3_over_79 (by decide) ?_
        refine lv_iadd hx hb dX3_over_80 ?_
        refine m_put (r' := s2 (fall2 (fall1 (metF r c0) c0) c0) 17 5 (((fall2 (fall1 (metF r c0) c0) c0) 17 5) + (1))) (t' := t) hx hb hts hown hK hW hM 22 (by decide) fl_RX3_136 rfl rfl (fun f hf => s2_f _ _ _ (by omega)) (fun _ _ => rfl) rfl dX3_over_81 (fun H1 locs1 g1 hW hM => ?_)
        have hM : MR E y ad (tinc (fall2 (fall1 (metF r c0) c0) c0) 5) t g1 := hM
        refine lv_aload_n hx hb dX3_over_84 rfl (lv_at hl 1 rfl) ?_
        refine lv_aload_n hx hb dX3_over_85 rfl (lv_at hl 1 rfl) ?_
        refine m_get hx hb hts hown hK hW hM 23 (by decide) fl_RX3_139 (v := .int ((tinc (fall2 (fall1 (metF r c0) c0) c0) 5) 17 6)) rfl dX3_over_86 ?_
        refine lv_iconst (v := -1) hx hb dX3_over_89 (by decide) ?_
        refine lv_icmp_ne (tgt := 97) hx hb dX3_over_90 (by decide) (fun c_478 => ?_) (fun c_478 => ?_)
        · skip
          refine lv_aload_n hx hb dX3_over_97 rfl (lv_at hl 1 rfl) ?_
          refine m_get hx hb hts hown hK hW hM 23 (by decide) fl_RX3_139 (v := .int ((tinc (fall2 (fall1 (metF r c0) c0) c0) 5) 17 6)) rfl dX3_over_98 ?_
          refine m_put (r' := s2 (tinc (fall2 (fall1 (metF r c0) c0) c0) 5) 17 6 ((tinc (fall2 (fall1 (metF r c0) c0) c0) 5) 17 6)) (t' := t) hx hb hts hown hK hW hM 23 (by decide) fl_RX3_139 rfl rfl (fun f hf => s2_f _ _ _ (by omega)) (fun _ _ => rfl) rfl dX3_over_101 (fun H1 locs1 g1 hW hM => ?_)
          have hM : MR E y ad (fallF (metF r c0) c0) t g1 := by
            have e9 : fallF (metF r c0) c0 = tinc (fall2 (fall1 (metF r c0) c0) c0) 5 := (if_neg (c := (tinc (fall2 (fall1 (metF r c0) c0) c0) 5) 17 6 = -1) c_478)
            rw [e9]; rw [s2_id rfl] at hM; exact hM
          refine lv_aload_n hx hb dX3_over_104 rfl (lv_at hl 1 rfl) ?_
          refine m_get hx hb hts hown hK hW hM 8 (by decide) fl_RX3_32 (v := .ref (ad 7)) rfl dX3_over_105 ?_
          refine lv_iload_n hx hb dX3_over_108 rfl (lv_at hl 0 rfl) ?_
          refine m_zald 7 (j := c0) (v := (fallF (metF r c0) c0) 7 c0) hx hb hK hW hM (by decide) rfl hc0 (show c0 < 8 from by omega) rfl dX3_over_109 ?_
          refine lv_if_eq (tgt := 123) hx hb dX3_over_110 (by decide) (fun c_479 => ?_) (fun c_479 => ?_)
          · skip
            refine lv_bipush (v := -10) hx hb dX3_over_123 (by decide) ?_
            refine lv_iload_n hx hb dX3_over_125 rfl (lv_at hl 3 rfl) ?_
            refine lv_isub hx hb dX3_over_126 ?_
            exact r_int hx hb hr hlk hW (by have e1 : overV r c0 b = (-10) - (b) := (by simp [overV, c_465, c_466, c_472, c_478, c_479]); have e2 : overR r c0 b = fallF (metF r c0) c0 := (by simp [overR, c_465, c_466, c_472, c_478, c_479]); rw [e1, e2]; exact ⟨by rfl, hM⟩) (Nat.le_of_ble_eq_true rfl) (Nat.le_of_ble_eq_true rfl) dX3_over_127
          · skip
            refine lv_iload_n hx hb dX3_over_113 rfl (lv_at hl 3 rfl) ?_
            refine lv_iconst (v := 5) hx hb dX3_over_114 (by decide) ?_
            refine lv_icmp_eq (tgt := 123) hx hb dX3_over_115 (by decide) (fun c_480 => ?_) (fun c_480 => ?_)
            · skip
              refine lv_bipush (v := -10) hx hb dX3_over_123 (by decide) ?_
              refine lv_iload_n hx hb dX3_over_125 rfl (lv_at hl 3 rfl) ?_
              refine lv_isub hx hb dX3_over_126 ?_
              exact r_int hx hb hr hlk hW (by have e1 : overV r c0 b = (-10) - (b) := (by simp [overV, c_465, c_466, c_472, c_478, c_479, c_480]); have e2 : overR r c0 b = fallF (metF r c0) c0 := (by simp [overR, c_465, c_466, c_472, c_478, c_479, c_480]); rw [e1, e2]; exact ⟨by rfl, hM⟩) (Nat.le_of_ble_eq_true rfl) (Nat.le_of_ble_eq_true rfl) dX3_over_127
            · skip
              refine lv_bipush (v := -100) hx hb dX3_over_118 (by decide) ?_
              refine lv_goto (tgt := 127) hx hb dX3_over_120 (by decide) ?_
              exact r_int hx hb hr hlk hW (by have e1 : overV r c0 b = -100 := (by simp [overV, c_465, c_466, c_472, c_478, c_479, c_480]); have e2 : overR r c0 b = fallF (metF r c0) c0 := (by simp [overR, c_465, c_466, c_472, c_478, c_479, c_480]); rw [e1, e2]; exact ⟨by rfl, hM⟩) (Nat.le_of_ble_eq_true rfl) (Nat.le_of_ble_eq_true rfl) dX3_over_127
        · skip
          refine lv_iload_n hx hb dX3_over_93 rfl (lv_at hl 0 rfl) ?_
          refine lv_goto (tgt := 101) hx hb dX3_over_94 (by decide) ?_
          refine m_put (r' := s2 (tinc (fall2 (fall1 (metF r c0) c0) c0) 5) 17 6 (t 2 lv)) (t' := t) hx hb hts hown hK hW hM 23 (by decide) fl_RX3_139 rfl rfl (fun f hf => s2_f _ _ _ (by omega)) (fun _ _ => rfl) rfl dX3_over_101 (fun H1 locs1 g1 hW hM => ?_)
          have hM : MR E y ad (fallF (metF r c0) c0) t g1 := by
            have e9 : fallF (metF r c0) c0 = s2 (tinc (fall2 (fall1 (metF r c0) c0) c0) 5) 17 6 (nI c0) := (if_pos (c := (tinc (fall2 (fall1 (metF r c0) c0) c0) 5) 17 6 = -1) c_478)
            rw [e9, ← hc0]; exact hM
          refine lv_aload_n hx hb dX3_over_104 rfl (lv_at hl 1 rfl) ?_
          refine m_get hx hb hts hown hK hW hM 8 (by decide) fl_RX3_32 (v := .ref (ad 7)) rfl dX3_over_105 ?_
          refine lv_iload_n hx hb dX3_over_108 rfl (lv_at hl 0 rfl) ?_
          refine m_zald 7 (j := c0) (v := (fallF (metF r c0) c0) 7 c0) hx hb hK hW hM (by decide) rfl hc0 (show c0 < 8 from by omega) rfl dX3_over_109 ?_
          refine lv_if_eq (tgt := 123) hx hb dX3_over_110 (by decide) (fun c_481 => ?_) (fun c_481 => ?_)
          · skip
            refine lv_bipush (v := -10) hx hb dX3_over_123 (by decide) ?_
            refine lv_iload_n hx hb dX3_over_125 rfl (lv_at hl 3 rfl) ?_
            refine lv_isub hx hb dX3_over_126 ?_
            exact r_int hx hb hr hlk hW (by have e1 : overV r c0 b = (-10) - (b) := (by simp [overV, c_465, c_466, c_472, c_478, c_481]); have e2 : overR r c0 b = fallF (metF r c0) c0 := (by simp [overR, c_465, c_466, c_472, c_478, c_481]); rw [e1, e2]; exact ⟨by rfl, hM⟩) (Nat.le_of_ble_eq_true rfl) (Nat.le_of_ble_eq_true rfl) dX3_over_127
          · skip
            refine lv_iload_n hx hb dX3_over_113 rfl (lv_at hl 3 rfl) ?_
            refine lv_iconst (v := 5) hx hb dX3_over_114 (by decide) ?_
            refine lv_icmp_eq (tgt := 123) hx hb dX3_over_115 (by decide) (fun c_482 => ?_) (fun c_482 => ?_)
            · skip
              refine lv_bipush (v := -10) hx hb dX3_over_123 (by decide) ?_
              refine lv_iload_n hx hb dX3_over_125 rfl (lv_at hl 3 rfl) ?_
              refine lv_isub hx hb dX3_over_126 ?_
              exact r_int hx hb hr hlk hW (by have e1 : overV r c0 b = (-10) - (b) := (by simp [overV, c_465, c_466, c_472, c_478, c_481, c_482]); have e2 : overR r c0 b = fallF (metF r c0) c0 := (by simp [overR, c_465, c_466, c_472, c_478, c_481, c_482]); rw [e1, e2]; exact ⟨by rfl, hM⟩) (Nat.le_of_ble_eq_true rfl) (Nat.le_of_ble_eq_true rfl) dX3_over_127
            · skip
              refine lv_bipush (v := -100) hx hb dX3_over_118 (by decide) ?_
              refine lv_goto (tgt := 127) hx hb dX3_over_120 (by decide) ?_
              exact r_int hx hb hr hlk hW (by have e1 : overV r c0 b = -100 := (by simp [overV, c_465, c_466, c_472, c_478, c_481, c_482]); have e2 : overR r c0 b = fallF (metF r c0) c0 := (by simp [overR, c_465, c_466, c_472, c_478, c_481, c_482]); rw [e1, e2]; exact ⟨by rfl, hM⟩) (Nat.le_of_ble_eq_true rfl) (Nat.le_of_ble_eq_true rfl) dX3_over_127
  · skip
    refine lv_aload_n hx hb dX3_over_21 rfl (lv_at hl 1 rfl) ?_
    refine lv_dup hx hb dX3_over_22 rfl ?_
    refine m_get hx hb hts hown hK hW hM 20 (by decide) fl_RX3_133 (v := .int ((metF r c0) 17 3)) rfl dX3_over_23 ?_
    refine lv_iconst (v := 1) hx hb dX3_over_26 (by decide) ?_
    refine lv_iadd hx hb dX3_over_27 ?_
    refine m_put (r' := s2 (metF r c0) 17 3 (((metF r c0) 17 3) + (1))) (t' := t) hx hb hts hown hK hW hM 20 (by decide) fl_RX3_133 rfl rfl (fun f hf => s2_f _ _ _ (by omega)) (fun _ _ => rfl) rfl dX3_over_28 (fun H1 locs1 g1 hW hM => ?_)
    have hM : MR E y ad (tinc (metF r c0) 3) t g1 := hM
    refine lv_iload_n hx hb dX3_over_31 rfl (lv_at hl 0 rfl) ?_
    exact r_int hx hb hr hlk hW (by have e1 : overV r c0 b = nI c0 := (by simp [overV, c_465]); have e2 : overR r c0 b = tinc (metF r c0) 3 := (by simp [overR, c_465]); rw [e1, e2]; exact ⟨by rw [hc0], hM⟩) (Nat.le_of_ble_eq_true rfl) (Nat.le_of_ble_eq_true rfl) dX3_over_32
