theorem pos_nI {n : Nat} (h : n < 2 ^ 31) (h0 : 0 < n) : 0 < nI n := (nI_ltI (a := 0) (by decide) h).mpr h0
theorem nI_pred2 (n : Nat) : nI (n + 2) - 1 = nI (n + 1) := nI_pred (n + 1)

set_option maxHeartbeats 4000000 in
set_option maxRecDepth 100000 in
theorem k_X3_send (l : Launch) {E : gE} {y : Nat} {ad : Nat → Nat} {r t : sg} {g : gm} (hM : MR E y ad r t g) (hIV : IV r) (a b : Int32) : CM l yX3_send cX3_send 4 (some .int) ({ frames := 6, cells := 0, slots := 0, locals := 135 }) E [.ref (y), .int (a), .int (b)] g (fun vv g' => vv = some (.int (Fsend r a b).1) ∧ ∃ t', MR E y ad (Fsend r a b).2 t' g') := by
  refine CM.of (by decide) (Nat.le_of_ble_eq_true rfl) ?_
  intro p e s m below meth c ls hMX hK hW hl
  obtain ⟨hx, hb, hr, hml, hown, hts, hlk, hnm⟩ := hMX
  have hown : s.vm.findClass RX3 = some m.cls := hown
  have hl : lv_has ls 4 [(0, .ref (y)), (1, .int (a)), (2, .int (b))] := hl
  obtain ⟨Q, hQd⟩ : ∃ Q : Int32 → sg → sg → Prop, Q = fun o r2 t2 => ∀ (g1 : gm) (H : Heap) (locs : List Loc) (ls : Array Slot), PW E (fr g s.heap.size) s.heap H locs g1 → MR E y ad r2 t2 g1 → lv_has ls 4 [(3, .int (o)), (0, .ref (y)), (1, .int (a)), (2, .int (b))] → W p l e ({ frames := 6, cells := 0, slots := 0, locals := 135 }) s m ([.ref (y), .int (a), .int (b)] : List Value).toArray below meth c H locs 0 0 (MQ below (QC E g s.heap.size (fun vv g' => vv = some (.int (Fsend r a b).1) ∧ ∃ t', MR E y ad (Fsend r a b).2 t' g')) ([.ref (y), .int (a), .int (b)] : List Value).toArray s (Room.cells ({ frames := 6, cells := 0, slots := 0, locals := 135 })) (Room.slots ({ frames := 6, cells := 0, slots := 0, locals := 135 })) (fr g s.heap.size)) (F0 m 70 ls []) := ⟨_, rfl⟩
  have hS : QS Q := by
    intro r2 t2 lv i k c0 hIV2 hF hmm hq
    obtain ⟨htop, h0, h1, hi, hk, hlk2⟩ := hF
    rw [hQd] at hq ⊢
    intro g1 H locs ls hW hM hl
    refine lv_aload_n hx hb dX3_send_70 rfl (lv_at hl 1 rfl) ?_
    refine m_get hx hb hts hown hK hW hM 24 (by decide) fl_RX3_117 (v := .int (t2 4 0)) rfl dX3_send_71 ?_
    refine lv_if_le (tgt := 117) hx hb dX3_send_74 (by decide) (fun c_503 => ?_) (fun c_503 => ?_)
    · skip
      have c_503 := Int32.not_lt.mpr c_503
      exact absurd (by rw [htop]; exact pos_nI (by omega) (by omega)) c_503
    · skip
      have c_503 := Int32.not_le.mp c_503
      refine lv_iload_n hx hb dX3_send_77 rfl (lv_at hl 0 rfl) ?_
      refine lv_bipush (v := -100) hx hb dX3_send_78 (by decide) ?_
      refine lv_icmp_ne (tgt := 91) hx hb dX3_send_80 (by decide) (fun c_504 => ?_) (fun c_504 => ?_)
      · skip
        exact absurd rfl c_504
      · skip
        refine lv_aload_n hx hb dX3_send_83 rfl (lv_at hl 1 rfl) ?_
        refine c_virt (own := RX3) (As := []) (rest := []) hx hb hml hown hts hK hW (k_X3_step l hM hIV2 (lv := lv) (i := i) (k := k) (c0 := c0) htop (by omega) h0 hi h1 hk hmm) ml_RX3_161 im_yX3_step se_yX3_step in_RX3 cd_yX3_step 0 (by decide +kernel) ⟨Nat.le_of_ble_eq_true rfl, Nat.le_of_ble_eq_true rfl⟩ hM.1 rfl rfl rfl hl.1 rfl (Nat.le_of_ble_eq_true rfl) dX3_send_84 ⟨Nat.le_of_ble_eq_true rfl, Nat.le_of_ble_eq_true rfl⟩ (fun v g2 H1 locs1 hp hW hKT => ?_)
        obtain ⟨rfl, hM⟩ := hp
        refine W.eq (g2 := F0 m 87 ls [.int ((stepF r2 t2 lv i (meetN r2 i (8 - k)) c0).1)]) rfl ?_
        refine lv_istore_n (lv' := [(3, .int ((stepF r2 t2 lv i (meetN r2 i (8 - k)) c0).1)), (0, .ref (y)), (1, .int (a)), (2, .int (b))]) hx hb dX3_send_87 rfl hl (by decide) rfl (fun ls hl => ?_)
        refine lv_goto (tgt := 70) hx hb dX3_send_88 (by decide) ?_
        exact hq _ _ _ _ hW hM (lv_sub hl [0, 1, 2, 3] rfl)
  have hB : QB Q := by
    intro r2 t2 lv i c0 n j o hIV2 htop hlv h0 hi hc0 hc8 hsp ho hq
    rw [hQd] at hq ⊢
    intro g1 H locs ls hW hM hl
    refine lv_aload_n hx hb dX3_send_70 rfl (lv_at hl 1 rfl) ?_
    refine m_get hx hb hts hown hK hW hM 24 (by decide) fl_RX3_117 (v := .int (t2 4 0)) rfl dX3_send_71 ?_
    refine lv_if_le (tgt := 117) hx hb dX3_send_74 (by decide) (fun c_505 => ?_) (fun c_505 => ?_)
    · skip
      have c_505 := Int32.not_lt.mpr c_505
      exact absurd (by rw [htop]; exact pos_nI (by omega) (by omega)) c_505
    · skip
      have c_505 := Int32.not_le.mp c_505
      refine lv_iload_n hx hb dX3_send_77 rfl (lv_at hl 0 rfl) ?_
      refine lv_bipush (v := -100) hx hb dX3_send_78 (by decide) ?_
      refine lv_icmp_ne (tgt := 91) hx hb dX3_send_80 (by decide) (fun c_506 => ?_) (fun c_506 => ?_)
      · skip
        refine lv_aload_n hx hb dX3_send_91 rfl (lv_at hl 1 rfl) ?_
        refine lv_dup hx hb dX3_send_92 rfl ?_
        refine m_get hx hb hts hown hK hW hM 24 (by decide) fl_RX3_117 (v := .int (t2 4 0)) rfl dX3_send_93 ?_
        refine lv_iconst (v := 1) hx hb dX3_send_96 (by decide) ?_
        refine lv_isub hx hb dX3_send_97 ?_
        refine m_put (r' := r2) (t' := s2 t2 4 0 ((t2 4 0) - (1))) hx hb hts hown hK hW hM 24 (by decide) fl_RX3_117 rfl rfl (fun _ _ => rfl) (fun f hf => s2_f _ _ _ (by omega)) rfl dX3_send_98 (fun H1 locs1 g1 hW hM => ?_)
        rw [show t2 4 0 - 1 = nI (lv + 1) from by rw [htop, nI_pred2]] at hM
        refine lv_aload_n hx hb dX3_send_101 rfl (lv_at hl 1 rfl) ?_
        refine m_get hx hb hts hown hK hW hM 24 (by decide) fl_RX3_117 (v := .int (nI (lv + 1))) rfl dX3_send_102 ?_
        refine lv_if_le (tgt := 70) hx hb dX3_send_105 (by decide) (fun c_507 => ?_) (fun c_507 => ?_)
        · skip
          have c_507 := Int32.not_lt.mpr c_507
          exact absurd (pos_nI (by omega) (by omega)) c_507
        · skip
          have c_507 := Int32.not_le.mp c_507
          refine lv_aload_n hx hb dX3_send_108 rfl (lv_at hl 1 rfl) ?_
          refine lv_iload_n hx hb dX3_send_109 rfl (lv_at hl 0 rfl) ?_
          refine c_virt (own := RX3) (As := [.int (o)]) (rest := []) hx hb hml hown hts hK hW (k_X3_back l hM hIV2 (lv := lv) (i := i) (c0 := c0) (n := n) (j0 := j) (s2_s _ _ _ _) hlv h0 hi hc0 hc8 hsp o) ml_RX3_165 im_yX3_back se_yX3_back in_RX3 cd_yX3_back 1 (by decide +kernel) ⟨Nat.le_of_ble_eq_true rfl, Nat.le_of_ble_eq_true rfl⟩ hM.1 rfl rfl rfl hl.1 rfl (Nat.le_of_ble_eq_true rfl) dX3_send_110 ⟨Nat.le_of_ble_eq_true rfl, Nat.le_of_ble_eq_true rfl⟩ (fun v g2 H1 locs1 hp hW hKT => ?_)
          obtain ⟨rfl, hM⟩ := hp
          refine W.eq (g2 := F0 m 113 ls [.int ((backF r2 (s2 t2 4 0 (nI (lv + 1))) lv i c0 n j o).1)]) rfl ?_
          refine lv_istore_n (lv' := [(3, .int ((backF r2 (s2 t2 4 0 (nI (lv + 1))) lv i c0 n j o).1)), (0, .ref (y)), (1, .int (a)), (2, .int (b))]) hx hb dX3_send_113 rfl hl (by decide) rfl (fun ls hl => ?_)
          refine lv_goto (tgt := 70) hx hb dX3_send_114 (by decide) ?_
          exact hq _ _ _ _ hW hM (lv_sub hl [0, 1, 2, 3] rfl)
      · skip
        exact absurd c_506 ho
  have hE : ∀ (o : Int32) (r2 t2 : sg), t2 4 0 = nI 1 → ¬ o = -100 → Fsend r a b = (o, r2) → Q o r2 t2 := by
    intro o r2 t2 htop ho hFe
    rw [hQd]
    intro g1 H locs ls hW hM hl
    refine lv_aload_n hx hb dX3_send_70 rfl (lv_at hl 1 rfl) ?_
    refine m_get hx hb hts hown hK hW hM 24 (by decide) fl_RX3_117 (v := .int (t2 4 0)) rfl dX3_send_71 ?_
    refine lv_if_le (tgt := 117) hx hb dX3_send_74 (by decide) (fun c_508 => ?_) (fun c_508 => ?_)
    · skip
      have c_508 := Int32.not_lt.mpr c_508
      exact absurd (by rw [htop]; exact pos_nI (by omega) (by omega)) c_508
    · skip
      have c_508 := Int32.not_le.mp c_508
      refine lv_iload_n hx hb dX3_send_77 rfl (lv_at hl 0 rfl) ?_
      refine lv_bipush (v := -100) hx hb dX3_send_78 (by decide) ?_
      refine lv_icmp_ne (tgt := 91) hx hb dX3_send_80 (by decide) (fun c_509 => ?_) (fun c_509 => ?_)
      · skip
        refine lv_aload_n hx hb dX3_send_91 rfl (lv_at hl 1 rfl) ?_
        refine lv_dup hx hb dX3_send_92 rfl ?_
        refine m_get hx hb hts hown hK hW hM 24 (by decide) fl_RX3_117 (v := .int (t2 4 0)) rfl dX3_send_93 ?_
        refine lv_iconst (v := 1) hx hb dX3_send_96 (by decide) ?_
        refine lv_isub hx hb dX3_send_97 ?_
        refine m_put (r' := r2) (t' := s2 t2 4 0 ((t2 4 0) - (1))) hx hb hts hown hK hW hM 24 (by decide) fl_RX3_117 rfl rfl (fun _ _ => rfl) (fun f hf => s2_f _ _ _ (by omega)) rfl dX3_send_98 (fun H1 locs1 g1 hW hM => ?_)
        rw [show t2 4 0 - 1 = 0 from by rw [htop]; rfl] at hM
        refine lv_aload_n hx hb dX3_send_101 rfl (lv_at hl 1 rfl) ?_
        refine m_get hx hb hts hown hK hW hM 24 (by decide) fl_RX3_117 (v := .int (0)) rfl dX3_send_102 ?_
        refine lv_if_le (tgt := 70) hx hb dX3_send_105 (by decide) (fun c_510 => ?_) (fun c_510 => ?_)
        · skip
          have c_510 := Int32.not_lt.mpr c_510
          refine lv_aload_n hx hb dX3_send_70 rfl (lv_at hl 1 rfl) ?_
          refine m_get hx hb hts hown hK hW hM 24 (by decide) fl_RX3_117 (v := .int (0)) rfl dX3_send_71 ?_
          refine lv_if_le (tgt := 117) hx hb dX3_send_74 (by decide) (fun c_511 => ?_) (fun c_511 => ?_)
          · skip
            have c_511 := Int32.not_lt.mpr c_511
            refine lv_iload_n hx hb dX3_send_117 rfl (lv_at hl 0 rfl) ?_
            exact r_int hx hb hr hlk hW (by exact ⟨by rw [hFe], _, by rw [hFe]; exact hM⟩) (Nat.le_of_ble_eq_true rfl) (Nat.le_of_ble_eq_true rfl) dX3_send_118
          · skip
            have c_511 := Int32.not_le.mp c_511
            exact absurd c_511 (by decide)
        · skip
          have c_510 := Int32.not_le.mp c_510
          exact absurd c_510 (by decide)
      · skip
        exact absurd c_509 ho
  refine lv_aload_n hx hb dX3_send_0 rfl (lv_at hl 0 rfl) ?_
  refine lv_iload_n hx hb dX3_send_1 rfl (lv_at hl 1 rfl) ?_
  refine c_virt (own := RX3) (As := [.int (a)]) (rest := []) hx hb hml hown hts hK hW (k_X3_isMessage l hM hIV.1 hIV.2.1 _) ml_RX3_97 im_yX3_isMessage se_yX3_isMessage in_RX3 cd_yX3_isMessage 1 (by decide +kernel) ⟨Nat.le_of_ble_eq_true rfl, Nat.le_of_ble_eq_true rfl⟩ hM.1 rfl rfl rfl hl.1 rfl (Nat.le_of_ble_eq_true rfl) dX3_send_2 ⟨Nat.le_of_ble_eq_true rfl, Nat.le_of_ble_eq_true rfl⟩ (fun v g2 H1 locs1 hp hW hKT => ?_)
  obtain ⟨rfl, hg⟩ := hp
  rw [hg] at hW
  refine W.eq (g2 := F0 m 5 ls [.int (bI (isMb r (a)))]) rfl ?_
  refine lv_if_eq (tgt := 18) hx hb dX3_send_5 (by decide) (fun c_512 => ?_) (fun c_512 => ?_)
  · skip
    have c_512 := (bI_eq0 _).mp c_512
    refine lv_bipush (v := -2) hx hb dX3_send_18 (by decide) ?_
    exact r_int hx hb hr hlk hW (by have e0 : sendB r a b = false := (by have e7 : (!decide (b < 0) && decide (b < 8)) = mIn b 0 7 := in7b.symm; simp only [sendB, e7]; simp [c_512]); have e1 : Fsend r a b = (-2, r) := (by simp [Fsend, e0]); rw [e1]; exact ⟨rfl, t, hM⟩) (Nat.le_of_ble_eq_true rfl) (Nat.le_of_ble_eq_true rfl) dX3_send_20
  · skip
    have c_512 := bI_ne0 c_512
    have hb_513 : ix (a) < 60 := by have := isMb_lt c_512; have := hIV.2.1; omega
    have hm := hIV.2.2.1 _ (isMb_lt c_512)
    refine lv_iload_n hx hb dX3_send_8 rfl (lv_at hl 2 rfl) ?_
    refine lv_iconst (v := 0) hx hb dX3_send_9 (by decide) ?_
    refine lv_bipush (v := 7) hx hb dX3_send_10 (by decide) ?_
    refine c_stat (own := RX3) (As := [.int (b), .int (0), .int (7)]) (rest := []) hx hb hml hown hts hK hW (k_X3_in l _ _ _) ml_RX3_78 st_yX3_in in_RX3 cd_yX3_in 3 (by decide +kernel) ⟨Nat.le_of_ble_eq_true rfl, Nat.le_of_ble_eq_true rfl⟩ rfl hl.1 rfl (Nat.le_of_ble_eq_true rfl) dX3_send_12 ⟨Nat.le_of_ble_eq_true rfl, Nat.le_of_ble_eq_true rfl⟩ (fun v g2 H1 locs1 hp hW hKT => ?_)
    obtain ⟨rfl, hg⟩ := hp
    rw [hg] at hW
    refine W.eq (g2 := F0 m 15 ls [.int (bI (mIn (b) (0) (7)))]) rfl ?_
    refine lv_if_ne (tgt := 21) hx hb dX3_send_15 (by decide) (fun c_514 => ?_) (fun c_514 => ?_)
    · skip
      have c_514 := bI_ne0 c_514
      have hb_515 := in7 (n := 7) (by decide) c_514
      have nhb_515 := hb_515.2
      refine lv_aload_n hx hb dX3_send_21 rfl (lv_at hl 0 rfl) ?_
      refine lv_dup hx hb dX3_send_22 rfl ?_
      refine m_get hx hb hts hown hK hW hM 18 (by decide) fl_RX3_158 (v := .int (r 17 1)) rfl dX3_send_23 ?_
      refine lv_iconst (v := 1) hx hb dX3_send_26 (by decide) ?_
      refine lv_iadd hx hb dX3_send_27 ?_
      refine m_put (r' := s2 r 17 1 ((r 17 1) + (1))) (t' := t) hx hb hts hown hK hW hM 18 (by decide) fl_RX3_158 rfl rfl (fun f hf => s2_f _ _ _ (by omega)) (fun _ _ => rfl) rfl dX3_send_28 (fun H1 locs1 g1 hW hM => ?_)
      refine lv_aload_n hx hb dX3_send_31 rfl (lv_at hl 0 rfl) ?_
      refine lv_iconst (v := 0) hx hb dX3_send_32 (by decide) ?_
      refine m_put (r' := s2 (s2 r 17 1 ((r 17 1) + (1))) 17 2 (0)) (t' := t) hx hb hts hown hK hW hM 19 (by decide) fl_RX3_148 rfl rfl (fun f hf => s2_f _ _ _ (by omega)) (fun _ _ => rfl) rfl dX3_send_33 (fun H1 locs1 g1 hW hM => ?_)
      refine lv_aload_n hx hb dX3_send_36 rfl (lv_at hl 0 rfl) ?_
      refine lv_iconst (v := 0) hx hb dX3_send_37 (by decide) ?_
      refine m_put (r' := s2 (s2 (s2 r 17 1 ((r 17 1) + (1))) 17 2 (0)) 17 3 (0)) (t' := t) hx hb hts hown hK hW hM 20 (by decide) fl_RX3_133 rfl rfl (fun f hf => s2_f _ _ _ (by omega)) (fun _ _ => rfl) rfl dX3_send_38 (fun H1 locs1 g1 hW hM => ?_)
      refine lv_aload_n hx hb dX3_send_41 rfl (lv_at hl 0 rfl) ?_
      refine lv_iconst (v := 0) hx hb dX3_send_42 (by decide) ?_
      refine m_put (r' := s2 (s2 (s2 (s2 r 17 1 ((r 17 1) + (1))) 17 2 (0)) 17 3 (0)) 17 4 (0)) (t' := t) hx hb hts hown hK hW hM 21 (by decide) fl_RX3_145 rfl rfl (fun f hf => s2_f _ _ _ (by omega)) (fun _ _ => rfl) rfl dX3_send_43 (fun H1 locs1 g1 hW hM => ?_)
      refine lv_aload_n hx hb dX3_send_46 rfl (lv_at hl 0 rfl) ?_
      refine lv_iconst (v := 0) hx hb dX3_send_47 (by decide) ?_
      refine m_put (r' := s2 (s2 (s2 (s2 (s2 r 17 1 ((r 17 1) + (1))) 17 2 (0)) 17 3 (0)) 17 4 (0)) 17 5 (0)) (t' := t) hx hb hts hown hK hW hM 22 (by decide) fl_RX3_136 rfl rfl (fun f hf => s2_f _ _ _ (by omega)) (fun _ _ => rfl) rfl dX3_send_48 (fun H1 locs1 g1 hW hM => ?_)
      refine lv_aload_n hx hb dX3_send_51 rfl (lv_at hl 0 rfl) ?_
      refine lv_iconst (v := -1) hx hb dX3_send_52 (by decide) ?_
      refine m_put (r' := s2 (s2 (s2 (s2 (s2 (s2 r 17 1 ((r 17 1) + (1))) 17 2 (0)) 17 3 (0)) 17 4 (0)) 17 5 (0)) 17 6 (-1)) (t' := t) hx hb hts hown hK hW hM 23 (by decide) fl_RX3_139 rfl rfl (fun f hf => s2_f _ _ _ (by omega)) (fun _ _ => rfl) rfl dX3_send_53 (fun H1 locs1 g1 hW hM => ?_)
      refine lv_aload_n hx hb dX3_send_56 rfl (lv_at hl 0 rfl) ?_
      refine lv_iconst (v := 0) hx hb dX3_send_57 (by decide) ?_
      refine m_put (r' := s2 (s2 (s2 (s2 (s2 (s2 r 17 1 ((r 17 1) + (1))) 17 2 (0)) 17 3 (0)) 17 4 (0)) 17 5 (0)) 17 6 (-1)) (t' := s2 t 4 0 (0)) hx hb hts hown hK hW hM 24 (by decide) fl_RX3_117 rfl rfl (fun _ _ => rfl) (fun f hf => s2_f _ _ _ (by omega)) rfl dX3_send_58 (fun H1 locs1 g1 hW hM => ?_)
      refine lv_aload_n hx hb dX3_send_61 rfl (lv_at hl 0 rfl) ?_
      refine lv_iload_n hx hb dX3_send_62 rfl (lv_at hl 1 rfl) ?_
      refine lv_iload_n hx hb dX3_send_63 rfl (lv_at hl 2 rfl) ?_
      refine c_virt (own := RX3) (As := [.int (a), .int (b)]) (rest := []) hx hb hml hown hts hK hW (k_X3_begin l hM (tp := 0) (by rw [s2_s]; rfl) (by omega) _ _) ml_RX3_120 im_yX3_begin se_yX3_begin in_RX3 cd_yX3_begin 2 (by decide +kernel) ⟨Nat.le_of_ble_eq_true rfl, Nat.le_of_ble_eq_true rfl⟩ hM.1 rfl rfl rfl hl.1 rfl (Nat.le_of_ble_eq_true rfl) dX3_send_64 ⟨Nat.le_of_ble_eq_true rfl, Nat.le_of_ble_eq_true rfl⟩ (fun v g2 H1 locs1 hp hW hKT => ?_)
      obtain ⟨rfl, hM⟩ := hp
      refine W.eq (g2 := F0 m 67 ls []) rfl ?_
      refine lv_bipush (v := -100) hx hb dX3_send_67 (by decide) ?_
      refine lv_istore_n (lv' := [(3, .int (-100)), (0, .ref (y)), (1, .int (a)), (2, .int (b))]) hx hb dX3_send_69 rfl hl (by decide) rfl (fun ls hl => ?_)
      have hb7 := in7 (n := 7) (by decide) c_514
      have e0 : sendB r a b = true := by
        have e7 : (!decide (b < 0) && decide (b < 8)) = mIn b 0 7 := in7b.symm
        simp only [sendB, e7]; simp [c_512, c_514]
      have hFs : Fsend r a b = ((carryF (8 - ix b) (sendR r) (ix a)).2, (carryF (8 - ix b) (sendR r) (ix a)).1) := by simp [Fsend, e0]
      have hall : Q (-100) (sendR r) (begT (s2 t 4 0 0) 0 a b) := by
        refine sim hS hB (8 - ix b) (sendR r) _ 0 (ix a) (ix b) (by omega) (IV_send hIV) ⟨0, by omega, by simp [sendR, s2_a, nI]⟩ ⟨by rw [begT_4, s2_s]; rfl, by rw [begT_0]; exact (nI_ix (isMb_nn c_512)).symm, by rw [begT_1]; exact (nI_ix hb7.1).symm, isMb_lt c_512, by omega, by omega⟩ (fun t9 _ h9 => ?_)
        exact hE _ _ t9 h9 (rv_ne (carry_rv _ _ _)) hFs
      rw [hQd] at hall
      exact hall _ _ _ _ hW hM (lv_sub hl [0, 1, 2, 3] rfl)
    · skip
      have c_514 := (bI_eq0 _).mp c_514
      refine lv_bipush (v := -2) hx hb dX3_send_18 (by decide) ?_
      exact r_int hx hb hr hlk hW (by have e0 : sendB r a b = false := (by have e7 : (!decide (b < 0) && decide (b < 8)) = mIn b 0 7 := in7b.symm; simp only [sendB, e7]; simp [c_512, c_514]); have e1 : Fsend r a b = (-2, r) := (by simp [Fsend, e0]); rw [e1]; exact ⟨rfl, t, hM⟩) (Nat.le_of_ble_eq_true rfl) (Nat.le_of_ble_eq_true rfl) dX3_send_20

def AP (E : gE) (k : Nat) (ad : Nat → Nat) (g : gm) : Prop := (∀ f, f < k → g (ad f) = some (.inl (E.2 (mcl f), mln f, .inl (fun _ => 0)))) ∧ ∀ f f', f < k → f' < k → ad f = ad f' → f = f'
theorem AP.push {E : gE} {k : Nat} {ad : Nat → Nat} {g : gm} (h : AP E k ad g) {q : Nat} (hq : g q = none) : AP E (k + 1) (va_up ad k q) (gu g q (.inl (E.2 (mcl k), mln k, .inl (fun _ => 0)))) := by
  have ne : ∀ f, f < k → ad f ≠ q := fun f hf => ne_none hq (h.1 f hf)
  refine ⟨fun f hf => ?_, fun f f' hf hf' e => ?_⟩
  · by_cases hk : f = k
    · subst hk
      rw [va_up_self, gu_s]
    · rw [va_up_ne _ _ hk, gu_n _ _ (ne f (by omega))]
      exact h.1 f (by omega)
  · by_cases h1 : f = k
    · by_cases h2 : f' = k
      · rw [h1, h2]
      · rw [h1, va_up_self, va_up_ne _ _ h2] at e
        exact absurd e.symm (ne f' (by omega))
    · by_cases h2 : f' = k
      · rw [h2, va_up_self, va_up_ne _ _ h1] at e
        exact absurd e (ne f (by omega))
      · rw [va_up_ne _ _ h1, va_up_ne _ _ h2] at e
        exact h.2 f f' (by omega) (by omega) e
theorem AP.obj {E : gE} {k : Nat} {ad : Nat → Nat} {g : gm} (h : AP E k ad g) {y : Nat} {e e' : List Value} (hy : g y = some (.inr (3, e))) : AP E k ad (gu g y (.inr (3, e'))) :=
  ⟨fun f hf => (gu_n _ _ (ne_kd (h.1 f hf) hy (by simp [kd]))).trans (h.1 f hf), h.2⟩
theorem mrow0 {f : Nat} : mrow (fun _ _ => 0) (fun _ _ => 0) f = fun _ => 0 := by
  unfold mrow
  split <;> rfl

set_option maxHeartbeats 4000000 in
set_option maxRecDepth 100000 in
theorem k_X3_init (l : Launch) {E : gE} {g : gm} {y : Nat} (hh : g y = some (.inr (3, [.int (0), .null, .null, .null, .null, .null, .null, .null, .null, .null, .null, .null, .null, .null, .null, .null, .null, .null, .int (0), .int (0), .int (0), .int (0), .int (0), .int (0), .int (0), .null, .null, .null, .null]))) : CM l yX3_init cX3_init 1 none ({ frames := 1, cells := 21, slots := 1200, locals := 30 }) E [.ref (y)] g (fun vv g' => vv = none ∧ ∃ ad t, MR E y ad (fun _ _ => 0) t g') := by
  refine CM.of (by decide) (Nat.le_of_ble_eq_true rfl) ?_
  intro p e s m below meth c ls hM hK hW hl
  obtain ⟨hx, hb, hr, hml, hown, hts, hlk, hnm⟩ := hM
  have hown : s.vm.findClass RX3 = some m.cls := hown
  have hl : lv_has ls 1 [(0, .ref (y))] := hl
  have hy := hh
  have hA : AP E 0 (fun _ => 0) g := ⟨fun f hf => absurd hf (Nat.not_lt_zero _), fun f f' hf => absurd hf (Nat.not_lt_zero _)⟩
  refine lv_aload_n hx hb dX3_init_0 rfl (lv_at hl 0 rfl) ?_
  refine W.objInit hx hb hown (hts _ ml_RX3_1) (hts _ im_objectInit) (hts _ cd_objectInit) rfl (by rw [hml]; exact hl.1) rfl dX3_init_1 (Nat.le_of_ble_eq_true rfl) (Nat.le_of_ble_eq_true rfl) ?_
  refine W.eq (g2 := F0 m 4 ls []) rfl ?_
  refine lv_aload_n hx hb dX3_init_4 rfl (lv_at hl 0 rfl) ?_
  refine lv_bipush (v := 60) hx hb dX3_init_5 (by decide) ?_
  refine g_newI (N' := 60) hx hb (hts _ ac_int) hK hW (by decide) rfl (by decide) (Nat.le_of_ble_eq_true rfl) (Nat.le_of_ble_eq_true rfl) dX3_init_7 (fun q0 H1 e0 hW => ?_)
  have hA : AP E 1 (va_up (fun _ => 0) 0 q0) (gu g q0 (.inl (E.2 0, 60, .inl (fun _ => 0)))) := AP.push hA e0
  have hy : gu g q0 (.inl (E.2 0, 60, .inl (fun _ => 0))) y = some (.inr (3, [.int (0), .null, .null, .null, .null, .null, .null, .null, .null, .null, .null, .null, .null, .null, .null, .null, .null, .null, .int (0), .int (0), .int (0), .int (0), .int (0), .int (0), .int (0), .null, .null, .null, .null])) := (gu_n _ _ (ne_none e0 hy)).trans hy
  obtain ⟨g_516, ge_517⟩ : ∃ zz, zz = gu g q0 (.inl (E.2 0, 60, .inl (fun _ => 0))) := ⟨_, rfl⟩
  rw [← ge_517] at hW hA hy
  refine g_putF hx hb hts inlX3 rfl tyX3 tyX3_ok nmX3 hown hK hW hy 1 (by decide) fl_RX3_7 rfl hnm rfl rfl rfl (show 1 < 29 by decide) dX3_init_9 (fun H1 locs1 hW => ?_)
  have hA : AP E 1 (va_up (fun _ => 0) 0 q0) (gu g_516 y (.inr (3, [.int (0), .ref (q0), .null, .null, .null, .null, .null, .null, .null, .null, .null, .null, .null, .null, .null, .null, .null, .null, .int (0), .int (0), .int (0), .int (0), .int (0), .int (0), .int (0), .null, .null, .null, .null]))) := AP.obj hA hy
  have hW : PW E (fr g s.heap.size) s.heap H1 locs1 (gu g_516 y (.inr (3, [.int (0), .ref (q0), .null, .null, .null, .null, .null, .null, .null, .null, .null, .null, .null, .null, .null, .null, .null, .null, .int (0), .int (0), .int (0), .int (0), .int (0), .int (0), .int (0), .null, .null, .null, .null]))) := hW
  obtain ⟨g_518, ge_519⟩ : ∃ zz, zz = gu g_516 y (.inr (3, [.int (0), .ref (q0), .null, .null, .null, .null, .null, .null, .null, .null, .null, .null, .null, .null, .null, .null, .null, .null, .int (0), .int (0), .int (0), .int (0), .int (0), .int (0), .int (0), .null, .null, .null, .null])) := ⟨_, rfl⟩
  have hy : g_518 y = some (.inr (3, [.int (0), .ref (q0), .null, .null, .null, .null, .null, .null, .null, .null, .null, .null, .null, .null, .null, .null, .null, .null, .int (0), .int (0), .int (0), .int (0), .int (0), .int (0), .int (0), .null, .null, .null, .null])) := (congrFun ge_519 _).trans (gu_s _ _ _)
  rw [← ge_519] at hW hA
  refine lv_aload_n hx hb dX3_init_12 rfl (lv_at hl 0 rfl) ?_
  refine lv_bipush (v := 60) hx hb dX3_init_13 (by decide) ?_
  refine g_newI (N' := 60) hx hb (hts _ ac_int) hK hW (by decide) rfl (by decide) (Nat.le_of_ble_eq_true rfl) (Nat.le_of_ble_eq_true rfl) dX3_init_15 (fun q1 H1 e1 hW => ?_)
  have hA : AP E 2 (va_up (va_up (fun _ => 0) 0 q0) 1 q1) (gu g_518 q1 (.inl (E.2 0, 60, .inl (fun _ => 0)))) := AP.push hA e1
  have hy : gu g_518 q1 (.inl (E.2 0, 60, .inl (fun _ => 0))) y = some (.inr (3, [.int (0), .ref (q0), .null, .null, .null, .null, .null, .null, .null, .null, .null, .null, .null, .null, .null, .null, .null, .null, .int (0), .int (0), .int (0), .int (0), .int (0), .int (0), .int (0), .null, .null, .null, .null])) := (gu_n _ _ (ne_none e1 hy)).trans hy
  obtain ⟨g_520, ge_521⟩ : ∃ zz, zz = gu g_518 q1 (.inl (E.2 0, 60, .inl (fun _ => 0))) := ⟨_, rfl⟩
  rw [← ge_521] at hW hA hy
  refine g_putF hx hb hts inlX3 rfl tyX3 tyX3_ok nmX3 hown hK hW hy 2 (by decide) fl_RX3_13 rfl hnm rfl rfl rfl (show 2 < 29 by decide) dX3_init_17 (fun H1 locs1 hW => ?_)
  have hA : AP E 2 (va_up (va_up (fun _ => 0) 0 q0) 1 q1) (gu g_520 y (.inr (3, [.int (0), .ref (q0), .ref (q1), .null, .null, .null, .null, .null, .null, .null, .null, .null, .null, .null, .null, .null, .null, .null, .int (0), .int (0), .int (0), .int (0), .int (0), .int (0), .int (0), .null, .null, .null, .null]))) := AP.obj hA hy
  have hW : PW E (fr g s.heap.size) s.heap H1 locs1 (gu g_520 y (.inr (3, [.int (0), .ref (q0), .ref (q1), .null, .null, .null, .null, .null, .null, .null, .null, .null, .null, .null, .null, .null, .null, .null, .int (0), .int (0), .int (0), .int (0), .int (0), .int (0), .int (0), .null, .null, .null, .null]))) := hW
  obtain ⟨g_522, ge_523⟩ : ∃ zz, zz = gu g_520 y (.inr (3, [.int (0), .ref (q0), .ref (q1), .null, .null, .null, .null, .null, .null, .null, .null, .null, .null, .null, .null, .null, .null, .null, .int (0), .int (0), .int (0), .int (0), .int (0), .int (0), .int (0), .null, .null, .null, .null])) := ⟨_, rfl⟩
  have hy : g_522 y = some (.inr (3, [.int (0), .ref (q0), .ref (q1), .null, .null, .null, .null, .null, .null, .null, .null, .null, .null, .null, .null, .null, .null, .null, .int (0), .int (0), .int (0), .int (0), .int (0), .int (0), .int (0), .null, .null, .null, .null])) := (congrFun ge_523 _).trans (gu_s _ _ _)
  rw [← ge_523] at hW hA
  refine lv_aload_n hx hb dX3_init_20 rfl (lv_at hl 0 rfl) ?_
  refine lv_bipush (v := 60) hx hb dX3_init_21 (by decide) ?_
  refine g_newI (N' := 60) hx hb (hts _ ac_int) hK hW (by decide) rfl (by decide) (Nat.le_of_ble_eq_true rfl) (Nat.le_of_ble_eq_true rfl) dX3_init_23 (fun q2 H1 e2 hW => ?_)
  have hA : AP E 3 (va_up (va_up (va_up (fun _ => 0) 0 q0) 1 q1) 2 q2) (gu g_522 q2 (.inl (E.2 0, 60, .inl (fun _ => 0)))) := AP.push hA e2
  have hy : gu g_522 q2 (.inl (E.2 0, 60, .inl (fun _ => 0))) y = some (.inr (3, [.int (0), .ref (q0), .ref (q1), .null, .null, .null, .null, .null, .null, .null, .null, .null, .null, .null, .null, .null, .null, .null, .int (0), .int (0), .int (0), .int (0), .int (0), .int (0), .int (0), .null, .null, .null, .null])) := (gu_n _ _ (ne_none e2 hy)).trans hy
  obtain ⟨g_524, ge_525⟩ : ∃ zz, zz = gu g_522 q2 (.inl (E.2 0, 60, .inl (fun _ => 0))) := ⟨_, rfl⟩
  rw [← ge_525] at hW hA hy
  refine g_putF hx hb hts inlX3 rfl tyX3 tyX3_ok nmX3 hown hK hW hy 3 (by decide) fl_RX3_16 rfl hnm rfl rfl rfl (show 3 < 29 by decide) dX3_init_25 (fun H1 locs1 hW => ?_)
  have hA : AP E 3 (va_up (va_up (va_up (fun _ => 0) 0 q0) 1 q1) 2 q2) (gu g_524 y (.inr (3, [.int (0), .ref (q0), .ref (q1), .ref (q2), .null, .null, .null, .null, .null, .null, .null, .null, .null, .null, .null, .null, .null, .null, .int (0), .int (0), .int (0), .int (0), .int (0), .int (0), .int (0), .null, .null, .null, .null]))) := AP.obj hA hy
  have hW : PW E (fr g s.heap.size) s.heap H1 locs1 (gu g_524 y (.inr (3, [.int (0), .ref (q0), .ref (q1), .ref (q2), .null, .null, .null, .null, .null, .null, .null, .null, .null, .null, .null, .null, .null, .null, .int (0), .int (0), .int (0), .int (0), .int (0), .int (0), .int (0), .null, .null, .null, .null]))) := hW
  obtain ⟨g_526, ge_527⟩ : ∃ zz, zz = gu g_524 y (.inr (3, [.int (0), .ref (q0), .ref (q1), .ref (q2), .null, .null, .null, .null, .null, .null, .null, .null, .null, .null, .null, .null, .null, .null, .int (0), .int (0), .int (0), .int (0), .int (0), .int (0), .int (0), .null, .null, .null, .null])) := ⟨_, rfl⟩
  have hy : g_526 y = some (.inr (3, [.int (0), .ref (q0), .ref (q1), .ref (q2), .null, .null, .null, .null, .null, .null, .null, .null, .null, .null, .null, .null, .null, .null, .int (0), .int (0), .int (0), .int (0), .int (0), .int (0), .int (0), .null, .null, .null, .null])) := (congrFun ge_527 _).trans (gu_s _ _ _)
  rw [← ge_527] at hW hA
  refine lv_aload_n hx hb dX3_init_28 rfl (lv_at hl 0 rfl) ?_
  refine lv_bipush (v := 60) hx hb dX3_init_29 (by decide) ?_
  refine g_newI (N' := 60) hx hb (hts _ ac_int) hK hW (by decide) rfl (by decide) (Nat.le_of_ble_eq_true rfl) (Nat.le_of_ble_eq_true rfl) dX3_init_31 (fun q3 H1 e3 hW => ?_)
  have hA : AP E 4 (va_up (va_up (va_up (va_up (fun _ => 0) 0 q0) 1 q1) 2 q2) 3 q3) (gu g_526 q3 (.inl (E.2 0, 60, .inl (fun _ => 0)))) := AP.push hA e3
  have hy : gu g_526 q3 (.inl (E.2 0, 60, .inl (fun _ => 0))) y = some (.inr (3, [.int (0), .ref (q0), .ref (q1), .ref (q2), .null, .null, .null, .null, .null, .null, .null, .null, .null, .null, .null, .null, .null, .null, .int (0), .int (0), .int (0), .int (0), .int (0), .int (0), .int (0), .null, .null, .null, .null])) := (gu_n _ _ (ne_none e3 hy)).trans hy
  obtain ⟨g_528, ge_529⟩ : ∃ zz, zz = gu g_526 q3 (.inl (E.2 0, 60, .inl (fun _ => 0))) := ⟨_, rfl⟩
  rw [← ge_529] at hW hA hy
  refine g_putF hx hb hts inlX3 rfl tyX3 tyX3_ok nmX3 hown hK hW hy 4 (by decide) fl_RX3_19 rfl hnm rfl rfl rfl (show 4 < 29 by decide) dX3_init_33 (fun H1 locs1 hW => ?_)
  have hA : AP E 4 (va_up (va_up (va_up (va_up (fun _ => 0) 0 q0) 1 q1) 2 q2) 3 q3) (gu g_528 y (.inr (3, [.int (0), .ref (q0), .ref (q1), .ref (q2), .ref (q3), .null, .null, .null, .null, .null, .null, .null, .null, .null, .null, .null, .null, .null, .int (0), .int (0), .int (0), .int (0), .int (0), .int (0), .int (0), .null, .null, .null, .null]))) := AP.obj hA hy
  have hW : PW E (fr g s.heap.size) s.heap H1 locs1 (gu g_528 y (.inr (3, [.int (0), .ref (q0), .ref (q1), .ref (q2), .ref (q3), .null, .null, .null, .null, .null, .null, .null, .null, .null, .null, .null, .null, .null, .int (0), .int (0), .int (0), .int (0), .int (0), .int (0), .int (0), .null, .null, .null, .null]))) := hW
  obtain ⟨g_530, ge_531⟩ : ∃ zz, zz = gu g_528 y (.inr (3, [.int (0), .ref (q0), .ref (q1), .ref (q2), .ref (q3), .null, .null, .null, .null, .null, .null, .null, .null, .null, .null, .null, .null, .null, .int (0), .int (0), .int (0), .int (0), .int (0), .int (0), .int (0), .null, .null, .null, .null])) := ⟨_, rfl⟩
  have hy : g_530 y = some (.inr (3, [.int (0), .ref (q0), .ref (q1), .ref (q2), .ref (q3), .null, .null, .null, .null, .null, .null, .null, .null, .null, .null, .null, .null, .null, .int (0), .int (0), .int (0), .int (0), .int (0), .int (0), .int (0), .null, .null, .null, .null])) := (congrFun ge_531 _).trans (gu_s _ _ _)
  rw [← ge_531] at hW hA
  refine lv_aload_n hx hb dX3_init_36 rfl (lv_at hl 0 rfl) ?_
  refine lv_sipush (v := 480) hx hb dX3_init_37 (by decide) ?_
  refine g_newI (N' := 480) hx hb (hts _ ac_int) hK hW (by decide) rfl (by decide) (Nat.le_of_ble_eq_true rfl) (Nat.le_of_ble_eq_true rfl) dX3_init_40 (fun q4 H1 e4 hW => ?_)
  have hA : AP E 5 (va_up (va_up (va_up (va_up (va_up (fun _ => 0) 0 q0) 1 q1) 2 q2) 3 q3) 4 q4) (gu g_530 q4 (.inl (E.2 0, 480, .inl (fun _ => 0)))) := AP.push hA e4
  have hy : gu g_530 q4 (.inl (E.2 0, 480, .inl (fun _ => 0))) y = some (.inr (3, [.int (0), .ref (q0), .ref (q1), .ref (q2), .ref (q3), .null, .null, .null, .null, .null, .null, .null, .null, .null, .null, .null, .null, .null, .int (0), .int (0), .int (0), .int (0), .int (0), .int (0), .int (0), .null, .null, .null, .null])) := (gu_n _ _ (ne_none e4 hy)).trans hy
  obtain ⟨g_532, ge_533⟩ : ∃ zz, zz = gu g_530 q4 (.inl (E.2 0, 480, .inl (fun _ => 0))) := ⟨_, rfl⟩
  rw [← ge_533] at hW hA hy
  refine g_putF hx hb hts inlX3 rfl tyX3 tyX3_ok nmX3 hown hK hW hy 5 (by decide) fl_RX3_22 rfl hnm rfl rfl rfl (show 5 < 29 by decide) dX3_init_42 (fun H1 locs1 hW => ?_)
  have hA : AP E 5 (va_up (va_up (va_up (va_up (va_up (fun _ => 0) 0 q0) 1 q1) 2 q2) 3 q3) 4 q4) (gu g_532 y (.inr (3, [.int (0), .ref (q0), .ref (q1), .ref (q2), .ref (q3), .ref (q4), .null, .null, .null, .null, .null, .null, .null, .null, .null, .null, .null, .null, .int (0), .int (0), .int (0), .int (0), .int (0), .int (0), .int (0), .null, .null, .null, .null]))) := AP.obj hA hy
  have hW : PW E (fr g s.heap.size) s.heap H1 locs1 (gu g_532 y (.inr (3, [.int (0), .ref (q0), .ref (q1), .ref (q2), .ref (q3), .ref (q4), .null, .null, .null, .null, .null, .null, .null, .null, .null, .null, .null, .null, .int (0), .int (0), .int (0), .int (0), .int (0), .int (0), .int (0), .null, .null, .null, .null]))) := hW
  obtain ⟨g_534, ge_535⟩ : ∃ zz, zz = gu g_532 y (.inr (3, [.int (0), .ref (q0), .ref (q1), .ref (q2), .ref (q3), .ref (q4), .null, .null, .null, .null, .null, .null, .null, .null, .null, .null, .null, .null, .int (0), .int (0), .int (0), .int (0), .int (0), .int (0), .int (0), .null, .null, .null, .null])) := ⟨_, rfl⟩
  have hy : g_534 y = some (.inr (3, [.int (0), .ref (q0), .ref (q1), .ref (q2), .ref (q3), .ref (q4), .null, .null, .null, .null, .null, .null, .null, .null, .null, .null, .null, .null, .int (0), .int (0), .int (0), .int (0), .int (0), .int (0), .int (0), .null, .null, .null, .null])) := (congrFun ge_535 _).trans (gu_s _ _ _)
  rw [← ge_535] at hW hA
  refine lv_aload_n hx hb dX3_init_45 rfl (lv_at hl 0 rfl) ?_
  refine lv_bipush (v := 8) hx hb dX3_init_46 (by decide) ?_
  refine g_newZ (N' := 8) hx hb (hts _ ac_boolean) hK hW (by decide) rfl (by decide) (Nat.le_of_ble_eq_true rfl) (Nat.le_of_ble_eq_true rfl) dX3_init_48 (fun q5 H1 e5 hW => ?_)
  have hA : AP E 6 (va_up (va_up (va_up (va_up (va_up (va_up (fun _ => 0) 0 q0) 1 q1) 2 q2) 3 q3) 4 q4) 5 q5) (gu g_534 q5 (.inl (E.2 1, 8, .inl (fun _ => 0)))) := AP.push hA e5
  have hy : gu g_534 q5 (.inl (E.2 1, 8, .inl (fun _ => 0))) y = some (.inr (3, [.int (0), .ref (q0), .ref (q1), .ref (q2), .ref (q3), .ref (q4), .null, .null, .null, .null, .null, .null, .null, .null, .null, .null, .null, .null, .int (0), .int (0), .int (0), .int (0), .int (0), .int (0), .int (0), .null, .null, .null, .null])) := (gu_n _ _ (ne_none e5 hy)).trans hy
  obtain ⟨g_536, ge_537⟩ : ∃ zz, zz = gu g_534 q5 (.inl (E.2 1, 8, .inl (fun _ => 0))) := ⟨_, rfl⟩
  rw [← ge_537] at hW hA hy
  refine g_putF hx hb hts inlX3 rfl tyX3 tyX3_ok nmX3 hown hK hW hy 6 (by decide) fl_RX3_25 rfl hnm rfl rfl rfl (show 6 < 29 by decide) dX3_init_50 (fun H1 locs1 hW => ?_)
  have hA : AP E 6 (va_up (va_up (va_up (va_up (va_up (va_up (fun _ => 0) 0 q0) 1 q1) 2 q2) 3 q3) 4 q4) 5 q5) (gu g_536 y (.inr (3, [.int (0), .ref (q0), .ref (q1), .ref (q2), .ref (q3), .ref (q4), .ref (q5), .null, .null, .null, .null, .null, .null, .null, .null, .null, .null, .null, .int (0), .int (0), .int (0), .int (0), .int (0), .int (0), .int (0), .null, .null, .null, .null]))) := AP.obj hA hy
  have hW : PW E (fr g s.heap.size) s.heap H1 locs1 (gu g_536 y (.inr (3, [.int (0), .ref (q0), .ref (q1), .ref (q2), .ref (q3), .ref (q4), .ref (q5), .null, .null, .null, .null, .null, .null, .null, .null, .null, .null, .null, .int (0), .int (0), .int (0), .int (0), .int (0), .int (0), .int (0), .null, .null, .null, .null]))) := hW
  obtain ⟨g_538, ge_539⟩ : ∃ zz, zz = gu g_536 y (.inr (3, [.int (0), .ref (q0), .ref (q1), .ref (q2), .ref (q3), .ref (q4), .ref (q5), .null, .null, .null, .null, .null, .null, .null, .null, .null, .null, .null, .int (0), .int (0), .int (0), .int (0), .int (0), .int (0), .int (0), .null, .null, .null, .null])) := ⟨_, rfl⟩
  have hy : g_538 y = some (.inr (3, [.int (0), .ref (q0), .ref (q1), .ref (q2), .ref (q3), .ref (q4), .ref (q5), .null, .null, .null, .null, .null, .null, .null, .null, .null, .null, .null, .int (0), .int (0), .int (0), .int (0), .int (0), .int (0), .int (0), .null, .null, .null, .null])) := (congrFun ge_539 _).trans (gu_s _ _ _)
  rw [← ge_539] at hW hA
  refine lv_aload_n hx hb dX3_init_53 rfl (lv_at hl 0 rfl) ?_
  refine lv_bipush (v := 8) hx hb dX3_init_54 (by decide) ?_
  refine g_newZ (N' := 8) hx hb (hts _ ac_boolean) hK hW (by decide) rfl (by decide) (Nat.le_of_ble_eq_true rfl) (Nat.le_of_ble_eq_true rfl) dX3_init_56 (fun q6 H1 e6 hW => ?_)
  have hA : AP E 7 (va_up (va_up (va_up (va_up (va_up (va_up (va_up (fun _ => 0) 0 q0) 1 q1) 2 q2) 3 q3) 4 q4) 5 q5) 6 q6) (gu g_538 q6 (.inl (E.2 1, 8, .inl (fun _ => 0)))) := AP.push hA e6
  have hy : gu g_538 q6 (.inl (E.2 1, 8, .inl (fun _ => 0))) y = some (.inr (3, [.int (0), .ref (q0), .ref (q1), .ref (q2), .ref (q3), .ref (q4), .ref (q5), .null, .null, .null, .null, .null, .null, .null, .null, .null, .null, .null, .int (0), .int (0), .int (0), .int (0), .int (0), .int (0), .int (0), .null, .null, .null, .null])) := (gu_n _ _ (ne_none e6 hy)).trans hy
  obtain ⟨g_540, ge_541⟩ : ∃ zz, zz = gu g_538 q6 (.inl (E.2 1, 8, .inl (fun _ => 0))) := ⟨_, rfl⟩
  rw [← ge_541] at hW hA hy
  refine g_putF hx hb hts inlX3 rfl tyX3 tyX3_ok nmX3 hown hK hW hy 7 (by decide) fl_RX3_29 rfl hnm rfl rfl rfl (show 7 < 29 by decide) dX3_init_58 (fun H1 locs1 hW => ?_)
  have hA : AP E 7 (va_up (va_up (va_up (va_up (va_up (va_up (va_up (fun _ => 0) 0 q0) 1 q1) 2 q2) 3 q3) 4 q4) 5 q5) 6 q6) (gu g_540 y (.inr (3, [.int (0), .ref (q0), .ref (q1), .ref (q2), .ref (q3), .ref (q4), .ref (q5), .ref (q6), .null, .null, .null, .null, .null, .null, .null, .null, .null, .null, .int (0), .int (0), .int (0), .int (0), .int (0), .int (0), .int (0), .null, .null, .null, .null]))) := AP.obj hA hy
  have hW : PW E (fr g s.heap.size) s.heap H1 locs1 (gu g_540 y (.inr (3, [.int (0), .ref (q0), .ref (q1), .ref (q2), .ref (q3), .ref (q4), .ref (q5), .ref (q6), .null, .null, .null, .null, .null, .null, .null, .null, .null, .null, .int (0), .int (0), .int (0), .int (0), .int (0), .int (0), .int (0), .null, .null, .null, .null]))) := hW
  obtain ⟨g_542, ge_543⟩ : ∃ zz, zz = gu g_540 y (.inr (3, [.int (0), .ref (q0), .ref (q1), .ref (q2), .ref (q3), .ref (q4), .ref (q5), .ref (q6), .null, .null, .null, .null, .null, .null, .null, .null, .null, .null, .int (0), .int (0), .int (0), .int (0), .int (0), .int (0), .int (0), .null, .null, .null, .null])) := ⟨_, rfl⟩
  have hy : g_542 y = some (.inr (3, [.int (0), .ref (q0), .ref (q1), .ref (q2), .ref (q3), .ref (q4), .ref (q5), .ref (q6), .null, .null, .null, .null, .null, .null, .null, .null, .null, .null, .int (0), .int (0), .int (0), .int (0), .int (0), .int (0), .int (0), .null, .null, .null, .null])) := (congrFun ge_543 _).trans (gu_s _ _ _)
  rw [← ge_543] at hW hA
  refine lv_aload_n hx hb dX3_init_61 rfl (lv_at hl 0 rfl) ?_
  refine lv_bipush (v := 8) hx hb dX3_init_62 (by decide) ?_
  refine g_newZ (N' := 8) hx hb (hts _ ac_boolean) hK hW (by decide) rfl (by decide) (Nat.le_of_ble_eq_true rfl) (Nat.le_of_ble_eq_true rfl) dX3_init_64 (fun q7 H1 e7 hW => ?_)
  have hA : AP E 8 (va_up (va_up (va_up (va_up (va_up (va_up (va_up (va_up (fun _ => 0) 0 q0) 1 q1) 2 q2) 3 q3) 4 q4) 5 q5) 6 q6) 7 q7) (gu g_542 q7 (.inl (E.2 1, 8, .inl (fun _ => 0)))) := AP.push hA e7
  have hy : gu g_542 q7 (.inl (E.2 1, 8, .inl (fun _ => 0))) y = some (.inr (3, [.int (0), .ref (q0), .ref (q1), .ref (q2), .ref (q3), .ref (q4), .ref (q5), .ref (q6), .null, .null, .null, .null, .null, .null, .null, .null, .null, .null, .int (0), .int (0), .int (0), .int (0), .int (0), .int (0), .int (0), .null, .null, .null, .null])) := (gu_n _ _ (ne_none e7 hy)).trans hy
  obtain ⟨g_544, ge_545⟩ : ∃ zz, zz = gu g_542 q7 (.inl (E.2 1, 8, .inl (fun _ => 0))) := ⟨_, rfl⟩
  rw [← ge_545] at hW hA hy
  refine g_putF hx hb hts inlX3 rfl tyX3 tyX3_ok nmX3 hown hK hW hy 8 (by decide) fl_RX3_32 rfl hnm rfl rfl rfl (show 8 < 29 by decide) dX3_init_66 (fun H1 locs1 hW => ?_)
  have hA : AP E 8 (va_up (va_up (va_up (va_up (va_up (va_up (va_up (va_up (fun _ => 0) 0 q0) 1 q1) 2 q2) 3 q3) 4 q4) 5 q5) 6 q6) 7 q7) (gu g_544 y (.inr (3, [.int (0), .ref (q0), .ref (q1), .ref (q2), .ref (q3), .ref (q4), .ref (q5), .ref (q6), .ref (q7), .null, .null, .null, .null, .null, .null, .null, .null, .null, .int (0), .int (0), .int (0), .int (0), .int (0), .int (0), .int (0), .null, .null, .null, .null]))) := AP.obj hA hy
  have hW : PW E (fr g s.heap.size) s.heap H1 locs1 (gu g_544 y (.inr (3, [.int (0), .ref (q0), .ref (q1), .ref (q2), .ref (q3), .ref (q4), .ref (q5), .ref (q6), .ref (q7), .null, .null, .null, .null, .null, .null, .null, .null, .null, .int (0), .int (0), .int (0), .int (0), .int (0), .int (0), .int (0), .null, .null, .null, .null]))) := hW
  obtain ⟨g_546, ge_547⟩ : ∃ zz, zz = gu g_544 y (.inr (3, [.int (0), .ref (q0), .ref (q1), .ref (q2), .ref (q3), .ref (q4), .ref (q5), .ref (q6), .ref (q7), .null, .null, .null, .null, .null, .null, .null, .null, .null, .int (0), .int (0), .int (0), .int (0), .int (0), .int (0), .int (0), .null, .null, .null, .null])) := ⟨_, rfl⟩
  have hy : g_546 y = some (.inr (3, [.int (0), .ref (q0), .ref (q1), .ref (q2), .ref (q3), .ref (q4), .ref (q5), .ref (q6), .ref (q7), .null, .null, .null, .null, .null, .null, .null, .null, .null, .int (0), .int (0), .int (0), .int (0), .int (0), .int (0), .int (0), .null, .null, .null, .null])) := (congrFun ge_547 _).trans (gu_s _ _ _)
  rw [← ge_547] at hW hA
  refine lv_aload_n hx hb dX3_init_69 rfl (lv_at hl 0 rfl) ?_
  refine lv_bipush (v := 8) hx hb dX3_init_70 (by decide) ?_
  refine g_newI (N' := 8) hx hb (hts _ ac_int) hK hW (by decide) rfl (by decide) (Nat.le_of_ble_eq_true rfl) (Nat.le_of_ble_eq_true rfl) dX3_init_72 (fun q8 H1 e8 hW => ?_)
  have hA : AP E 9 (va_up (va_up (va_up (va_up (va_up (va_up (va_up (va_up (va_up (fun _ => 0) 0 q0) 1 q1) 2 q2) 3 q3) 4 q4) 5 q5) 6 q6) 7 q7) 8 q8) (gu g_546 q8 (.inl (E.2 0, 8, .inl (fun _ => 0)))) := AP.push hA e8
  have hy : gu g_546 q8 (.inl (E.2 0, 8, .inl (fun _ => 0))) y = some (.inr (3, [.int (0), .ref (q0), .ref (q1), .ref (q2), .ref (q3), .ref (q4), .ref (q5), .ref (q6), .ref (q7), .null, .null, .null, .null, .null, .null, .null, .null, .null, .int (0), .int (0), .int (0), .int (0), .int (0), .int (0), .int (0), .null, .null, .null, .null])) := (gu_n _ _ (ne_none e8 hy)).trans hy
  obtain ⟨g_548, ge_549⟩ : ∃ zz, zz = gu g_546 q8 (.inl (E.2 0, 8, .inl (fun _ => 0))) := ⟨_, rfl⟩
  rw [← ge_549] at hW hA hy
  refine g_putF hx hb hts inlX3 rfl tyX3 tyX3_ok nmX3 hown hK hW hy 9 (by decide) fl_RX3_35 rfl hnm rfl rfl rfl (show 9 < 29 by decide) dX3_init_74 (fun H1 locs1 hW => ?_)
  have hA : AP E 9 (va_up (va_up (va_up (va_up (va_up (va_up (va_up (va_up (va_up (fun _ => 0) 0 q0) 1 q1) 2 q2) 3 q3) 4 q4) 5 q5) 6 q6) 7 q7) 8 q8) (gu g_548 y (.inr (3, [.int (0), .ref (q0), .ref (q1), .ref (q2), .ref (q3), .ref (q4), .ref (q5), .ref (q6), .ref (q7), .ref (q8), .null, .null, .null, .null, .null, .null, .null, .null, .int (0), .int (0), .int (0), .int (0), .int (0), .int (0), .int (0), .null, .null, .null, .null]))) := AP.obj hA hy
  have hW : PW E (fr g s.heap.size) s.heap H1 locs1 (gu g_548 y (.inr (3, [.int (0), .ref (q0), .ref (q1), .ref (q2), .ref (q3), .ref (q4), .ref (q5), .ref (q6), .ref (q7), .ref (q8), .null, .null, .null, .null, .null, .null, .null, .null, .int (0), .int (0), .int (0), .int (0), .int (0), .int (0), .int (0), .null, .null, .null, .null]))) := hW
  obtain ⟨g_550, ge_551⟩ : ∃ zz, zz = gu g_548 y (.inr (3, [.int (0), .ref (q0), .ref (q1), .ref (q2), .ref (q3), .ref (q4), .ref (q5), .ref (q6), .ref (q7), .ref (q8), .null, .null, .null, .null, .null, .null, .null, .null, .int (0), .int (0), .int (0), .int (0), .int (0), .int (0), .int (0), .null, .null, .null, .null])) := ⟨_, rfl⟩
  have hy : g_550 y = some (.inr (3, [.int (0), .ref (q0), .ref (q1), .ref (q2), .ref (q3), .ref (q4), .ref (q5), .ref (q6), .ref (q7), .ref (q8), .null, .null, .null, .null, .null, .null, .null, .null, .int (0), .int (0), .int (0), .int (0), .int (0), .int (0), .int (0), .null, .null, .null, .null])) := (congrFun ge_551 _).trans (gu_s _ _ _)
  rw [← ge_551] at hW hA
  refine lv_aload_n hx hb dX3_init_77 rfl (lv_at hl 0 rfl) ?_
  refine lv_bipush (v := 8) hx hb dX3_init_78 (by decide) ?_
  refine g_newI (N' := 8) hx hb (hts _ ac_int) hK hW (by decide) rfl (by decide) (Nat.le_of_ble_eq_true rfl) (Nat.le_of_ble_eq_true rfl) dX3_init_80 (fun q9 H1 e9 hW => ?_)
  have hA : AP E 10 (va_up (va_up (va_up (va_up (va_up (va_up (va_up (va_up (va_up (va_up (fun _ => 0) 0 q0) 1 q1) 2 q2) 3 q3) 4 q4) 5 q5) 6 q6) 7 q7) 8 q8) 9 q9) (gu g_550 q9 (.inl (E.2 0, 8, .inl (fun _ => 0)))) := AP.push hA e9
  have hy : gu g_550 q9 (.inl (E.2 0, 8, .inl (fun _ => 0))) y = some (.inr (3, [.int (0), .ref (q0), .ref (q1), .ref (q2), .ref (q3), .ref (q4), .ref (q5), .ref (q6), .ref (q7), .ref (q8), .null, .null, .null, .null, .null, .null, .null, .null, .int (0), .int (0), .int (0), .int (0), .int (0), .int (0), .int (0), .null, .null, .null, .null])) := (gu_n _ _ (ne_none e9 hy)).trans hy
  obtain ⟨g_552, ge_553⟩ : ∃ zz, zz = gu g_550 q9 (.inl (E.2 0, 8, .inl (fun _ => 0))) := ⟨_, rfl⟩
  rw [← ge_553] at hW hA hy
  refine g_putF hx hb hts inlX3 rfl tyX3 tyX3_ok nmX3 hown hK hW hy 10 (by decide) fl_RX3_38 rfl hnm rfl rfl rfl (show 10 < 29 by decide) dX3_init_82 (fun H1 locs1 hW => ?_)
  have hA : AP E 10 (va_up (va_up (va_up (va_up (va_up (va_up (va_up (va_up (va_up (va_up (fun _ => 0) 0 q0) 1 q1) 2 q2) 3 q3) 4 q4) 5 q5) 6 q6) 7 q7) 8 q8) 9 q9) (gu g_552 y (.inr (3, [.int (0), .ref (q0), .ref (q1), .ref (q2), .ref (q3), .ref (q4), .ref (q5), .ref (q6), .ref (q7), .ref (q8), .ref (q9), .null, .null, .null, .null, .null, .null, .null, .int (0), .int (0), .int (0), .int (0), .int (0), .int (0), .int (0), .null, .null, .null, .null]))) := AP.obj hA hy
  have hW : PW E (fr g s.heap.size) s.heap H1 locs1 (gu g_552 y (.inr (3, [.int (0), .ref (q0), .ref (q1), .ref (q2), .ref (q3), .ref (q4), .ref (q5), .ref (q6), .ref (q7), .ref (q8), .ref (q9), .null, .null, .null, .null, .null, .null, .null, .int (0), .int (0), .int (0), .int (0), .int (0), .int (0), .int (0), .null, .null, .null, .null]))) := hW
  obtain ⟨g_554, ge_555⟩ : ∃ zz, zz = gu g_552 y (.inr (3, [.int (0), .ref (q0), .ref (q1), .ref (q2), .ref (q3), .ref (q4), .ref (q5), .ref (q6), .ref (q7), .ref (q8), .ref (q9), .null, .null, .null, .null, .null, .null, .null, .int (0), .int (0), .int (0), .int (0), .int (0), .int (0), .int (0), .null, .null, .null, .null])) := ⟨_, rfl⟩
  have hy : g_554 y = some (.inr (3, [.int (0), .ref (q0), .ref (q1), .ref (q2), .ref (q3), .ref (q4), .ref (q5), .ref (q6), .ref (q7), .ref (q8), .ref (q9), .null, .null, .null, .null, .null, .null, .null, .int (0), .int (0), .int (0), .int (0), .int (0), .int (0), .int (0), .null, .null, .null, .null])) := (congrFun ge_555 _).trans (gu_s _ _ _)
  rw [← ge_555] at hW hA
  refine lv_aload_n hx hb dX3_init_85 rfl (lv_at hl 0 rfl) ?_
  refine lv_bipush (v := 8) hx hb dX3_init_86 (by decide) ?_
  refine g_newI (N' := 8) hx hb (hts _ ac_int) hK hW (by decide) rfl (by decide) (Nat.le_of_ble_eq_true rfl) (Nat.le_of_ble_eq_true rfl) dX3_init_88 (fun q10 H1 e10 hW => ?_)
  have hA : AP E 11 (va_up (va_up (va_up (va_up (va_up (va_up (va_up (va_up (va_up (va_up (va_up (fun _ => 0) 0 q0) 1 q1) 2 q2) 3 q3) 4 q4) 5 q5) 6 q6) 7 q7) 8 q8) 9 q9) 10 q10) (gu g_554 q10 (.inl (E.2 0, 8, .inl (fun _ => 0)))) := AP.push hA e10
  have hy : gu g_554 q10 (.inl (E.2 0, 8, .inl (fun _ => 0))) y = some (.inr (3, [.int (0), .ref (q0), .ref (q1), .ref (q2), .ref (q3), .ref (q4), .ref (q5), .ref (q6), .ref (q7), .ref (q8), .ref (q9), .null, .null, .null, .null, .null, .null, .null, .int (0), .int (0), .int (0), .int (0), .int (0), .int (0), .int (0), .null, .null, .null, .null])) := (gu_n _ _ (ne_none e10 hy)).trans hy
  obtain ⟨g_556, ge_557⟩ : ∃ zz, zz = gu g_554 q10 (.inl (E.2 0, 8, .inl (fun _ => 0))) := ⟨_, rfl⟩
  rw [← ge_557] at hW hA hy
  refine g_putF hx hb hts inlX3 rfl tyX3 tyX3_ok nmX3 hown hK hW hy 11 (by decide) fl_RX3_41 rfl hnm rfl rfl rfl (show 11 < 29 by decide) dX3_init_90 (fun H1 locs1 hW => ?_)
  have hA : AP E 11 (va_up (va_up (va_up (va_up (va_up (va_up (va_up (va_up (va_up (va_up (va_up (fun _ => 0) 0 q0) 1 q1) 2 q2) 3 q3) 4 q4) 5 q5) 6 q6) 7 q7) 8 q8) 9 q9) 10 q10) (gu g_556 y (.inr (3, [.int (0), .ref (q0), .ref (q1), .ref (q2), .ref (q3), .ref (q4), .ref (q5), .ref (q6), .ref (q7), .ref (q8), .ref (q9), .ref (q10), .null, .null, .null, .null, .null, .null, .int (0), .int (0), .int (0), .int (0), .int (0), .int (0), .int (0), .null, .null, .null, .null]))) := AP.obj hA hy
  have hW : PW E (fr g s.heap.size) s.heap H1 locs1 (gu g_556 y (.inr (3, [.int (0), .ref (q0), .ref (q1), .ref (q2), .ref (q3), .ref (q4), .ref (q5), .ref (q6), .ref (q7), .ref (q8), .ref (q9), .ref (q10), .null, .null, .null, .null, .null, .null, .int (0), .int (0), .int (0), .int (0), .int (0), .int (0), .int (0), .null, .null, .null, .null]))) := hW
  obtain ⟨g_558, ge_559⟩ : ∃ zz, zz = gu g_556 y (.inr (3, [.int (0), .ref (q0), .ref (q1), .ref (q2), .ref (q3), .ref (q4), .ref (q5), .ref (q6), .ref (q7), .ref (q8), .ref (q9), .ref (q10), .null, .null, .null, .null, .null, .null, .int (0), .int (0), .int (0), .int (0), .int (0), .int (0), .int (0), .null, .null, .null, .null])) := ⟨_, rfl⟩
  have hy : g_558 y = some (.inr (3, [.int (0), .ref (q0), .ref (q1), .ref (q2), .ref (q3), .ref (q4), .ref (q5), .ref (q6), .ref (q7), .ref (q8), .ref (q9), .ref (q10), .null, .null, .null, .null, .null, .null, .int (0), .int (0), .int (0), .int (0), .int (0), .int (0), .int (0), .null, .null, .null, .null])) := (congrFun ge_559 _).trans (gu_s _ _ _)
  rw [← ge_559] at hW hA
  refine lv_aload_n hx hb dX3_init_93 rfl (lv_at hl 0 rfl) ?_
  refine lv_bipush (v := 8) hx hb dX3_init_94 (by decide) ?_
  refine g_newI (N' := 8) hx hb (hts _ ac_int) hK hW (by decide) rfl (by decide) (Nat.le_of_ble_eq_true rfl) (Nat.le_of_ble_eq_true rfl) dX3_init_96 (fun q11 H1 e11 hW => ?_)
  have hA : AP E 12 (va_up (va_up (va_up (va_up (va_up (va_up (va_up (va_up (va_up (va_up (va_up (va_up (fun _ => 0) 0 q0) 1 q1) 2 q2) 3 q3) 4 q4) 5 q5) 6 q6) 7 q7) 8 q8) 9 q9) 10 q10) 11 q11) (gu g_558 q11 (.inl (E.2 0, 8, .inl (fun _ => 0)))) := AP.push hA e11
  have hy : gu g_558 q11 (.inl (E.2 0, 8, .inl (fun _ => 0))) y = some (.inr (3, [.int (0), .ref (q0), .ref (q1), .ref (q2), .ref (q3), .ref (q4), .ref (q5), .ref (q6), .ref (q7), .ref (q8), .ref (q9), .ref (q10), .null, .null, .null, .null, .null, .null, .int (0), .int (0), .int (0), .int (0), .int (0), .int (0), .int (0), .null, .null, .null, .null])) := (gu_n _ _ (ne_none e11 hy)).trans hy
  obtain ⟨g_560, ge_561⟩ : ∃ zz, zz = gu g_558 q11 (.inl (E.2 0, 8, .inl (fun _ => 0))) := ⟨_, rfl⟩
  rw [← ge_561] at hW hA hy
  refine g_putF hx hb hts inlX3 rfl tyX3 tyX3_ok nmX3 hown hK hW hy 12 (by decide) fl_RX3_44 rfl hnm rfl rfl rfl (show 12 < 29 by decide) dX3_init_98 (fun H1 locs1 hW => ?_)
  have hA : AP E 12 (va_up (va_up (va_up (va_up (va_up (va_up (va_up (va_up (va_up (va_up (va_up (va_up (fun _ => 0) 0 q0) 1 q1) 2 q2) 3 q3) 4 q4) 5 q5) 6 q6) 7 q7) 8 q8) 9 q9) 10 q10) 11 q11) (gu g_560 y (.inr (3, [.int (0), .ref (q0), .ref (q1), .ref (q2), .ref (q3), .ref (q4), .ref (q5), .ref (q6), .ref (q7), .ref (q8), .ref (q9), .ref (q10), .ref (q11), .null, .null, .null, .null, .null, .int (0), .int (0), .int (0), .int (0), .int (0), .int (0), .int (0), .null, .null, .null, .null]))) := AP.obj hA hy
  have hW : PW E (fr g s.heap.size) s.heap H1 locs1 (gu g_560 y (.inr (3, [.int (0), .ref (q0), .ref (q1), .ref (q2), .ref (q3), .ref (q4), .ref (q5), .ref (q6), .ref (q7), .ref (q8), .ref (q9), .ref (q10), .ref (q11), .null, .null, .null, .null, .null, .int (0), .int (0), .int (0), .int (0), .int (0), .int (0), .int (0), .null, .null, .null, .null]))) := hW
  obtain ⟨g_562, ge_563⟩ : ∃ zz, zz = gu g_560 y (.inr (3, [.int (0), .ref (q0), .ref (q1), .ref (q2), .ref (q3), .ref (q4), .ref (q5), .ref (q6), .ref (q7), .ref (q8), .ref (q9), .ref (q10), .ref (q11), .null, .null, .null, .null, .null, .int (0), .int (0), .int (0), .int (0), .int (0), .int (0), .int (0), .null, .null, .null, .null])) := ⟨_, rfl⟩
  have hy : g_562 y = some (.inr (3, [.int (0), .ref (q0), .ref (q1), .ref (q2), .ref (q3), .ref (q4), .ref (q5), .ref (q6), .ref (q7), .ref (q8), .ref (q9), .ref (q10), .ref (q11), .null, .null, .null, .null, .null, .int (0), .int (0), .int (0), .int (0), .int (0), .int (0), .int (0), .null, .null, .null, .null])) := (congrFun ge_563 _).trans (gu_s _ _ _)
  rw [← ge_563] at hW hA
  refine lv_aload_n hx hb dX3_init_101 rfl (lv_at hl 0 rfl) ?_
  refine lv_bipush (v := 8) hx hb dX3_init_102 (by decide) ?_
  refine g_newI (N' := 8) hx hb (hts _ ac_int) hK hW (by decide) rfl (by decide) (Nat.le_of_ble_eq_true rfl) (Nat.le_of_ble_eq_true rfl) dX3_init_104 (fun q12 H1 e12 hW => ?_)
  have hA : AP E 13 (va_up (va_up (va_up (va_up (va_up (va_up (va_up (va_up (va_up (va_up (va_up (va_up (va_up (fun _ => 0) 0 q0) 1 q1) 2 q2) 3 q3) 4 q4) 5 q5) 6 q6) 7 q7) 8 q8) 9 q9) 10 q10) 11 q11) 12 q12) (gu g_562 q12 (.inl (E.2 0, 8, .inl (fun _ => 0)))) := AP.push hA e12
  have hy : gu g_562 q12 (.inl (E.2 0, 8, .inl (fun _ => 0))) y = some (.inr (3, [.int (0), .ref (q0), .ref (q1), .ref (q2), .ref (q3), .ref (q4), .ref (q5), .ref (q6), .ref (q7), .ref (q8), .ref (q9), .ref (q10), .ref (q11), .null, .null, .null, .null, .null, .int (0), .int (0), .int (0), .int (0), .int (0), .int (0), .int (0), .null, .null, .null, .null])) := (gu_n _ _ (ne_none e12 hy)).trans hy
  obtain ⟨g_564, ge_565⟩ : ∃ zz, zz = gu g_562 q12 (.inl (E.2 0, 8, .inl (fun _ => 0))) := ⟨_, rfl⟩
  rw [← ge_565] at hW hA hy
  refine g_putF hx hb hts inlX3 rfl tyX3 tyX3_ok nmX3 hown hK hW hy 13 (by decide) fl_RX3_47 rfl hnm rfl rfl rfl (show 13 < 29 by decide) dX3_init_106 (fun H1 locs1 hW => ?_)
  have hA : AP E 13 (va_up (va_up (va_up (va_up (va_up (va_up (va_up (va_up (va_up (va_up (va_up (va_up (va_up (fun _ => 0) 0 q0) 1 q1) 2 q2) 3 q3) 4 q4) 5 q5) 6 q6) 7 q7) 8 q8) 9 q9) 10 q10) 11 q11) 12 q12) (gu g_564 y (.inr (3, [.int (0), .ref (q0), .ref (q1), .ref (q2), .ref (q3), .ref (q4), .ref (q5), .ref (q6), .ref (q7), .ref (q8), .ref (q9), .ref (q10), .ref (q11), .ref (q12), .null, .null, .null, .null, .int (0), .int (0), .int (0), .int (0), .int (0), .int (0), .int (0), .null, .null, .null, .null]))) := AP.obj hA hy
  have hW : PW E (fr g s.heap.size) s.heap H1 locs1 (gu g_564 y (.inr (3, [.int (0), .ref (q0), .ref (q1), .ref (q2), .ref (q3), .ref (q4), .ref (q5), .ref (q6), .ref (q7), .ref (q8), .ref (q9), .ref (q10), .ref (q11), .ref (q12), .null, .null, .null, .null, .int (0), .int (0), .int (0), .int (0), .int (0), .int (0), .int (0), .null, .null, .null, .null]))) := hW
  obtain ⟨g_566, ge_567⟩ : ∃ zz, zz = gu g_564 y (.inr (3, [.int (0), .ref (q0), .ref (q1), .ref (q2), .ref (q3), .ref (q4), .ref (q5), .ref (q6), .ref (q7), .ref (q8), .ref (q9), .ref (q10), .ref (q11), .ref (q12), .null, .null, .null, .null, .int (0), .int (0), .int (0), .int (0), .int (0), .int (0), .int (0), .null, .null, .null, .null])) := ⟨_, rfl⟩
  have hy : g_566 y = some (.inr (3, [.int (0), .ref (q0), .ref (q1), .ref (q2), .ref (q3), .ref (q4), .ref (q5), .ref (q6), .ref (q7), .ref (q8), .ref (q9), .ref (q10), .ref (q11), .ref (q12), .null, .null, .null, .null, .int (0), .int (0), .int (0), .int (0), .int (0), .int (0), .int (0), .null, .null, .null, .null])) := (congrFun ge_567 _).trans (gu_s _ _ _)
  rw [← ge_567] at hW hA
  refine lv_aload_n hx hb dX3_init_109 rfl (lv_at hl 0 rfl) ?_
  refine lv_bipush (v := 8) hx hb dX3_init_110 (by decide) ?_
  refine g_newI (N' := 8) hx hb (hts _ ac_int) hK hW (by decide) rfl (by decide) (Nat.le_of_ble_eq_true rfl) (Nat.le_of_ble_eq_true rfl) dX3_init_112 (fun q13 H1 e13 hW => ?_)
  have hA : AP E 14 (va_up (va_up (va_up (va_up (va_up (va_up (va_up (va_up (va_up (va_up (va_up (va_up (va_up (va_up (fun _ => 0) 0 q0) 1 q1) 2 q2) 3 q3) 4 q4) 5 q5) 6 q6) 7 q7) 8 q8) 9 q9) 10 q10) 11 q11) 12 q12) 13 q13) (gu g_566 q13 (.inl (E.2 0, 8, .inl (fun _ => 0)))) := AP.push hA e13
  have hy : gu g_566 q13 (.inl (E.2 0, 8, .inl (fun _ => 0))) y = some (.inr (3, [.int (0), .ref (q0), .ref (q1), .ref (q2), .ref (q3), .ref (q4), .ref (q5), .ref (q6), .ref (q7), .ref (q8), .ref (q9), .ref (q10), .ref (q11), .ref (q12), .null, .null, .null, .null, .int (0), .int (0), .int (0), .int (0), .int (0), .int (0), .int (0), .null, .null, .null, .null])) := (gu_n _ _ (ne_none e13 hy)).trans hy
  obtain ⟨g_568, ge_569⟩ : ∃ zz, zz = gu g_566 q13 (.inl (E.2 0, 8, .inl (fun _ => 0))) := ⟨_, rfl⟩
  rw [← ge_569] at hW hA hy
  refine g_putF hx hb hts inlX3 rfl tyX3 tyX3_ok nmX3 hown hK hW hy 14 (by decide) fl_RX3_50 rfl hnm rfl rfl rfl (show 14 < 29 by decide) dX3_init_114 (fun H1 locs1 hW => ?_)
  have hA : AP E 14 (va_up (va_up (va_up (va_up (va_up (va_up (va_up (va_up (va_up (va_up (va_up (va_up (va_up (va_up (fun _ => 0) 0 q0) 1 q1) 2 q2) 3 q3) 4 q4) 5 q5) 6 q6) 7 q7) 8 q8) 9 q9) 10 q10) 11 q11) 12 q12) 13 q13) (gu g_568 y (.inr (3, [.int (0), .ref (q0), .ref (q1), .ref (q2), .ref (q3), .ref (q4), .ref (q5), .ref (q6), .ref (q7), .ref (q8), .ref (q9), .ref (q10), .ref (q11), .ref (q12), .ref (q13), .null, .null, .null, .int (0), .int (0), .int (0), .int (0), .int (0), .int (0), .int (0), .null, .null, .null, .null]))) := AP.obj hA hy
  have hW : PW E (fr g s.heap.size) s.heap H1 locs1 (gu g_568 y (.inr (3, [.int (0), .ref (q0), .ref (q1), .ref (q2), .ref (q3), .ref (q4), .ref (q5), .ref (q6), .ref (q7), .ref (q8), .ref (q9), .ref (q10), .ref (q11), .ref (q12), .ref (q13), .null, .null, .null, .int (0), .int (0), .int (0), .int (0), .int (0), .int (0), .int (0), .null, .null, .null, .null]))) := hW
  obtain ⟨g_570, ge_571⟩ : ∃ zz, zz = gu g_568 y (.inr (3, [.int (0), .ref (q0), .ref (q1), .ref (q2), .ref (q3), .ref (q4), .ref (q5), .ref (q6), .ref (q7), .ref (q8), .ref (q9), .ref (q10), .ref (q11), .ref (q12), .ref (q13), .null, .null, .null, .int (0), .int (0), .int (0), .int (0), .int (0), .int (0), .int (0), .null, .null, .null, .null])) := ⟨_, rfl⟩
  have hy : g_570 y = some (.inr (3, [.int (0), .ref (q0), .ref (q1), .ref (q2), .ref (q3), .ref (q4), .ref (q5), .ref (q6), .ref (q7), .ref (q8), .ref (q9), .ref (q10), .ref (q11), .ref (q12), .ref (q13), .null, .null, .null, .int (0), .int (0), .int (0), .int (0), .int (0), .int (0), .int (0), .null, .null, .null, .null])) := (congrFun ge_571 _).trans (gu_s _ _ _)
  rw [← ge_571] at hW hA
  refine lv_aload_n hx hb dX3_init_117 rfl (lv_at hl 0 rfl) ?_
  refine lv_bipush (v := 8) hx hb dX3_init_118 (by decide) ?_
  refine g_newI (N' := 8) hx hb (hts _ ac_int) hK hW (by decide) rfl (by decide) (Nat.le_of_ble_eq_true rfl) (Nat.le_of_ble_eq_true rfl) dX3_init_120 (fun q14 H1 e14 hW => ?_)
  have hA : AP E 15 (va_up (va_up (va_up (va_up (va_up (va_up (va_up (va_up (va_up (va_up (va_up (va_up (va_up (va_up (va_up (fun _ => 0) 0 q0) 1 q1) 2 q2) 3 q3) 4 q4) 5 q5) 6 q6) 7 q7) 8 q8) 9 q9) 10 q10) 11 q11) 12 q12) 13 q13) 14 q14) (gu g_570 q14 (.inl (E.2 0, 8, .inl (fun _ => 0)))) := AP.push hA e14
  have hy : gu g_570 q14 (.inl (E.2 0, 8, .inl (fun _ => 0))) y = some (.inr (3, [.int (0), .ref (q0), .ref (q1), .ref (q2), .ref (q3), .ref (q4), .ref (q5), .ref (q6), .ref (q7), .ref (q8), .ref (q9), .ref (q10), .ref (q11), .ref (q12), .ref (q13), .null, .null, .null, .int (0), .int (0), .int (0), .int (0), .int (0), .int (0), .int (0), .null, .null, .null, .null])) := (gu_n _ _ (ne_none e14 hy)).trans hy
  obtain ⟨g_572, ge_573⟩ : ∃ zz, zz = gu g_570 q14 (.inl (E.2 0, 8, .inl (fun _ => 0))) := ⟨_, rfl⟩
  rw [← ge_573] at hW hA hy
  refine g_putF hx hb hts inlX3 rfl tyX3 tyX3_ok nmX3 hown hK hW hy 15 (by decide) fl_RX3_53 rfl hnm rfl rfl rfl (show 15 < 29 by decide) dX3_init_122 (fun H1 locs1 hW => ?_)
  have hA : AP E 15 (va_up (va_up (va_up (va_up (va_up (va_up (va_up (va_up (va_up (va_up (va_up (va_up (va_up (va_up (va_up (fun _ => 0) 0 q0) 1 q1) 2 q2) 3 q3) 4 q4) 5 q5) 6 q6) 7 q7) 8 q8) 9 q9) 10 q10) 11 q11) 12 q12) 13 q13) 14 q14) (gu g_572 y (.inr (3, [.int (0), .ref (q0), .ref (q1), .ref (q2), .ref (q3), .ref (q4), .ref (q5), .ref (q6), .ref (q7), .ref (q8), .ref (q9), .ref (q10), .ref (q11), .ref (q12), .ref (q13), .ref (q14), .null, .null, .int (0), .int (0), .int (0), .int (0), .int (0), .int (0), .int (0), .null, .null, .null, .null]))) := AP.obj hA hy
  have hW : PW E (fr g s.heap.size) s.heap H1 locs1 (gu g_572 y (.inr (3, [.int (0), .ref (q0), .ref (q1), .ref (q2), .ref (q3), .ref (q4), .ref (q5), .ref (q6), .ref (q7), .ref (q8), .ref (q9), .ref (q10), .ref (q11), .ref (q12), .ref (q13), .ref (q14), .null, .null, .int (0), .int (0), .int (0), .int (0), .int (0), .int (0), .int (0), .null, .null, .null, .null]))) := hW
  obtain ⟨g_574, ge_575⟩ : ∃ zz, zz = gu g_572 y (.inr (3, [.int (0), .ref (q0), .ref (q1), .ref (q2), .ref (q3), .ref (q4), .ref (q5), .ref (q6), .ref (q7), .ref (q8), .ref (q9), .ref (q10), .ref (q11), .ref (q12), .ref (q13), .ref (q14), .null, .null, .int (0), .int (0), .int (0), .int (0), .int (0), .int (0), .int (0), .null, .null, .null, .null])) := ⟨_, rfl⟩
  have hy : g_574 y = some (.inr (3, [.int (0), .ref (q0), .ref (q1), .ref (q2), .ref (q3), .ref (q4), .ref (q5), .ref (q6), .ref (q7), .ref (q8), .ref (q9), .ref (q10), .ref (q11), .ref (q12), .ref (q13), .ref (q14), .null, .null, .int (0), .int (0), .int (0), .int (0), .int (0), .int (0), .int (0), .null, .null, .null, .null])) := (congrFun ge_575 _).trans (gu_s _ _ _)
  rw [← ge_575] at hW hA
  refine lv_aload_n hx hb dX3_init_125 rfl (lv_at hl 0 rfl) ?_
  refine lv_bipush (v := 8) hx hb dX3_init_126 (by decide) ?_
  refine g_newI (N' := 8) hx hb (hts _ ac_int) hK hW (by decide) rfl (by decide) (Nat.le_of_ble_eq_true rfl) (Nat.le_of_ble_eq_true rfl) dX3_init_128 (fun q15 H1 e15 hW => ?_)
  have hA : AP E 16 (va_up (va_up (va_up (va_up (va_up (va_up (va_up (va_up (va_up (va_up (va_up (va_up (va_up (va_up (va_up (va_up (fun _ => 0) 0 q0) 1 q1) 2 q2) 3 q3) 4 q4) 5 q5) 6 q6) 7 q7) 8 q8) 9 q9) 10 q10) 11 q11) 12 q12) 13 q13) 14 q14) 15 q15) (gu g_574 q15 (.inl (E.2 0, 8, .inl (fun _ => 0)))) := AP.push hA e15
  have hy : gu g_574 q15 (.inl (E.2 0, 8, .inl (fun _ => 0))) y = some (.inr (3, [.int (0), .ref (q0), .ref (q1), .ref (q2), .ref (q3), .ref (q4), .ref (q5), .ref (q6), .ref (q7), .ref (q8), .ref (q9), .ref (q10), .ref (q11), .ref (q12), .ref (q13), .ref (q14), .null, .null, .int (0), .int (0), .int (0), .int (0), .int (0), .int (0), .int (0), .null, .null, .null, .null])) := (gu_n _ _ (ne_none e15 hy)).trans hy
  obtain ⟨g_576, ge_577⟩ : ∃ zz, zz = gu g_574 q15 (.inl (E.2 0, 8, .inl (fun _ => 0))) := ⟨_, rfl⟩
  rw [← ge_577] at hW hA hy
  refine g_putF hx hb hts inlX3 rfl tyX3 tyX3_ok nmX3 hown hK hW hy 16 (by decide) fl_RX3_56 rfl hnm rfl rfl rfl (show 16 < 29 by decide) dX3_init_130 (fun H1 locs1 hW => ?_)
  have hA : AP E 16 (va_up (va_up (va_up (va_up (va_up (va_up (va_up (va_up (va_up (va_up (va_up (va_up (va_up (va_up (va_up (va_up (fun _ => 0) 0 q0) 1 q1) 2 q2) 3 q3) 4 q4) 5 q5) 6 q6) 7 q7) 8 q8) 9 q9) 10 q10) 11 q11) 12 q12) 13 q13) 14 q14) 15 q15) (gu g_576 y (.inr (3, [.int (0), .ref (q0), .ref (q1), .ref (q2), .ref (q3), .ref (q4), .ref (q5), .ref (q6), .ref (q7), .ref (q8), .ref (q9), .ref (q10), .ref (q11), .ref (q12), .ref (q13), .ref (q14), .ref (q15), .null, .int (0), .int (0), .int (0), .int (0), .int (0), .int (0), .int (0), .null, .null, .null, .null]))) := AP.obj hA hy
  have hW : PW E (fr g s.heap.size) s.heap H1 locs1 (gu g_576 y (.inr (3, [.int (0), .ref (q0), .ref (q1), .ref (q2), .ref (q3), .ref (q4), .ref (q5), .ref (q6), .ref (q7), .ref (q8), .ref (q9), .ref (q10), .ref (q11), .ref (q12), .ref (q13), .ref (q14), .ref (q15), .null, .int (0), .int (0), .int (0), .int (0), .int (0), .int (0), .int (0), .null, .null, .null, .null]))) := hW
  obtain ⟨g_578, ge_579⟩ : ∃ zz, zz = gu g_576 y (.inr (3, [.int (0), .ref (q0), .ref (q1), .ref (q2), .ref (q3), .ref (q4), .ref (q5), .ref (q6), .ref (q7), .ref (q8), .ref (q9), .ref (q10), .ref (q11), .ref (q12), .ref (q13), .ref (q14), .ref (q15), .null, .int (0), .int (0), .int (0), .int (0), .int (0), .int (0), .int (0), .null, .null, .null, .null])) := ⟨_, rfl⟩
  have hy : g_578 y = some (.inr (3, [.int (0), .ref (q0), .ref (q1), .ref (q2), .ref (q3), .ref (q4), .ref (q5), .ref (q6), .ref (q7), .ref (q8), .ref (q9), .ref (q10), .ref (q11), .ref (q12), .ref (q13), .ref (q14), .ref (q15), .null, .int (0), .int (0), .int (0), .int (0), .int (0), .int (0), .int (0), .null, .null, .null, .null])) := (congrFun ge_579 _).trans (gu_s _ _ _)
  rw [← ge_579] at hW hA
  refine lv_aload_n hx hb dX3_init_133 rfl (lv_at hl 0 rfl) ?_
  refine lv_bipush (v := 8) hx hb dX3_init_134 (by decide) ?_
  refine g_newI (N' := 8) hx hb (hts _ ac_int) hK hW (by decide) rfl (by decide) (Nat.le_of_ble_eq_true rfl) (Nat.le_of_ble_eq_true rfl) dX3_init_136 (fun q16 H1 e16 hW => ?_)
  have hA : AP E 17 (va_up (va_up (va_up (va_up (va_up (va_up (va_up (va_up (va_up (va_up (va_up (va_up (va_up (va_up (va_up (va_up (va_up (fun _ => 0) 0 q0) 1 q1) 2 q2) 3 q3) 4 q4) 5 q5) 6 q6) 7 q7) 8 q8) 9 q9) 10 q10) 11 q11) 12 q12) 13 q13) 14 q14) 15 q15) 16 q16) (gu g_578 q16 (.inl (E.2 0, 8, .inl (fun _ => 0)))) := AP.push hA e16
  have hy : gu g_578 q16 (.inl (E.2 0, 8, .inl (fun _ => 0))) y = some (.inr (3, [.int (0), .ref (q0), .ref (q1), .ref (q2), .ref (q3), .ref (q4), .ref (q5), .ref (q6), .ref (q7), .ref (q8), .ref (q9), .ref (q10), .ref (q11), .ref (q12), .ref (q13), .ref (q14), .ref (q15), .null, .int (0), .int (0), .int (0), .int (0), .int (0), .int (0), .int (0), .null, .null, .null, .null])) := (gu_n _ _ (ne_none e16 hy)).trans hy
  obtain ⟨g_580, ge_581⟩ : ∃ zz, zz = gu g_578 q16 (.inl (E.2 0, 8, .inl (fun _ => 0))) := ⟨_, rfl⟩
  rw [← ge_581] at hW hA hy
  refine g_putF hx hb hts inlX3 rfl tyX3 tyX3_ok nmX3 hown hK hW hy 17 (by decide) fl_RX3_59 rfl hnm rfl rfl rfl (show 17 < 29 by decide) dX3_init_138 (fun H1 locs1 hW => ?_)
  have hA : AP E 17 (va_up (va_up (va_up (va_up (va_up (va_up (va_up (va_up (va_up (va_up (va_up (va_up (va_up (va_up (va_up (va_up (va_up (fun _ => 0) 0 q0) 1 q1) 2 q2) 3 q3) 4 q4) 5 q5) 6 q6) 7 q7) 8 q8) 9 q9) 10 q10) 11 q11) 12 q12) 13 q13) 14 q14) 15 q15) 16 q16) (gu g_580 y (.inr (3, [.int (0), .ref (q0), .ref (q1), .ref (q2), .ref (q3), .ref (q4), .ref (q5), .ref (q6), .ref (q7), .ref (q8), .ref (q9), .ref (q10), .ref (q11), .ref (q12), .ref (q13), .ref (q14), .ref (q15), .ref (q16), .int (0), .int (0), .int (0), .int (0), .int (0), .int (0), .int (0), .null, .null, .null, .null]))) := AP.obj hA hy
  have hW : PW E (fr g s.heap.size) s.heap H1 locs1 (gu g_580 y (.inr (3, [.int (0), .ref (q0), .ref (q1), .ref (q2), .ref (q3), .ref (q4), .ref (q5), .ref (q6), .ref (q7), .ref (q8), .ref (q9), .ref (q10), .ref (q11), .ref (q12), .ref (q13), .ref (q14), .ref (q15), .ref (q16), .int (0), .int (0), .int (0), .int (0), .int (0), .int (0), .int (0), .null, .null, .null, .null]))) := hW
  obtain ⟨g_582, ge_583⟩ : ∃ zz, zz = gu g_580 y (.inr (3, [.int (0), .ref (q0), .ref (q1), .ref (q2), .ref (q3), .ref (q4), .ref (q5), .ref (q6), .ref (q7), .ref (q8), .ref (q9), .ref (q10), .ref (q11), .ref (q12), .ref (q13), .ref (q14), .ref (q15), .ref (q16), .int (0), .int (0), .int (0), .int (0), .int (0), .int (0), .int (0), .null, .null, .null, .null])) := ⟨_, rfl⟩
  have hy : g_582 y = some (.inr (3, [.int (0), .ref (q0), .ref (q1), .ref (q2), .ref (q3), .ref (q4), .ref (q5), .ref (q6), .ref (q7), .ref (q8), .ref (q9), .ref (q10), .ref (q11), .ref (q12), .ref (q13), .ref (q14), .ref (q15), .ref (q16), .int (0), .int (0), .int (0), .int (0), .int (0), .int (0), .int (0), .null, .null, .null, .null])) := (congrFun ge_583 _).trans (gu_s _ _ _)
  rw [← ge_583] at hW hA
  refine lv_aload_n hx hb dX3_init_141 rfl (lv_at hl 0 rfl) ?_
  refine lv_bipush (v := 40) hx hb dX3_init_142 (by decide) ?_
  refine g_newI (N' := 40) hx hb (hts _ ac_int) hK hW (by decide) rfl (by decide) (Nat.le_of_ble_eq_true rfl) (Nat.le_of_ble_eq_true rfl) dX3_init_144 (fun q17 H1 e17 hW => ?_)
  have hA : AP E 18 (va_up (va_up (va_up (va_up (va_up (va_up (va_up (va_up (va_up (va_up (va_up (va_up (va_up (va_up (va_up (va_up (va_up (va_up (fun _ => 0) 0 q0) 1 q1) 2 q2) 3 q3) 4 q4) 5 q5) 6 q6) 7 q7) 8 q8) 9 q9) 10 q10) 11 q11) 12 q12) 13 q13) 14 q14) 15 q15) 16 q16) 17 q17) (gu g_582 q17 (.inl (E.2 0, 40, .inl (fun _ => 0)))) := AP.push hA e17
  have hy : gu g_582 q17 (.inl (E.2 0, 40, .inl (fun _ => 0))) y = some (.inr (3, [.int (0), .ref (q0), .ref (q1), .ref (q2), .ref (q3), .ref (q4), .ref (q5), .ref (q6), .ref (q7), .ref (q8), .ref (q9), .ref (q10), .ref (q11), .ref (q12), .ref (q13), .ref (q14), .ref (q15), .ref (q16), .int (0), .int (0), .int (0), .int (0), .int (0), .int (0), .int (0), .null, .null, .null, .null])) := (gu_n _ _ (ne_none e17 hy)).trans hy
  obtain ⟨g_584, ge_585⟩ : ∃ zz, zz = gu g_582 q17 (.inl (E.2 0, 40, .inl (fun _ => 0))) := ⟨_, rfl⟩
  rw [← ge_585] at hW hA hy
  refine g_putF hx hb hts inlX3 rfl tyX3 tyX3_ok nmX3 hown hK hW hy 25 (by decide) fl_RX3_62 rfl hnm rfl rfl rfl (show 25 < 29 by decide) dX3_init_146 (fun H1 locs1 hW => ?_)
  have hA : AP E 18 (va_up (va_up (va_up (va_up (va_up (va_up (va_up (va_up (va_up (va_up (va_up (va_up (va_up (va_up (va_up (va_up (va_up (va_up (fun _ => 0) 0 q0) 1 q1) 2 q2) 3 q3) 4 q4) 5 q5) 6 q6) 7 q7) 8 q8) 9 q9) 10 q10) 11 q11) 12 q12) 13 q13) 14 q14) 15 q15) 16 q16) 17 q17) (gu g_584 y (.inr (3, [.int (0), .ref (q0), .ref (q1), .ref (q2), .ref (q3), .ref (q4), .ref (q5), .ref (q6), .ref (q7), .ref (q8), .ref (q9), .ref (q10), .ref (q11), .ref (q12), .ref (q13), .ref (q14), .ref (q15), .ref (q16), .int (0), .int (0), .int (0), .int (0), .int (0), .int (0), .int (0), .ref (q17), .null, .null, .null]))) := AP.obj hA hy
  have hW : PW E (fr g s.heap.size) s.heap H1 locs1 (gu g_584 y (.inr (3, [.int (0), .ref (q0), .ref (q1), .ref (q2), .ref (q3), .ref (q4), .ref (q5), .ref (q6), .ref (q7), .ref (q8), .ref (q9), .ref (q10), .ref (q11), .ref (q12), .ref (q13), .ref (q14), .ref (q15), .ref (q16), .int (0), .int (0), .int (0), .int (0), .int (0), .int (0), .int (0), .ref (q17), .null, .null, .null]))) := hW
  obtain ⟨g_586, ge_587⟩ : ∃ zz, zz = gu g_584 y (.inr (3, [.int (0), .ref (q0), .ref (q1), .ref (q2), .ref (q3), .ref (q4), .ref (q5), .ref (q6), .ref (q7), .ref (q8), .ref (q9), .ref (q10), .ref (q11), .ref (q12), .ref (q13), .ref (q14), .ref (q15), .ref (q16), .int (0), .int (0), .int (0), .int (0), .int (0), .int (0), .int (0), .ref (q17), .null, .null, .null])) := ⟨_, rfl⟩
  have hy : g_586 y = some (.inr (3, [.int (0), .ref (q0), .ref (q1), .ref (q2), .ref (q3), .ref (q4), .ref (q5), .ref (q6), .ref (q7), .ref (q8), .ref (q9), .ref (q10), .ref (q11), .ref (q12), .ref (q13), .ref (q14), .ref (q15), .ref (q16), .int (0), .int (0), .int (0), .int (0), .int (0), .int (0), .int (0), .ref (q17), .null, .null, .null])) := (congrFun ge_587 _).trans (gu_s _ _ _)
  rw [← ge_587] at hW hA
  refine lv_aload_n hx hb dX3_init_149 rfl (lv_at hl 0 rfl) ?_
  refine lv_bipush (v := 40) hx hb dX3_init_150 (by decide) ?_
  refine g_newI (N' := 40) hx hb (hts _ ac_int) hK hW (by decide) rfl (by decide) (Nat.le_of_ble_eq_true rfl) (Nat.le_of_ble_eq_true rfl) dX3_init_152 (fun q18 H1 e18 hW => ?_)
  have hA : AP E 19 (va_up (va_up (va_up (va_up (va_up (va_up (va_up (va_up (va_up (va_up (va_up (va_up (va_up (va_up (va_up (va_up (va_up (va_up (va_up (fun _ => 0) 0 q0) 1 q1) 2 q2) 3 q3) 4 q4) 5 q5) 6 q6) 7 q7) 8 q8) 9 q9) 10 q10) 11 q11) 12 q12) 13 q13) 14 q14) 15 q15) 16 q16) 17 q17) 18 q18) (gu g_586 q18 (.inl (E.2 0, 40, .inl (fun _ => 0)))) := AP.push hA e18
  have hy : gu g_586 q18 (.inl (E.2 0, 40, .inl (fun _ => 0))) y = some (.inr (3, [.int (0), .ref (q0), .ref (q1), .ref (q2), .ref (q3), .ref (q4), .ref (q5), .ref (q6), .ref (q7), .ref (q8), .ref (q9), .ref (q10), .ref (q11), .ref (q12), .ref (q13), .ref (q14), .ref (q15), .ref (q16), .int (0), .int (0), .int (0), .int (0), .int (0), .int (0), .int (0), .ref (q17), .null, .null, .null])) := (gu_n _ _ (ne_none e18 hy)).trans hy
  obtain ⟨g_588, ge_589⟩ : ∃ zz, zz = gu g_586 q18 (.inl (E.2 0, 40, .inl (fun _ => 0))) := ⟨_, rfl⟩
  rw [← ge_589] at hW hA hy
  refine g_putF hx hb hts inlX3 rfl tyX3 tyX3_ok nmX3 hown hK hW hy 26 (by decide) fl_RX3_65 rfl hnm rfl rfl rfl (show 26 < 29 by decide) dX3_init_154 (fun H1 locs1 hW => ?_)
  have hA : AP E 19 (va_up (va_up (va_up (va_up (va_up (va_up (va_up (va_up (va_up (va_up (va_up (va_up (va_up (va_up (va_up (va_up (va_up (va_up (va_up (fun _ => 0) 0 q0) 1 q1) 2 q2) 3 q3) 4 q4) 5 q5) 6 q6) 7 q7) 8 q8) 9 q9) 10 q10) 11 q11) 12 q12) 13 q13) 14 q14) 15 q15) 16 q16) 17 q17) 18 q18) (gu g_588 y (.inr (3, [.int (0), .ref (q0), .ref (q1), .ref (q2), .ref (q3), .ref (q4), .ref (q5), .ref (q6), .ref (q7), .ref (q8), .ref (q9), .ref (q10), .ref (q11), .ref (q12), .ref (q13), .ref (q14), .ref (q15), .ref (q16), .int (0), .int (0), .int (0), .int (0), .int (0), .int (0), .int (0), .ref (q17), .ref (q18), .null, .null]))) := AP.obj hA hy
  have hW : PW E (fr g s.heap.size) s.heap H1 locs1 (gu g_588 y (.inr (3, [.int (0), .ref (q0), .ref (q1), .ref (q2), .ref (q3), .ref (q4), .ref (q5), .ref (q6), .ref (q7), .ref (q8), .ref (q9), .ref (q10), .ref (q11), .ref (q12), .ref (q13), .ref (q14), .ref (q15), .ref (q16), .int (0), .int (0), .int (0), .int (0), .int (0), .int (0), .int (0), .ref (q17), .ref (q18), .null, .null]))) := hW
  obtain ⟨g_590, ge_591⟩ : ∃ zz, zz = gu g_588 y (.inr (3, [.int (0), .ref (q0), .ref (q1), .ref (q2), .ref (q3), .ref (q4), .ref (q5), .ref (q6), .ref (q7), .ref (q8), .ref (q9), .ref (q10), .ref (q11), .ref (q12), .ref (q13), .ref (q14), .ref (q15), .ref (q16), .int (0), .int (0), .int (0), .int (0), .int (0), .int (0), .int (0), .ref (q17), .ref (q18), .null, .null])) := ⟨_, rfl⟩
  have hy : g_590 y = some (.inr (3, [.int (0), .ref (q0), .ref (q1), .ref (q2), .ref (q3), .ref (q4), .ref (q5), .ref (q6), .ref (q7), .ref (q8), .ref (q9), .ref (q10), .ref (q11), .ref (q12), .ref (q13), .ref (q14), .ref (q15), .ref (q16), .int (0), .int (0), .int (0), .int (0), .int (0), .int (0), .int (0), .ref (q17), .ref (q18), .null, .null])) := (congrFun ge_591 _).trans (gu_s _ _ _)
  rw [← ge_591] at hW hA
  refine lv_aload_n hx hb dX3_init_157 rfl (lv_at hl 0 rfl) ?_
  refine lv_bipush (v := 40) hx hb dX3_init_158 (by decide) ?_
  refine g_newI (N' := 40) hx hb (hts _ ac_int) hK hW (by decide) rfl (by decide) (Nat.le_of_ble_eq_true rfl) (Nat.le_of_ble_eq_true rfl) dX3_init_160 (fun q19 H1 e19 hW => ?_)
  have hA : AP E 20 (va_up (va_up (va_up (va_up (va_up (va_up (va_up (va_up (va_up (va_up (va_up (va_up (va_up (va_up (va_up (va_up (va_up (va_up (va_up (va_up (fun _ => 0) 0 q0) 1 q1) 2 q2) 3 q3) 4 q4) 5 q5) 6 q6) 7 q7) 8 q8) 9 q9) 10 q10) 11 q11) 12 q12) 13 q13) 14 q14) 15 q15) 16 q16) 17 q17) 18 q18) 19 q19) (gu g_590 q19 (.inl (E.2 0, 40, .inl (fun _ => 0)))) := AP.push hA e19
  have hy : gu g_590 q19 (.inl (E.2 0, 40, .inl (fun _ => 0))) y = some (.inr (3, [.int (0), .ref (q0), .ref (q1), .ref (q2), .ref (q3), .ref (q4), .ref (q5), .ref (q6), .ref (q7), .ref (q8), .ref (q9), .ref (q10), .ref (q11), .ref (q12), .ref (q13), .ref (q14), .ref (q15), .ref (q16), .int (0), .int (0), .int (0), .int (0), .int (0), .int (0), .int (0), .ref (q17), .ref (q18), .null, .null])) := (gu_n _ _ (ne_none e19 hy)).trans hy
  obtain ⟨g_592, ge_593⟩ : ∃ zz, zz = gu g_590 q19 (.inl (E.2 0, 40, .inl (fun _ => 0))) := ⟨_, rfl⟩
  rw [← ge_593] at hW hA hy
  refine g_putF hx hb hts inlX3 rfl tyX3 tyX3_ok nmX3 hown hK hW hy 27 (by decide) fl_RX3_68 rfl hnm rfl rfl rfl (show 27 < 29 by decide) dX3_init_162 (fun H1 locs1 hW => ?_)
  have hA : AP E 20 (va_up (va_up (va_up (va_up (va_up (va_up (va_up (va_up (va_up (va_up (va_up (va_up (va_up (va_up (va_up (va_up (va_up (va_up (va_up (va_up (fun _ => 0) 0 q0) 1 q1) 2 q2) 3 q3) 4 q4) 5 q5) 6 q6) 7 q7) 8 q8) 9 q9) 10 q10) 11 q11) 12 q12) 13 q13) 14 q14) 15 q15) 16 q16) 17 q17) 18 q18) 19 q19) (gu g_592 y (.inr (3, [.int (0), .ref (q0), .ref (q1), .ref (q2), .ref (q3), .ref (q4), .ref (q5), .ref (q6), .ref (q7), .ref (q8), .ref (q9), .ref (q10), .ref (q11), .ref (q12), .ref (q13), .ref (q14), .ref (q15), .ref (q16), .int (0), .int (0), .int (0), .int (0), .int (0), .int (0), .int (0), .ref (q17), .ref (q18), .ref (q19), .null]))) := AP.obj hA hy
  have hW : PW E (fr g s.heap.size) s.heap H1 locs1 (gu g_592 y (.inr (3, [.int (0), .ref (q0), .ref (q1), .ref (q2), .ref (q3), .ref (q4), .ref (q5), .ref (q6), .ref (q7), .ref (q8), .ref (q9), .ref (q10), .ref (q11), .ref (q12), .ref (q13), .ref (q14), .ref (q15), .ref (q16), .int (0), .int (0), .int (0), .int (0), .int (0), .int (0), .int (0), .ref (q17), .ref (q18), .ref (q19), .null]))) := hW
  obtain ⟨g_594, ge_595⟩ : ∃ zz, zz = gu g_592 y (.inr (3, [.int (0), .ref (q0), .ref (q1), .ref (q2), .ref (q3), .ref (q4), .ref (q5), .ref (q6), .ref (q7), .ref (q8), .ref (q9), .ref (q10), .ref (q11), .ref (q12), .ref (q13), .ref (q14), .ref (q15), .ref (q16), .int (0), .int (0), .int (0), .int (0), .int (0), .int (0), .int (0), .ref (q17), .ref (q18), .ref (q19), .null])) := ⟨_, rfl⟩
  have hy : g_594 y = some (.inr (3, [.int (0), .ref (q0), .ref (q1), .ref (q2), .ref (q3), .ref (q4), .ref (q5), .ref (q6), .ref (q7), .ref (q8), .ref (q9), .ref (q10), .ref (q11), .ref (q12), .ref (q13), .ref (q14), .ref (q15), .ref (q16), .int (0), .int (0), .int (0), .int (0), .int (0), .int (0), .int (0), .ref (q17), .ref (q18), .ref (q19), .null])) := (congrFun ge_595 _).trans (gu_s _ _ _)
  rw [← ge_595] at hW hA
  refine lv_aload_n hx hb dX3_init_165 rfl (lv_at hl 0 rfl) ?_
  refine lv_bipush (v := 40) hx hb dX3_init_166 (by decide) ?_
  refine g_newI (N' := 40) hx hb (hts _ ac_int) hK hW (by decide) rfl (by decide) (Nat.le_of_ble_eq_true rfl) (Nat.le_of_ble_eq_true rfl) dX3_init_168 (fun q20 H1 e20 hW => ?_)
  have hA : AP E 21 (va_up (va_up (va_up (va_up (va_up (va_up (va_up (va_up (va_up (va_up (va_up (va_up (va_up (va_up (va_up (va_up (va_up (va_up (va_up (va_up (va_up (fun _ => 0) 0 q0) 1 q1) 2 q2) 3 q3) 4 q4) 5 q5) 6 q6) 7 q7) 8 q8) 9 q9) 10 q10) 11 q11) 12 q12) 13 q13) 14 q14) 15 q15) 16 q16) 17 q17) 18 q18) 19 q19) 20 q20) (gu g_594 q20 (.inl (E.2 0, 40, .inl (fun _ => 0)))) := AP.push hA e20
  have hy : gu g_594 q20 (.inl (E.2 0, 40, .inl (fun _ => 0))) y = some (.inr (3, [.int (0), .ref (q0), .ref (q1), .ref (q2), .ref (q3), .ref (q4), .ref (q5), .ref (q6), .ref (q7), .ref (q8), .ref (q9), .ref (q10), .ref (q11), .ref (q12), .ref (q13), .ref (q14), .ref (q15), .ref (q16), .int (0), .int (0), .int (0), .int (0), .int (0), .int (0), .int (0), .ref (q17), .ref (q18), .ref (q19), .null])) := (gu_n _ _ (ne_none e20 hy)).trans hy
  obtain ⟨g_596, ge_597⟩ : ∃ zz, zz = gu g_594 q20 (.inl (E.2 0, 40, .inl (fun _ => 0))) := ⟨_, rfl⟩
  rw [← ge_597] at hW hA hy
  refine g_putF hx hb hts inlX3 rfl tyX3 tyX3_ok nmX3 hown hK hW hy 28 (by decide) fl_RX3_71 rfl hnm rfl rfl rfl (show 28 < 29 by decide) dX3_init_170 (fun H1 locs1 hW => ?_)
  have hA : AP E 21 (va_up (va_up (va_up (va_up (va_up (va_up (va_up (va_up (va_up (va_up (va_up (va_up (va_up (va_up (va_up (va_up (va_up (va_up (va_up (va_up (va_up (fun _ => 0) 0 q0) 1 q1) 2 q2) 3 q3) 4 q4) 5 q5) 6 q6) 7 q7) 8 q8) 9 q9) 10 q10) 11 q11) 12 q12) 13 q13) 14 q14) 15 q15) 16 q16) 17 q17) 18 q18) 19 q19) 20 q20) (gu g_596 y (.inr (3, [.int (0), .ref (q0), .ref (q1), .ref (q2), .ref (q3), .ref (q4), .ref (q5), .ref (q6), .ref (q7), .ref (q8), .ref (q9), .ref (q10), .ref (q11), .ref (q12), .ref (q13), .ref (q14), .ref (q15), .ref (q16), .int (0), .int (0), .int (0), .int (0), .int (0), .int (0), .int (0), .ref (q17), .ref (q18), .ref (q19), .ref (q20)]))) := AP.obj hA hy
  have hW : PW E (fr g s.heap.size) s.heap H1 locs1 (gu g_596 y (.inr (3, [.int (0), .ref (q0), .ref (q1), .ref (q2), .ref (q3), .ref (q4), .ref (q5), .ref (q6), .ref (q7), .ref (q8), .ref (q9), .ref (q10), .ref (q11), .ref (q12), .ref (q13), .ref (q14), .ref (q15), .ref (q16), .int (0), .int (0), .int (0), .int (0), .int (0), .int (0), .int (0), .ref (q17), .ref (q18), .ref (q19), .ref (q20)]))) := hW
  obtain ⟨g_598, ge_599⟩ : ∃ zz, zz = gu g_596 y (.inr (3, [.int (0), .ref (q0), .ref (q1), .ref (q2), .ref (q3), .ref (q4), .ref (q5), .ref (q6), .ref (q7), .ref (q8), .ref (q9), .ref (q10), .ref (q11), .ref (q12), .ref (q13), .ref (q14), .ref (q15), .ref (q16), .int (0), .int (0), .int (0), .int (0), .int (0), .int (0), .int (0), .ref (q17), .ref (q18), .ref (q19), .ref (q20)])) := ⟨_, rfl⟩
  have hy : g_598 y = some (.inr (3, [.int (0), .ref (q0), .ref (q1), .ref (q2), .ref (q3), .ref (q4), .ref (q5), .ref (q6), .ref (q7), .ref (q8), .ref (q9), .ref (q10), .ref (q11), .ref (q12), .ref (q13), .ref (q14), .ref (q15), .ref (q16), .int (0), .int (0), .int (0), .int (0), .int (0), .int (0), .int (0), .ref (q17), .ref (q18), .ref (q19), .ref (q20)])) := (congrFun ge_599 _).trans (gu_s _ _ _)
  rw [← ge_599] at hW hA
  exact r_void hx hb hr hlk hW (by exact ⟨rfl, _, fun _ _ => 0, hy.trans (by simp [mfs, va_up]), fun f hf => (hA.1 f hf).trans (by rw [mrow0]), hA.2⟩) (Nat.le_of_ble_eq_true rfl) (Nat.le_of_ble_eq_true rfl) dX3_init_173
