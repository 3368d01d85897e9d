theorem pos_nI {n : Nat} (h : n < 2 ^ 31) (h0 : 0 < n) : 0 < nI n := (nI_ltI (a := 0) (by decide) h).mpr h0
theorem nI_pred2 (n : Nat) : nI (n + 2) - 1 = nI (n + 1) := nI_pred (n + 1)

set_option maxHeartbeats 4000000 in
set_option maxRecDepth 100000 in
theorem k_X3_send (l : Launch) {E : gE} {y : Nat} {ad : Nat → Nat} {r t : sg} {g : gm} (hM : MR E y ad r t g) (hIV : IV r) (a b : Int32) : CM l yX3_send cX3_send 4 (some .int) ({ frames := 6, cells := 0, slots := 0, locals := 135 }) E [.ref (y), .int (a), .int (b)] g (fun vv g' => vv = some (.int (Fsend r a b).1) ∧ ∃ t', MR E y ad (Fsend r a b).2 t' g') := by
  refine CM.of (by decide) (Nat.le_of_ble_eq_true rfl) ?_
  intro p e s m below meth c ls hMX hK hW hl
  obtain ⟨hx, hb, hr, hml, hown, hts, hlk, hnm⟩ := hMX
  have hown : s.vm.findClass RX3 = some m.cls := hown
  have hl : lv_has ls 4 [(0, .ref (y)), (1, .int (a)), (2, .int (b))] := hl
  obtain ⟨Q, hQd⟩ : ∃ Q : Int32 → sg → sg → Prop, Q = fun o r2 t2 => ∀ (g1 : gm) (H : Heap) (locs : List Loc) (ls : Array Slot), PW E (fr g s.heap.size) s.heap H locs g1 → MR E y ad r2 t2 g1 → lv_has ls 4 [(3, .int (o)), (0, .ref (y)), (1, .int (a)), (2, .int (b))] → W p l e ({ frames := 6, cells := 0, slots := 0, locals := 135 }) s m ([.ref (y), .int (a), .int (b)] : List Value).toArray below meth c H locs 0 0 (MQ below (QC E g s.heap.size (fun vv g' => vv = some (.int (Fsend r a b).1) ∧ ∃ t', MR E y ad (Fsend r a b).2 t' g')) ([.ref (y), .int (a), .int (b)] : List Value).toArray s (Room.cells ({ frames := 6, cells := 0, slots := 0, locals := 135 })) (Room.slots ({ frames := 6, cells := 0, slots := 0, locals := 135 })) (fr g s.heap.size)) (F0 m 70 ls []) := ⟨_, rfl⟩
  have hS : QS Q := by
    intro r2 t2 lv i k c0 hIV2 hF hmm hq
    obtain ⟨htop, h0, h1, hi, hk, hlk2⟩ := hF
    rw [hQd] at hq ⊢
    intro g1 H locs ls hW hM hl
    refine lv_aload_n hx hb dX3_send_70 rfl (lv_at hl 1 rfl) ?_
    refine m_get hx hb hts hown hK hW hM 24 (by decide) fl_RX3_117 (v := .int (t2 4 0)) rfl dX3_send_71 ?_
    refine lv_if_le (tgt := 117) hx hb dX3_send_74 (by decide) (fun c_503 => ?_) (fun c_503 => ?_)
    · skip
      have c_503 := Int32.not_lt.mpr c_503
      exact absurd (by rw [htop]; exact pos_nI (by omega) (by omega)) c_503
    · skip
      have c_503 := Int32.not_le.mp c_503
      refine lv_iload_n hx hb dX3_send_77 rfl (lv_at hl 0 rfl) ?_
      refine lv_bipush (v := -100) hx hb dX3_send_78 (by decide) ?_
      refine lv_icmp_ne (tgt := 91) hx hb dX3_send_80 (by decide) (fun c_504 => ?_) (fun c_504 => ?_)
      · skip
        exact absurd rfl c_504
      · skip
        refine lv_aload_n hx hb dX3_send_83 rfl (lv_at hl 1 rfl) ?_
        refine c_virt (own := RX3) (As := []) (rest := []) hx hb hml hown hts hK hW (k_X3_step l hM hIV2 (lv := lv) (i := i) (k := k) (c0 := c0) htop (by omega) h0 hi h1 hk hmm) ml_RX3_161 im_yX3_step se_yX3_step in_RX3 cd_yX3_step 0 (by decide +kernel) ⟨Nat.le_of_ble_eq_true rfl, Nat.le_of_ble_eq_true rfl⟩ hM.1 rfl rfl rfl hl.1 rfl (Nat.le_of_ble_eq_true rfl) dX3_send_84 ⟨Nat.le_of_ble_eq_true rfl, Nat.le_of_ble_eq_true rfl⟩ (fun v g2 H1 locs1 hp hW hKT => ?_)
        obtain ⟨rfl, hM⟩ := hp
        refine W.eq (g2 := F0 m 87 ls [.int ((stepF r2 t2 lv i (meetN r2 i (8 - k)) c0).1)]) rfl ?_
        refine lv_istore_n (lv' := [(3, .int ((stepF r2 t2 lv i (meetN r2 i (8 - k)) c0).1)), (0, .ref (y)), (1, .int (a)), (2, .int (b))]) hx hb dX3_send_87 rfl hl (by decide) rfl (fun ls hl => ?_)
        refine lv_goto (tgt := 70) hx hb dX3_send_88 (by decide) ?_
        exact hq _ _ _ _ hW hM (lv_sub hl [0, 1, 2, 3] rfl)
  have hB : QB Q := by
    intro r2 t2 lv i c0 n j o hIV2 htop hlv h0 hi hc0 hc8 hsp ho hq
    rw [hQd] at hq ⊢
    intro g1 H locs ls hW hM hl
    refine lv_aload_n hx hb dX3_send_70 rfl (lv_at hl 1 rfl) ?_
    refine m_get hx hb hts hown hK hW hM 24 (by decide) fl_RX3_117 (v := .int (t2 4 0)) rfl dX3_send_71 ?_
    refine lv_if_le (tgt := 117) hx hb dX3_send_74 (by decide) (fun c_505 => ?_) (fun c_505 => ?_)
    · skip
      have c_505 := Int32.not_lt.mpr c_505
      exact absurd (by rw [htop]; exact pos_nI (by omega) (by omega)) c_505
    · skip
      have c_505 := Int32.not_le.mp c_505
      refine lv_iload_n hx hb dX3_send_77 rfl (lv_at hl 0 rfl) ?_
      refine lv_bipush (v := -100) hx hb dX3_send_78 (by decide) ?_
      refine lv_icmp_ne (tgt := 91) hx hb dX3_send_80 (by decide) (fun c_506 => ?_) (fun c_506 => ?_)
      · skip
        refine lv_aload_n hx hb dX3_send_91 rfl (lv_at hl 1 rfl) ?_
        refine lv_dup hx hb dX3_send_92 rfl ?_
        refine m_get hx hb hts hown hK hW hM 24 (by decide) fl_RX3_117 (v := .int (t2 4 0)) rfl dX3_send_93 ?_
        refine lv_iconst (v := 1) hx hb dX3_send_96 (by decide) ?_
        refine lv_isub hx hb dX3_send_97 ?_
        refine m_put (r' := r2) (t' := s2 t2 4 0 ((t2 4 0) - (1))) hx hb hts hown hK hW hM 24 (by decide) fl_RX3_117 rfl rfl (fun _ _ => rfl) (fun f hf => s2_f _ _ _ (by omega)) rfl dX3_send_98 (fun H1 locs1 g1 hW hM => ?_)
        rw [show t2 4 0 - 1 = nI (lv + 1) from by rw [htop, nI_pred2]] at hM
        refine lv_aload_n hx hb dX3_send_101 rfl (lv_at hl 1 rfl) ?_
        refine m_get hx hb hts hown hK hW hM 24 (by decide) fl_RX3_117 (v := .int (nI (lv + 1))) rfl dX3_send_102 ?_
        refine lv_if_le (tgt := 70) hx hb dX3_send_105 (by decide) (fun c_507 => ?_) (fun c_507 => ?_)
        · skip
          have c_507 := Int32.not_lt.mpr c_507
          exact absurd (pos_nI (by omega) (by omega)) c_507
        · skip
          have c_507 := Int32.not_le.mp c_507
          refine lv_aload_n hx hb dX3_send_108 rfl (lv_at hl 1 rfl) ?_
          refine lv_iload_n hx hb dX3_send_109 rfl (lv_at hl 0 rfl) ?_
          refine c_virt (own := RX3) (As := [.int (o)]) (rest := []) hx hb hml hown hts hK hW (k_X3_back l hM hIV2 (lv := lv) (i := i) (c0 := c0) (n := n) (j0 := j) (s2_s _ _ _ _) hlv h0 hi hc0 hc8 hsp o) ml_RX3_165 im_yX3_back se_yX3_back in_RX3 cd_yX3_back 1 (by decide +kernel) ⟨Nat.le_of_ble_eq_true rfl, Nat.le_of_ble_eq_true rfl⟩ hM.1 rfl rfl rfl hl.1 rfl (Nat.le_of_ble_eq_true rfl) dX3_send_110 ⟨Nat.le_of_ble_eq_true rfl, Nat.le_of_ble_eq_true rfl⟩ (fun v g2 H1 locs1 hp hW hKT => ?_)
          obtain ⟨rfl, hM⟩ := hp
          refine W.eq (g2 := F0 m 113 ls [.int ((backF r2 (s2 t2 4 0 (nI (lv + 1))) lv i c0 n j o).1)]) rfl ?_
          refine lv_istore_n (lv' := [(3, .int ((backF r2 (s2 t2 4 0 (nI (lv + 1))) lv i c0 n j o).1)), (0, .ref (y)), (1, .int (a)), (2, .int (b))]) hx hb dX3_send_113 rfl hl (by decide) rfl (fun ls hl => ?_)
          refine lv_goto (tgt := 70) hx hb dX3_send_114 (by decide) ?_
          exact hq _ _ _ _ hW hM (lv_sub hl [0, 1, 2, 3] rfl)
      · skip
        exact absurd c_506 ho
  have hE : ∀ (o : Int32) (r2 t2 : sg), t2 4 0 = nI 1 → ¬ o = -100 → Fsend r a b = (o, r2) → Q o r2 t2 := by
    intro o r2 t2 htop ho hFe
    rw [hQd]
    intro g1 H locs ls hW hM hl
    refine lv_aload_n hx hb dX3_send_70 rfl (lv_at hl 1 rfl) ?_
    refine m_get hx hb hts hown hK hW hM 24 (by decide) fl_RX3_117 (v := .int (t2 4 0)) rfl dX3_send_71 ?_
    refine lv_if_le (tgt := 117) hx hb dX3_send_74 (by decide) (fun c_508 => ?_) (fun c_508 => ?_)
    · skip
      have c_508 := Int32.not_lt.mpr c_508
      exact absurd (by rw [htop]; exact pos_nI (by omega) (by omega)) c_508
    · skip
      have c_508 := Int32.not_le.mp c_508
      refine lv_iload_n hx hb dX3_send_77 rfl (lv_at hl 0 rfl) ?_
      refine lv_bipush (v := -100) hx hb dX3_send_78 (by decide) ?_
      refine lv_icmp_ne (tgt := 91) hx hb dX3_send_80 (by decide) (fun c_509 => ?_) (fun c_509 => ?_)
      · skip
        refine lv_aload_n hx hb dX3_send_91 rfl (lv_at hl 1 rfl) ?_
        refine lv_dup hx hb dX3_send_92 rfl ?_
        refine m_get hx hb hts hown hK hW hM 24 (by decide) fl_RX3_117 (v := .int (t2 4 0)) rfl dX3_send_93 ?_
        refine lv_iconst (v := 1) hx hb dX3_send_96 (by decide) ?_
        refine lv_isub hx hb dX3_send_97 ?_
        refine m_put (r' := r2) (t' := s2 t2 4 0 ((t2 4 0) - (1))) hx hb hts hown hK hW hM 24 (by decide) fl_RX3_117 rfl rfl (fun _ _ => rfl) (fun f hf => s2_f _ _ _ (by omega)) rfl dX3_send_98 (fun H1 locs1 g1 hW hM => ?_)
        rw [show t2 4 0 - 1 = 0 from by rw [htop]; rfl] at hM
        refine lv_aload_n hx hb dX3_send_101 rfl (lv_at hl 1 rfl) ?_
        refine m_get hx hb hts hown hK hW hM 24 (by decide) fl_RX3_117 (v := .int (0)) rfl dX3_send_102 ?_
        refine lv_if_le (tgt := 70) hx hb dX3_send_105 (by decide) (fun c_510 => ?_) (fun c_510 => ?_)
        · skip
          have c_510 := Int32.not_lt.mpr c_510
          refine lv_aload_n hx hb dX3_send_70 rfl (lv_at hl 1 rfl) ?_
          refine m_get hx hb hts hown hK hW hM 24 (by decide) fl_RX3_117 (v := .int (0)) rfl dX3_send_71 ?_
          refine lv_if_le (tgt := 117) hx hb dX3_send_74 (by decide) (fun c_511 => ?_) (fun c_511 => ?_)
          · skip
            have c_511 := Int32.not_lt.mpr c_511
            refine lv_iload_n hx hb dX3_send_117 rfl (lv_at hl 0 rfl) ?_
            exact r_int hx hb hr hlk hW (by exact ⟨by rw [hFe], _, by rw [hFe]; exact hM⟩) (Nat.le_of_ble_eq_true rfl) (Nat.le_of_ble_eq_true rfl) dX3_send_118
          · skip
            have c_511 := Int32.not_le.mp c_511
            exact absurd c_511 (by decide)
        · skip
          have c_510 := Int32.not_le.mp c_510
          exact absurd c_510 (by decide)
      · skip
        exact absurd c_509 ho
  refine lv_aload_n hx hb dX3_send_0 rfl (lv_at hl 0 rfl) ?_
  refine lv_iload_n hx hb dX3_send_1 rfl (lv_at hl 1 rfl) ?_
  refine c_virt (own := RX3) (As := [.int (a)]) (rest := []) hx hb hml hown hts hK hW (k_X3_isMessage l hM hIV.1 hIV.2.1 _) ml_RX3_97 im_yX3_isMessage se_yX3_isMessage in_RX3 cd_yX3_isMessage 1 (by decide +kernel) ⟨Nat.le_of_ble_eq_true rfl, Nat.le_of_ble_eq_true rfl⟩ hM.1 rfl rfl rfl hl.1 rfl (Nat.le_of_ble_eq_true rfl) dX3_send_2 ⟨Nat.le_of_ble_eq_true rfl, Nat.le_of_ble_eq_true rfl⟩ (fun v g2 H1 locs1 hp hW hKT => ?_)
  obtain ⟨rfl, hg⟩ := hp
  rw [hg] at hW
  refine W.eq (g2 := F0 m 5 ls [.int (bI (isMb r (a)))]) rfl ?_
  refine lv_if_eq (tgt := 18) hx hb dX3_send_5 (by decide) (fun c_512 => ?_) (fun c_512 => ?_)
  · skip
    have c_512 := (bI_eq0 _).mp c_512
    refine lv_bipush (v := -2) hx hb dX3_send_18 (by decide) ?_
    exact r_int hx hb hr hlk hW (by have e0 : sendB r a b = false := (by have e7 : (!decide (b < 0) && decide (b < 8)) = mIn b 0 7 := in7b.symm; simp only [sendB, e7]; simp [c_512]); have e1 : Fsend r a b = (-2, r) := (by simp [Fsend, e0]); rw [e1]; exact ⟨rfl, t, hM⟩) (Nat.le_of_ble_eq_true rfl) (Nat.le_of_ble_eq_true rfl) dX3_send_20
  · skip
    have c_512 := bI_ne0 c_512
    have hb_513 : ix (a) < 60 := by have := isMb_lt c_512; have := hIV.2.1; omega
    have hm := hIV.2.2.1 _ (isMb_lt c_512)
    refine lv_iload_n hx hb dX3_send_8 rfl (lv_at hl 2 rfl) ?_
    refine lv_iconst (v := 0) hx hb dX3_send_9 (by decide) ?_
    refine lv_bipush (v := 7) hx hb dX3_send_10 (by decide) ?_
    refine c_stat (own := RX3) (As := [.int (b), .int (0), .int (7)]) (rest := []) hx hb hml hown hts hK hW (k_X3_in l _ _ _) ml_RX3_78 st_yX3_in in_RX3 cd_yX3_in 3 (by decide +kernel) ⟨Nat.le_of_ble_eq_true rfl, Nat.le_of_ble_eq_true rfl⟩ rfl hl.1 rfl (Nat.le_of_ble_eq_true rfl) dX3_send_12 ⟨Nat.le_of_ble_eq_true rfl, Nat.le_of_ble_eq_true rfl⟩ (fun v g2 H1 locs1 hp hW hKT => ?_)
    obtain ⟨rfl, hg⟩ := hp
    rw [hg] at hW
    refine W.eq (g2 := F0 m 15 ls [.int (bI (mIn (b) (0) (7)))]) rfl ?_
    refine lv_if_ne (tgt := 21) hx hb dX3_send_15 (by decide) (fun c_514 => ?_) (fun c_514 => ?_)
    · skip
      have c_514 := bI_ne0 c_514
      have hb_515 := in7 (n := 7) (by decide) c_514
      have nhb_515 := hb_515.2
      refine lv_aload_n hx hb dX3_send_21 rfl (lv_at hl 0 rfl) ?_
      refine lv_dup hx hb dX3_send_22 rfl ?_
      refine m_get hx hb hts hown hK hW hM 18 (by decide) fl_RX3_158 (v := .int (r 17 1)) rfl dX3_send_23 ?_
      refine lv_iconst (v := 1) hx hb dX3_send_26 (by decide) ?_
      refine lv_iadd hx hb dX3_send_27 ?_
      refine m_put (r' := s2 r 17 1 ((r 17 1) + (1))) (t' := t) hx hb hts hown hK hW hM 18 (by decide) fl_RX3_158 rfl rfl (fun f hf => s2_f _ _ _ (by omega)) (fun _ _ => rfl) rfl dX3_send_28 (fun H1 locs1 g1 hW hM => ?_)
      refine lv_aload_n hx hb dX3_send_31 rfl (lv_at hl 0 rfl) ?_
      refine lv_iconst (v := 0) hx hb dX3_send_32 (by decide) ?_
      refine m_put (r' := s2 (s2 r 17 1 ((r 17 1) + (1))) 17 2 (0)) (t' := t) hx hb hts hown hK hW hM 19 (by decide) fl_RX3_148 rfl rfl (fun f hf => s2_f _ _ _ (by omega)) (fun _ _ => rfl) rfl dX3_send_33 (fun H1 locs1 g1 hW hM => ?_)
      refine lv_aload_n hx hb dX3_send_36 rfl (lv_at hl 0 rfl) ?_
      refine lv_iconst (v := 0) hx hb dX3_send_37 (by decide) ?_
      refine m_put (r' := s2 (s2 (s2 r 17 1 ((r 17 1) + (1))) 17 2 (0)) 17 3 (0)) (t' := t) hx hb hts hown hK hW hM 20 (by decide) fl_RX3_133 rfl rfl (fun f hf => s2_f _ _ _ (by omega)) (fun _ _ => rfl) rfl dX3_send_38 (fun H1 locs1 g1 hW hM => ?_)
      refine lv_aload_n hx hb dX3_send_41 rfl (lv_at hl 0 rfl) ?_
      refine lv_iconst (v := 0) hx hb dX3_send_42 (by decide) ?_
      refine m_put (r' := s2 (s2 (s2 (s2 r 17 1 ((r 17 1) + (1))) 17 2 (0)) 17 3 (0)) 17 4 (0)) (t' := t) hx hb hts hown hK hW hM 21 (by decide) fl_RX3_145 rfl rfl (fun f hf => s2_f _ _ _ (by omega)) (fun _ _ => rfl) rfl dX3_send_43 (fun H1 locs1 g1 hW hM => ?_)
      refine lv_aload_n hx hb dX3_send_46 rfl (lv_at hl 0 rfl) ?_
      refine lv_iconst (v := 0) hx hb dX3_send_47 (by decide) ?_
      refine m_put (r' := s2 (s2 (s2 (s2 (s2 r 17 1 ((r 17 1) + (1))) 17 2 (0)) 17 3 (0)) 17 4 (0)) 17 5 (0)) (t' := t) hx hb hts hown hK hW hM 22 (by decide) fl_RX3_136 rfl rfl (fun f hf => s2_f _ _ _ (by omega)) (fun _ _ => rfl) rfl dX3_send_48 (fun H1 locs1 g1 hW hM => ?_)
      refine lv_aload_n hx hb dX3_send_51 rfl (lv_at hl 0 rfl) ?_
      refine lv_iconst (v := -1) hx hb dX3_send_52 (by decide) ?_
      refine m_put (r' := s2 (s2 (s2 (s2 (s2 (s2 r 17 1 ((r 17 1) + (1))) 17 2 (0)) 17 3 (0)) 17 4 (0)) 17 5 (0)) 17 6 (-1)) (t' := t) hx hb hts hown hK hW hM 23 (by decide) fl_RX3_139 rfl rfl (fun f hf => s2_f _ _ _ (by omega)) (fun _ _ => rfl) rfl dX3_send_53 (fun H1 locs1 g1 hW hM => ?_)
      refine lv_aload_n hx hb dX3_send_56 rfl (lv_at hl 0 rfl) ?_
      refine lv_iconst (v := 0) hx hb dX3_send_57 (by decide) ?_
      refine m_put (r' := s2 (s2 (s2 (s2 (s2 (s2 r 17 1 ((r 17 1) + (1))) 17 2 (0)) 17 3 (0)) 17 4 (0)) 17 5 (0)) 17 6 (-1)) (t' := s2 t 4 0 (0)) hx hb hts hown hK hW hM 24 (by decide) fl_RX3_117 rfl rfl (fun _ _ => rfl) (fun f hf => s2_f _ _ _ (by omega)) rfl dX3_send_58 (fun H1 locs1 g1 hW hM => ?_)
      refine lv_aload_n hx hb dX3_send_61 rfl (lv_at hl 0 rfl) ?_
      refine lv_iload_n hx hb dX3_send_62 rfl (lv_at hl 1 rfl) ?_
      refine lv_iload_n hx hb dX3_send_63 rfl (lv_at hl 2 rfl) ?_
      refine c_virt (own := RX3) (As := [.int (a), .int (b)]) (rest := []) hx hb hml hown hts hK hW (k_X3_begin l hM (tp := 0) (by rw [s2_s]; rfl) (by omega) _ _) ml_RX3_120 im_yX3_begin se_yX3_begin in_RX3 cd_yX3_begin 2 (by decide +kernel) ⟨Nat.le_of_ble_eq_true rfl, Nat.le_of_ble_eq_true rfl⟩ hM.1 rfl rfl rfl hl.1 rfl (Nat.le_of_ble_eq_true rfl) dX3_send_64 ⟨Nat.le_of_ble_eq_true rfl, Nat.le_of_ble_eq_true rfl⟩ (fun v g2 H1 locs1 hp hW hKT => ?_)
      obtain ⟨rfl, hM⟩ := hp
      refine W.eq (g2 := F0 m 67 ls []) rfl ?_
      refine lv_bipush (v := -100) hx hb dX3_send_67 (by decide) ?_
      refine lv_istore_n (lv' := [(3, .int (-100)), (0, .ref (y)), (1, .int (a)), (2, .int (b))]) hx hb dX3_send_69 rfl hl (by decide) rfl (fun ls hl => ?_)
      have hb7 := in7 (n := 7) (by decide) c_514
      have e0 : sendB r a b = true := by
        have e7 : (!decide (b < 0) && decide (b < 8)) = mIn b 0 7 := in7b.symm
        simp only [sendB, e7]; simp [c_512, c_514]
      have hFs : Fsend r a b = ((carryF (8 - ix b) (sendR r) (ix a)).2, (carryF (8 - ix b) (sendR r) (ix a)).1) := by simp [Fsend, e0]
      have hall : Q (-100) (sendR r) (begT (s2 t 4 0 0) 0 a b) := by
        refine sim hS hB (8 - ix b) (sendR r) _ 0 (ix a) (ix b) (by omega) (IV_send hIV) ⟨0, by omega, by simp [sendR, s2_a, nI]⟩ ⟨by rw [begT_4, s2_s]; rfl, by rw [begT_0]; exact (nI_ix (isMb_nn c_512)).symm, by rw [begT_1]; exact (nI_ix hb7.1).symm, isMb_lt c_512, by omega, by omega⟩ (fun t9 _ h9 => ?_)
        exact hE _ _ t9 h9 (rv_ne (carry_rv _ _ _)) hFs
      rw [hQd] at hall
      exact hall _ _ _ _ hW hM (lv_sub hl [0, 1, 2, 3] rfl)
    · skip
      have c_514 := (bI_eq0 _).mp c_514
      refine lv_bipush (v := -2) hx hb dX3_send_18 (by decide) ?_
      exact r_int hx hb hr hlk hW (by have e0 : sendB r a b = false := (by have e7 : (!decide (b < 0) && decide (b < 8)) = mIn b 0 7 := in7b.symm; simp only [sendB, e7]; simp [c_512, c_514]); have e1 : Fsend r a b = (-2, r) := (by simp [Fsend, e0]); rw [e1]; exact ⟨rfl, t, hM⟩) (Nat.le_of_ble_eq_true rfl) (Nat.le_of_ble_eq_true rfl) dX3_send_20
