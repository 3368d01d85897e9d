def worksF (r t : sg) (lv i c : Nat) : Int32 × sg × sg :=
  if fitB r i (r 10 c) (r 11 c) = false then (1, r, t)
  else if r 12 c = 0 then (0, s2 r 13 c (r 13 c + wt r i), t)
  else if r 12 c = 1 then ((markF r c i).2, (markF r c i).1, t)
  else if r 12 c = 2 then ((layF r c i).2, (layF r c i).1, t)
  else if r 12 c = 3 then (if inB (r 13 c) (r 3 i) = false then (2, r, t) else if r 4 (8 * i + ix (r 13 c)) = -1 then (4, r, t) else (-100, r, begT t (ix (t 4 0)) (r 4 (8 * i + ix (r 13 c))) (t 2 lv + 1)))
  else if r 12 c = 4 then (if (spF r (s2 t 3 lv 0) lv i (ix (r 3 i)) 0).1 = 0 then 0 else -100, r, (spF r (s2 t 3 lv 0) lv i (ix (r 3 i)) 0).2)
  else (0, s2 r 14 c (nI i), t)
def stepF (r t : sg) (lv i : Nat) (m0 : Int32) (c : Nat) : Int32 × sg × sg :=
  if m0 = -1 then (-4, tinc r 4, t)
  else if r 17 2 = 16 then (-15, r, t)
  else if (worksF (tinc r 2) (s2 (s2 t 1 lv (m0 + 1)) 2 lv m0) lv i c).1 = -100 then (-100, (worksF (tinc r 2) (s2 (s2 t 1 lv (m0 + 1)) 2 lv m0) lv i c).2.1, (worksF (tinc r 2) (s2 (s2 t 1 lv (m0 + 1)) 2 lv m0) lv i c).2.2)
  else (overV (worksF (tinc r 2) (s2 (s2 t 1 lv (m0 + 1)) 2 lv m0) lv i c).2.1 c (worksF (tinc r 2) (s2 (s2 t 1 lv (m0 + 1)) 2 lv m0) lv i c).1, overR (worksF (tinc r 2) (s2 (s2 t 1 lv (m0 + 1)) 2 lv m0) lv i c).2.1 c (worksF (tinc r 2) (s2 (s2 t 1 lv (m0 + 1)) 2 lv m0) lv i c).1, (worksF (tinc r 2) (s2 (s2 t 1 lv (m0 + 1)) 2 lv m0) lv i c).2.2)
def backF (r t : sg) (lv i c n j : Nat) (o : Int32) : Int32 × sg × sg :=
  if o < -10 then (overV r c (-10 - o), overR r c (-10 - o), t)
  else if r 12 c = 4 then (if (spF r t lv i n j).1 = 0 then (overV r c 0, overR r c 0, t) else (-100, r, (spF r t lv i n j).2))
  else (overV r c 0, overR r c 0, t)
theorem spF_0 {r t : sg} {lv i : Nat} : ∀ (n j : Nat), (spF r t lv i n j).1 = 0 → (spF r t lv i n j).2 = t := by
  intro n
  induction n with
  | zero => intro j _; rfl
  | succ n ih =>
    intro j h
    unfold spF at h ⊢
    split
    · rename_i hq
      rw [if_pos hq] at h
      exact ih _ h
    · rename_i hq
      rw [if_neg hq] at h
      exact absurd h (show ¬ (1 : Int32) = 0 by decide)
theorem spF_01 {r t : sg} {lv i : Nat} : ∀ (n j : Nat), (spF r t lv i n j).1 = 0 ∨ (spF r t lv i n j).1 = 1 := by
  intro n
  induction n with
  | zero => intro j; exact Or.inl rfl
  | succ n ih =>
    intro j
    unfold spF
    split
    · exact ih _
    · exact Or.inr rfl
theorem works_ok {r : sg} (h : IV r) {t : sg} {lv i c : Nat} (hc : c < 8) (hs : r 5 c ≠ 0) (hi : i < nm r) : OK r (worksF r t lv i c).2.1 := by
  unfold worksF
  split
  · exact OK.rf h
  · split
    · exact OK.in h (by omega) _
    · split
      · exact mark_ok h hi
      · split
        · exact lay_ok h hc hs hi
        · split
          · split
            · exact OK.rf h
            · split
              · exact OK.rf h
              · exact OK.rf h
          · split
            · exact OK.rf h
            · refine OK.own h (Or.inr ?_)
              have h60 := h.2.1
              simp only [isMb, nI_pos (show i < 2 ^ 31 by omega), ix, nI_clamp (show i < 2 ^ 31 by omega), hi]
              rfl
theorem works_t {r t : sg} {lv i c : Nat} (h : ¬ (worksF r t lv i c).1 = -100) : (worksF r t lv i c).2.2 = t ∨ (worksF r t lv i c).2.2 = s2 t 3 lv 0 := by
  unfold worksF at h ⊢
  split
  · exact Or.inl rfl
  · split
    · exact Or.inl rfl
    · split
      · exact Or.inl rfl
      · split
        · exact Or.inl rfl
        · split
          · split
            · exact Or.inl rfl
            · split
              · exact Or.inl rfl
              · rename_i h0 h1 h2 h3 h4 h5 h6
                rw [if_neg h0, if_neg h1, if_neg h2, if_neg h3, if_pos h4, if_neg h5, if_neg h6] at h
                exact absurd rfl h
          · split
            · rename_i h0 h1 h2 h3 h4 h5
              rw [if_neg h0, if_neg h1, if_neg h2, if_neg h3, if_neg h4, if_pos h5] at h
              refine Or.inr (spF_0 _ _ ?_)
              rcases spF_01 (r := r) (t := s2 t 3 lv 0) (lv := lv) (i := i) (ix (r 3 i)) 0 with q | q
              · exact q
              · exact absurd (by dsimp only; rw [q]; rfl) h
            · exact Or.inl rfl
theorem meetN_c {r : sg} {i : Nat} : ∀ (n : Nat), n ≤ 8 → ¬ meetN r i n = -1 → ∃ c, c < 8 ∧ 8 - n ≤ c ∧ meetN r i n = nI c ∧ asksB r c i = true := by
  intro n
  induction n with
  | zero => intro _ h; exact absurd rfl h
  | succ n ih =>
    intro hn h
    unfold meetN at h ⊢
    by_cases ha : asksB r (7 - n) i = true
    · rw [if_pos ha]
      exact ⟨7 - n, by omega, by omega, rfl, ha⟩
    · rw [if_neg ha] at h ⊢
      obtain ⟨c, h1, h2, h3, h4⟩ := ih (by omega) h
      exact ⟨c, h1, by omega, h3, h4⟩

set_option maxHeartbeats 4000000 in
set_option maxRecDepth 100000 in
theorem k_X3_spreads (l : Launch) {E : gE} {y : Nat} {ad : Nat → Nat} {r t : sg} {g : gm} (hM : MR E y ad r t g) (hIV : IV r) {lv i tp : Nat} {a : Int32} (ha : a = nI lv) (hlv : lv < 40) (h0 : t 0 lv = nI i) (hi : i < nm r) (htp : t 4 0 = nI tp) (htp40 : tp < 40) {n j0 : Nat} (h3 : t 3 lv = nI j0) (hn : j0 + n = ix (r 3 i)) : CM l yX3_spreads cX3_spreads 5 (some .boolean) ({ frames := 1, cells := 0, slots := 0, locals := 22 }) E [.ref (y), .int (a)] g (fun vv g' => vv = some (.int (spF r t lv i n j0).1) ∧ MR E y ad r (spF r t lv i n j0).2 g') := by
  refine CM.of (by decide) (Nat.le_of_ble_eq_true rfl) ?_
  intro p e s m below meth c ls hMX hK hW hl
  obtain ⟨hx, hb, hr, hml, hown, hts, hlk, hnm⟩ := hMX
  have hown : s.vm.findClass RX3 = some m.cls := hown
  have hl : lv_has ls 5 [(0, .ref (y)), (1, .int (a))] := hl
  have hm := hIV.2.2.1 i hi
  have h8 := hm.2.2.2.1
  have hi60 : i < 60 := Nat.lt_of_lt_of_le hi hIV.2.1
  have loop : ∀ (q j : Nat), j + q = ix (r 3 i) → spF r t lv i q j = spF r t lv i n j0 → ∀ (H : Heap) (locs : List Loc) (ls : Array Slot), PW E (fr g s.heap.size) s.heap H locs g → lv_has ls 5 [(4, .int (nI j)), (3, .int (t 2 lv)), (2, .int (t 0 lv)), (0, .ref (y)), (1, .int (a))] → W p l e ({ frames := 1, cells := 0, slots := 0, locals := 22 }) s m ([.ref (y), .int (a)] : List Value).toArray below meth c H locs 0 0 (MQ below (QC E g s.heap.size (fun vv g' => vv = some (.int (spF r t lv i n j0).1) ∧ MR E y ad r (spF r t lv i n j0).2 g')) ([.ref (y), .int (a)] : List Value).toArray s (Room.cells ({ frames := 1, cells := 0, slots := 0, locals := 22 })) (Room.slots ({ frames := 1, cells := 0, slots := 0, locals := 22 })) (fr g s.heap.size)) (F0 m 22 ls []) := by
    intro q
    induction q using Nat.strongRecOn with
    | _ q ih =>
      intro j hjq hF H locs ls hW hl
      refine lv_iload hx hb dX3_spreads_22 (lv_at hl 0 rfl) ?_
      refine lv_aload_n hx hb dX3_spreads_24 rfl (lv_at hl 3 rfl) ?_
      refine m_get hx hb hts hown hK hW hM 4 (by decide) fl_RX3_19 (v := .ref (ad 3)) rfl dX3_spreads_25 ?_
      refine lv_iload_n hx hb dX3_spreads_28 rfl (lv_at hl 2 rfl) ?_
      refine m_iald 3 (j := i) (v := r 3 i) hx hb hK hW hM (by decide) rfl h0 (show i < 60 from by omega) rfl dX3_spreads_29 ?_
      refine lv_icmp_ge (tgt := 86) hx hb dX3_spreads_30 (by decide) (fun c_483 => ?_) (fun c_483 => ?_)
      · skip
        have c_483 := Int32.not_lt.mpr c_483
        have hj9 : q = 0 := by
          rcases Nat.eq_zero_or_pos q with q1 | q1
          · exact q1
          · exact absurd (by rw [← nI_ix hm.2.2.1, nI_ltI (by omega) (by omega)]; omega) c_483
        refine lv_iconst (v := 0) hx hb dX3_spreads_86 (by decide) ?_
        exact r_bool hx hb hr hlk hW rfl (by rw [← hF, hj9]; exact ⟨rfl, hM⟩) (Nat.le_of_ble_eq_true rfl) (Nat.le_of_ble_eq_true rfl) dX3_spreads_87
      · skip
        have c_483 := Int32.not_le.mp c_483
        have hj9 : j < ix (r 3 i) := by
          rw [← nI_ix hm.2.2.1, nI_ltI (by omega) (by omega)] at c_483
          exact c_483
        obtain ⟨q2, rfl⟩ : ∃ q2, q = q2 + 1 := ⟨q - 1, by omega⟩
        refine lv_aload_n hx hb dX3_spreads_33 rfl (lv_at hl 3 rfl) ?_
        refine m_get hx hb hts hown hK hW hM 5 (by decide) fl_RX3_22 (v := .ref (ad 4)) rfl dX3_spreads_34 ?_
        refine lv_bipush (v := 8) hx hb dX3_spreads_37 (by decide) ?_
        refine lv_iload_n hx hb dX3_spreads_39 rfl (lv_at hl 2 rfl) ?_
        refine lv_imul hx hb dX3_spreads_40 ?_
        refine lv_iload hx hb dX3_spreads_41 (lv_at hl 0 rfl) ?_
        refine lv_iadd hx hb dX3_spreads_43 ?_
        refine m_iald 4 (j := 8 * i + j) (v := r 4 (8 * i + j)) hx hb hK hW hM (by decide) rfl ((it_e h0 rfl)) (show 8 * i + j < 480 from by omega) rfl dX3_spreads_44 ?_
        refine lv_iconst (v := -1) hx hb dX3_spreads_45 (by decide) ?_
        refine lv_icmp_eq (tgt := 80) hx hb dX3_spreads_46 (by decide) (fun c_484 => ?_) (fun c_484 => ?_)
        · skip
          refine lv_iinc (v := (nI j) + (1)) (lv' := [(4, .int ((nI j) + (1))), (3, .int (t 2 lv)), (2, .int (t 0 lv)), (0, .ref (y)), (1, .int (a))]) hx hb dX3_spreads_80 hl (k := 0) rfl rfl (by decide) rfl (fun ls hl => ?_)
          refine lv_goto (tgt := 22) hx hb dX3_spreads_83 (by decide) ?_
          exact ih q2 (by omega) (j + 1) (by omega) (by rw [← hF]; unfold spF; rw [if_pos c_484]; cases q2 <;> rfl) _ _ _ hW (by rw [← nI_1]; exact lv_sub hl [0, 1, 2, 3, 4] rfl)
        · skip
          refine lv_aload_n hx hb dX3_spreads_49 rfl (lv_at hl 3 rfl) ?_
          refine m_get hx hb hts hown hK hW hM 28 (by decide) fl_RX3_71 (v := .ref (ad 20)) rfl dX3_spreads_50 ?_
          refine lv_iload_n hx hb dX3_spreads_53 rfl (lv_at hl 4 rfl) ?_
          refine lv_iload hx hb dX3_spreads_54 (lv_at hl 0 rfl) ?_
          refine lv_iconst (v := 1) hx hb dX3_spreads_56 (by decide) ?_
          refine lv_iadd hx hb dX3_spreads_57 ?_
          refine m_sast 3 (j := lv) hx hb hK hW hM (by decide) ha (show lv < 40 from by omega) dX3_spreads_58 (fun H1 locs1 g1 hW hM => ?_)
          refine lv_aload_n hx hb dX3_spreads_59 rfl (lv_at hl 3 rfl) ?_
          refine lv_aload_n hx hb dX3_spreads_60 rfl (lv_at hl 3 rfl) ?_
          refine m_get hx hb hts hown hK hW hM 5 (by decide) fl_RX3_22 (v := .ref (ad 4)) rfl dX3_spreads_61 ?_
          refine lv_bipush (v := 8) hx hb dX3_spreads_64 (by decide) ?_
          refine lv_iload_n hx hb dX3_spreads_66 rfl (lv_at hl 2 rfl) ?_
          refine lv_imul hx hb dX3_spreads_67 ?_
          refine lv_iload hx hb dX3_spreads_68 (lv_at hl 0 rfl) ?_
          refine lv_iadd hx hb dX3_spreads_70 ?_
          refine m_iald 4 (j := 8 * i + j) (v := r 4 (8 * i + j)) hx hb hK hW hM (by decide) rfl ((it_e h0 rfl)) (show 8 * i + j < 480 from by omega) rfl dX3_spreads_71 ?_
          refine lv_iload_n hx hb dX3_spreads_72 rfl (lv_at hl 1 rfl) ?_
          refine lv_iconst (v := 1) hx hb dX3_spreads_73 (by decide) ?_
          refine lv_iadd hx hb dX3_spreads_74 ?_
          refine c_virt (own := RX3) (As := [.int (r 4 (8 * i + j)), .int ((t 2 lv) + (1))]) (rest := []) hx hb hml hown hts hK hW (k_X3_begin l hM (tp := tp) htp (by omega) _ _) ml_RX3_120 im_yX3_begin se_yX3_begin in_RX3 cd_yX3_begin 2 (by decide +kernel) ⟨Nat.le_of_ble_eq_true rfl, Nat.le_of_ble_eq_true rfl⟩ hM.1 rfl rfl rfl hl.1 rfl (Nat.le_of_ble_eq_true rfl) dX3_spreads_75 ⟨Nat.le_of_ble_eq_true rfl, Nat.le_of_ble_eq_true rfl⟩ (fun v g2 H1 locs1 hp hW hKT => ?_)
          obtain ⟨rfl, hM⟩ := hp
          refine W.eq (g2 := F0 m 78 ls []) rfl ?_
          refine lv_iconst (v := 1) hx hb dX3_spreads_78 (by decide) ?_
          exact r_bool hx hb hr hlk hW rfl (by have htx : ix (t 4 0) = tp := (by rw [htp]; exact nI_clamp (by omega)); have e1 : spF r t lv i (q2 + 1) j = (1, begT (s2 t 3 lv ((nI j) + (1))) tp (r 4 (8 * i + j)) ((t 2 lv) + (1))) := (by unfold spF; rw [if_neg c_484, htx]); rw [← hF, e1]; exact ⟨rfl, hM⟩) (Nat.le_of_ble_eq_true rfl) (Nat.le_of_ble_eq_true rfl) dX3_spreads_79
  refine lv_aload_n hx hb dX3_spreads_0 rfl (lv_at hl 0 rfl) ?_
  refine m_get hx hb hts hown hK hW hM 25 (by decide) fl_RX3_62 (v := .ref (ad 17)) rfl dX3_spreads_1 ?_
  refine lv_iload_n hx hb dX3_spreads_4 rfl (lv_at hl 1 rfl) ?_
  refine m_iald 17 (j := lv) (v := t 0 lv) hx hb hK hW hM (by decide) rfl ha (show lv < 40 from by omega) rfl dX3_spreads_5 ?_
  refine lv_istore_n (lv' := [(2, .int (t 0 lv)), (0, .ref (y)), (1, .int (a))]) hx hb dX3_spreads_6 rfl hl (by decide) rfl (fun ls hl => ?_)
  refine lv_aload_n hx hb dX3_spreads_7 rfl (lv_at hl 1 rfl) ?_
  refine m_get hx hb hts hown hK hW hM 27 (by decide) fl_RX3_68 (v := .ref (ad 19)) rfl dX3_spreads_8 ?_
  refine lv_iload_n hx hb dX3_spreads_11 rfl (lv_at hl 2 rfl) ?_
  refine m_iald 19 (j := lv) (v := t 2 lv) hx hb hK hW hM (by decide) rfl ha (show lv < 40 from by omega) rfl dX3_spreads_12 ?_
  refine lv_istore_n (lv' := [(3, .int (t 2 lv)), (2, .int (t 0 lv)), (0, .ref (y)), (1, .int (a))]) hx hb dX3_spreads_13 rfl hl (by decide) rfl (fun ls hl => ?_)
  refine lv_aload_n hx hb dX3_spreads_14 rfl (lv_at hl 2 rfl) ?_
  refine m_get hx hb hts hown hK hW hM 28 (by decide) fl_RX3_71 (v := .ref (ad 20)) rfl dX3_spreads_15 ?_
  refine lv_iload_n hx hb dX3_spreads_18 rfl (lv_at hl 3 rfl) ?_
  refine m_iald 20 (j := lv) (v := t 3 lv) hx hb hK hW hM (by decide) rfl ha (show lv < 40 from by omega) rfl dX3_spreads_19 ?_
  refine lv_istore (lv' := [(4, .int (t 3 lv)), (3, .int (t 2 lv)), (2, .int (t 0 lv)), (0, .ref (y)), (1, .int (a))]) hx hb dX3_spreads_20 hl (by decide) rfl (fun ls hl => ?_)
  exact loop n j0 (by omega) rfl _ _ _ hW (by rw [← h3]; exact lv_sub hl [0, 1, 2, 3, 4] rfl)

set_option maxHeartbeats 4000000 in
set_option maxRecDepth 100000 in
theorem k_X3_works (l : Launch) {E : gE} {y : Nat} {ad : Nat → Nat} {r t : sg} {g : gm} (hM : MR E y ad r t g) (hIV : IV r) {lv i tp : Nat} {a : Int32} (ha : a = nI lv) (hlv : lv < 40) (h0 : t 0 lv = nI i) (hi : i < nm r) (htp : t 4 0 = nI tp) (htp40 : tp < 40) {c0 : Nat} (hc0 : t 2 lv = nI c0) (hc8 : c0 < 8) (hs : r 5 c0 ≠ 0) : CM l yX3_works cX3_works 4 (some .int) ({ frames := 4, cells := 0, slots := 0, locals := 89 }) E [.ref (y), .int (a)] g (fun vv g' => vv = some (.int (worksF r t lv i c0).1) ∧ MR E y ad (worksF r t lv i c0).2.1 (worksF r t lv i c0).2.2 g') := by
  refine CM.of (by decide) (Nat.le_of_ble_eq_true rfl) ?_
  intro p e s m below meth c ls hM hK hW hl
  obtain ⟨hx, hb, hr, hml, hown, hts, hlk, hnm⟩ := hM
  have hown : s.vm.findClass RX3 = some m.cls := hown
  have hl : lv_has ls 4 [(0, .ref (y)), (1, .int (a))] := hl
  have hm := hIV.2.2.1 i hi
  have h8 := hm.2.2.2.1
  have hi60 : i < 60 := Nat.lt_of_lt_of_le hi hIV.2.1
  refine lv_aload_n hx hb dX3_works_0 rfl (lv_at hl 0 rfl) ?_
  refine m_get hx hb hts hown hK hW hM 25 (by decide) fl_RX3_62 (v := .ref (ad 17)) rfl dX3_works_1 ?_
  refine lv_iload_n hx hb dX3_works_4 rfl (lv_at hl 1 rfl) ?_
  refine m_iald 17 (j := lv) (v := t 0 lv) hx hb hK hW hM (by decide) rfl ha (show lv < 40 from by omega) rfl dX3_works_5 ?_
  refine lv_istore_n (lv' := [(2, .int (t 0 lv)), (0, .ref (y)), (1, .int (a))]) hx hb dX3_works_6 rfl hl (by decide) rfl (fun ls hl => ?_)
  refine lv_aload_n hx hb dX3_works_7 rfl (lv_at hl 1 rfl) ?_
  refine m_get hx hb hts hown hK hW hM 27 (by decide) fl_RX3_68 (v := .ref (ad 19)) rfl dX3_works_8 ?_
  refine lv_iload_n hx hb dX3_works_11 rfl (lv_at hl 2 rfl) ?_
  refine m_iald 19 (j := lv) (v := t 2 lv) hx hb hK hW hM (by decide) rfl ha (show lv < 40 from by omega) rfl dX3_works_12 ?_
  refine lv_istore_n (lv' := [(3, .int (t 2 lv)), (2, .int (t 0 lv)), (0, .ref (y)), (1, .int (a))]) hx hb dX3_works_13 rfl hl (by decide) rfl (fun ls hl => ?_)
  refine lv_aload_n hx hb dX3_works_14 rfl (lv_at hl 2 rfl) ?_
  refine lv_iload_n hx hb dX3_works_15 rfl (lv_at hl 1 rfl) ?_
  refine lv_aload_n hx hb dX3_works_16 rfl (lv_at hl 2 rfl) ?_
  refine m_get hx hb hts hown hK hW hM 11 (by decide) fl_RX3_41 (v := .ref (ad 10)) rfl dX3_works_17 ?_
  refine lv_iload_n hx hb dX3_works_20 rfl (lv_at hl 0 rfl) ?_
  refine m_iald 10 (j := c0) (v := r 10 c0) hx hb hK hW hM (by decide) rfl hc0 (show c0 < 8 from by omega) rfl dX3_works_21 ?_
  refine lv_aload_n hx hb dX3_works_22 rfl (lv_at hl 2 rfl) ?_
  refine m_get hx hb hts hown hK hW hM 12 (by decide) fl_RX3_44 (v := .ref (ad 11)) rfl dX3_works_23 ?_
  refine lv_iload_n hx hb dX3_works_26 rfl (lv_at hl 0 rfl) ?_
  refine m_iald 11 (j := c0) (v := r 11 c0) hx hb hK hW hM (by decide) rfl hc0 (show c0 < 8 from by omega) rfl dX3_works_27 ?_
  refine c_virt (own := RX3) (As := [.int (t 0 lv), .int (r 10 c0), .int (r 11 c0)]) (rest := []) hx hb hml hown hts hK hW (k_X3_isOf l hM (i := i) h0 (by omega) _ _) ml_RX3_90 im_yX3_isOf se_yX3_isOf in_RX3 cd_yX3_isOf 3 (by decide +kernel) ⟨Nat.le_of_ble_eq_true rfl, Nat.le_of_ble_eq_true rfl⟩ hM.1 rfl rfl rfl hl.1 rfl (Nat.le_of_ble_eq_true rfl) dX3_works_28 ⟨Nat.le_of_ble_eq_true rfl, Nat.le_of_ble_eq_true rfl⟩ (fun v g2 H1 locs1 hp hW hKT => ?_)
  obtain ⟨rfl, hg⟩ := hp
  rw [hg] at hW
  refine W.eq (g2 := F0 m 31 ls [.int (bI (fitB r i (r 10 c0) (r 11 c0)))]) rfl ?_
  refine lv_if_ne (tgt := 36) hx hb dX3_works_31 (by decide) (fun c_485 => ?_) (fun c_485 => ?_)
  · skip
    have c_485 := bI_ne0 c_485
    refine lv_aload_n hx hb dX3_works_36 rfl (lv_at hl 2 rfl) ?_
    refine m_get hx hb hts hown hK hW hM 13 (by decide) fl_RX3_47 (v := .ref (ad 12)) rfl dX3_works_37 ?_
    refine lv_iload_n hx hb dX3_works_40 rfl (lv_at hl 0 rfl) ?_
    refine m_iald 12 (j := c0) (v := r 12 c0) hx hb hK hW hM (by decide) rfl hc0 (show c0 < 8 from by omega) rfl dX3_works_41 ?_
    by_cases c_486 : r 12 c0 = 0
    · skip
      refine lv_tableIn (tgt := 76) hx hb dX3_works_42 (by rw [c_486]; decide) (by rw [c_486]; decide) (by rw [c_486]; rfl) (by decide) ?_
      refine lv_aload_n hx hb dX3_works_76 rfl (lv_at hl 2 rfl) ?_
      refine m_get hx hb hts hown hK hW hM 14 (by decide) fl_RX3_50 (v := .ref (ad 13)) rfl dX3_works_77 ?_
      refine lv_iload_n hx hb dX3_works_80 rfl (lv_at hl 0 rfl) ?_
      refine lv_dup2_11 hx hb dX3_works_81 rfl rfl ?_
      refine m_iald 13 (j := c0) (v := r 13 c0) hx hb hK hW hM (by decide) rfl hc0 (show c0 < 8 from by omega) rfl dX3_works_82 ?_
      refine lv_aload_n hx hb dX3_works_83 rfl (lv_at hl 2 rfl) ?_
      refine m_get hx hb hts hown hK hW hM 2 (by decide) fl_RX3_13 (v := .ref (ad 1)) rfl dX3_works_84 ?_
      refine lv_iload_n hx hb dX3_works_87 rfl (lv_at hl 1 rfl) ?_
      refine m_iald 1 (j := i) (v := r 1 i) hx hb hK hW hM (by decide) rfl h0 (show i < 60 from by omega) rfl dX3_works_88 ?_
      refine lv_if_ne (tgt := 96) hx hb dX3_works_89 (by decide) (fun c_487 => ?_) (fun c_487 => ?_)
      · skip
        refine lv_aload_n hx hb dX3_works_96 rfl (lv_at hl 2 rfl) ?_
        refine m_get hx hb hts hown hK hW hM 4 (by decide) fl_RX3_19 (v := .ref (ad 3)) rfl dX3_works_97 ?_
        refine lv_iload_n hx hb dX3_works_100 rfl (lv_at hl 1 rfl) ?_
        refine m_iald 3 (j := i) (v := r 3 i) hx hb hK hW hM (by decide) rfl h0 (show i < 60 from by omega) rfl dX3_works_101 ?_
        refine lv_iadd hx hb dX3_works_102 ?_
        refine m_iast 13 (j := c0) hx hb hK hW hM (by decide) rfl hc0 (show c0 < 8 from by omega) dX3_works_103 (fun H1 locs1 g1 hW hM => ?_)
        refine lv_iconst (v := 0) hx hb dX3_works_104 (by decide) ?_
        exact r_int hx hb hr hlk hW (by have htx : ix (t 4 0) = tp := (by rw [htp]; exact nI_clamp (by omega)); have e1 : worksF r t lv i c0 = (0, s2 r 13 c0 ((r 13 c0) + (r 3 i)), t) := (by simp only [worksF, ← mIn_in hm.2.2.1 hm.2.2.2.1]; simp [wt, htx, c_485, c_486, c_487]); rw [e1]; exact ⟨rfl, hM⟩) (Nat.le_of_ble_eq_true rfl) (Nat.le_of_ble_eq_true rfl) dX3_works_105
      · skip
        refine lv_iconst (v := 1) hx hb dX3_works_92 (by decide) ?_
        refine lv_goto (tgt := 102) hx hb dX3_works_93 (by decide) ?_
        refine lv_iadd hx hb dX3_works_102 ?_
        refine m_iast 13 (j := c0) hx hb hK hW hM (by decide) rfl hc0 (show c0 < 8 from by omega) dX3_works_103 (fun H1 locs1 g1 hW hM => ?_)
        refine lv_iconst (v := 0) hx hb dX3_works_104 (by decide) ?_
        exact r_int hx hb hr hlk hW (by have htx : ix (t 4 0) = tp := (by rw [htp]; exact nI_clamp (by omega)); have e1 : worksF r t lv i c0 = (0, s2 r 13 c0 ((r 13 c0) + (1)), t) := (by simp only [worksF, ← mIn_in hm.2.2.1 hm.2.2.2.1]; simp [wt, htx, c_485, c_486, c_487]); rw [e1]; exact ⟨rfl, hM⟩) (Nat.le_of_ble_eq_true rfl) (Nat.le_of_ble_eq_true rfl) dX3_works_105
    by_cases c_488 : r 12 c0 = 1
    · skip
      refine lv_tableIn (tgt := 106) hx hb dX3_works_42 (by rw [c_488]; decide) (by rw [c_488]; decide) (by rw [c_488]; rfl) (by decide) ?_
      refine lv_aload_n hx hb dX3_works_106 rfl (lv_at hl 2 rfl) ?_
      refine lv_iload_n hx hb dX3_works_107 rfl (lv_at hl 0 rfl) ?_
      refine lv_iload_n hx hb dX3_works_108 rfl (lv_at hl 1 rfl) ?_
      refine c_virt (own := RX3) (As := [.int (t 2 lv), .int (t 0 lv)]) (rest := []) hx hb hml hown hts hK hW (k_X3_mark l hM hIV (k := c0) (i := i) hc0 hc8 h0 hi) ml_RX3_124 im_yX3_mark se_yX3_mark in_RX3 cd_yX3_mark 2 (by decide +kernel) ⟨Nat.le_of_ble_eq_true rfl, Nat.le_of_ble_eq_true rfl⟩ hM.1 rfl rfl rfl hl.1 rfl (Nat.le_of_ble_eq_true rfl) dX3_works_109 ⟨Nat.le_of_ble_eq_true rfl, Nat.le_of_ble_eq_true rfl⟩ (fun v g2 H1 locs1 hp hW hKT => ?_)
      obtain ⟨rfl, hM⟩ := hp
      refine W.eq (g2 := F0 m 112 ls [.int ((markF r c0 i).2)]) rfl ?_
      exact r_int hx hb hr hlk hW (by have htx : ix (t 4 0) = tp := (by rw [htp]; exact nI_clamp (by omega)); have e1 : worksF r t lv i c0 = ((markF r c0 i).2, (markF r c0 i).1, t) := (by simp only [worksF, ← mIn_in hm.2.2.1 hm.2.2.2.1]; simp [wt, htx, c_485, c_486, c_488]); rw [e1]; exact ⟨rfl, hM⟩) (Nat.le_of_ble_eq_true rfl) (Nat.le_of_ble_eq_true rfl) dX3_works_112
    by_cases c_489 : r 12 c0 = 2
    · skip
      refine lv_tableIn (tgt := 113) hx hb dX3_works_42 (by rw [c_489]; decide) (by rw [c_489]; decide) (by rw [c_489]; rfl) (by decide) ?_
      refine lv_aload_n hx hb dX3_works_113 rfl (lv_at hl 2 rfl) ?_
      refine lv_iload_n hx hb dX3_works_114 rfl (lv_at hl 0 rfl) ?_
      refine lv_iload_n hx hb dX3_works_115 rfl (lv_at hl 1 rfl) ?_
      refine c_virt (own := RX3) (As := [.int (t 2 lv), .int (t 0 lv)]) (rest := []) hx hb hml hown hts hK hW (k_X3_lay l hM hIV (k := c0) (i := i) hc0 hc8 h0 hi hs) ml_RX3_127 im_yX3_lay se_yX3_lay in_RX3 cd_yX3_lay 2 (by decide +kernel) ⟨Nat.le_of_ble_eq_true rfl, Nat.le_of_ble_eq_true rfl⟩ hM.1 rfl rfl rfl hl.1 rfl (Nat.le_of_ble_eq_true rfl) dX3_works_116 ⟨Nat.le_of_ble_eq_true rfl, Nat.le_of_ble_eq_true rfl⟩ (fun v g2 H1 locs1 hp hW hKT => ?_)
      obtain ⟨rfl, hM⟩ := hp
      refine W.eq (g2 := F0 m 119 ls [.int ((layF r c0 i).2)]) rfl ?_
      exact r_int hx hb hr hlk hW (by have htx : ix (t 4 0) = tp := (by rw [htp]; exact nI_clamp (by omega)); have e1 : worksF r t lv i c0 = ((layF r c0 i).2, (layF r c0 i).1, t) := (by simp only [worksF, ← mIn_in hm.2.2.1 hm.2.2.2.1]; simp [wt, htx, c_485, c_486, c_488, c_489]); rw [e1]; exact ⟨rfl, hM⟩) (Nat.le_of_ble_eq_true rfl) (Nat.le_of_ble_eq_true rfl) dX3_works_119
    by_cases c_490 : r 12 c0 = 3
    · skip
      refine lv_tableIn (tgt := 120) hx hb dX3_works_42 (by rw [c_490]; decide) (by rw [c_490]; decide) (by rw [c_490]; rfl) (by decide) ?_
      refine lv_aload_n hx hb dX3_works_120 rfl (lv_at hl 2 rfl) ?_
      refine m_get hx hb hts hown hK hW hM 14 (by decide) fl_RX3_50 (v := .ref (ad 13)) rfl dX3_works_121 ?_
      refine lv_iload_n hx hb dX3_works_124 rfl (lv_at hl 0 rfl) ?_
      refine m_iald 13 (j := c0) (v := r 13 c0) hx hb hK hW hM (by decide) rfl hc0 (show c0 < 8 from by omega) rfl dX3_works_125 ?_
      refine lv_iconst (v := 0) hx hb dX3_works_126 (by decide) ?_
      refine lv_aload_n hx hb dX3_works_127 rfl (lv_at hl 2 rfl) ?_
      refine m_get hx hb hts hown hK hW hM 4 (by decide) fl_RX3_19 (v := .ref (ad 3)) rfl dX3_works_128 ?_
      refine lv_iload_n hx hb dX3_works_131 rfl (lv_at hl 1 rfl) ?_
      refine m_iald 3 (j := i) (v := r 3 i) hx hb hK hW hM (by decide) rfl h0 (show i < 60 from by omega) rfl dX3_works_132 ?_
      refine lv_iconst (v := 1) hx hb dX3_works_133 (by decide) ?_
      refine lv_isub hx hb dX3_works_134 ?_
      refine c_stat (own := RX3) (As := [.int (r 13 c0), .int (0), .int ((r 3 i) - (1))]) (rest := []) hx hb hml hown hts hK hW (k_X3_in l _ _ _) ml_RX3_78 st_yX3_in in_RX3 cd_yX3_in 3 (by decide +kernel) ⟨Nat.le_of_ble_eq_true rfl, Nat.le_of_ble_eq_true rfl⟩ rfl hl.1 rfl (Nat.le_of_ble_eq_true rfl) dX3_works_135 ⟨Nat.le_of_ble_eq_true rfl, Nat.le_of_ble_eq_true rfl⟩ (fun v g2 H1 locs1 hp hW hKT => ?_)
      obtain ⟨rfl, hg⟩ := hp
      rw [hg] at hW
      refine W.eq (g2 := F0 m 138 ls [.int (bI (mIn (r 13 c0) (0) ((r 3 i) - (1))))]) rfl ?_
      refine lv_if_ne (tgt := 143) hx hb dX3_works_138 (by decide) (fun c_491 => ?_) (fun c_491 => ?_)
      · skip
        have c_491 := bI_ne0 c_491
        have hb_492 := inB_lt (by rw [← mIn_in hm.2.2.1 hm.2.2.2.1]; exact c_491) hm.2.2.1
        have hb_493 : ix (r 13 c0) < 8 := Nat.lt_of_lt_of_le hb_492.2 hm.2.2.2.1
        refine lv_aload_n hx hb dX3_works_143 rfl (lv_at hl 2 rfl) ?_
        refine m_get hx hb hts hown hK hW hM 5 (by decide) fl_RX3_22 (v := .ref (ad 4)) rfl dX3_works_144 ?_
        refine lv_bipush (v := 8) hx hb dX3_works_147 (by decide) ?_
        refine lv_iload_n hx hb dX3_works_149 rfl (lv_at hl 1 rfl) ?_
        refine lv_imul hx hb dX3_works_150 ?_
        refine lv_aload_n hx hb dX3_works_151 rfl (lv_at hl 2 rfl) ?_
        refine m_get hx hb hts hown hK hW hM 14 (by decide) fl_RX3_50 (v := .ref (ad 13)) rfl dX3_works_152 ?_
        refine lv_iload_n hx hb dX3_works_155 rfl (lv_at hl 0 rfl) ?_
        refine m_iald 13 (j := c0) (v := r 13 c0) hx hb hK hW hM (by decide) rfl hc0 (show c0 < 8 from by omega) rfl dX3_works_156 ?_
        refine lv_iadd hx hb dX3_works_157 ?_
        refine m_iald 4 (j := 8 * i + (ix (r 13 c0))) (v := r 4 (8 * i + (ix (r 13 c0)))) hx hb hK hW hM (by decide) rfl ((it_e h0 ((nI_ix hb_492.1).symm))) (show 8 * i + (ix (r 13 c0)) < 480 from by omega) rfl dX3_works_158 ?_
        refine lv_iconst (v := -1) hx hb dX3_works_159 (by decide) ?_
        refine lv_icmp_ne (tgt := 165) hx hb dX3_works_160 (by decide) (fun c_494 => ?_) (fun c_494 => ?_)
        · skip
          refine lv_aload_n hx hb dX3_works_165 rfl (lv_at hl 2 rfl) ?_
          refine lv_aload_n hx hb dX3_works_166 rfl (lv_at hl 2 rfl) ?_
          refine m_get hx hb hts hown hK hW hM 5 (by decide) fl_RX3_22 (v := .ref (ad 4)) rfl dX3_works_167 ?_
          refine lv_bipush (v := 8) hx hb dX3_works_170 (by decide) ?_
          refine lv_iload_n hx hb dX3_works_172 rfl (lv_at hl 1 rfl) ?_
          refine lv_imul hx hb dX3_works_173 ?_
          refine lv_aload_n hx hb dX3_works_174 rfl (lv_at hl 2 rfl) ?_
          refine m_get hx hb hts hown hK hW hM 14 (by decide) fl_RX3_50 (v := .ref (ad 13)) rfl dX3_works_175 ?_
          refine lv_iload_n hx hb dX3_works_178 rfl (lv_at hl 0 rfl) ?_
          refine m_iald 13 (j := c0) (v := r 13 c0) hx hb hK hW hM (by decide) rfl hc0 (show c0 < 8 from by omega) rfl dX3_works_179 ?_
          refine lv_iadd hx hb dX3_works_180 ?_
          refine m_iald 4 (j := 8 * i + (ix (r 13 c0))) (v := r 4 (8 * i + (ix (r 13 c0)))) hx hb hK hW hM (by decide) rfl ((it_e h0 ((nI_ix hb_492.1).symm))) (show 8 * i + (ix (r 13 c0)) < 480 from by omega) rfl dX3_works_181 ?_
          refine lv_iload_n hx hb dX3_works_182 rfl (lv_at hl 0 rfl) ?_
          refine lv_iconst (v := 1) hx hb dX3_works_183 (by decide) ?_
          refine lv_iadd hx hb dX3_works_184 ?_
          refine c_virt (own := RX3) (As := [.int (r 4 (8 * i + (ix (r 13 c0)))), .int ((t 2 lv) + (1))]) (rest := []) hx hb hml hown hts hK hW (k_X3_begin l hM (tp := tp) htp (by omega) _ _) ml_RX3_120 im_yX3_begin se_yX3_begin in_RX3 cd_yX3_begin 2 (by decide +kernel) ⟨Nat.le_of_ble_eq_true rfl, Nat.le_of_ble_eq_true rfl⟩ hM.1 rfl rfl rfl hl.1 rfl (Nat.le_of_ble_eq_true rfl) dX3_works_185 ⟨Nat.le_of_ble_eq_true rfl, Nat.le_of_ble_eq_true rfl⟩ (fun v g2 H1 locs1 hp hW hKT => ?_)
          obtain ⟨rfl, hM⟩ := hp
          refine W.eq (g2 := F0 m 188 ls []) rfl ?_
          refine lv_bipush (v := -100) hx hb dX3_works_188 (by decide) ?_
          exact r_int hx hb hr hlk hW (by have htx : ix (t 4 0) = tp := (by rw [htp]; exact nI_clamp (by omega)); have e1 : worksF r t lv i c0 = (-100, r, begT t tp (r 4 (8 * i + (ix (r 13 c0)))) ((t 2 lv) + (1))) := (by simp only [worksF, ← mIn_in hm.2.2.1 hm.2.2.2.1]; simp [wt, htx, c_485, c_486, c_488, c_489, c_490, c_491, c_494]); rw [e1]; exact ⟨rfl, hM⟩) (Nat.le_of_ble_eq_true rfl) (Nat.le_of_ble_eq_true rfl) dX3_works_190
        · skip
          refine lv_iconst (v := 4) hx hb dX3_works_163 (by decide) ?_
          exact r_int hx hb hr hlk hW (by have htx : ix (t 4 0) = tp := (by rw [htp]; exact nI_clamp (by omega)); have e1 : worksF r t lv i c0 = (4, r, t) := (by simp only [worksF, ← mIn_in hm.2.2.1 hm.2.2.2.1]; simp [wt, htx, c_485, c_486, c_488, c_489, c_490, c_491, c_494]); rw [e1]; exact ⟨rfl, hM⟩) (Nat.le_of_ble_eq_true rfl) (Nat.le_of_ble_eq_true rfl) dX3_works_164
      · skip
        have c_491 := (bI_eq0 _).mp c_491
        refine lv_iconst (v := 2) hx hb dX3_works_141 (by decide) ?_
        exact r_int hx hb hr hlk hW (by have htx : ix (t 4 0) = tp := (by rw [htp]; exact nI_clamp (by omega)); have e1 : worksF r t lv i c0 = (2, r, t) := (by simp only [worksF, ← mIn_in hm.2.2.1 hm.2.2.2.1]; simp [wt, htx, c_485, c_486, c_488, c_489, c_490, c_491]); rw [e1]; exact ⟨rfl, hM⟩) (Nat.le_of_ble_eq_true rfl) (Nat.le_of_ble_eq_true rfl) dX3_works_142
    by_cases c_495 : r 12 c0 = 4
    · skip
      refine lv_tableIn (tgt := 191) hx hb dX3_works_42 (by rw [c_495]; decide) (by rw [c_495]; decide) (by rw [c_495]; rfl) (by decide) ?_
      refine lv_aload_n hx hb dX3_works_191 rfl (lv_at hl 2 rfl) ?_
      refine m_get hx hb hts hown hK hW hM 28 (by decide) fl_RX3_71 (v := .ref (ad 20)) rfl dX3_works_192 ?_
      refine lv_iload_n hx hb dX3_works_195 rfl (lv_at hl 3 rfl) ?_
      refine lv_iconst (v := 0) hx hb dX3_works_196 (by decide) ?_
      refine m_sast 3 (j := lv) hx hb hK hW hM (by decide) ha (show lv < 40 from by omega) dX3_works_197 (fun H1 locs1 g1 hW hM => ?_)
      refine lv_aload_n hx hb dX3_works_198 rfl (lv_at hl 2 rfl) ?_
      refine lv_iload_n hx hb dX3_works_199 rfl (lv_at hl 3 rfl) ?_
      refine c_virt (own := RX3) (As := [.int (a)]) (rest := []) hx hb hml hown hts hK hW (k_X3_spreads l hM hIV (lv := lv) (i := i) (tp := tp) ha hlv h0 hi htp htp40 (n := ix (r 3 i)) (j0 := 0) (by rw [s2_s]; rfl) (by omega)) ml_RX3_130 im_yX3_spreads se_yX3_spreads in_RX3 cd_yX3_spreads 1 (by decide +kernel) ⟨Nat.le_of_ble_eq_true rfl, Nat.le_of_ble_eq_true rfl⟩ hM.1 rfl rfl rfl hl.1 rfl (Nat.le_of_ble_eq_true rfl) dX3_works_200 ⟨Nat.le_of_ble_eq_true rfl, Nat.le_of_ble_eq_true rfl⟩ (fun v g2 H1 locs1 hp hW hKT => ?_)
      obtain ⟨rfl, hM⟩ := hp
      refine W.eq (g2 := F0 m 203 ls [.int ((spF r (s2 t 3 lv 0) lv i (ix (r 3 i)) 0).1)]) rfl ?_
      refine lv_if_eq (tgt := 211) hx hb dX3_works_203 (by decide) (fun c_496 => ?_) (fun c_496 => ?_)
      · skip
        refine lv_iconst (v := 0) hx hb dX3_works_211 (by decide) ?_
        exact r_int hx hb hr hlk hW (by have htx : ix (t 4 0) = tp := (by rw [htp]; exact nI_clamp (by omega)); have e1 : worksF r t lv i c0 = (0, r, (spF r (s2 t 3 lv 0) lv i (ix (r 3 i)) 0).2) := (by simp only [worksF, ← mIn_in hm.2.2.1 hm.2.2.2.1]; simp [wt, htx, c_485, c_486, c_488, c_489, c_490, c_495, c_496]); rw [e1]; exact ⟨rfl, hM⟩) (Nat.le_of_ble_eq_true rfl) (Nat.le_of_ble_eq_true rfl) dX3_works_212
      · skip
        refine lv_bipush (v := -100) hx hb dX3_works_206 (by decide) ?_
        refine lv_goto (tgt := 212) hx hb dX3_works_208 (by decide) ?_
        exact r_int hx hb hr hlk hW (by have htx : ix (t 4 0) = tp := (by rw [htp]; exact nI_clamp (by omega)); have e1 : worksF r t lv i c0 = (-100, r, (spF r (s2 t 3 lv 0) lv i (ix (r 3 i)) 0).2) := (by simp only [worksF, ← mIn_in hm.2.2.1 hm.2.2.2.1]; simp [wt, htx, c_485, c_486, c_488, c_489, c_490, c_495, c_496]); rw [e1]; exact ⟨rfl, hM⟩) (Nat.le_of_ble_eq_true rfl) (Nat.le_of_ble_eq_true rfl) dX3_works_212
    refine lv_tableOut (tgt := 213) hx hb dX3_works_42 (by have z0 := lv_neT (a := 0) c_486 (by decide); have z1 := lv_neT (a := 1) c_488 (by decide); have z2 := lv_neT (a := 2) c_489 (by decide); have z3 := lv_neT (a := 3) c_490 (by decide); have z4 := lv_neT (a := 4) c_495 (by decide); omega) (by decide) ?_
    refine lv_aload_n hx hb dX3_works_213 rfl (lv_at hl 2 rfl) ?_
    refine m_get hx hb hts hown hK hW hM 15 (by decide) fl_RX3_53 (v := .ref (ad 14)) rfl dX3_works_214 ?_
    refine lv_iload_n hx hb dX3_works_217 rfl (lv_at hl 0 rfl) ?_
    refine lv_iload_n hx hb dX3_works_218 rfl (lv_at hl 1 rfl) ?_
    refine m_iast 14 (j := c0) hx hb hK hW hM (by decide) rfl hc0 (show c0 < 8 from by omega) dX3_works_219 (fun H1 locs1 g1 hW hM => ?_)
    refine lv_iconst (v := 0) hx hb dX3_works_220 (by decide) ?_
    exact r_int hx hb hr hlk hW (by have htx : ix (t 4 0) = tp := (by rw [htp]; exact nI_clamp (by omega)); have e1 : worksF r t lv i c0 = (0, s2 r 14 c0 (t 0 lv), t) := (by simp only [worksF, ← mIn_in hm.2.2.1 hm.2.2.2.1]; simp [wt, htx, c_485, c_486, c_488, c_489, c_490, c_495, h0]); rw [e1]; exact ⟨rfl, hM⟩) (Nat.le_of_ble_eq_true rfl) (Nat.le_of_ble_eq_true rfl) dX3_works_221
  · skip
    have c_485 := (bI_eq0 _).mp c_485
    refine lv_iconst (v := 1) hx hb dX3_works_34 (by decide) ?_
    exact r_int hx hb hr hlk hW (by have htx : ix (t 4 0) = tp := (by rw [htp]; exact nI_clamp (by omega)); have e1 : worksF r t lv i c0 = (1, r, t) := (by simp only [worksF, ← mIn_in hm.2.2.1 hm.2.2.2.1]; simp [wt, htx, c_485]); rw [e1]; exact ⟨rfl, hM⟩) (Nat.le_of_ble_eq_true rfl) (Nat.le_of_ble_eq_true rfl) dX3_works_35

set_option maxHeartbeats 4000000 in
set_option maxRecDepth 100000 in
theorem k_X3_step (l : Launch) {E : gE} {y : Nat} {ad : Nat → Nat} {r t : sg} {g : gm} (hM : MR E y ad r t g) (hIV : IV r) {lv i k c0 : Nat} (htop : t 4 0 = nI (lv + 1)) (hlv : lv < 30) (h0 : t 0 lv = nI i) (hi : i < nm r) (h1 : t 1 lv = nI k) (hk : k ≤ 8) (hmm : ¬ meetN r i (8 - k) = -1 → meetN r i (8 - k) = nI c0 ∧ c0 < 8 ∧ r 5 c0 ≠ 0) : CM l yX3_step cX3_step 4 (some .int) ({ frames := 5, cells := 0, slots := 0, locals := 112 }) E [.ref (y)] g (fun vv g' => vv = some (.int (stepF r t lv i (meetN r i (8 - k)) c0).1) ∧ MR E y ad (stepF r t lv i (meetN r i (8 - k)) c0).2.1 (stepF r t lv i (meetN r i (8 - k)) c0).2.2 g') := by
  refine CM.of (by decide) (Nat.le_of_ble_eq_true rfl) ?_
  intro p e s m below meth c ls hM hK hW hl
  obtain ⟨hx, hb, hr, hml, hown, hts, hlk, hnm⟩ := hM
  have hown : s.vm.findClass RX3 = some m.cls := hown
  have hl : lv_has ls 4 [(0, .ref (y))] := hl
  have hlvl : t 4 0 - 1 = nI lv := by rw [htop, nI_pred]
  have hi60 : i < 60 := Nat.lt_of_lt_of_le hi hIV.2.1
  refine lv_aload_n hx hb dX3_step_0 rfl (lv_at hl 0 rfl) ?_
  refine m_get hx hb hts hown hK hW hM 24 (by decide) fl_RX3_117 (v := .int (t 4 0)) rfl dX3_step_1 ?_
  refine lv_iconst (v := 1) hx hb dX3_step_4 (by decide) ?_
  refine lv_isub hx hb dX3_step_5 ?_
  refine lv_istore_n (lv' := [(1, .int ((t 4 0) - (1))), (0, .ref (y))]) hx hb dX3_step_6 rfl hl (by decide) rfl (fun ls hl => ?_)
  refine lv_aload_n hx hb dX3_step_7 rfl (lv_at hl 1 rfl) ?_
  refine lv_aload_n hx hb dX3_step_8 rfl (lv_at hl 1 rfl) ?_
  refine m_get hx hb hts hown hK hW hM 25 (by decide) fl_RX3_62 (v := .ref (ad 17)) rfl dX3_step_9 ?_
  refine lv_iload_n hx hb dX3_step_12 rfl (lv_at hl 0 rfl) ?_
  refine m_iald 17 (j := lv) (v := t 0 lv) hx hb hK hW hM (by decide) rfl hlvl (show lv < 40 from by omega) rfl dX3_step_13 ?_
  refine lv_aload_n hx hb dX3_step_14 rfl (lv_at hl 1 rfl) ?_
  refine m_get hx hb hts hown hK hW hM 26 (by decide) fl_RX3_65 (v := .ref (ad 18)) rfl dX3_step_15 ?_
  refine lv_iload_n hx hb dX3_step_18 rfl (lv_at hl 0 rfl) ?_
  refine m_iald 18 (j := lv) (v := t 1 lv) hx hb hK hW hM (by decide) rfl hlvl (show lv < 40 from by omega) rfl dX3_step_19 ?_
  refine c_virt (own := RX3) (As := [.int (t 0 lv), .int (t 1 lv)]) (rest := []) hx hb hml hown hts hK hW (k_X3_meeting l hM (i := i) (k := k) h0 hi60 h1 hk) ml_RX3_142 im_yX3_meeting se_yX3_meeting in_RX3 cd_yX3_meeting 2 (by decide +kernel) ⟨Nat.le_of_ble_eq_true rfl, Nat.le_of_ble_eq_true rfl⟩ hM.1 rfl rfl rfl hl.1 rfl (Nat.le_of_ble_eq_true rfl) dX3_step_20 ⟨Nat.le_of_ble_eq_true rfl, Nat.le_of_ble_eq_true rfl⟩ (fun v g2 H1 locs1 hp hW hKT => ?_)
  obtain ⟨rfl, hg⟩ := hp
  rw [hg] at hW
  refine W.eq (g2 := F0 m 23 ls [.int (meetN r i (8 - k))]) rfl ?_
  refine lv_istore_n (lv' := [(2, .int (meetN r i (8 - k))), (1, .int ((t 4 0) - (1))), (0, .ref (y))]) hx hb dX3_step_23 rfl hl (by decide) rfl (fun ls hl => ?_)
  refine lv_iload_n hx hb dX3_step_24 rfl (lv_at hl 0 rfl) ?_
  refine lv_iconst (v := -1) hx hb dX3_step_25 (by decide) ?_
  refine lv_icmp_ne (tgt := 42) hx hb dX3_step_26 (by decide) (fun c_497 => ?_) (fun c_497 => ?_)
  · skip
    obtain ⟨hmc, hc8, hs⟩ := hmm c_497
    refine lv_aload_n hx hb dX3_step_42 rfl (lv_at hl 2 rfl) ?_
    refine m_get hx hb hts hown hK hW hM 19 (by decide) fl_RX3_148 (v := .int (r 17 2)) rfl dX3_step_43 ?_
    refine lv_bipush (v := 16) hx hb dX3_step_46 (by decide) ?_
    refine lv_icmp_ne (tgt := 54) hx hb dX3_step_48 (by decide) (fun c_498 => ?_) (fun c_498 => ?_)
    · skip
      refine lv_aload_n hx hb dX3_step_54 rfl (lv_at hl 2 rfl) ?_
      refine lv_dup hx hb dX3_step_55 rfl ?_
      refine m_get hx hb hts hown hK hW hM 19 (by decide) fl_RX3_148 (v := .int (r 17 2)) rfl dX3_step_56 ?_
      refine lv_iconst (v := 1) hx hb dX3_step_59 (by decide) ?_
      refine lv_iadd hx hb dX3_step_60 ?_
      refine m_put (r' := s2 r 17 2 ((r 17 2) + (1))) (t' := t) hx hb hts hown hK hW hM 19 (by decide) fl_RX3_148 rfl rfl (fun f hf => s2_f _ _ _ (by omega)) (fun _ _ => rfl) rfl dX3_step_61 (fun H1 locs1 g1 hW hM => ?_)
      have hM : MR E y ad (tinc r 2) t g1 := hM
      have hIV1 : IV (tinc r 2) := (OK.in hIV (by omega) _).1
      refine lv_aload_n hx hb dX3_step_64 rfl (lv_at hl 2 rfl) ?_
      refine m_get hx hb hts hown hK hW hM 26 (by decide) fl_RX3_65 (v := .ref (ad 18)) rfl dX3_step_65 ?_
      refine lv_iload_n hx hb dX3_step_68 rfl (lv_at hl 1 rfl) ?_
      refine lv_iload_n hx hb dX3_step_69 rfl (lv_at hl 0 rfl) ?_
      refine lv_iconst (v := 1) hx hb dX3_step_70 (by decide) ?_
      refine lv_iadd hx hb dX3_step_71 ?_
      refine m_sast 1 (j := lv) hx hb hK hW hM (by decide) hlvl (show lv < 40 from by omega) dX3_step_72 (fun H1 locs1 g1 hW hM => ?_)
      refine lv_aload_n hx hb dX3_step_73 rfl (lv_at hl 2 rfl) ?_
      refine m_get hx hb hts hown hK hW hM 27 (by decide) fl_RX3_68 (v := .ref (ad 19)) rfl dX3_step_74 ?_
      refine lv_iload_n hx hb dX3_step_77 rfl (lv_at hl 1 rfl) ?_
      refine lv_iload_n hx hb dX3_step_78 rfl (lv_at hl 0 rfl) ?_
      refine m_sast 2 (j := lv) hx hb hK hW hM (by decide) hlvl (show lv < 40 from by omega) dX3_step_79 (fun H1 locs1 g1 hW hM => ?_)
      refine lv_aload_n hx hb dX3_step_80 rfl (lv_at hl 2 rfl) ?_
      refine lv_iload_n hx hb dX3_step_81 rfl (lv_at hl 1 rfl) ?_
      refine c_virt (own := RX3) (As := [.int ((t 4 0) - (1))]) (rest := []) hx hb hml hown hts hK hW (k_X3_works l hM hIV1 (lv := lv) (i := i) (tp := lv + 1) hlvl (by omega) h0 hi htop (by omega) (c0 := c0) (by rw [s2_s]; exact hmc) hc8 hs) ml_RX3_151 im_yX3_works se_yX3_works in_RX3 cd_yX3_works 1 (by decide +kernel) ⟨Nat.le_of_ble_eq_true rfl, Nat.le_of_ble_eq_true rfl⟩ hM.1 rfl rfl rfl hl.1 rfl (Nat.le_of_ble_eq_true rfl) dX3_step_82 ⟨Nat.le_of_ble_eq_true rfl, Nat.le_of_ble_eq_true rfl⟩ (fun v g2 H1 locs1 hp hW hKT => ?_)
      obtain ⟨rfl, hM⟩ := hp
      refine W.eq (g2 := F0 m 85 ls [.int ((worksF (tinc r 2) (s2 (s2 t 1 lv (meetN r i (8 - k) + 1)) 2 lv (meetN r i (8 - k))) lv i c0).1)]) rfl ?_
      refine lv_istore_n (lv' := [(3, .int ((worksF (tinc r 2) (s2 (s2 t 1 lv (meetN r i (8 - k) + 1)) 2 lv (meetN r i (8 - k))) lv i c0).1)), (2, .int (meetN r i (8 - k))), (1, .int ((t 4 0) - (1))), (0, .ref (y))]) hx hb dX3_step_85 rfl hl (by decide) rfl (fun ls hl => ?_)
      refine lv_iload_n hx hb dX3_step_86 rfl (lv_at hl 0 rfl) ?_
      refine lv_bipush (v := -100) hx hb dX3_step_87 (by decide) ?_
      refine lv_icmp_ne (tgt := 97) hx hb dX3_step_89 (by decide) (fun c_499 => ?_) (fun c_499 => ?_)
      · skip
        refine lv_aload_n hx hb dX3_step_97 rfl (lv_at hl 3 rfl) ?_
        refine lv_iload_n hx hb dX3_step_98 rfl (lv_at hl 2 rfl) ?_
        refine lv_iload_n hx hb dX3_step_99 rfl (lv_at hl 0 rfl) ?_
        refine c_virt (own := RX3) (As := [.int ((t 4 0) - (1)), .int ((worksF (tinc r 2) (s2 (s2 t 1 lv (meetN r i (8 - k) + 1)) 2 lv (meetN r i (8 - k))) lv i c0).1)]) (rest := []) hx hb hml hown hts hK hW (k_X3_over l hM (lv := lv) (c0 := c0) hlvl (by omega) (by rcases works_t c_499 with q9 | q9 <;> rw [q9] <;> first | exact (s2_s _ _ _ _).trans hmc | (rw [s2_f _ _ _ (by decide)]; exact (s2_s _ _ _ _).trans hmc)) hc8 ((works_ok hIV1 hc8 hs hi).1.2.2.2 c0 hc8) _) ml_RX3_155 im_yX3_over se_yX3_over in_RX3 cd_yX3_over 2 (by decide +kernel) ⟨Nat.le_of_ble_eq_true rfl, Nat.le_of_ble_eq_true rfl⟩ hM.1 rfl rfl rfl hl.1 rfl (Nat.le_of_ble_eq_true rfl) dX3_step_100 ⟨Nat.le_of_ble_eq_true rfl, Nat.le_of_ble_eq_true rfl⟩ (fun v g2 H1 locs1 hp hW hKT => ?_)
        obtain ⟨rfl, hM⟩ := hp
        refine W.eq (g2 := F0 m 103 ls [.int (overV ((worksF (tinc r 2) (s2 (s2 t 1 lv (meetN r i (8 - k) + 1)) 2 lv (meetN r i (8 - k))) lv i c0).2.1) c0 ((worksF (tinc r 2) (s2 (s2 t 1 lv (meetN r i (8 - k) + 1)) 2 lv (meetN r i (8 - k))) lv i c0).1))]) rfl ?_
        exact r_int hx hb hr hlk hW (by have e1 : stepF r t lv i (meetN r i (8 - k)) c0 = (overV ((worksF (tinc r 2) (s2 (s2 t 1 lv (meetN r i (8 - k) + 1)) 2 lv (meetN r i (8 - k))) lv i c0).2.1) c0 ((worksF (tinc r 2) (s2 (s2 t 1 lv (meetN r i (8 - k) + 1)) 2 lv (meetN r i (8 - k))) lv i c0).1), overR ((worksF (tinc r 2) (s2 (s2 t 1 lv (meetN r i (8 - k) + 1)) 2 lv (meetN r i (8 - k))) lv i c0).2.1) c0 ((worksF (tinc r 2) (s2 (s2 t 1 lv (meetN r i (8 - k) + 1)) 2 lv (meetN r i (8 - k))) lv i c0).1), (worksF (tinc r 2) (s2 (s2 t 1 lv (meetN r i (8 - k) + 1)) 2 lv (meetN r i (8 - k))) lv i c0).2.2) := (by simp [stepF, c_497, c_498, c_499]); rw [e1]; exact ⟨rfl, hM⟩) (Nat.le_of_ble_eq_true rfl) (Nat.le_of_ble_eq_true rfl) dX3_step_103
      · skip
        refine lv_bipush (v := -100) hx hb dX3_step_92 (by decide) ?_
        refine lv_goto (tgt := 103) hx hb dX3_step_94 (by decide) ?_
        exact r_int hx hb hr hlk hW (by have e1 : stepF r t lv i (meetN r i (8 - k)) c0 = (-100, (worksF (tinc r 2) (s2 (s2 t 1 lv (meetN r i (8 - k) + 1)) 2 lv (meetN r i (8 - k))) lv i c0).2.1, (worksF (tinc r 2) (s2 (s2 t 1 lv (meetN r i (8 - k) + 1)) 2 lv (meetN r i (8 - k))) lv i c0).2.2) := (by simp [stepF, c_497, c_498, c_499]); rw [e1]; exact ⟨rfl, hM⟩) (Nat.le_of_ble_eq_true rfl) (Nat.le_of_ble_eq_true rfl) dX3_step_103
    · skip
      refine lv_bipush (v := -15) hx hb dX3_step_51 (by decide) ?_
      exact r_int hx hb hr hlk hW (by have e1 : stepF r t lv i (meetN r i (8 - k)) c0 = (-15, r, t) := (by simp [stepF, c_497, c_498]); rw [e1]; exact ⟨rfl, hM⟩) (Nat.le_of_ble_eq_true rfl) (Nat.le_of_ble_eq_true rfl) dX3_step_53
  · skip
    refine lv_aload_n hx hb dX3_step_29 rfl (lv_at hl 2 rfl) ?_
    refine lv_dup hx hb dX3_step_30 rfl ?_
    refine m_get hx hb hts hown hK hW hM 21 (by decide) fl_RX3_145 (v := .int (r 17 4)) rfl dX3_step_31 ?_
    refine lv_iconst (v := 1) hx hb dX3_step_34 (by decide) ?_
    refine lv_iadd hx hb dX3_step_35 ?_
    refine m_put (r' := s2 r 17 4 ((r 17 4) + (1))) (t' := t) hx hb hts hown hK hW hM 21 (by decide) fl_RX3_145 rfl rfl (fun f hf => s2_f _ _ _ (by omega)) (fun _ _ => rfl) rfl dX3_step_36 (fun H1 locs1 g1 hW hM => ?_)
    have hM : MR E y ad (tinc r 4) t g1 := hM
    refine lv_bipush (v := -4) hx hb dX3_step_39 (by decide) ?_
    exact r_int hx hb hr hlk hW (by have e1 : stepF r t lv i (meetN r i (8 - k)) c0 = (-4, tinc r 4, t) := (by simp [stepF, c_497]); rw [e1]; exact ⟨rfl, hM⟩) (Nat.le_of_ble_eq_true rfl) (Nat.le_of_ble_eq_true rfl) dX3_step_41

set_option maxHeartbeats 4000000 in
set_option maxRecDepth 100000 in
theorem k_X3_back (l : Launch) {E : gE} {y : Nat} {ad : Nat → Nat} {r t : sg} {g : gm} (hM : MR E y ad r t g) (hIV : IV r) {lv i c0 n j0 : Nat} (htop : t 4 0 = nI (lv + 1)) (hlv : lv < 30) (h0 : t 0 lv = nI i) (hi : i < nm r) (hc0 : t 2 lv = nI c0) (hc8 : c0 < 8) (hsp : r 12 c0 = 4 → t 3 lv = nI j0 ∧ j0 + n = ix (r 3 i)) (b : Int32) : CM l yX3_back cX3_back 3 (some .int) ({ frames := 2, cells := 0, slots := 0, locals := 46 }) E [.ref (y), .int (b)] g (fun vv g' => vv = some (.int (backF r t lv i c0 n j0 b).1) ∧ MR E y ad (backF r t lv i c0 n j0 b).2.1 (backF r t lv i c0 n j0 b).2.2 g') := by
  refine CM.of (by decide) (Nat.le_of_ble_eq_true rfl) ?_
  intro p e s m below meth c ls hM hK hW hl
  obtain ⟨hx, hb, hr, hml, hown, hts, hlk, hnm⟩ := hM
  have hown : s.vm.findClass RX3 = some m.cls := hown
  have hl : lv_has ls 3 [(0, .ref (y)), (1, .int (b))] := hl
  have hlvl : t 4 0 - 1 = nI lv := by rw [htop, nI_pred]
  refine lv_aload_n hx hb dX3_back_0 rfl (lv_at hl 0 rfl) ?_
  refine m_get hx hb hts hown hK hW hM 24 (by decide) fl_RX3_117 (v := .int (t 4 0)) rfl dX3_back_1 ?_
  refine lv_iconst (v := 1) hx hb dX3_back_4 (by decide) ?_
  refine lv_isub hx hb dX3_back_5 ?_
  refine lv_istore_n (lv' := [(2, .int ((t 4 0) - (1))), (0, .ref (y)), (1, .int (b))]) hx hb dX3_back_6 rfl hl (by decide) rfl (fun ls hl => ?_)
  refine lv_iload_n hx hb dX3_back_7 rfl (lv_at hl 2 rfl) ?_
  refine lv_bipush (v := -10) hx hb dX3_back_8 (by decide) ?_
  refine lv_icmp_ge (tgt := 23) hx hb dX3_back_10 (by decide) (fun c_500 => ?_) (fun c_500 => ?_)
  · skip
    have c_500 := Int32.not_lt.mpr c_500
    refine lv_aload_n hx hb dX3_back_23 rfl (lv_at hl 1 rfl) ?_
    refine m_get hx hb hts hown hK hW hM 13 (by decide) fl_RX3_47 (v := .ref (ad 12)) rfl dX3_back_24 ?_
    refine lv_aload_n hx hb dX3_back_27 rfl (lv_at hl 1 rfl) ?_
    refine m_get hx hb hts hown hK hW hM 27 (by decide) fl_RX3_68 (v := .ref (ad 19)) rfl dX3_back_28 ?_
    refine lv_iload_n hx hb dX3_back_31 rfl (lv_at hl 0 rfl) ?_
    refine m_iald 19 (j := lv) (v := t 2 lv) hx hb hK hW hM (by decide) rfl hlvl (show lv < 40 from by omega) rfl dX3_back_32 ?_
    refine m_iald 12 (j := c0) (v := r 12 c0) hx hb hK hW hM (by decide) rfl hc0 (show c0 < 8 from by omega) rfl dX3_back_33 ?_
    refine lv_iconst (v := 4) hx hb dX3_back_34 (by decide) ?_
    refine lv_icmp_ne (tgt := 51) hx hb dX3_back_35 (by decide) (fun c_501 => ?_) (fun c_501 => ?_)
    · skip
      refine lv_aload_n hx hb dX3_back_51 rfl (lv_at hl 1 rfl) ?_
      refine lv_iload_n hx hb dX3_back_52 rfl (lv_at hl 0 rfl) ?_
      refine lv_iconst (v := 0) hx hb dX3_back_53 (by decide) ?_
      refine c_virt (own := RX3) (As := [.int ((t 4 0) - (1)), .int (0)]) (rest := []) hx hb hml hown hts hK hW (k_X3_over l hM (lv := lv) (c0 := c0) hlvl (by omega) hc0 hc8 (hIV.2.2.2 c0 hc8) _) ml_RX3_155 im_yX3_over se_yX3_over in_RX3 cd_yX3_over 2 (by decide +kernel) ⟨Nat.le_of_ble_eq_true rfl, Nat.le_of_ble_eq_true rfl⟩ hM.1 rfl rfl rfl hl.1 rfl (Nat.le_of_ble_eq_true rfl) dX3_back_54 ⟨Nat.le_of_ble_eq_true rfl, Nat.le_of_ble_eq_true rfl⟩ (fun v g2 H1 locs1 hp hW hKT => ?_)
      obtain ⟨rfl, hM⟩ := hp
      refine W.eq (g2 := F0 m 57 ls [.int (overV r c0 (0))]) rfl ?_
      exact r_int hx hb hr hlk hW (by have e1 : backF r t lv i c0 n j0 b = (overV r c0 (0), overR r c0 (0), t) := (by simp [backF, c_500, c_501]); rw [e1]; exact ⟨rfl, hM⟩) (Nat.le_of_ble_eq_true rfl) (Nat.le_of_ble_eq_true rfl) dX3_back_57
    · skip
      refine lv_aload_n hx hb dX3_back_38 rfl (lv_at hl 1 rfl) ?_
      refine lv_iload_n hx hb dX3_back_39 rfl (lv_at hl 0 rfl) ?_
      refine c_virt (own := RX3) (As := [.int ((t 4 0) - (1))]) (rest := []) hx hb hml hown hts hK hW (k_X3_spreads l hM hIV (lv := lv) (i := i) (tp := lv + 1) hlvl (by omega) h0 hi htop (by omega) (n := n) (j0 := j0) (hsp c_501).1 (hsp c_501).2) ml_RX3_130 im_yX3_spreads se_yX3_spreads in_RX3 cd_yX3_spreads 1 (by decide +kernel) ⟨Nat.le_of_ble_eq_true rfl, Nat.le_of_ble_eq_true rfl⟩ hM.1 rfl rfl rfl hl.1 rfl (Nat.le_of_ble_eq_true rfl) dX3_back_40 ⟨Nat.le_of_ble_eq_true rfl, Nat.le_of_ble_eq_true rfl⟩ (fun v g2 H1 locs1 hp hW hKT => ?_)
      obtain ⟨rfl, hM⟩ := hp
      refine W.eq (g2 := F0 m 43 ls [.int ((spF r t lv i n j0).1)]) rfl ?_
      refine lv_if_eq (tgt := 51) hx hb dX3_back_43 (by decide) (fun c_502 => ?_) (fun c_502 => ?_)
      · skip
        refine lv_aload_n hx hb dX3_back_51 rfl (lv_at hl 1 rfl) ?_
        refine lv_iload_n hx hb dX3_back_52 rfl (lv_at hl 0 rfl) ?_
        refine lv_iconst (v := 0) hx hb dX3_back_53 (by decide) ?_
        refine c_virt (own := RX3) (As := [.int ((t 4 0) - (1)), .int (0)]) (rest := []) hx hb hml hown hts hK hW (k_X3_over l hM (lv := lv) (c0 := c0) hlvl (by omega) (by rw [spF_0 _ _ c_502]; exact hc0) hc8 (hIV.2.2.2 c0 hc8) _) ml_RX3_155 im_yX3_over se_yX3_over in_RX3 cd_yX3_over 2 (by decide +kernel) ⟨Nat.le_of_ble_eq_true rfl, Nat.le_of_ble_eq_true rfl⟩ hM.1 rfl rfl rfl hl.1 rfl (Nat.le_of_ble_eq_true rfl) dX3_back_54 ⟨Nat.le_of_ble_eq_true rfl, Nat.le_of_ble_eq_true rfl⟩ (fun v g2 H1 locs1 hp hW hKT => ?_)
        obtain ⟨rfl, hM⟩ := hp
        refine W.eq (g2 := F0 m 57 ls [.int (overV r c0 (0))]) rfl ?_
        exact r_int hx hb hr hlk hW (by have e1 : backF r t lv i c0 n j0 b = (overV r c0 (0), overR r c0 (0), t) := (by simp [backF, c_500, c_501, c_502]); rw [e1]; exact ⟨rfl, (by rw [spF_0 _ _ c_502] at hM; exact hM)⟩) (Nat.le_of_ble_eq_true rfl) (Nat.le_of_ble_eq_true rfl) dX3_back_57
      · skip
        refine lv_bipush (v := -100) hx hb dX3_back_46 (by decide) ?_
        refine lv_goto (tgt := 57) hx hb dX3_back_48 (by decide) ?_
        exact r_int hx hb hr hlk hW (by have e1 : backF r t lv i c0 n j0 b = (-100, r, (spF r t lv i n j0).2) := (by simp [backF, c_500, c_501, c_502]); rw [e1]; exact ⟨rfl, hM⟩) (Nat.le_of_ble_eq_true rfl) (Nat.le_of_ble_eq_true rfl) dX3_back_57
  · skip
    have c_500 := Int32.not_le.mp c_500
    refine lv_aload_n hx hb dX3_back_13 rfl (lv_at hl 1 rfl) ?_
    refine lv_iload_n hx hb dX3_back_14 rfl (lv_at hl 0 rfl) ?_
    refine lv_bipush (v := -10) hx hb dX3_back_15 (by decide) ?_
    refine lv_iload_n hx hb dX3_back_17 rfl (lv_at hl 2 rfl) ?_
    refine lv_isub hx hb dX3_back_18 ?_
    refine c_virt (own := RX3) (As := [.int ((t 4 0) - (1)), .int ((-10) - (b))]) (rest := []) hx hb hml hown hts hK hW (k_X3_over l hM (lv := lv) (c0 := c0) hlvl (by omega) hc0 hc8 (hIV.2.2.2 c0 hc8) _) ml_RX3_155 im_yX3_over se_yX3_over in_RX3 cd_yX3_over 2 (by decide +kernel) ⟨Nat.le_of_ble_eq_true rfl, Nat.le_of_ble_eq_true rfl⟩ hM.1 rfl rfl rfl hl.1 rfl (Nat.le_of_ble_eq_true rfl) dX3_back_19 ⟨Nat.le_of_ble_eq_true rfl, Nat.le_of_ble_eq_true rfl⟩ (fun v g2 H1 locs1 hp hW hKT => ?_)
    obtain ⟨rfl, hM⟩ := hp
    refine W.eq (g2 := F0 m 22 ls [.int (overV r c0 ((-10) - (b)))]) rfl ?_
    exact r_int hx hb hr hlk hW (by have e1 : backF r t lv i c0 n j0 b = (overV r c0 ((-10) - (b)), overR r c0 ((-10) - (b)), t) := (by unfold backF; rw [if_pos c_500]); simp only [e1]; exact ⟨trivial, hM⟩) (Nat.le_of_ble_eq_true rfl) (Nat.le_of_ble_eq_true rfl) dX3_back_22
