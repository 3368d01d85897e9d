def CarryC (l : Launch) (E : gE) (x xa xk : Nat) (ma pa ka : Nat → Nat) (n : Nat) : Prop := ∀ (r : sg) (g : gm) (i : Nat) (cc : Int32), cc = nI (8 - n) → HR E x xa xk ma pa ka false r g → IV r → i < nm r → CM l yX2_carry cX2_carry 6 (some .int) ({ frames := 4 * n + 6, cells := 0, slots := 0, locals := 120 * n + 200 }) E [.ref x, .ref (ma i), .int cc] g (fun vv g' => vv = some (.int (carryF n r i).2) ∧ HR E x xa xk ma pa ka false (carryF n r i).1 g')
theorem w_fig {r : sg} (h : IV r) {k i : Nat} (hk : k < 8) (hs : r 5 k ≠ 0) (hw : fitB r i (r 10 k) (r 11 k) = true) (q : r 12 k = 2 ∨ r 12 k = 3 ∨ r 12 k = 4) : figB (r 0 i) (r 1 i) = false := by
  simp only [fitB, Bool.and_eq_true, beq_iff_eq] at hw
  rw [hw.1]
  exact pass_fig hw.2 (((h.2.2.2 k hk).2.2.2 hs).2 q)

set_option maxHeartbeats 4000000 in
set_option maxRecDepth 100000 in
theorem k_X2_open (l : Launch) {E : gE} {x xa xk : Nat} {ma pa ka : Nat → Nat} {r : sg} {g : gm} (hR : HR E x xa xk ma pa ka false r g) (hIV : IV r) {n k : Nat} (hnk : n + k = 7) (hk : k < 8) (hs : r 5 k ≠ 0) {i : Nat} (hi : i < nm r) (hfig : figB (r 0 i) (r 1 i) = false) (hC : CarryC l E x xa xk ma pa ka n) : CM l yX2_open cX2_open 4 (some .int) ({ frames := 4 * n + 7, cells := 0, slots := 0, locals := 120 * n + 230 }) E [.ref (x), .ref (ka k), .ref (ma i)] g (fun vv g' => vv = some (.int (openF (carryF n) r k i).2) ∧ HR E x xa xk ma pa ka false (openF (carryF n) r k i).1 g') := by
  refine CM.of (by decide) (Nat.le_of_ble_eq_true rfl) ?_
  intro p e s m below meth c ls hM hK hW hl
  obtain ⟨hx, hb, hr, hml, hown, hts, hlk, hnm⟩ := hM
  have hown : s.vm.findClass RX2 = some m.cls := hown
  have hl : lv_has ls 4 [(0, .ref (x)), (1, .ref (ka k)), (2, .ref (ma i))] := hl
  refine lv_aload_n hx hb dX2_open_0 rfl (lv_at hl 2 rfl) ?_
  refine lv_aload_n hx hb dX2_open_1 rfl (lv_at hl 1 rfl) ?_
  refine hk_get hx hb hts hown hK hW hR hk hs 6 (by decide) fl_RX2_92 (v := .int (r 13 k)) rfl dX2_open_2 ?_
  refine c_virt (own := RX2) (As := [.int (r 13 k)]) (rest := []) hx hb hml hown hts hK hW (k_X1_hasMessagePlace l hR hi _) ml_RX2_37 im_yX1_hasMessagePlace se_yX1_hasMessagePlace in_RX1 cd_yX1_hasMessagePlace 1 (by decide +kernel) ⟨show 0 + 1 ≤ 4 * n + 7 from by omega, show 8 + (2 + 11) + (0) ≤ 120 * n + 230 from by omega⟩ (hR.2.2.2.1 _ hi).1 rfl rfl rfl hl.1 rfl (Nat.le_of_ble_eq_true rfl) dX2_open_5 ⟨Nat.le_of_ble_eq_true rfl, Nat.le_of_ble_eq_true rfl⟩ (fun v g2 H1 locs1 hp hW hKT => ?_)
  obtain ⟨rfl, hg⟩ := hp
  rw [hg] at hW
  refine W.eq (g2 := F0 m 8 ls [.int (bI (hasP r i (r 13 k)))]) rfl ?_
  refine lv_if_ne (tgt := 13) hx hb dX2_open_8 (by decide) (fun c_234 => ?_) (fun c_234 => ?_)
  · skip
    have c_234 := bI_ne0 c_234
    have hz_235 := c_234
    rw [hasP_in hfig] at hz_235
    refine lv_aload_n hx hb dX2_open_13 rfl (lv_at hl 0 rfl) ?_
    refine lv_aload_n hx hb dX2_open_14 rfl (lv_at hl 2 rfl) ?_
    refine hm_get hx hb hts hown hK hW hR hi 4 (by decide) fl_RX2_45 (v := .ref (pa i)) rfl dX2_open_15 ?_
    refine lv_aload_n hx hb dX2_open_18 rfl (lv_at hl 1 rfl) ?_
    refine hk_get hx hb hts hown hK hW hR hk hs 6 (by decide) fl_RX2_92 (v := .int (r 13 k)) rfl dX2_open_19 ?_
    refine hp_ald hx hb hK hW hR hi (hasP_lt c_234).1 (hasP_lt c_234).2 dX2_open_22 ?_
    refine c_virt (own := RX2) (As := [.int (r 4 (8 * i + ix (r 13 k)))]) (rest := []) hx hb hml hown hts hK hW (k_X2_messageAt l hR (r 4 (8 * i + ix (r 13 k)))) ml_RX2_33 im_yX2_messageAt se_yX2_messageAt in_RX2 cd_yX2_messageAt 1 (by decide +kernel) ⟨show 0 + 1 ≤ 4 * n + 7 from by omega, show 8 + (2 + 11) + (0) ≤ 120 * n + 230 from by omega⟩ hR.1 rfl rfl rfl hl.1 rfl (Nat.le_of_ble_eq_true rfl) dX2_open_23 ⟨Nat.le_of_ble_eq_true rfl, Nat.le_of_ble_eq_true rfl⟩ (fun v g2 H1 locs1 hp hW hKT => ?_)
    obtain ⟨hp, hg⟩ := hp
    rw [hg] at hW
    rcases hp with ⟨em_236, rfl⟩ | ⟨em_237, rfl⟩
    · skip
      have ho_239 : r 4 (8 * i + ix (r 13 k)) = -1 := ((hIV.2.2.1 i hi).2.2.2.2 hfig _ (hasP_lt c_234).2).resolve_right (by rw [em_236]; simp)
      refine W.eq (g2 := F0 m 26 ls [.null]) rfl ?_
      refine lv_astore_nN (lv' := [(3, .null), (0, .ref (x)), (1, .ref (ka k)), (2, .ref (ma i))]) hx hb dX2_open_26 rfl hl (by decide) rfl (fun ls hl => ?_)
      refine lv_aload_nN hx hb dX2_open_27 rfl (lv_at hl 0 rfl) ?_
      refine lv_ifnonnullN hx hb dX2_open_28 ?_
      refine lv_iconst (v := 4) hx hb dX2_open_31 (by decide) ?_
      exact r_int hx hb hr hlk hW (by have e1 : openF (carryF n) r k i = (r, 4) := (by first | (simp [openF, c_234, em_236, ho_239, hz_235]; done) | (simp_all [openF]; done) | (simp [openF, c_234, em_236, ho_239, hz_235]; rfl)); rw [e1]; exact ⟨rfl, hR⟩) (Nat.le_of_ble_eq_true rfl) (Nat.le_of_ble_eq_true rfl) dX2_open_32
    · skip
      have hi_238 := isMb_lt em_237
      have nhi_238 := isMb_ne em_237
      refine W.eq (g2 := F0 m 26 ls [.ref (ma (ix (r 4 (8 * i + ix (r 13 k)))))]) rfl ?_
      refine lv_astore_n (lv' := [(3, .ref (ma (ix (r 4 (8 * i + ix (r 13 k)))))), (0, .ref (x)), (1, .ref (ka k)), (2, .ref (ma i))]) hx hb dX2_open_26 rfl hl (by decide) rfl (fun ls hl => ?_)
      refine lv_aload_n hx hb dX2_open_27 rfl (lv_at hl 0 rfl) ?_
      refine lv_ifnonnull (tgt := 33) hx hb dX2_open_28 (by decide) ?_
      refine lv_aload_n hx hb dX2_open_33 rfl (lv_at hl 1 rfl) ?_
      refine lv_aload_n hx hb dX2_open_34 rfl (lv_at hl 0 rfl) ?_
      refine lv_aload_n hx hb dX2_open_35 rfl (lv_at hl 2 rfl) ?_
      refine hk_get hx hb hts hown hK hW hR hk hs 0 (by decide) fl_RX2_153 (v := .int (nI k)) rfl dX2_open_36 ?_
      refine lv_iconst (v := 1) hx hb dX2_open_39 (by decide) ?_
      refine lv_iadd hx hb dX2_open_40 ?_
      refine c_virt (own := RX2) (As := [.ref (ma (ix (r 4 (8 * i + ix (r 13 k))))), .int ((nI k) + (1))]) (rest := []) hx hb hml hown hts hK hW (hC r _ (ix (r 4 (8 * i + ix (r 13 k)))) _ (by rw [nI_1]; congr 1; omega) hR hIV hi_238) ml_RX2_120 im_yX2_carry se_yX2_carry in_RX2 cd_yX2_carry 2 (by decide +kernel) ⟨show 4 * n + 6 + 1 ≤ 4 * n + 7 from by omega, show 8 + (6 + 11) + (120 * n + 200) ≤ 120 * n + 230 from by omega⟩ hR.1 rfl rfl rfl hl.1 rfl (Nat.le_of_ble_eq_true rfl) dX2_open_41 ⟨Nat.le_of_ble_eq_true rfl, Nat.le_of_ble_eq_true rfl⟩ (fun v g2 H1 locs1 hp hW hKT => ?_)
      obtain ⟨rfl, hR⟩ := hp
      refine W.eq (g2 := F0 m 44 ls [.int ((carryF n r (ix (r 4 (8 * i + ix (r 13 k))))).2)]) rfl ?_
      refine c_stat (own := RX2) (As := [.int ((carryF n r (ix (r 4 (8 * i + ix (r 13 k))))).2)]) (rest := []) hx hb hml hown hts hK hW (k_X2_failureOf l _) ml_RX2_187 st_yX2_failureOf in_RX2 cd_yX2_failureOf 1 (by decide +kernel) ⟨show 0 + 1 ≤ 4 * n + 7 from by omega, show 8 + (1 + 11) + (0) ≤ 120 * n + 230 from by omega⟩ rfl hl.1 rfl (Nat.le_of_ble_eq_true rfl) dX2_open_44 ⟨Nat.le_of_ble_eq_true rfl, Nat.le_of_ble_eq_true rfl⟩ (fun v g2 H1 locs1 hp hW hKT => ?_)
      obtain ⟨rfl, hg⟩ := hp
      rw [hg] at hW
      refine W.eq (g2 := F0 m 47 ls [.int (failI ((carryF n r (ix (r 4 (8 * i + ix (r 13 k))))).2))]) rfl ?_
      exact r_int hx hb hr hlk hW (by have e1 : openF (carryF n) r k i = ((carryF n r (ix (r 4 (8 * i + ix (r 13 k))))).1, failI ((carryF n r (ix (r 4 (8 * i + ix (r 13 k))))).2)) := (by first | (simp [openF, c_234, em_237, nhi_238, hz_235]; done) | (simp_all [openF]; done) | (simp [openF, c_234, em_237, nhi_238, hz_235]; rfl)); rw [e1]; exact ⟨rfl, hR⟩) (Nat.le_of_ble_eq_true rfl) (Nat.le_of_ble_eq_true rfl) dX2_open_47
  · skip
    have c_234 := (bI_eq0 _).mp c_234
    have hz_240 := c_234
    rw [hasP_in hfig] at hz_240
    refine lv_iconst (v := 2) hx hb dX2_open_11 (by decide) ?_
    exact r_int hx hb hr hlk hW (by have e1 : openF (carryF n) r k i = (r, 2) := (by first | (simp [openF, c_234, hz_240]; done) | (simp_all [openF]; done) | (simp [openF, c_234, hz_240]; rfl)); rw [e1]; exact ⟨rfl, hR⟩) (Nat.le_of_ble_eq_true rfl) (Nat.le_of_ble_eq_true rfl) dX2_open_12

set_option maxHeartbeats 4000000 in
set_option maxRecDepth 100000 in
theorem k_X2_spread (l : Launch) {E : gE} {x xa xk : Nat} {ma pa ka : Nat → Nat} {r0 : sg} {g : gm} (hR : HR E x xa xk ma pa ka false r0 g) (hIV : IV r0) {n k : Nat} (hnk : n + k = 7) (hk : k < 8) (hs : r0 5 k ≠ 0) {i : Nat} (hi : i < nm r0) (hfig : figB (r0 0 i) (r0 1 i) = false) (hC : CarryC l E x xa xk ma pa ka n) : CM l yX2_spread cX2_spread 6 (some .int) ({ frames := 4 * n + 7, cells := 0, slots := 0, locals := 120 * n + 230 }) E [.ref (x), .ref (ka k), .ref (ma i)] g (fun vv g' => vv = some (.int (spreadF (carryF n) i (ix (r0 3 i)) 0 r0).2) ∧ HR E x xa xk ma pa ka false (spreadF (carryF n) i (ix (r0 3 i)) 0 r0).1 g') := by
  refine CM.of (by decide) (Nat.le_of_ble_eq_true rfl) ?_
  intro p e s m below meth c ls hM hK hW hl
  obtain ⟨hx, hb, hr, hml, hown, hts, hlk, hnm⟩ := hM
  have hown : s.vm.findClass RX2 = some m.cls := hown
  have hl : lv_has ls 6 [(0, .ref (x)), (1, .ref (ka k)), (2, .ref (ma i))] := hl
  have h8 := (hIV.2.2.1 i hi).2.2.2.1
  have loop : ∀ (q j : Nat) (r : sg) (g1 : gm), OK r0 r → j + q = ix (r0 3 i) → spreadF (carryF n) i q j r = spreadF (carryF n) i (ix (r0 3 i)) 0 r0 → HR E x xa xk ma pa ka false r g1 → ∀ (H : Heap) (locs : List Loc) (ls : Array Slot), PW E (fr g s.heap.size) s.heap H locs g1 → lv_has ls 6 [(3, .int (nI j)), (0, .ref (x)), (1, .ref (ka k)), (2, .ref (ma i))] → W p l e ({ frames := 4 * n + 7, cells := 0, slots := 0, locals := 120 * n + 230 }) s m ([.ref (x), .ref (ka k), .ref (ma i)] : List Value).toArray below meth c H locs 0 0 (MQ below (QC E g s.heap.size (fun vv g' => vv = some (.int (spreadF (carryF n) i (ix (r0 3 i)) 0 r0).2) ∧ HR E x xa xk ma pa ka false (spreadF (carryF n) i (ix (r0 3 i)) 0 r0).1 g')) ([.ref (x), .ref (ka k), .ref (ma i)] : List Value).toArray s (Room.cells ({ frames := 4 * n + 7, cells := 0, slots := 0, locals := 120 * n + 230 })) (Room.slots ({ frames := 4 * n + 7, cells := 0, slots := 0, locals := 120 * n + 230 })) (fr g s.heap.size)) (F0 m 2 ls []) := by
    intro q
    induction q using Nat.strongRecOn with
    | _ q ih =>
      intro j r g1 hOK hjq hF hR H locs ls hW hl
      have hIV : IV r := hOK.1
      have hi : i < nm r := by rw [hOK.cnt]; exact hi
      have hs : r 5 k ≠ 0 := by rw [hOK.2.1 5 (by omega)]; exact hs
      have e3 : ix (r 3 i) = ix (r0 3 i) := by rw [hOK.2.1 3 (by omega)]
      refine lv_iload_n hx hb dX2_spread_2 rfl (lv_at hl 0 rfl) ?_
      refine lv_aload_n hx hb dX2_spread_3 rfl (lv_at hl 3 rfl) ?_
      refine hm_get hx hb hts hown hK hW hR hi 4 (by decide) fl_RX2_45 (v := .ref (pa i)) rfl dX2_spread_4 ?_
      refine hp_len hx hb hK hW hR hi dX2_spread_7 ?_
      refine lv_icmp_ge (tgt := 62) hx hb dX2_spread_8 (by decide) (fun c_241 => ?_) (fun c_241 => ?_)
      · skip
        have c_241 := Int32.not_lt.mpr c_241
        have hj0 : q = 0 := by
          rcases Nat.eq_zero_or_pos q with q1 | q1
          · exact q1
          · exact absurd (by rw [← nI_ix (hR.2.2.2.1 i hi).2.2.1, nI_ltI (by omega) (by omega), e3]; omega) c_241
        refine lv_iconst (v := 0) hx hb dX2_spread_62 (by decide) ?_
        exact r_int hx hb hr hlk hW (by rw [← hF, hj0]; exact ⟨rfl, hR⟩) (Nat.le_of_ble_eq_true rfl) (Nat.le_of_ble_eq_true rfl) dX2_spread_63
      · skip
        have c_241 := Int32.not_le.mp c_241
        have hj1 : j < ix (r 3 i) := by
          rw [← nI_ix (hR.2.2.2.1 i hi).2.2.1, nI_ltI (by omega) (by omega)] at c_241
          exact c_241
        obtain ⟨q2, rfl⟩ : ∃ q2, q = q2 + 1 := ⟨q - 1, by omega⟩
        refine lv_aload_n hx hb dX2_spread_11 rfl (lv_at hl 1 rfl) ?_
        refine lv_aload_n hx hb dX2_spread_12 rfl (lv_at hl 3 rfl) ?_
        refine hm_get hx hb hts hown hK hW hR hi 4 (by decide) fl_RX2_45 (v := .ref (pa i)) rfl dX2_spread_13 ?_
        refine lv_iload_n hx hb dX2_spread_16 rfl (lv_at hl 0 rfl) ?_
        have ej : ix (nI j) = j := nI_clamp (by omega)
        refine hp_ald hx hb hK hW hR hi (nI_pos (by omega)) (by rw [ej]; exact hj1) dX2_spread_17 ?_
        rw [ej]
        refine c_virt (own := RX2) (As := [.int (r 4 (8 * i + j))]) (rest := []) hx hb hml hown hts hK hW (k_X2_messageAt l hR (r 4 (8 * i + j))) ml_RX2_33 im_yX2_messageAt se_yX2_messageAt in_RX2 cd_yX2_messageAt 1 (by decide +kernel) ⟨show 0 + 1 ≤ 4 * n + 7 from by omega, show 8 + (2 + 11) + (0) ≤ 120 * n + 230 from by omega⟩ hR.1 rfl rfl rfl hl.1 rfl (Nat.le_of_ble_eq_true rfl) dX2_spread_18 ⟨Nat.le_of_ble_eq_true rfl, Nat.le_of_ble_eq_true rfl⟩ (fun v g2 H1 locs1 hp hW hKT => ?_)
        obtain ⟨hp, hg⟩ := hp
        rw [hg] at hW
        rcases hp with ⟨em_242, rfl⟩ | ⟨em_243, rfl⟩
        · skip
          have ho_245 : r 4 (8 * i + j) = -1 := ((hIV.2.2.1 i hi).2.2.2.2 (by rw [hOK.2.1 0 (by omega), hOK.2.1 1 (by omega)]; exact hfig) j hj1).resolve_right (by rw [em_242]; simp)
          refine W.eq (g2 := F0 m 21 ls [.null]) rfl ?_
          refine lv_astoreN (lv' := [(4, .null), (3, .int (nI j)), (0, .ref (x)), (1, .ref (ka k)), (2, .ref (ma i))]) hx hb dX2_spread_21 hl (by decide) rfl (fun ls hl => ?_)
          refine lv_aloadN hx hb dX2_spread_23 (lv_at hl 0 rfl) ?_
          refine lv_ifnonnullN hx hb dX2_spread_25 ?_
          refine lv_goto (tgt := 56) hx hb dX2_spread_28 (by decide) ?_
          refine lv_iinc (v := (nI j) + (1)) (lv' := [(3, .int ((nI j) + (1))), (4, .null), (0, .ref (x)), (1, .ref (ka k)), (2, .ref (ma i))]) hx hb dX2_spread_56 hl (k := 1) rfl rfl (by decide) rfl (fun ls hl => ?_)
          refine lv_goto (tgt := 2) hx hb dX2_spread_59 (by decide) ?_
          have e5 : spreadF (carryF n) i (q2 + 1) j r = spreadF (carryF n) i q2 (j + 1) (r) := by
            simp only [spreadF]
            simp [c_241, em_242, ho_245]
          exact ih q2 (by omega) (j + 1) _ _ hOK (by omega) (by rw [← e5]; exact hF) hR _ _ _ hW (by rw [← nI_1]; exact lv_sub hl [0, 2, 3, 4] rfl)
        · skip
          have hi_244 := isMb_lt em_243
          have nhi_244 := isMb_ne em_243
          refine W.eq (g2 := F0 m 21 ls [.ref (ma (ix (r 4 (8 * i + j))))]) rfl ?_
          refine lv_astore (lv' := [(4, .ref (ma (ix (r 4 (8 * i + j))))), (3, .int (nI j)), (0, .ref (x)), (1, .ref (ka k)), (2, .ref (ma i))]) hx hb dX2_spread_21 hl (by decide) rfl (fun ls hl => ?_)
          refine lv_aload hx hb dX2_spread_23 (lv_at hl 0 rfl) ?_
          refine lv_ifnonnull (tgt := 31) hx hb dX2_spread_25 (by decide) ?_
          refine lv_aload_n hx hb dX2_spread_31 rfl (lv_at hl 2 rfl) ?_
          refine lv_aload hx hb dX2_spread_32 (lv_at hl 0 rfl) ?_
          refine lv_aload_n hx hb dX2_spread_34 rfl (lv_at hl 3 rfl) ?_
          refine hk_get hx hb hts hown hK hW hR hk hs 0 (by decide) fl_RX2_153 (v := .int (nI k)) rfl dX2_spread_35 ?_
          refine lv_iconst (v := 1) hx hb dX2_spread_38 (by decide) ?_
          refine lv_iadd hx hb dX2_spread_39 ?_
          refine c_virt (own := RX2) (As := [.ref (ma (ix (r 4 (8 * i + j)))), .int ((nI k) + (1))]) (rest := []) hx hb hml hown hts hK hW (hC r _ (ix (r 4 (8 * i + j))) _ (by rw [nI_1]; congr 1; omega) hR hIV hi_244) ml_RX2_120 im_yX2_carry se_yX2_carry in_RX2 cd_yX2_carry 2 (by decide +kernel) ⟨show 4 * n + 6 + 1 ≤ 4 * n + 7 from by omega, show 8 + (6 + 11) + (120 * n + 200) ≤ 120 * n + 230 from by omega⟩ hR.1 rfl rfl rfl hl.1 rfl (Nat.le_of_ble_eq_true rfl) dX2_spread_40 ⟨Nat.le_of_ble_eq_true rfl, Nat.le_of_ble_eq_true rfl⟩ (fun v g2 H1 locs1 hp hW hKT => ?_)
          obtain ⟨rfl, hR⟩ := hp
          refine W.eq (g2 := F0 m 43 ls [.int ((carryF n r (ix (r 4 (8 * i + j)))).2)]) rfl ?_
          refine c_stat (own := RX2) (As := [.int ((carryF n r (ix (r 4 (8 * i + j)))).2)]) (rest := []) hx hb hml hown hts hK hW (k_X2_failureOf l _) ml_RX2_187 st_yX2_failureOf in_RX2 cd_yX2_failureOf 1 (by decide +kernel) ⟨show 0 + 1 ≤ 4 * n + 7 from by omega, show 8 + (1 + 11) + (0) ≤ 120 * n + 230 from by omega⟩ rfl hl.1 rfl (Nat.le_of_ble_eq_true rfl) dX2_spread_43 ⟨Nat.le_of_ble_eq_true rfl, Nat.le_of_ble_eq_true rfl⟩ (fun v g2 H1 locs1 hp hW hKT => ?_)
          obtain ⟨rfl, hg⟩ := hp
          rw [hg] at hW
          refine W.eq (g2 := F0 m 46 ls [.int (failI ((carryF n r (ix (r 4 (8 * i + j)))).2))]) rfl ?_
          refine lv_istore (lv' := [(5, .int (failI ((carryF n r (ix (r 4 (8 * i + j)))).2))), (4, .ref (ma (ix (r 4 (8 * i + j))))), (3, .int (nI j)), (0, .ref (x)), (1, .ref (ka k)), (2, .ref (ma i))]) hx hb dX2_spread_46 hl (by decide) rfl (fun ls hl => ?_)
          refine lv_iload hx hb dX2_spread_48 (lv_at hl 0 rfl) ?_
          refine lv_if_eq (tgt := 56) hx hb dX2_spread_50 (by decide) (fun c_246 => ?_) (fun c_246 => ?_)
          · skip
            refine lv_iinc (v := (nI j) + (1)) (lv' := [(3, .int ((nI j) + (1))), (5, .int (failI ((carryF n r (ix (r 4 (8 * i + j)))).2))), (4, .ref (ma (ix (r 4 (8 * i + j))))), (0, .ref (x)), (1, .ref (ka k)), (2, .ref (ma i))]) hx hb dX2_spread_56 hl (k := 2) rfl rfl (by decide) rfl (fun ls hl => ?_)
            refine lv_goto (tgt := 2) hx hb dX2_spread_59 (by decide) ?_
            have e5 : spreadF (carryF n) i (q2 + 1) j r = spreadF (carryF n) i q2 (j + 1) ((carryF n r (ix (r 4 (8 * i + j)))).1) := by
              simp only [spreadF]
              simp [c_241, em_243, nhi_244, c_246]
            exact ih q2 (by omega) (j + 1) _ _ (hOK.tr (carry_ok n r _ hIV hi_244)) (by omega) (by rw [← e5]; exact hF) hR _ _ _ hW (by rw [← nI_1]; exact lv_sub hl [0, 3, 4, 5] rfl)
          · skip
            refine lv_iload hx hb dX2_spread_53 (lv_at hl 0 rfl) ?_
            exact r_int hx hb hr hlk hW (by have e1 : spreadF (carryF n) i (q2 + 1) j r = ((carryF n r (ix (r 4 (8 * i + j)))).1, failI ((carryF n r (ix (r 4 (8 * i + j)))).2)) := (by simp only [spreadF]; simp [c_241, em_243, nhi_244, c_246]); rw [← hF, e1]; exact ⟨rfl, hR⟩) (Nat.le_of_ble_eq_true rfl) (Nat.le_of_ble_eq_true rfl) dX2_spread_55
  refine lv_iconst (v := 0) hx hb dX2_spread_0 (by decide) ?_
  refine lv_istore_n (lv' := [(3, .int (0)), (0, .ref (x)), (1, .ref (ka k)), (2, .ref (ma i))]) hx hb dX2_spread_1 rfl hl (by decide) rfl (fun ls hl => ?_)
  exact loop _ 0 r0 g (OK.rf hIV) (by omega) rfl hR _ _ _ hW (lv_sub hl [0, 1, 2, 3] rfl)

set_option maxHeartbeats 4000000 in
set_option maxRecDepth 100000 in
theorem k_X2_work (l : Launch) {E : gE} {x xa xk : Nat} {ma pa ka : Nat → Nat} {r : sg} {g : gm} (hR : HR E x xa xk ma pa ka false r g) (hIV : IV r) {n k : Nat} (hnk : n + k = 7) (hk : k < 8) (hs : r 5 k ≠ 0) {i : Nat} (hi : i < nm r) (hw : fitB r i (r 10 k) (r 11 k) = true) (hC : CarryC l E x xa xk ma pa ka n) : CM l yX2_work cX2_work 3 (some .int) ({ frames := 4 * n + 8, cells := 0, slots := 0, locals := 120 * n + 260 }) E [.ref (x), .ref (ka k), .ref (ma i)] g (fun vv g' => vv = some (.int (workF (carryF n) r k i).2) ∧ HR E x xa xk ma pa ka false (workF (carryF n) r k i).1 g') := by
  refine CM.of (by decide) (Nat.le_of_ble_eq_true rfl) ?_
  intro p e s m below meth c ls hM hK hW hl
  obtain ⟨hx, hb, hr, hml, hown, hts, hlk, hnm⟩ := hM
  have hown : s.vm.findClass RX2 = some m.cls := hown
  have hl : lv_has ls 3 [(0, .ref (x)), (1, .ref (ka k)), (2, .ref (ma i))] := hl
  refine lv_aload_n hx hb dX2_work_0 rfl (lv_at hl 1 rfl) ?_
  refine hk_get hx hb hts hown hK hW hR hk hs 5 (by decide) fl_RX2_89 (v := .int (r 12 k)) rfl dX2_work_1 ?_
  by_cases c_247 : r 12 k = 0
  · skip
    refine lv_tableIn (tgt := 40) hx hb dX2_work_4 (by rw [c_247]; decide) (by rw [c_247]; decide) (by rw [c_247]; rfl) (by decide) ?_
    refine lv_aload_n hx hb dX2_work_40 rfl (lv_at hl 1 rfl) ?_
    refine lv_dup hx hb dX2_work_41 rfl ?_
    refine hk_get hx hb hts hown hK hW hR hk hs 6 (by decide) fl_RX2_92 (v := .int (r 13 k)) rfl dX2_work_42 ?_
    refine lv_aload_n hx hb dX2_work_45 rfl (lv_at hl 2 rfl) ?_
    refine c_virt (own := RX2) (As := []) (rest := [.int (r 13 k), .ref (ka k)]) hx hb hml hown hts hK hW (k_X1_weight l hR hi) ml_RX2_156 im_yX1_weight se_yX1_weight in_RX1 cd_yX1_weight 0 (by decide +kernel) ⟨show 0 + 1 ≤ 4 * n + 8 from by omega, show 8 + (1 + 11) + (0) ≤ 120 * n + 260 from by omega⟩ (hR.2.2.2.1 _ hi).1 rfl rfl rfl hl.1 rfl (Nat.le_of_ble_eq_true rfl) dX2_work_46 ⟨Nat.le_of_ble_eq_true rfl, Nat.le_of_ble_eq_true rfl⟩ (fun v g2 H1 locs1 hp hW hKT => ?_)
    obtain ⟨rfl, hg⟩ := hp
    rw [hg] at hW
    refine W.eq (g2 := F0 m 49 ls [.int (if r 1 i = 0 then 1 else r 3 i), .int (r 13 k), .ref (ka k)]) rfl ?_
    refine lv_iadd hx hb dX2_work_49 ?_
    refine hk_put 13 hx hb hts hown hK hW hR hk hs 6 (by decide) fl_RX2_92 rfl rfl rfl (by decide) (by simp [s2_a]) dX2_work_50 (fun H1 locs1 g1 hW hR => ?_)
    refine lv_iconst (v := 0) hx hb dX2_work_53 (by decide) ?_
    exact r_int hx hb hr hlk hW (by have e1 : workF (carryF n) r k i = (s2 r 13 k ((r 13 k) + (if r 1 i = 0 then 1 else r 3 i)), 0) := (by simp [workF, wt, c_247]); rw [e1]; exact ⟨rfl, hR⟩) (Nat.le_of_ble_eq_true rfl) (Nat.le_of_ble_eq_true rfl) dX2_work_54
  by_cases c_248 : r 12 k = 1
  · skip
    refine lv_tableIn (tgt := 55) hx hb dX2_work_4 (by rw [c_248]; decide) (by rw [c_248]; decide) (by rw [c_248]; rfl) (by decide) ?_
    refine lv_aload_n hx hb dX2_work_55 rfl (lv_at hl 1 rfl) ?_
    refine lv_aload_n hx hb dX2_work_56 rfl (lv_at hl 2 rfl) ?_
    refine c_stat (own := RX2) (As := [.ref (ka k), .ref (ma i)]) (rest := []) hx hb hml hown hts hK hW (k_X2_mark l hR hk hs hi) ml_RX2_160 st_yX2_mark in_RX2 cd_yX2_mark 2 (by decide +kernel) ⟨show 1 + 1 ≤ 4 * n + 8 from by omega, show 8 + (2 + 11) + (60) ≤ 120 * n + 260 from by omega⟩ rfl hl.1 rfl (Nat.le_of_ble_eq_true rfl) dX2_work_57 ⟨Nat.le_of_ble_eq_true rfl, Nat.le_of_ble_eq_true rfl⟩ (fun v g2 H1 locs1 hp hW hKT => ?_)
    obtain ⟨rfl, hR⟩ := hp
    refine W.eq (g2 := F0 m 60 ls [.int ((markF r k i).2)]) rfl ?_
    exact r_int hx hb hr hlk hW (by have e1 : workF (carryF n) r k i = ((markF r k i).1, (markF r k i).2) := (by simp [workF, wt, c_247, c_248]); rw [e1]; exact ⟨rfl, hR⟩) (Nat.le_of_ble_eq_true rfl) (Nat.le_of_ble_eq_true rfl) dX2_work_60
  by_cases c_249 : r 12 k = 2
  · skip
    refine lv_tableIn (tgt := 61) hx hb dX2_work_4 (by rw [c_249]; decide) (by rw [c_249]; decide) (by rw [c_249]; rfl) (by decide) ?_
    refine lv_aload_n hx hb dX2_work_61 rfl (lv_at hl 0 rfl) ?_
    refine lv_aload_n hx hb dX2_work_62 rfl (lv_at hl 1 rfl) ?_
    refine lv_aload_n hx hb dX2_work_63 rfl (lv_at hl 2 rfl) ?_
    refine c_virt (own := RX2) (As := [.ref (ka k), .ref (ma i)]) (rest := []) hx hb hml hown hts hK hW (k_X2_lay l hR hIV hk hs hi (w_fig hIV hk hs hw (Or.inl c_249))) ml_RX2_163 im_yX2_lay se_yX2_lay in_RX2 cd_yX2_lay 2 (by decide +kernel) ⟨show 3 + 1 ≤ 4 * n + 8 from by omega, show 8 + (4 + 11) + (120) ≤ 120 * n + 260 from by omega⟩ hR.1 rfl rfl rfl hl.1 rfl (Nat.le_of_ble_eq_true rfl) dX2_work_64 ⟨Nat.le_of_ble_eq_true rfl, Nat.le_of_ble_eq_true rfl⟩ (fun v g2 H1 locs1 hp hW hKT => ?_)
    obtain ⟨rfl, hR⟩ := hp
    refine W.eq (g2 := F0 m 67 ls [.int ((layF r k i).2)]) rfl ?_
    exact r_int hx hb hr hlk hW (by have e1 : workF (carryF n) r k i = ((layF r k i).1, (layF r k i).2) := (by simp [workF, wt, c_247, c_248, c_249]); rw [e1]; exact ⟨rfl, hR⟩) (Nat.le_of_ble_eq_true rfl) (Nat.le_of_ble_eq_true rfl) dX2_work_67
  by_cases c_250 : r 12 k = 3
  · skip
    refine lv_tableIn (tgt := 68) hx hb dX2_work_4 (by rw [c_250]; decide) (by rw [c_250]; decide) (by rw [c_250]; rfl) (by decide) ?_
    refine lv_aload_n hx hb dX2_work_68 rfl (lv_at hl 0 rfl) ?_
    refine lv_aload_n hx hb dX2_work_69 rfl (lv_at hl 1 rfl) ?_
    refine lv_aload_n hx hb dX2_work_70 rfl (lv_at hl 2 rfl) ?_
    refine c_virt (own := RX2) (As := [.ref (ka k), .ref (ma i)]) (rest := []) hx hb hml hown hts hK hW (k_X2_open l hR hIV hnk hk hs hi (w_fig hIV hk hs hw (Or.inr (Or.inl c_250))) hC) ml_RX2_166 im_yX2_open se_yX2_open in_RX2 cd_yX2_open 2 (by decide +kernel) ⟨show 4 * n + 7 + 1 ≤ 4 * n + 8 from by omega, show 8 + (4 + 11) + (120 * n + 230) ≤ 120 * n + 260 from by omega⟩ hR.1 rfl rfl rfl hl.1 rfl (Nat.le_of_ble_eq_true rfl) dX2_work_71 ⟨Nat.le_of_ble_eq_true rfl, Nat.le_of_ble_eq_true rfl⟩ (fun v g2 H1 locs1 hp hW hKT => ?_)
    obtain ⟨rfl, hR⟩ := hp
    refine W.eq (g2 := F0 m 74 ls [.int ((openF (carryF n) r k i).2)]) rfl ?_
    exact r_int hx hb hr hlk hW (by have e1 : workF (carryF n) r k i = ((openF (carryF n) r k i).1, (openF (carryF n) r k i).2) := (by simp [workF, wt, c_247, c_248, c_249, c_250]); rw [e1]; exact ⟨rfl, hR⟩) (Nat.le_of_ble_eq_true rfl) (Nat.le_of_ble_eq_true rfl) dX2_work_74
  by_cases c_251 : r 12 k = 4
  · skip
    refine lv_tableIn (tgt := 75) hx hb dX2_work_4 (by rw [c_251]; decide) (by rw [c_251]; decide) (by rw [c_251]; rfl) (by decide) ?_
    refine lv_aload_n hx hb dX2_work_75 rfl (lv_at hl 0 rfl) ?_
    refine lv_aload_n hx hb dX2_work_76 rfl (lv_at hl 1 rfl) ?_
    refine lv_aload_n hx hb dX2_work_77 rfl (lv_at hl 2 rfl) ?_
    refine c_virt (own := RX2) (As := [.ref (ka k), .ref (ma i)]) (rest := []) hx hb hml hown hts hK hW (k_X2_spread l hR hIV hnk hk hs hi (w_fig hIV hk hs hw (Or.inr (Or.inr c_251))) hC) ml_RX2_169 im_yX2_spread se_yX2_spread in_RX2 cd_yX2_spread 2 (by decide +kernel) ⟨show 4 * n + 7 + 1 ≤ 4 * n + 8 from by omega, show 8 + (6 + 11) + (120 * n + 230) ≤ 120 * n + 260 from by omega⟩ hR.1 rfl rfl rfl hl.1 rfl (Nat.le_of_ble_eq_true rfl) dX2_work_78 ⟨Nat.le_of_ble_eq_true rfl, Nat.le_of_ble_eq_true rfl⟩ (fun v g2 H1 locs1 hp hW hKT => ?_)
    obtain ⟨rfl, hR⟩ := hp
    refine W.eq (g2 := F0 m 81 ls [.int ((spreadF (carryF n) i (ix (r 3 i)) 0 r).2)]) rfl ?_
    exact r_int hx hb hr hlk hW (by have e1 : workF (carryF n) r k i = ((spreadF (carryF n) i (ix (r 3 i)) 0 r).1, (spreadF (carryF n) i (ix (r 3 i)) 0 r).2) := (by simp [workF, wt, c_247, c_248, c_249, c_250, c_251]); rw [e1]; exact ⟨rfl, hR⟩) (Nat.le_of_ble_eq_true rfl) (Nat.le_of_ble_eq_true rfl) dX2_work_81
  refine lv_tableOut (tgt := 82) hx hb dX2_work_4 (by have z0 := lv_neT (a := 0) c_247 (by decide); have z1 := lv_neT (a := 1) c_248 (by decide); have z2 := lv_neT (a := 2) c_249 (by decide); have z3 := lv_neT (a := 3) c_250 (by decide); have z4 := lv_neT (a := 4) c_251 (by decide); omega) (by decide) ?_
  refine lv_aload_n hx hb dX2_work_82 rfl (lv_at hl 1 rfl) ?_
  refine lv_aload_n hx hb dX2_work_83 rfl (lv_at hl 2 rfl) ?_
  refine hm_get hx hb hts hown hK hW hR hi 0 (by decide) fl_RX2_135 (v := .int (nI i)) rfl dX2_work_84 ?_
  refine hk_put 14 hx hb hts hown hK hW hR hk hs 7 (by decide) fl_RX2_95 rfl rfl rfl (by decide) (by simp [s2_a]) dX2_work_87 (fun H1 locs1 g1 hW hR => ?_)
  refine lv_iconst (v := 0) hx hb dX2_work_90 (by decide) ?_
  exact r_int hx hb hr hlk hW (by have e1 : workF (carryF n) r k i = (s2 r 14 k (nI i), 0) := (by simp [workF, wt, c_247, c_248, c_249, c_250, c_251]); rw [e1]; exact ⟨rfl, hR⟩) (Nat.le_of_ble_eq_true rfl) (Nat.le_of_ble_eq_true rfl) dX2_work_91

set_option maxHeartbeats 4000000 in
set_option maxRecDepth 100000 in
theorem k_X2_meet (l : Launch) {E : gE} {x xa xk : Nat} {ma pa ka : Nat → Nat} {r : sg} {g : gm} (hR : HR E x xa xk ma pa ka false r g) (hIV : IV r) {n k : Nat} (hnk : n + k = 7) (hk : k < 8) (hs : r 5 k ≠ 0) {i : Nat} (hi : i < nm r) (hC : CarryC l E x xa xk ma pa ka n) : CM l yX2_meet cX2_meet 4 (some .int) ({ frames := 4 * n + 9, cells := 0, slots := 0, locals := 120 * n + 285 }) E [.ref (x), .ref (ka k), .ref (ma i)] g (fun vv g' => vv = some (.int (meetF (carryF n) r k i).2) ∧ HR E x xa xk ma pa ka false (meetF (carryF n) r k i).1 g') := by
  refine CM.of (by decide) (Nat.le_of_ble_eq_true rfl) ?_
  intro p e s m below meth c ls hM hK hW hl
  obtain ⟨hx, hb, hr, hml, hown, hts, hlk, hnm⟩ := hM
  have hown : s.vm.findClass RX2 = some m.cls := hown
  have hl : lv_has ls 4 [(0, .ref (x)), (1, .ref (ka k)), (2, .ref (ma i))] := hl
  refine lv_aload_n hx hb dX2_meet_0 rfl (lv_at hl 0 rfl) ?_
  refine h_get hx hb hts hown hK hW hR 5 (by decide) fl_RX2_108 (v := .int (r 17 2)) rfl dX2_meet_1 ?_
  refine lv_bipush (v := 16) hx hb dX2_meet_4 (by decide) ?_
  refine lv_icmp_lt (tgt := 11) hx hb dX2_meet_6 (by decide) (fun c_252 => ?_) (fun c_252 => ?_)
  · skip
    refine lv_aload_n hx hb dX2_meet_11 rfl (lv_at hl 0 rfl) ?_
    refine lv_dup hx hb dX2_meet_12 rfl ?_
    refine h_get hx hb hts hown hK hW hR 5 (by decide) fl_RX2_108 (v := .int (r 17 2)) rfl dX2_meet_13 ?_
    refine lv_iconst (v := 1) hx hb dX2_meet_16 (by decide) ?_
    refine lv_iadd hx hb dX2_meet_17 ?_
    refine h_tput 2 hx hb hts hown hK hW hR 5 (by decide) fl_RX2_108 rfl rfl (by decide) rfl dX2_meet_18 (fun H1 locs1 g1 hW hR => ?_)
    have hR : HR E x xa xk ma pa ka false (tinc r 2) g1 := hR
    have hIV1 : IV (tinc r 2) := (OK.in hIV (by omega) _).1
    refine lv_aload_n hx hb dX2_meet_21 rfl (lv_at hl 1 rfl) ?_
    refine lv_aload_n hx hb dX2_meet_22 rfl (lv_at hl 2 rfl) ?_
    refine c_virt (own := RX2) (As := [.ref (ma i)]) (rest := []) hx hb hml hown hts hK hW (k_X0_takes l hR hk hs hi) ml_RX2_143 im_yX0_takes se_yX0_takes in_RX0 cd_yX0_takes 1 (by decide +kernel) ⟨show 2 + 1 ≤ 4 * n + 9 from by omega, show 8 + (2 + 11) + (43) ≤ 120 * n + 285 from by omega⟩ (hR.2.2.2.2.1 _ hk hs) rfl rfl rfl hl.1 rfl (Nat.le_of_ble_eq_true rfl) dX2_meet_23 ⟨Nat.le_of_ble_eq_true rfl, Nat.le_of_ble_eq_true rfl⟩ (fun v g2 H1 locs1 hp hW hKT => ?_)
    obtain ⟨rfl, hg⟩ := hp
    rw [hg] at hW
    refine W.eq (g2 := F0 m 26 ls [.int (bI (fitB (tinc r 2) i ((tinc r 2) 10 k) ((tinc r 2) 11 k)))]) rfl ?_
    refine lv_if_eq (tgt := 38) hx hb dX2_meet_26 (by decide) (fun c_253 => ?_) (fun c_253 => ?_)
    · skip
      have c_253 := (bI_eq0 _).mp c_253
      refine lv_iconst (v := 1) hx hb dX2_meet_38 (by decide) ?_
      refine lv_istore_n (lv' := [(3, .int (1)), (0, .ref (x)), (1, .ref (ka k)), (2, .ref (ma i))]) hx hb dX2_meet_39 rfl hl (by decide) rfl (fun ls hl => ?_)
      refine lv_aload_n hx hb dX2_meet_40 rfl (lv_at hl 2 rfl) ?_
      refine lv_dup hx hb dX2_meet_41 rfl ?_
      refine hk_get hx hb hts hown hK hW hR hk hs 10 (by decide) fl_RX2_124 (v := .int ((tinc r 2) 15 k)) rfl dX2_meet_42 ?_
      refine lv_iconst (v := 1) hx hb dX2_meet_45 (by decide) ?_
      refine lv_iadd hx hb dX2_meet_46 ?_
      refine hk_put 15 hx hb hts hown hK hW hR hk hs 10 (by decide) fl_RX2_124 rfl rfl rfl (by decide) (by simp [s2_a]) dX2_meet_47 (fun H1 locs1 g1 hW hR => ?_)
      have hR : HR E x xa xk ma pa ka false (metF (tinc r 2) k) g1 := hR
      refine lv_iload_n hx hb dX2_meet_50 rfl (lv_at hl 0 rfl) ?_
      refine lv_if_eq (tgt := 59) hx hb dX2_meet_51 (by decide) (fun c_254 => ?_) (fun c_254 => ?_)
      · skip
        refine lv_iload_n hx hb dX2_meet_59 rfl (lv_at hl 0 rfl) ?_
        exact r_int hx hb hr hlk hW (by have e1 : meetF (carryF n) r k i = (metF (tinc r 2) k, 1) := (by simp [meetF, overF, jobF, c_252, c_253, c_254]); rw [e1]; exact ⟨rfl, hR⟩) (Nat.le_of_ble_eq_true rfl) (Nat.le_of_ble_eq_true rfl) dX2_meet_60
      · skip
        refine lv_aload_n hx hb dX2_meet_54 rfl (lv_at hl 1 rfl) ?_
        refine lv_aload_n hx hb dX2_meet_55 rfl (lv_at hl 2 rfl) ?_
        refine c_virt (own := RX2) (As := [.ref (ka k)]) (rest := []) hx hb hml hown hts hK hW (k_X2_noteFall l hR hk hs) ml_RX2_149 im_yX2_noteFall se_yX2_noteFall in_RX2 cd_yX2_noteFall 1 (by decide +kernel) ⟨show 0 + 1 ≤ 4 * n + 9 from by omega, show 8 + (2 + 11) + (0) ≤ 120 * n + 285 from by omega⟩ hR.1 rfl rfl rfl hl.1 rfl (Nat.le_of_ble_eq_true rfl) dX2_meet_56 ⟨Nat.le_of_ble_eq_true rfl, Nat.le_of_ble_eq_true rfl⟩ (fun v g2 H1 locs1 hp hW hKT => ?_)
        obtain ⟨rfl, hR⟩ := hp
        refine W.eq (g2 := F0 m 59 ls []) rfl ?_
        refine lv_iload_n hx hb dX2_meet_59 rfl (lv_at hl 0 rfl) ?_
        exact r_int hx hb hr hlk hW (by have e1 : meetF (carryF n) r k i = (fallF (metF (tinc r 2) k) k, 1) := (by simp [meetF, overF, jobF, c_252, c_253, c_254]); rw [e1]; exact ⟨rfl, hR⟩) (Nat.le_of_ble_eq_true rfl) (Nat.le_of_ble_eq_true rfl) dX2_meet_60
    · skip
      have c_253 := bI_ne0 c_253
      refine lv_aload_n hx hb dX2_meet_29 rfl (lv_at hl 0 rfl) ?_
      refine lv_aload_n hx hb dX2_meet_30 rfl (lv_at hl 1 rfl) ?_
      refine lv_aload_n hx hb dX2_meet_31 rfl (lv_at hl 2 rfl) ?_
      refine c_virt (own := RX2) (As := [.ref (ka k), .ref (ma i)]) (rest := []) hx hb hml hown hts hK hW (k_X2_work l hR hIV1 hnk hk hs hi c_253 hC) ml_RX2_146 im_yX2_work se_yX2_work in_RX2 cd_yX2_work 2 (by decide +kernel) ⟨show 4 * n + 8 + 1 ≤ 4 * n + 9 from by omega, show 8 + (3 + 11) + (120 * n + 260) ≤ 120 * n + 285 from by omega⟩ hR.1 rfl rfl rfl hl.1 rfl (Nat.le_of_ble_eq_true rfl) dX2_meet_32 ⟨Nat.le_of_ble_eq_true rfl, Nat.le_of_ble_eq_true rfl⟩ (fun v g2 H1 locs1 hp hW hKT => ?_)
      obtain ⟨rfl, hR⟩ := hp
      refine W.eq (g2 := F0 m 35 ls [.int ((workF (carryF n) (tinc r 2) k i).2)]) rfl ?_
      have hok : OK (tinc r 2) (workF (carryF n) (tinc r 2) k i).1 := work_ok (carry_ok n) hIV1 hk hs hi c_253
      have hs2 : (workF (carryF n) (tinc r 2) k i).1 5 k ≠ 0 := by rw [hok.2.1 5 (by omega)]; exact hs
      have hi2 : i < nm (workF (carryF n) (tinc r 2) k i).1 := by rw [hok.cnt]; exact hi
      refine lv_goto (tgt := 39) hx hb dX2_meet_35 (by decide) ?_
      refine lv_istore_n (lv' := [(3, .int ((workF (carryF n) (tinc r 2) k i).2)), (0, .ref (x)), (1, .ref (ka k)), (2, .ref (ma i))]) hx hb dX2_meet_39 rfl hl (by decide) rfl (fun ls hl => ?_)
      refine lv_aload_n hx hb dX2_meet_40 rfl (lv_at hl 2 rfl) ?_
      refine lv_dup hx hb dX2_meet_41 rfl ?_
      refine hk_get hx hb hts hown hK hW hR hk hs2 10 (by decide) fl_RX2_124 (v := .int (((workF (carryF n) (tinc r 2) k i).1) 15 k)) rfl dX2_meet_42 ?_
      refine lv_iconst (v := 1) hx hb dX2_meet_45 (by decide) ?_
      refine lv_iadd hx hb dX2_meet_46 ?_
      refine hk_put 15 hx hb hts hown hK hW hR hk hs2 10 (by decide) fl_RX2_124 rfl rfl rfl (by decide) (by simp [s2_a]) dX2_meet_47 (fun H1 locs1 g1 hW hR => ?_)
      have hR : HR E x xa xk ma pa ka false (metF ((workF (carryF n) (tinc r 2) k i).1) k) g1 := hR
      refine lv_iload_n hx hb dX2_meet_50 rfl (lv_at hl 0 rfl) ?_
      refine lv_if_eq (tgt := 59) hx hb dX2_meet_51 (by decide) (fun c_255 => ?_) (fun c_255 => ?_)
      · skip
        refine lv_iload_n hx hb dX2_meet_59 rfl (lv_at hl 0 rfl) ?_
        exact r_int hx hb hr hlk hW (by have e1 : meetF (carryF n) r k i = (metF ((workF (carryF n) (tinc r 2) k i).1) k, (workF (carryF n) (tinc r 2) k i).2) := (by simp [meetF, overF, jobF, c_252, c_253, c_255]); rw [e1]; exact ⟨rfl, hR⟩) (Nat.le_of_ble_eq_true rfl) (Nat.le_of_ble_eq_true rfl) dX2_meet_60
      · skip
        refine lv_aload_n hx hb dX2_meet_54 rfl (lv_at hl 1 rfl) ?_
        refine lv_aload_n hx hb dX2_meet_55 rfl (lv_at hl 2 rfl) ?_
        refine c_virt (own := RX2) (As := [.ref (ka k)]) (rest := []) hx hb hml hown hts hK hW (k_X2_noteFall l hR hk hs2) ml_RX2_149 im_yX2_noteFall se_yX2_noteFall in_RX2 cd_yX2_noteFall 1 (by decide +kernel) ⟨show 0 + 1 ≤ 4 * n + 9 from by omega, show 8 + (2 + 11) + (0) ≤ 120 * n + 285 from by omega⟩ hR.1 rfl rfl rfl hl.1 rfl (Nat.le_of_ble_eq_true rfl) dX2_meet_56 ⟨Nat.le_of_ble_eq_true rfl, Nat.le_of_ble_eq_true rfl⟩ (fun v g2 H1 locs1 hp hW hKT => ?_)
        obtain ⟨rfl, hR⟩ := hp
        refine W.eq (g2 := F0 m 59 ls []) rfl ?_
        refine lv_iload_n hx hb dX2_meet_59 rfl (lv_at hl 0 rfl) ?_
        exact r_int hx hb hr hlk hW (by have e1 : meetF (carryF n) r k i = (fallF (metF ((workF (carryF n) (tinc r 2) k i).1) k) k, (workF (carryF n) (tinc r 2) k i).2) := (by simp [meetF, overF, jobF, c_252, c_253, c_255]); rw [e1]; exact ⟨rfl, hR⟩) (Nat.le_of_ble_eq_true rfl) (Nat.le_of_ble_eq_true rfl) dX2_meet_60
  · skip
    refine lv_iconst (v := 5) hx hb dX2_meet_9 (by decide) ?_
    exact r_int hx hb hr hlk hW (by have e1 : meetF (carryF n) r k i = (r, 5) := (by simp [meetF, overF, jobF, c_252]); rw [e1]; exact ⟨rfl, hR⟩) (Nat.le_of_ble_eq_true rfl) (Nat.le_of_ble_eq_true rfl) dX2_meet_10
