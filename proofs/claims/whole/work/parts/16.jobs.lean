theorem hasP0_t {r : sg} {i : Nat} (h : hasP r i 0 = true) : ¬ r 3 i = 0 := fun e => by
  simp [hasP, e] at h
theorem hasP_in {r : sg} {i : Nat} (hf : figB (r 0 i) (r 1 i) = false) (v : Int32) : hasP r i v = inB v (r 3 i) := by simp [hasP, inB, hf]
theorem hasP0_f {r : sg} {i : Nat} (hf : figB (r 0 i) (r 1 i) = false) (hn : ¬ r 3 i < 0) (h : hasP r i 0 = false) : r 3 i = 0 := by
  simp [hasP, hf] at h
  have h2 : (r 3 i).toInt ≤ 0 := Int32.le_iff_toInt_le.mp h
  have h3 := ix_i hn
  apply Int32.toInt_inj.mp
  show (r 3 i).toInt = 0
  omega
theorem isCb_N {r : sg} {k : Nat} (hk : k < 8) : isCb r (nI k) = (r 5 k != 0) := by
  have h1 : ¬ nI k < 0 := nI_pos (by omega)
  have h2 : nI k < 8 := (nI_ltI (b := 8) (by omega) (by decide)).mpr hk
  simp only [isCb, h1, h2, ix, nI_clamp (show k < 2 ^ 31 by omega)]
  simp

set_option maxHeartbeats 4000000 in
set_option maxRecDepth 100000 in
theorem k_X2_markedStamp (l : Launch) {E : gE} {x xa xk : Nat} {ma pa ka : Nat → Nat} {z : Bool} {r : sg} {g : gm} (hR : HR E x xa xk ma pa ka z r g) {k : Nat} (hk : k < 8) (hs : r 5 k ≠ 0) {i : Nat} (hi : i < nm r) : CM l yX2_markedStamp cX2_markedStamp 2 (some .int) ({ frames := 0, cells := 0, slots := 0, locals := 0 }) E [.ref (ka k), .ref (ma i)] g (fun vv g' => vv = some (.int (markS r k i)) ∧ g' = g) := by
  refine CM.of (by decide) (Nat.le_of_ble_eq_true rfl) ?_
  intro p e s m below meth c ls hM hK hW hl
  obtain ⟨hx, hb, hr, hml, hown, hts, hlk, hnm⟩ := hM
  have hown : s.vm.findClass RX2 = some m.cls := hown
  have hl : lv_has ls 2 [(0, .ref (ka k)), (1, .ref (ma i))] := hl
  refine lv_aload_n hx hb dX2_markedStamp_0 rfl (lv_at hl 0 rfl) ?_
  refine hk_get hx hb hts hown hK hW hR hk hs 3 (by decide) fl_RX2_181 (v := .int (r 10 k)) rfl dX2_markedStamp_1 ?_
  refine lv_iconst (v := 3) hx hb dX2_markedStamp_4 (by decide) ?_
  refine lv_icmp_ne (tgt := 18) hx hb dX2_markedStamp_5 (by decide) (fun c_211 => ?_) (fun c_211 => ?_)
  · skip
    refine lv_aload_n hx hb dX2_markedStamp_18 rfl (lv_at hl 1 rfl) ?_
    refine hm_get hx hb hts hown hK hW hR hi 1 (by decide) fl_RX2_69 (v := .int (r 0 i)) rfl dX2_markedStamp_19 ?_
    refine lv_iconst (v := 1) hx hb dX2_markedStamp_22 (by decide) ?_
    refine lv_icmp_ne (tgt := 35) hx hb dX2_markedStamp_23 (by decide) (fun c_212 => ?_) (fun c_212 => ?_)
    · skip
      refine lv_aload_n hx hb dX2_markedStamp_35 rfl (lv_at hl 0 rfl) ?_
      refine hk_get hx hb hts hown hK hW hR hk hs 6 (by decide) fl_RX2_92 (v := .int (r 13 k)) rfl dX2_markedStamp_36 ?_
      exact r_int hx hb hr hlk hW (by refine ⟨?_, rfl⟩; first | with_reducible rfl | (simp [bI, markS, c_211, c_212]; done) | (simp_all [bI, markS]; done)) (Nat.le_of_ble_eq_true rfl) (Nat.le_of_ble_eq_true rfl) dX2_markedStamp_39
    · skip
      refine lv_iconst (v := 2) hx hb dX2_markedStamp_26 (by decide) ?_
      refine lv_aload_n hx hb dX2_markedStamp_27 rfl (lv_at hl 0 rfl) ?_
      refine hk_get hx hb hts hown hK hW hR hk hs 6 (by decide) fl_RX2_92 (v := .int (r 13 k)) rfl dX2_markedStamp_28 ?_
      refine lv_imul hx hb dX2_markedStamp_31 ?_
      refine lv_goto (tgt := 39) hx hb dX2_markedStamp_32 (by decide) ?_
      exact r_int hx hb hr hlk hW (by refine ⟨?_, rfl⟩; first | with_reducible rfl | (simp [bI, markS, c_211, c_212]; done) | (simp_all [bI, markS]; done)) (Nat.le_of_ble_eq_true rfl) (Nat.le_of_ble_eq_true rfl) dX2_markedStamp_39
  · skip
    refine lv_aload_n hx hb dX2_markedStamp_8 rfl (lv_at hl 1 rfl) ?_
    refine hm_get hx hb hts hown hK hW hR hi 5 (by decide) fl_RX2_59 (v := .int (r 2 i)) rfl dX2_markedStamp_9 ?_
    refine lv_aload_n hx hb dX2_markedStamp_12 rfl (lv_at hl 0 rfl) ?_
    refine hk_get hx hb hts hown hK hW hR hk hs 6 (by decide) fl_RX2_92 (v := .int (r 13 k)) rfl dX2_markedStamp_13 ?_
    refine lv_isub hx hb dX2_markedStamp_16 ?_
    exact r_int hx hb hr hlk hW (by refine ⟨?_, rfl⟩; first | with_reducible rfl | (simp [bI, markS, c_211]; done) | (simp_all [bI, markS]; done)) (Nat.le_of_ble_eq_true rfl) (Nat.le_of_ble_eq_true rfl) dX2_markedStamp_17

set_option maxHeartbeats 4000000 in
set_option maxRecDepth 100000 in
theorem k_X2_mark (l : Launch) {E : gE} {x xa xk : Nat} {ma pa ka : Nat → Nat} {z : Bool} {r : sg} {g : gm} (hR : HR E x xa xk ma pa ka z r g) {k : Nat} (hk : k < 8) (hs : r 5 k ≠ 0) {i : Nat} (hi : i < nm r) : CM l yX2_mark cX2_mark 2 (some .int) ({ frames := 1, cells := 0, slots := 0, locals := 60 }) E [.ref (ka k), .ref (ma i)] g (fun vv g' => vv = some (.int (markF r k i).2) ∧ HR E x xa xk ma pa ka z (markF r k i).1 g') := by
  refine CM.of (by decide) (Nat.le_of_ble_eq_true rfl) ?_
  intro p e s m below meth c ls hM hK hW hl
  obtain ⟨hx, hb, hr, hml, hown, hts, hlk, hnm⟩ := hM
  have hown : s.vm.findClass RX2 = some m.cls := hown
  have hl : lv_has ls 2 [(0, .ref (ka k)), (1, .ref (ma i))] := hl
  refine lv_aload_n hx hb dX2_mark_0 rfl (lv_at hl 1 rfl) ?_
  refine hm_get hx hb hts hown hK hW hR hi 2 (by decide) fl_RX2_56 (v := .int (r 1 i)) rfl dX2_mark_1 ?_
  refine lv_if_ne (tgt := 18) hx hb dX2_mark_4 (by decide) (fun c_213 => ?_) (fun c_213 => ?_)
  · skip
    refine lv_aload_n hx hb dX2_mark_18 rfl (lv_at hl 1 rfl) ?_
    refine hm_get hx hb hts hown hK hW hR hi 3 (by decide) fl_RX2_175 (v := .int (bI (figB (r 0 i) (r 1 i)))) rfl dX2_mark_19 ?_
    refine lv_if_eq (tgt := 39) hx hb dX2_mark_22 (by decide) (fun c_214 => ?_) (fun c_214 => ?_)
    · skip
      have c_214 := (bI_eq0 _).mp c_214
      refine lv_aload_n hx hb dX2_mark_39 rfl (lv_at hl 1 rfl) ?_
      refine lv_iconst (v := 0) hx hb dX2_mark_40 (by decide) ?_
      refine c_virt (own := RX2) (As := [.int (0)]) (rest := []) hx hb hml hown hts hK hW (k_X1_hasMessagePlace l hR hi _) ml_RX2_37 im_yX1_hasMessagePlace se_yX1_hasMessagePlace in_RX1 cd_yX1_hasMessagePlace 1 (by decide +kernel) ⟨Nat.le_of_ble_eq_true rfl, Nat.le_of_ble_eq_true rfl⟩ (hR.2.2.2.1 _ hi).1 rfl rfl rfl hl.1 rfl (Nat.le_of_ble_eq_true rfl) dX2_mark_41 ⟨Nat.le_of_ble_eq_true rfl, Nat.le_of_ble_eq_true rfl⟩ (fun v g2 H1 locs1 hp hW hKT => ?_)
      obtain ⟨rfl, hg⟩ := hp
      rw [hg] at hW
      refine W.eq (g2 := F0 m 44 ls [.int (bI (hasP r i (0)))]) rfl ?_
      refine lv_if_ne (tgt := 49) hx hb dX2_mark_44 (by decide) (fun c_215 => ?_) (fun c_215 => ?_)
      · skip
        have c_215 := bI_ne0 c_215
        have hz_216 := hasP0_t c_215
        refine lv_aload_n hx hb dX2_mark_49 rfl (lv_at hl 1 rfl) ?_
        refine hm_get hx hb hts hown hK hW hR hi 4 (by decide) fl_RX2_45 (v := .ref (pa i)) rfl dX2_mark_50 ?_
        refine lv_iconst (v := 0) hx hb dX2_mark_53 (by decide) ?_
        refine lv_iconst (v := -1) hx hb dX2_mark_54 (by decide) ?_
        refine hp_ast hx hb hK hW hR hi (by decide) (hasP_lt c_215).2 dX2_mark_55 (fun H1 locs1 g1 hW hR => ?_)
        refine lv_iconst (v := 0) hx hb dX2_mark_56 (by decide) ?_
        exact r_int hx hb hr hlk hW (by have e1 : markF r k i = (s2 r 4 (8 * i + ix 0) (-1), 0) := (by first | (simp [markF, c_213, c_214, c_215, hz_216]; done) | (simp_all [markF]; done) | (simp [markF, c_213, c_214, c_215, hz_216]; rfl)); rw [e1]; exact ⟨rfl, hR⟩) (Nat.le_of_ble_eq_true rfl) (Nat.le_of_ble_eq_true rfl) dX2_mark_57
      · skip
        have c_215 := (bI_eq0 _).mp c_215
        have hz_217 := hasP0_f c_214 (hR.2.2.2.1 i hi).2.2.1 c_215
        refine lv_iconst (v := 2) hx hb dX2_mark_47 (by decide) ?_
        exact r_int hx hb hr hlk hW (by have e1 : markF r k i = (r, 2) := (by first | (simp [markF, c_213, c_214, c_215, hz_217]; done) | (simp_all [markF]; done) | (simp [markF, c_213, c_214, c_215, hz_217]; rfl)); rw [e1]; exact ⟨rfl, hR⟩) (Nat.le_of_ble_eq_true rfl) (Nat.le_of_ble_eq_true rfl) dX2_mark_48
    · skip
      have c_214 := bI_ne0 c_214
      refine lv_aload_n hx hb dX2_mark_25 rfl (lv_at hl 1 rfl) ?_
      refine lv_aload_n hx hb dX2_mark_26 rfl (lv_at hl 1 rfl) ?_
      refine lv_aload_n hx hb dX2_mark_27 rfl (lv_at hl 0 rfl) ?_
      refine hk_get hx hb hts hown hK hW hR hk hs 6 (by decide) fl_RX2_92 (v := .int (r 13 k)) rfl dX2_mark_28 ?_
      refine c_virt (own := RX2) (As := [.int (r 13 k)]) (rest := [.ref (ma i)]) hx hb hml hown hts hK hW (k_X1_lowestBits l hR hi _) ml_RX2_52 im_yX1_lowestBits se_yX1_lowestBits in_RX1 cd_yX1_lowestBits 1 (by decide +kernel) ⟨Nat.le_of_ble_eq_true rfl, Nat.le_of_ble_eq_true rfl⟩ (hR.2.2.2.1 _ hi).1 rfl rfl rfl hl.1 rfl (Nat.le_of_ble_eq_true rfl) dX2_mark_31 ⟨Nat.le_of_ble_eq_true rfl, Nat.le_of_ble_eq_true rfl⟩ (fun v g2 H1 locs1 hp hW hKT => ?_)
      obtain ⟨rfl, hg⟩ := hp
      rw [hg] at hW
      refine W.eq (g2 := F0 m 34 ls [.int (lowI (r 0 i) (r 13 k)), .ref (ma i)]) rfl ?_
      obtain ⟨b1, ⟨f, b2, b3⟩, b4, b5⟩ := hR.2.2.2.1 i hi
      refine c_virt (own := RX2) (As := [.int (lowI (r 0 i) (r 13 k))]) (rest := []) hx hb hml hown hts hK hW (k_X1_fill l b1 b2 (by omega) _) ml_RX2_178 im_yX1_fill se_yX1_fill in_RX1 cd_yX1_fill 1 (by decide +kernel) ⟨Nat.le_of_ble_eq_true rfl, Nat.le_of_ble_eq_true rfl⟩ (hR.2.2.2.1 _ hi).1 rfl rfl rfl hl.1 rfl (Nat.le_of_ble_eq_true rfl) dX2_mark_34 ⟨Nat.le_of_ble_eq_true rfl, Nat.le_of_ble_eq_true rfl⟩ (fun v g2 H1 locs1 hp hW hKT => ?_)
      obtain ⟨rfl, hg⟩ := hp
      rw [hg] at hW
      have hR := hR.row hi (r' := fillN r i (lowI (r 0 i) (r 13 k)) (ix (r 3 i))) (f' := filF f (lowI (r 0 i) (r 13 k)) (ix (r 3 i))) (fun q hq => by funext j; rw [fillN_a, if_neg (fun z9 => hq z9.1)]) (fun j hj => by rw [fillN_a, if_pos (by omega)]; simp [filF, hj]) (fun i' j hi' hj => by rw [fillN_a, if_neg (by omega)])
      refine W.eq (g2 := F0 m 37 ls []) rfl ?_
      refine lv_iconst (v := 0) hx hb dX2_mark_37 (by decide) ?_
      exact r_int hx hb hr hlk hW (by have e1 : markF r k i = (fillN r i (lowI (r 0 i) (r 13 k)) (ix (r 3 i)), 0) := (by first | (simp [markF, c_213, c_214]; done) | (simp_all [markF]; done) | (simp [markF, c_213, c_214]; rfl)); rw [e1]; exact ⟨rfl, hR⟩) (Nat.le_of_ble_eq_true rfl) (Nat.le_of_ble_eq_true rfl) dX2_mark_38
  · skip
    refine lv_aload_n hx hb dX2_mark_7 rfl (lv_at hl 1 rfl) ?_
    refine lv_aload_n hx hb dX2_mark_8 rfl (lv_at hl 0 rfl) ?_
    refine lv_aload_n hx hb dX2_mark_9 rfl (lv_at hl 1 rfl) ?_
    refine c_stat (own := RX2) (As := [.ref (ka k), .ref (ma i)]) (rest := [.ref (ma i)]) hx hb hml hown hts hK hW (k_X2_markedStamp l hR hk hs hi) ml_RX2_172 st_yX2_markedStamp in_RX2 cd_yX2_markedStamp 2 (by decide +kernel) ⟨Nat.le_of_ble_eq_true rfl, Nat.le_of_ble_eq_true rfl⟩ rfl hl.1 rfl (Nat.le_of_ble_eq_true rfl) dX2_mark_10 ⟨Nat.le_of_ble_eq_true rfl, Nat.le_of_ble_eq_true rfl⟩ (fun v g2 H1 locs1 hp hW hKT => ?_)
    obtain ⟨rfl, hg⟩ := hp
    rw [hg] at hW
    refine W.eq (g2 := F0 m 13 ls [.int (markS r k i), .ref (ma i)]) rfl ?_
    refine hm_put hx hb hts hown hK hW hR hi fl_RX2_59 dX2_mark_13 (fun H1 locs1 g1 hW hR => ?_)
    refine lv_iconst (v := 0) hx hb dX2_mark_16 (by decide) ?_
    exact r_int hx hb hr hlk hW (by have e1 : markF r k i = (s2 r 2 i (markS r k i), 0) := (by first | (simp [markF, c_213]; done) | (simp_all [markF]; done) | (simp [markF, c_213]; rfl)); rw [e1]; exact ⟨rfl, hR⟩) (Nat.le_of_ble_eq_true rfl) (Nat.le_of_ble_eq_true rfl) dX2_mark_17

set_option maxHeartbeats 4000000 in
set_option maxRecDepth 100000 in
theorem k_X2_lay (l : Launch) {E : gE} {x xa xk : Nat} {ma pa ka : Nat → Nat} {z : Bool} {r : sg} {g : gm} (hR : HR E x xa xk ma pa ka z r g) (hIV : IV r) {k : Nat} (hk : k < 8) (hs : r 5 k ≠ 0) {i : Nat} (hi : i < nm r) (hfig : figB (r 0 i) (r 1 i) = false) : CM l yX2_lay cX2_lay 4 (some .int) ({ frames := 3, cells := 0, slots := 0, locals := 120 }) E [.ref (x), .ref (ka k), .ref (ma i)] g (fun vv g' => vv = some (.int (layF r k i).2) ∧ HR E x xa xk ma pa ka z (layF r k i).1 g') := by
  refine CM.of (by decide) (Nat.le_of_ble_eq_true rfl) ?_
  intro p e s m below meth c ls hM hK hW hl
  obtain ⟨hx, hb, hr, hml, hown, hts, hlk, hnm⟩ := hM
  have hown : s.vm.findClass RX2 = some m.cls := hown
  have hl : lv_has ls 4 [(0, .ref (x)), (1, .ref (ka k)), (2, .ref (ma i))] := hl
  refine lv_aload_n hx hb dX2_lay_0 rfl (lv_at hl 0 rfl) ?_
  refine lv_aload_n hx hb dX2_lay_1 rfl (lv_at hl 1 rfl) ?_
  refine hk_get hx hb hts hown hK hW hR hk hs 7 (by decide) fl_RX2_95 (v := .int (r 14 k)) rfl dX2_lay_2 ?_
  refine c_virt (own := RX2) (As := [.int (r 14 k)]) (rest := []) hx hb hml hown hts hK hW (k_X2_messageAt l hR (r 14 k)) ml_RX2_33 im_yX2_messageAt se_yX2_messageAt in_RX2 cd_yX2_messageAt 1 (by decide +kernel) ⟨Nat.le_of_ble_eq_true rfl, Nat.le_of_ble_eq_true rfl⟩ hR.1 rfl rfl rfl hl.1 rfl (Nat.le_of_ble_eq_true rfl) dX2_lay_5 ⟨Nat.le_of_ble_eq_true rfl, Nat.le_of_ble_eq_true rfl⟩ (fun v g2 H1 locs1 hp hW hKT => ?_)
  obtain ⟨hp, hg⟩ := hp
  rw [hg] at hW
  rcases hp with ⟨em_218, rfl⟩ | ⟨em_219, rfl⟩
  · skip
    have ho_221 : r 14 k = -1 := ((hIV.2.2.2 k hk).2.2.2 hs).1.resolve_right (by rw [em_218]; simp)
    refine W.eq (g2 := F0 m 8 ls [.null]) rfl ?_
    refine lv_astore_nN (lv' := [(3, .null), (0, .ref (x)), (1, .ref (ka k)), (2, .ref (ma i))]) hx hb dX2_lay_8 rfl hl (by decide) rfl (fun ls hl => ?_)
    refine lv_aload_nN hx hb dX2_lay_9 rfl (lv_at hl 0 rfl) ?_
    refine lv_ifnullN (tgt := 32) hx hb dX2_lay_10 (by decide) ?_
    refine lv_aload_n hx hb dX2_lay_32 rfl (lv_at hl 3 rfl) ?_
    refine lv_aload_n hx hb dX2_lay_33 rfl (lv_at hl 2 rfl) ?_
    refine hk_get hx hb hts hown hK hW hR hk hs 6 (by decide) fl_RX2_92 (v := .int (r 13 k)) rfl dX2_lay_34 ?_
    refine c_virt (own := RX2) (As := [.int (r 13 k)]) (rest := []) hx hb hml hown hts hK hW (k_X1_hasMessagePlace l hR hi _) ml_RX2_37 im_yX1_hasMessagePlace se_yX1_hasMessagePlace in_RX1 cd_yX1_hasMessagePlace 1 (by decide +kernel) ⟨Nat.le_of_ble_eq_true rfl, Nat.le_of_ble_eq_true rfl⟩ (hR.2.2.2.1 _ hi).1 rfl rfl rfl hl.1 rfl (Nat.le_of_ble_eq_true rfl) dX2_lay_37 ⟨Nat.le_of_ble_eq_true rfl, Nat.le_of_ble_eq_true rfl⟩ (fun v g2 H1 locs1 hp hW hKT => ?_)
    obtain ⟨rfl, hg⟩ := hp
    rw [hg] at hW
    refine W.eq (g2 := F0 m 40 ls [.int (bI (hasP r i (r 13 k)))]) rfl ?_
    refine lv_if_ne (tgt := 45) hx hb dX2_lay_40 (by decide) (fun c_222 => ?_) (fun c_222 => ?_)
    · skip
      have c_222 := bI_ne0 c_222
      have hz_223 := c_222
      rw [hasP_in hfig] at hz_223
      refine lv_aload_n hx hb dX2_lay_45 rfl (lv_at hl 3 rfl) ?_
      refine lv_aload_nN hx hb dX2_lay_46 rfl (lv_at hl 0 rfl) ?_
      refine c_virt (own := RX2) (As := [.null]) (rest := []) hx hb hml hown hts hK hW (k_X1_holdsN l hR hi) ml_RX2_41 im_yX1_holds se_yX1_holds in_RX1 cd_yX1_holds 1 (by decide +kernel) ⟨Nat.le_of_ble_eq_true rfl, Nat.le_of_ble_eq_true rfl⟩ (hR.2.2.2.1 _ hi).1 rfl rfl rfl hl.1 rfl (Nat.le_of_ble_eq_true rfl) dX2_lay_47 ⟨Nat.le_of_ble_eq_true rfl, Nat.le_of_ble_eq_true rfl⟩ (fun v g2 H1 locs1 hp hW hKT => ?_)
      obtain ⟨rfl, hg⟩ := hp
      rw [hg] at hW
      refine W.eq (g2 := F0 m 50 ls [.int (bI true)]) rfl ?_
      refine lv_if_ne (tgt := 55) hx hb dX2_lay_50 (by decide) (fun c_224 => ?_) (fun c_224 => ?_)
      · skip
        have c_224 := bI_ne0 c_224
        refine lv_aload_n hx hb dX2_lay_55 rfl (lv_at hl 3 rfl) ?_
        refine hm_get hx hb hts hown hK hW hR hi 4 (by decide) fl_RX2_45 (v := .ref (pa i)) rfl dX2_lay_56 ?_
        refine lv_aload_n hx hb dX2_lay_59 rfl (lv_at hl 2 rfl) ?_
        refine hk_get hx hb hts hown hK hW hR hk hs 6 (by decide) fl_RX2_92 (v := .int (r 13 k)) rfl dX2_lay_60 ?_
        refine lv_aload_n hx hb dX2_lay_63 rfl (lv_at hl 2 rfl) ?_
        refine hk_get hx hb hts hown hK hW hR hk hs 7 (by decide) fl_RX2_95 (v := .int (r 14 k)) rfl dX2_lay_64 ?_
        refine hp_ast hx hb hK hW hR hi (hasP_lt c_222).1 (hasP_lt c_222).2 dX2_lay_67 (fun H1 locs1 g1 hW hR => ?_)
        refine lv_iconst (v := 0) hx hb dX2_lay_68 (by decide) ?_
        exact r_int hx hb hr hlk hW (by have e1 : layF r k i = (s2 r 4 (8 * i + ix (r 13 k)) (r 14 k), 0) := (by first | (simp [layF, holdB, em_218, ho_221, c_222, c_224, hz_223]; done) | (simp_all [layF, holdB]; done) | (simp [layF, holdB, em_218, ho_221, c_222, c_224, hz_223]; rfl)); rw [e1]; exact ⟨rfl, hR⟩) (Nat.le_of_ble_eq_true rfl) (Nat.le_of_ble_eq_true rfl) dX2_lay_69
      · skip
        have c_224 := (bI_eq0 _).mp c_224
        refine lv_iconst (v := 3) hx hb dX2_lay_53 (by decide) ?_
        exact r_int hx hb hr hlk hW (by have e1 : layF r k i = (r, 3) := (by first | (simp [layF, holdB, em_218, ho_221, c_222, c_224, hz_223]; done) | (simp_all [layF, holdB]; done) | (simp [layF, holdB, em_218, ho_221, c_222, c_224, hz_223]; rfl)); rw [e1]; exact ⟨rfl, hR⟩) (Nat.le_of_ble_eq_true rfl) (Nat.le_of_ble_eq_true rfl) dX2_lay_54
    · skip
      have c_222 := (bI_eq0 _).mp c_222
      have hz_225 := c_222
      rw [hasP_in hfig] at hz_225
      refine lv_iconst (v := 2) hx hb dX2_lay_43 (by decide) ?_
      exact r_int hx hb hr hlk hW (by have e1 : layF r k i = (r, 2) := (by first | (simp [layF, holdB, em_218, ho_221, c_222, hz_225]; done) | (simp_all [layF, holdB]; done) | (simp [layF, holdB, em_218, ho_221, c_222, hz_225]; rfl)); rw [e1]; exact ⟨rfl, hR⟩) (Nat.le_of_ble_eq_true rfl) (Nat.le_of_ble_eq_true rfl) dX2_lay_44
  · skip
    have hi_220 := isMb_lt em_219
    have nhi_220 := isMb_ne em_219
    refine W.eq (g2 := F0 m 8 ls [.ref (ma (ix (r 14 k)))]) rfl ?_
    refine lv_astore_n (lv' := [(3, .ref (ma (ix (r 14 k)))), (0, .ref (x)), (1, .ref (ka k)), (2, .ref (ma i))]) hx hb dX2_lay_8 rfl hl (by decide) rfl (fun ls hl => ?_)
    refine lv_aload_n hx hb dX2_lay_9 rfl (lv_at hl 0 rfl) ?_
    refine lv_ifnull hx hb dX2_lay_10 ?_
    refine lv_aload_n hx hb dX2_lay_13 rfl (lv_at hl 0 rfl) ?_
    refine lv_aload_n hx hb dX2_lay_14 rfl (lv_at hl 2 rfl) ?_
    refine hk_get hx hb hts hown hK hW hR hk hs 3 (by decide) fl_RX2_181 (v := .int (r 10 k)) rfl dX2_lay_15 ?_
    refine lv_aload_n hx hb dX2_lay_18 rfl (lv_at hl 2 rfl) ?_
    refine hk_get hx hb hts hown hK hW hR hk hs 4 (by decide) fl_RX2_184 (v := .int (r 11 k)) rfl dX2_lay_19 ?_
    refine lv_iconst (v := 1) hx hb dX2_lay_22 (by decide) ?_
    refine lv_isub hx hb dX2_lay_23 ?_
    refine c_virt (own := RX2) (As := [.int (r 10 k), .int ((r 11 k) - (1))]) (rest := []) hx hb hml hown hts hK hW (k_X1_fits l hR hi_220 _ _) ml_RX2_62 im_yX1_fits se_yX1_fits in_RX1 cd_yX1_fits 2 (by decide +kernel) ⟨Nat.le_of_ble_eq_true rfl, Nat.le_of_ble_eq_true rfl⟩ (hR.2.2.2.1 _ hi_220).1 rfl rfl rfl hl.1 rfl (Nat.le_of_ble_eq_true rfl) dX2_lay_24 ⟨Nat.le_of_ble_eq_true rfl, Nat.le_of_ble_eq_true rfl⟩ (fun v g2 H1 locs1 hp hW hKT => ?_)
    obtain ⟨rfl, hg⟩ := hp
    rw [hg] at hW
    refine W.eq (g2 := F0 m 27 ls [.int (bI (fitB r (ix (r 14 k)) (r 10 k) ((r 11 k) - (1))))]) rfl ?_
    refine lv_if_ne (tgt := 32) hx hb dX2_lay_27 (by decide) (fun c_226 => ?_) (fun c_226 => ?_)
    · skip
      have c_226 := bI_ne0 c_226
      refine lv_aload_n hx hb dX2_lay_32 rfl (lv_at hl 3 rfl) ?_
      refine lv_aload_n hx hb dX2_lay_33 rfl (lv_at hl 2 rfl) ?_
      refine hk_get hx hb hts hown hK hW hR hk hs 6 (by decide) fl_RX2_92 (v := .int (r 13 k)) rfl dX2_lay_34 ?_
      refine c_virt (own := RX2) (As := [.int (r 13 k)]) (rest := []) hx hb hml hown hts hK hW (k_X1_hasMessagePlace l hR hi _) ml_RX2_37 im_yX1_hasMessagePlace se_yX1_hasMessagePlace in_RX1 cd_yX1_hasMessagePlace 1 (by decide +kernel) ⟨Nat.le_of_ble_eq_true rfl, Nat.le_of_ble_eq_true rfl⟩ (hR.2.2.2.1 _ hi).1 rfl rfl rfl hl.1 rfl (Nat.le_of_ble_eq_true rfl) dX2_lay_37 ⟨Nat.le_of_ble_eq_true rfl, Nat.le_of_ble_eq_true rfl⟩ (fun v g2 H1 locs1 hp hW hKT => ?_)
      obtain ⟨rfl, hg⟩ := hp
      rw [hg] at hW
      refine W.eq (g2 := F0 m 40 ls [.int (bI (hasP r i (r 13 k)))]) rfl ?_
      refine lv_if_ne (tgt := 45) hx hb dX2_lay_40 (by decide) (fun c_227 => ?_) (fun c_227 => ?_)
      · skip
        have c_227 := bI_ne0 c_227
        have hz_228 := c_227
        rw [hasP_in hfig] at hz_228
        refine lv_aload_n hx hb dX2_lay_45 rfl (lv_at hl 3 rfl) ?_
        refine lv_aload_n hx hb dX2_lay_46 rfl (lv_at hl 0 rfl) ?_
        refine c_virt (own := RX2) (As := [.ref (ma (ix (r 14 k)))]) (rest := []) hx hb hml hown hts hK hW (k_X1_holds l hR hi hi_220) ml_RX2_41 im_yX1_holds se_yX1_holds in_RX1 cd_yX1_holds 1 (by decide +kernel) ⟨Nat.le_of_ble_eq_true rfl, Nat.le_of_ble_eq_true rfl⟩ (hR.2.2.2.1 _ hi).1 rfl rfl rfl hl.1 rfl (Nat.le_of_ble_eq_true rfl) dX2_lay_47 ⟨Nat.le_of_ble_eq_true rfl, Nat.le_of_ble_eq_true rfl⟩ (fun v g2 H1 locs1 hp hW hKT => ?_)
        obtain ⟨rfl, hg⟩ := hp
        rw [hg] at hW
        refine W.eq (g2 := F0 m 50 ls [.int (bI (fitB r (ix (r 14 k)) (r 0 i) (r 1 i - 1)))]) rfl ?_
        refine lv_if_ne (tgt := 55) hx hb dX2_lay_50 (by decide) (fun c_229 => ?_) (fun c_229 => ?_)
        · skip
          have c_229 := bI_ne0 c_229
          refine lv_aload_n hx hb dX2_lay_55 rfl (lv_at hl 3 rfl) ?_
          refine hm_get hx hb hts hown hK hW hR hi 4 (by decide) fl_RX2_45 (v := .ref (pa i)) rfl dX2_lay_56 ?_
          refine lv_aload_n hx hb dX2_lay_59 rfl (lv_at hl 2 rfl) ?_
          refine hk_get hx hb hts hown hK hW hR hk hs 6 (by decide) fl_RX2_92 (v := .int (r 13 k)) rfl dX2_lay_60 ?_
          refine lv_aload_n hx hb dX2_lay_63 rfl (lv_at hl 2 rfl) ?_
          refine hk_get hx hb hts hown hK hW hR hk hs 7 (by decide) fl_RX2_95 (v := .int (r 14 k)) rfl dX2_lay_64 ?_
          refine hp_ast hx hb hK hW hR hi (hasP_lt c_227).1 (hasP_lt c_227).2 dX2_lay_67 (fun H1 locs1 g1 hW hR => ?_)
          refine lv_iconst (v := 0) hx hb dX2_lay_68 (by decide) ?_
          exact r_int hx hb hr hlk hW (by have e1 : layF r k i = (s2 r 4 (8 * i + ix (r 13 k)) (r 14 k), 0) := (by first | (simp [layF, holdB, em_219, nhi_220, c_226, c_227, c_229, hz_228]; done) | (simp_all [layF, holdB]; done) | (simp [layF, holdB, em_219, nhi_220, c_226, c_227, c_229, hz_228]; rfl)); rw [e1]; exact ⟨rfl, hR⟩) (Nat.le_of_ble_eq_true rfl) (Nat.le_of_ble_eq_true rfl) dX2_lay_69
        · skip
          have c_229 := (bI_eq0 _).mp c_229
          refine lv_iconst (v := 3) hx hb dX2_lay_53 (by decide) ?_
          exact r_int hx hb hr hlk hW (by have e1 : layF r k i = (r, 3) := (by first | (simp [layF, holdB, em_219, nhi_220, c_226, c_227, c_229, hz_228]; done) | (simp_all [layF, holdB]; done) | (simp [layF, holdB, em_219, nhi_220, c_226, c_227, c_229, hz_228]; rfl)); rw [e1]; exact ⟨rfl, hR⟩) (Nat.le_of_ble_eq_true rfl) (Nat.le_of_ble_eq_true rfl) dX2_lay_54
      · skip
        have c_227 := (bI_eq0 _).mp c_227
        have hz_230 := c_227
        rw [hasP_in hfig] at hz_230
        refine lv_iconst (v := 2) hx hb dX2_lay_43 (by decide) ?_
        exact r_int hx hb hr hlk hW (by have e1 : layF r k i = (r, 2) := (by first | (simp [layF, holdB, em_219, nhi_220, c_226, c_227, hz_230]; done) | (simp_all [layF, holdB]; done) | (simp [layF, holdB, em_219, nhi_220, c_226, c_227, hz_230]; rfl)); rw [e1]; exact ⟨rfl, hR⟩) (Nat.le_of_ble_eq_true rfl) (Nat.le_of_ble_eq_true rfl) dX2_lay_44
    · skip
      have c_226 := (bI_eq0 _).mp c_226
      refine lv_iconst (v := 1) hx hb dX2_lay_30 (by decide) ?_
      exact r_int hx hb hr hlk hW (by have e1 : layF r k i = (r, 1) := (by first | (simp [layF, holdB, em_219, nhi_220, c_226]; done) | (simp_all [layF, holdB]; done) | (simp [layF, holdB, em_219, nhi_220, c_226]; rfl)); rw [e1]; exact ⟨rfl, hR⟩) (Nat.le_of_ble_eq_true rfl) (Nat.le_of_ble_eq_true rfl) dX2_lay_31

set_option maxHeartbeats 4000000 in
set_option maxRecDepth 100000 in
theorem k_X2_noteFall (l : Launch) {E : gE} {x xa xk : Nat} {ma pa ka : Nat → Nat} {r : sg} {g : gm} (hR : HR E x xa xk ma pa ka false r g) {k : Nat} (hk : k < 8) (hs : r 5 k ≠ 0) : CM l yX2_noteFall cX2_noteFall 2 none ({ frames := 0, cells := 0, slots := 0, locals := 0 }) E [.ref (x), .ref (ka k)] g (fun vv g' => vv = none ∧ HR E x xa xk ma pa ka false (fallF r k) g') := by
  refine CM.of (by decide) (Nat.le_of_ble_eq_true rfl) ?_
  intro p e s m below meth c ls hM hK hW hl
  obtain ⟨hx, hb, hr, hml, hown, hts, hlk, hnm⟩ := hM
  have hown : s.vm.findClass RX2 = some m.cls := hown
  have hl : lv_has ls 2 [(0, .ref (x)), (1, .ref (ka k))] := hl
  refine lv_aload_n hx hb dX2_noteFall_0 rfl (lv_at hl 1 rfl) ?_
  refine lv_dup hx hb dX2_noteFall_1 rfl ?_
  refine hk_get hx hb hts hown hK hW hR hk hs 11 (by decide) fl_RX2_127 (v := .int (r 16 k)) rfl dX2_noteFall_2 ?_
  refine lv_iconst (v := 1) hx hb dX2_noteFall_5 (by decide) ?_
  refine lv_iadd hx hb dX2_noteFall_6 ?_
  refine hk_put 16 hx hb hts hown hK hW hR hk hs 11 (by decide) fl_RX2_127 rfl rfl rfl (by decide) (by simp [s2_a]) dX2_noteFall_7 (fun H1 locs1 g1 hW hR => ?_)
  refine lv_aload_n hx hb dX2_noteFall_10 rfl (lv_at hl 1 rfl) ?_
  refine hk_get hx hb hts hown hK hW hR hk hs 11 (by decide) fl_RX2_127 (v := .int ((s2 r 16 k ((r 16 k) + (1))) 16 k)) rfl dX2_noteFall_11 ?_
  refine lv_iconst (v := 3) hx hb dX2_noteFall_14 (by decide) ?_
  refine lv_irem hx hb dX2_noteFall_15 (by decide) ?_
  refine lv_if_ne (tgt := 24) hx hb dX2_noteFall_16 (by decide) (fun c_231 => ?_) (fun c_231 => ?_)
  · skip
    refine lv_aload_n hx hb dX2_noteFall_24 rfl (lv_at hl 0 rfl) ?_
    refine lv_dup hx hb dX2_noteFall_25 rfl ?_
    refine h_get hx hb hts hown hK hW hR 8 (by decide) fl_RX2_117 (v := .int ((s2 r 16 k ((r 16 k) + (1))) 17 5)) rfl dX2_noteFall_26 ?_
    refine lv_iconst (v := 1) hx hb dX2_noteFall_29 (by decide) ?_
    refine lv_iadd hx hb dX2_noteFall_30 ?_
    refine h_tput 5 hx hb hts hown hK hW hR 8 (by decide) fl_RX2_117 rfl rfl (by decide) rfl dX2_noteFall_31 (fun H1 locs1 g1 hW hR => ?_)
    refine lv_aload_n hx hb dX2_noteFall_34 rfl (lv_at hl 0 rfl) ?_
    refine h_get hx hb hts hown hK hW hR 9 (by decide) fl_RX2_21 (v := .int ((s2 (s2 r 16 k ((r 16 k) + (1))) 17 5 (((s2 r 16 k ((r 16 k) + (1))) 17 5) + (1))) 17 6)) rfl dX2_noteFall_35 ?_
    refine lv_iconst (v := -1) hx hb dX2_noteFall_38 (by decide) ?_
    refine lv_icmp_ne (tgt := 50) hx hb dX2_noteFall_39 (by decide) (fun c_232 => ?_) (fun c_232 => ?_)
    · skip
      exact r_void hx hb hr hlk hW (by have e2 : fall2 (fall1 r k) k = fall1 r k := if_neg c_231; have e4 : fall4 (tinc (fall1 r k) 5) k = tinc (fall1 r k) 5 := if_neg c_232; have e1 : fallF r k = s2 (s2 r 16 k ((r 16 k) + (1))) 17 5 (((s2 r 16 k ((r 16 k) + (1))) 17 5) + (1)) := (by unfold fallF; rw [e2, e4]; rfl); rw [e1]; exact ⟨rfl, hR⟩) (Nat.le_of_ble_eq_true rfl) (Nat.le_of_ble_eq_true rfl) dX2_noteFall_50
    · skip
      refine lv_aload_n hx hb dX2_noteFall_42 rfl (lv_at hl 0 rfl) ?_
      refine lv_aload_n hx hb dX2_noteFall_43 rfl (lv_at hl 1 rfl) ?_
      refine hk_get hx hb hts hown hK hW hR hk hs 0 (by decide) fl_RX2_153 (v := .int (nI k)) rfl dX2_noteFall_44 ?_
      refine h_tput 6 hx hb hts hown hK hW hR 9 (by decide) fl_RX2_21 rfl rfl (by decide) rfl dX2_noteFall_47 (fun H1 locs1 g1 hW hR => ?_)
      exact r_void hx hb hr hlk hW (by have e2 : fall2 (fall1 r k) k = fall1 r k := if_neg c_231; have e4 : fall4 (tinc (fall1 r k) 5) k = s2 (tinc (fall1 r k) 5) 17 6 (nI k) := if_pos c_232; have e1 : fallF r k = s2 (s2 (s2 r 16 k ((r 16 k) + (1))) 17 5 (((s2 r 16 k ((r 16 k) + (1))) 17 5) + (1))) 17 6 (nI k) := (by unfold fallF; rw [e2, e4]; rfl); rw [e1]; exact ⟨rfl, hR⟩) (Nat.le_of_ble_eq_true rfl) (Nat.le_of_ble_eq_true rfl) dX2_noteFall_50
  · skip
    refine lv_aload_n hx hb dX2_noteFall_19 rfl (lv_at hl 1 rfl) ?_
    refine lv_iconst (v := 1) hx hb dX2_noteFall_20 (by decide) ?_
    refine hk_put 6 hx hb hts hown hK hW hR hk hs 9 (by decide) fl_RX2_102 rfl rfl rfl (by decide) (by simp [s2_a]) dX2_noteFall_21 (fun H1 locs1 g1 hW hR => ?_)
    refine lv_aload_n hx hb dX2_noteFall_24 rfl (lv_at hl 0 rfl) ?_
    refine lv_dup hx hb dX2_noteFall_25 rfl ?_
    refine h_get hx hb hts hown hK hW hR 8 (by decide) fl_RX2_117 (v := .int ((s2 (s2 r 16 k ((r 16 k) + (1))) 6 k (1)) 17 5)) rfl dX2_noteFall_26 ?_
    refine lv_iconst (v := 1) hx hb dX2_noteFall_29 (by decide) ?_
    refine lv_iadd hx hb dX2_noteFall_30 ?_
    refine h_tput 5 hx hb hts hown hK hW hR 8 (by decide) fl_RX2_117 rfl rfl (by decide) rfl dX2_noteFall_31 (fun H1 locs1 g1 hW hR => ?_)
    refine lv_aload_n hx hb dX2_noteFall_34 rfl (lv_at hl 0 rfl) ?_
    refine h_get hx hb hts hown hK hW hR 9 (by decide) fl_RX2_21 (v := .int ((s2 (s2 (s2 r 16 k ((r 16 k) + (1))) 6 k (1)) 17 5 (((s2 (s2 r 16 k ((r 16 k) + (1))) 6 k (1)) 17 5) + (1))) 17 6)) rfl dX2_noteFall_35 ?_
    refine lv_iconst (v := -1) hx hb dX2_noteFall_38 (by decide) ?_
    refine lv_icmp_ne (tgt := 50) hx hb dX2_noteFall_39 (by decide) (fun c_233 => ?_) (fun c_233 => ?_)
    · skip
      exact r_void hx hb hr hlk hW (by have e2 : fall2 (fall1 r k) k = s2 (fall1 r k) 6 k 1 := if_pos c_231; have e4 : fall4 (tinc (s2 (fall1 r k) 6 k 1) 5) k = tinc (s2 (fall1 r k) 6 k 1) 5 := if_neg c_233; have e1 : fallF r k = s2 (s2 (s2 r 16 k ((r 16 k) + (1))) 6 k (1)) 17 5 (((s2 (s2 r 16 k ((r 16 k) + (1))) 6 k (1)) 17 5) + (1)) := (by unfold fallF; rw [e2, e4]; rfl); rw [e1]; exact ⟨rfl, hR⟩) (Nat.le_of_ble_eq_true rfl) (Nat.le_of_ble_eq_true rfl) dX2_noteFall_50
    · skip
      refine lv_aload_n hx hb dX2_noteFall_42 rfl (lv_at hl 0 rfl) ?_
      refine lv_aload_n hx hb dX2_noteFall_43 rfl (lv_at hl 1 rfl) ?_
      refine hk_get hx hb hts hown hK hW hR hk hs 0 (by decide) fl_RX2_153 (v := .int (nI k)) rfl dX2_noteFall_44 ?_
      refine h_tput 6 hx hb hts hown hK hW hR 9 (by decide) fl_RX2_21 rfl rfl (by decide) rfl dX2_noteFall_47 (fun H1 locs1 g1 hW hR => ?_)
      exact r_void hx hb hr hlk hW (by have e2 : fall2 (fall1 r k) k = s2 (fall1 r k) 6 k 1 := if_pos c_231; have e4 : fall4 (tinc (s2 (fall1 r k) 6 k 1) 5) k = s2 (tinc (s2 (fall1 r k) 6 k 1) 5) 17 6 (nI k) := if_pos c_233; have e1 : fallF r k = s2 (s2 (s2 (s2 r 16 k ((r 16 k) + (1))) 6 k (1)) 17 5 (((s2 (s2 r 16 k ((r 16 k) + (1))) 6 k (1)) 17 5) + (1))) 17 6 (nI k) := (by unfold fallF; rw [e2, e4]; rfl); rw [e1]; exact ⟨rfl, hR⟩) (Nat.le_of_ble_eq_true rfl) (Nat.le_of_ble_eq_true rfl) dX2_noteFall_50
