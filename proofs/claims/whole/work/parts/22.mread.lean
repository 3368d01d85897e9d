theorem nI_lit (n : Nat) : nI n = Int32.ofNat n := rfl

set_option maxHeartbeats 4000000 in
set_option maxRecDepth 100000 in
theorem k_X3_placed (l : Launch) {E : gE} {y : Nat} {ad : Nat → Nat} {r t : sg} {g : gm} (hM : MR E y ad r t g) (hIV : IV r) (a b : Int32) : CM l yX3_placed cX3_placed 3 (some .int) ({ frames := 2, cells := 0, slots := 0, locals := 43 }) E [.ref (y), .int (a), .int (b)] g (fun vv g' => vv = some (.int (Fplaced r a b)) ∧ g' = g) := by
  refine CM.of (by decide) (Nat.le_of_ble_eq_true rfl) ?_
  intro p e s m below meth c ls hM hK hW hl
  obtain ⟨hx, hb, hr, hml, hown, hts, hlk, hnm⟩ := hM
  have hown : s.vm.findClass RX3 = some m.cls := hown
  have hl : lv_has ls 3 [(0, .ref (y)), (1, .int (a)), (2, .int (b))] := hl
  refine lv_aload_n hx hb dX3_placed_0 rfl (lv_at hl 0 rfl) ?_
  refine lv_iload_n hx hb dX3_placed_1 rfl (lv_at hl 1 rfl) ?_
  refine c_virt (own := RX3) (As := [.int (a)]) (rest := []) hx hb hml hown hts hK hW (k_X3_isMessage l hM hIV.1 hIV.2.1 _) ml_RX3_97 im_yX3_isMessage se_yX3_isMessage in_RX3 cd_yX3_isMessage 1 (by decide +kernel) ⟨Nat.le_of_ble_eq_true rfl, Nat.le_of_ble_eq_true rfl⟩ hM.1 rfl rfl rfl hl.1 rfl (Nat.le_of_ble_eq_true rfl) dX3_placed_2 ⟨Nat.le_of_ble_eq_true rfl, Nat.le_of_ble_eq_true rfl⟩ (fun v g2 H1 locs1 hp hW hKT => ?_)
  obtain ⟨rfl, hg⟩ := hp
  rw [hg] at hW
  refine W.eq (g2 := F0 m 5 ls [.int (bI (isMb r (a)))]) rfl ?_
  refine lv_if_ne (tgt := 11) hx hb dX3_placed_5 (by decide) (fun c_319 => ?_) (fun c_319 => ?_)
  · skip
    have c_319 := bI_ne0 c_319
    have hb_320 : ix (a) < 60 := by have := isMb_lt c_319; have := hIV.2.1; omega
    have hm := hIV.2.2.1 _ (isMb_lt c_319)
    refine lv_aload_n hx hb dX3_placed_11 rfl (lv_at hl 0 rfl) ?_
    refine lv_iload_n hx hb dX3_placed_12 rfl (lv_at hl 1 rfl) ?_
    refine c_virt (own := RX3) (As := [.int (a)]) (rest := []) hx hb hml hown hts hK hW (k_X3_isBundle l hM (i := ix (a)) ((nI_ix (isMb_nn c_319)).symm) (by omega)) ml_RX3_100 im_yX3_isBundle se_yX3_isBundle in_RX3 cd_yX3_isBundle 1 (by decide +kernel) ⟨Nat.le_of_ble_eq_true rfl, Nat.le_of_ble_eq_true rfl⟩ hM.1 rfl rfl rfl hl.1 rfl (Nat.le_of_ble_eq_true rfl) dX3_placed_13 ⟨Nat.le_of_ble_eq_true rfl, Nat.le_of_ble_eq_true rfl⟩ (fun v g2 H1 locs1 hp hW hKT => ?_)
    obtain ⟨rfl, hg⟩ := hp
    rw [hg] at hW
    refine W.eq (g2 := F0 m 16 ls [.int (bI (bunB r (ix (a))))]) rfl ?_
    refine lv_if_eq (tgt := 49) hx hb dX3_placed_16 (by decide) (fun c_321 => ?_) (fun c_321 => ?_)
    · skip
      have c_321 := (bI_eq0 _).mp c_321
      refine lv_bipush (v := -5) hx hb dX3_placed_49 (by decide) ?_
      exact r_int hx hb hr hlk hW (by refine ⟨?_, rfl⟩; simp only [Fplaced, ← place_eq hm]; simp [c_319, c_321]) (Nat.le_of_ble_eq_true rfl) (Nat.le_of_ble_eq_true rfl) dX3_placed_51
    · skip
      have c_321 := bI_ne0 c_321
      refine lv_iload_n hx hb dX3_placed_19 rfl (lv_at hl 2 rfl) ?_
      refine lv_iconst (v := 0) hx hb dX3_placed_20 (by decide) ?_
      refine lv_aload_n hx hb dX3_placed_21 rfl (lv_at hl 0 rfl) ?_
      refine m_get hx hb hts hown hK hW hM 4 (by decide) fl_RX3_19 (v := .ref (ad 3)) rfl dX3_placed_22 ?_
      refine lv_iload_n hx hb dX3_placed_25 rfl (lv_at hl 1 rfl) ?_
      refine m_iald 3 (j := ix (a)) (v := r 3 (ix (a))) hx hb hK hW hM (by decide) rfl ((nI_ix (isMb_nn c_319)).symm) (show ix (a) < 60 from by omega) rfl dX3_placed_26 ?_
      refine lv_iconst (v := 1) hx hb dX3_placed_27 (by decide) ?_
      refine lv_isub hx hb dX3_placed_28 ?_
      refine c_stat (own := RX3) (As := [.int (b), .int (0), .int ((r 3 (ix (a))) - (1))]) (rest := []) hx hb hml hown hts hK hW (k_X3_in l _ _ _) ml_RX3_78 st_yX3_in in_RX3 cd_yX3_in 3 (by decide +kernel) ⟨Nat.le_of_ble_eq_true rfl, Nat.le_of_ble_eq_true rfl⟩ rfl hl.1 rfl (Nat.le_of_ble_eq_true rfl) dX3_placed_29 ⟨Nat.le_of_ble_eq_true rfl, Nat.le_of_ble_eq_true rfl⟩ (fun v g2 H1 locs1 hp hW hKT => ?_)
      obtain ⟨rfl, hg⟩ := hp
      rw [hg] at hW
      refine W.eq (g2 := F0 m 32 ls [.int (bI (mIn (b) (0) ((r 3 (ix (a))) - (1))))]) rfl ?_
      refine lv_if_eq (tgt := 49) hx hb dX3_placed_32 (by decide) (fun c_322 => ?_) (fun c_322 => ?_)
      · skip
        have c_322 := (bI_eq0 _).mp c_322
        refine lv_bipush (v := -5) hx hb dX3_placed_49 (by decide) ?_
        exact r_int hx hb hr hlk hW (by refine ⟨?_, rfl⟩; simp only [Fplaced, ← place_eq hm]; simp [c_319, c_321, c_322]) (Nat.le_of_ble_eq_true rfl) (Nat.le_of_ble_eq_true rfl) dX3_placed_51
      · skip
        have c_322 := bI_ne0 c_322
        have hb_323 := inB_lt (by rw [← mIn_in hm.2.2.1 hm.2.2.2.1]; exact c_322) hm.2.2.1
        have hb_324 : ix (b) < 8 := Nat.lt_of_lt_of_le hb_323.2 hm.2.2.2.1
        refine lv_aload_n hx hb dX3_placed_35 rfl (lv_at hl 0 rfl) ?_
        refine m_get hx hb hts hown hK hW hM 5 (by decide) fl_RX3_22 (v := .ref (ad 4)) rfl dX3_placed_36 ?_
        refine lv_bipush (v := 8) hx hb dX3_placed_39 (by decide) ?_
        refine lv_iload_n hx hb dX3_placed_41 rfl (lv_at hl 1 rfl) ?_
        refine lv_imul hx hb dX3_placed_42 ?_
        refine lv_iload_n hx hb dX3_placed_43 rfl (lv_at hl 2 rfl) ?_
        refine lv_iadd hx hb dX3_placed_44 ?_
        refine m_iald 4 (j := 8 * (ix (a)) + (ix (b))) (v := r 4 (8 * (ix (a)) + (ix (b)))) hx hb hK hW hM (by decide) rfl ((it_e ((nI_ix (isMb_nn c_319)).symm) ((nI_ix hb_323.1).symm))) (show 8 * (ix (a)) + (ix (b)) < 480 from by omega) rfl dX3_placed_45 ?_
        refine lv_goto (tgt := 51) hx hb dX3_placed_46 (by decide) ?_
        exact r_int hx hb hr hlk hW (by refine ⟨?_, rfl⟩; simp only [Fplaced, ← place_eq hm]; simp [c_319, c_321, c_322]) (Nat.le_of_ble_eq_true rfl) (Nat.le_of_ble_eq_true rfl) dX3_placed_51
  · skip
    have c_319 := (bI_eq0 _).mp c_319
    refine lv_bipush (v := -2) hx hb dX3_placed_8 (by decide) ?_
    exact r_int hx hb hr hlk hW (by refine ⟨?_, rfl⟩; simp only [Fplaced]; simp [c_319]) (Nat.le_of_ble_eq_true rfl) (Nat.le_of_ble_eq_true rfl) dX3_placed_10

set_option maxHeartbeats 4000000 in
set_option maxRecDepth 100000 in
theorem k_X3_number (l : Launch) {E : gE} {y : Nat} {ad : Nat → Nat} {r t : sg} {g : gm} (hM : MR E y ad r t g) (hIV : IV r) (a b : Int32) : CM l yX3_number cX3_number 3 (some .int) ({ frames := 2, cells := 0, slots := 0, locals := 43 }) E [.ref (y), .int (a), .int (b)] g (fun vv g' => vv = some (.int (Fnumber r a b)) ∧ g' = g) := by
  refine CM.of (by decide) (Nat.le_of_ble_eq_true rfl) ?_
  intro p e s m below meth c ls hM hK hW hl
  obtain ⟨hx, hb, hr, hml, hown, hts, hlk, hnm⟩ := hM
  have hown : s.vm.findClass RX3 = some m.cls := hown
  have hl : lv_has ls 3 [(0, .ref (y)), (1, .int (a)), (2, .int (b))] := hl
  refine lv_aload_n hx hb dX3_number_0 rfl (lv_at hl 0 rfl) ?_
  refine lv_iload_n hx hb dX3_number_1 rfl (lv_at hl 1 rfl) ?_
  refine c_virt (own := RX3) (As := [.int (a)]) (rest := []) hx hb hml hown hts hK hW (k_X3_isMessage l hM hIV.1 hIV.2.1 _) ml_RX3_97 im_yX3_isMessage se_yX3_isMessage in_RX3 cd_yX3_isMessage 1 (by decide +kernel) ⟨Nat.le_of_ble_eq_true rfl, Nat.le_of_ble_eq_true rfl⟩ hM.1 rfl rfl rfl hl.1 rfl (Nat.le_of_ble_eq_true rfl) dX3_number_2 ⟨Nat.le_of_ble_eq_true rfl, Nat.le_of_ble_eq_true rfl⟩ (fun v g2 H1 locs1 hp hW hKT => ?_)
  obtain ⟨rfl, hg⟩ := hp
  rw [hg] at hW
  refine W.eq (g2 := F0 m 5 ls [.int (bI (isMb r (a)))]) rfl ?_
  refine lv_if_ne (tgt := 10) hx hb dX3_number_5 (by decide) (fun c_325 => ?_) (fun c_325 => ?_)
  · skip
    have c_325 := bI_ne0 c_325
    have hb_326 : ix (a) < 60 := by have := isMb_lt c_325; have := hIV.2.1; omega
    have hm := hIV.2.2.1 _ (isMb_lt c_325)
    refine lv_aload_n hx hb dX3_number_10 rfl (lv_at hl 0 rfl) ?_
    refine m_get hx hb hts hown hK hW hM 2 (by decide) fl_RX3_13 (v := .ref (ad 1)) rfl dX3_number_11 ?_
    refine lv_iload_n hx hb dX3_number_14 rfl (lv_at hl 1 rfl) ?_
    refine m_iald 1 (j := ix (a)) (v := r 1 (ix (a))) hx hb hK hW hM (by decide) rfl ((nI_ix (isMb_nn c_325)).symm) (show ix (a) < 60 from by omega) rfl dX3_number_15 ?_
    refine lv_if_ne (tgt := 35) hx hb dX3_number_16 (by decide) (fun c_327 => ?_) (fun c_327 => ?_)
    · skip
      refine lv_aload_n hx hb dX3_number_35 rfl (lv_at hl 0 rfl) ?_
      refine lv_iload_n hx hb dX3_number_36 rfl (lv_at hl 1 rfl) ?_
      refine c_virt (own := RX3) (As := [.int (a)]) (rest := []) hx hb hml hown hts hK hW (k_X3_isFigures l hM (i := ix (a)) ((nI_ix (isMb_nn c_325)).symm) (by omega)) ml_RX3_86 im_yX3_isFigures se_yX3_isFigures in_RX3 cd_yX3_isFigures 1 (by decide +kernel) ⟨Nat.le_of_ble_eq_true rfl, Nat.le_of_ble_eq_true rfl⟩ hM.1 rfl rfl rfl hl.1 rfl (Nat.le_of_ble_eq_true rfl) dX3_number_37 ⟨Nat.le_of_ble_eq_true rfl, Nat.le_of_ble_eq_true rfl⟩ (fun v g2 H1 locs1 hp hW hKT => ?_)
      obtain ⟨rfl, hg⟩ := hp
      rw [hg] at hW
      refine W.eq (g2 := F0 m 40 ls [.int (bI (figB (r 0 (ix (a))) (r 1 (ix (a)))))]) rfl ?_
      refine lv_if_eq (tgt := 73) hx hb dX3_number_40 (by decide) (fun c_328 => ?_) (fun c_328 => ?_)
      · skip
        have c_328 := (bI_eq0 _).mp c_328
        refine lv_iconst (v := 0) hx hb dX3_number_73 (by decide) ?_
        exact r_int hx hb hr hlk hW (by refine ⟨?_, rfl⟩; simp only [Fnumber, ← num_eq hm]; simp [c_325, c_327, c_328]) (Nat.le_of_ble_eq_true rfl) (Nat.le_of_ble_eq_true rfl) dX3_number_74
      · skip
        have c_328 := bI_ne0 c_328
        refine lv_iload_n hx hb dX3_number_43 rfl (lv_at hl 2 rfl) ?_
        refine lv_iconst (v := 0) hx hb dX3_number_44 (by decide) ?_
        refine lv_aload_n hx hb dX3_number_45 rfl (lv_at hl 0 rfl) ?_
        refine m_get hx hb hts hown hK hW hM 4 (by decide) fl_RX3_19 (v := .ref (ad 3)) rfl dX3_number_46 ?_
        refine lv_iload_n hx hb dX3_number_49 rfl (lv_at hl 1 rfl) ?_
        refine m_iald 3 (j := ix (a)) (v := r 3 (ix (a))) hx hb hK hW hM (by decide) rfl ((nI_ix (isMb_nn c_325)).symm) (show ix (a) < 60 from by omega) rfl dX3_number_50 ?_
        refine lv_iconst (v := 1) hx hb dX3_number_51 (by decide) ?_
        refine lv_isub hx hb dX3_number_52 ?_
        refine c_stat (own := RX3) (As := [.int (b), .int (0), .int ((r 3 (ix (a))) - (1))]) (rest := []) hx hb hml hown hts hK hW (k_X3_in l _ _ _) ml_RX3_78 st_yX3_in in_RX3 cd_yX3_in 3 (by decide +kernel) ⟨Nat.le_of_ble_eq_true rfl, Nat.le_of_ble_eq_true rfl⟩ rfl hl.1 rfl (Nat.le_of_ble_eq_true rfl) dX3_number_53 ⟨Nat.le_of_ble_eq_true rfl, Nat.le_of_ble_eq_true rfl⟩ (fun v g2 H1 locs1 hp hW hKT => ?_)
        obtain ⟨rfl, hg⟩ := hp
        rw [hg] at hW
        refine W.eq (g2 := F0 m 56 ls [.int (bI (mIn (b) (0) ((r 3 (ix (a))) - (1))))]) rfl ?_
        refine lv_if_eq (tgt := 73) hx hb dX3_number_56 (by decide) (fun c_329 => ?_) (fun c_329 => ?_)
        · skip
          have c_329 := (bI_eq0 _).mp c_329
          refine lv_iconst (v := 0) hx hb dX3_number_73 (by decide) ?_
          exact r_int hx hb hr hlk hW (by refine ⟨?_, rfl⟩; simp only [Fnumber, ← num_eq hm]; simp [c_325, c_327, c_328, c_329]) (Nat.le_of_ble_eq_true rfl) (Nat.le_of_ble_eq_true rfl) dX3_number_74
        · skip
          have c_329 := bI_ne0 c_329
          have hb_330 := inB_lt (by rw [← mIn_in hm.2.2.1 hm.2.2.2.1]; exact c_329) hm.2.2.1
          have hb_331 : ix (b) < 8 := Nat.lt_of_lt_of_le hb_330.2 hm.2.2.2.1
          refine lv_aload_n hx hb dX3_number_59 rfl (lv_at hl 0 rfl) ?_
          refine m_get hx hb hts hown hK hW hM 5 (by decide) fl_RX3_22 (v := .ref (ad 4)) rfl dX3_number_60 ?_
          refine lv_bipush (v := 8) hx hb dX3_number_63 (by decide) ?_
          refine lv_iload_n hx hb dX3_number_65 rfl (lv_at hl 1 rfl) ?_
          refine lv_imul hx hb dX3_number_66 ?_
          refine lv_iload_n hx hb dX3_number_67 rfl (lv_at hl 2 rfl) ?_
          refine lv_iadd hx hb dX3_number_68 ?_
          refine m_iald 4 (j := 8 * (ix (a)) + (ix (b))) (v := r 4 (8 * (ix (a)) + (ix (b)))) hx hb hK hW hM (by decide) rfl ((it_e ((nI_ix (isMb_nn c_325)).symm) ((nI_ix hb_330.1).symm))) (show 8 * (ix (a)) + (ix (b)) < 480 from by omega) rfl dX3_number_69 ?_
          refine lv_goto (tgt := 74) hx hb dX3_number_70 (by decide) ?_
          exact r_int hx hb hr hlk hW (by refine ⟨?_, rfl⟩; simp only [Fnumber, ← num_eq hm]; simp [c_325, c_327, c_328, c_329]) (Nat.le_of_ble_eq_true rfl) (Nat.le_of_ble_eq_true rfl) dX3_number_74
    · skip
      refine lv_iload_n hx hb dX3_number_19 rfl (lv_at hl 2 rfl) ?_
      refine lv_iconst (v := -1) hx hb dX3_number_20 (by decide) ?_
      refine lv_icmp_ne (tgt := 33) hx hb dX3_number_21 (by decide) (fun c_332 => ?_) (fun c_332 => ?_)
      · skip
        refine lv_iconst (v := 0) hx hb dX3_number_33 (by decide) ?_
        exact r_int hx hb hr hlk hW (by refine ⟨?_, rfl⟩; simp only [Fnumber, ← num_eq hm]; simp [c_325, c_327, c_332]) (Nat.le_of_ble_eq_true rfl) (Nat.le_of_ble_eq_true rfl) dX3_number_34
      · skip
        refine lv_aload_n hx hb dX3_number_24 rfl (lv_at hl 0 rfl) ?_
        refine m_get hx hb hts hown hK hW hM 3 (by decide) fl_RX3_16 (v := .ref (ad 2)) rfl dX3_number_25 ?_
        refine lv_iload_n hx hb dX3_number_28 rfl (lv_at hl 1 rfl) ?_
        refine m_iald 2 (j := ix (a)) (v := r 2 (ix (a))) hx hb hK hW hM (by decide) rfl ((nI_ix (isMb_nn c_325)).symm) (show ix (a) < 60 from by omega) rfl dX3_number_29 ?_
        refine lv_goto (tgt := 34) hx hb dX3_number_30 (by decide) ?_
        exact r_int hx hb hr hlk hW (by refine ⟨?_, rfl⟩; simp only [Fnumber, ← num_eq hm]; simp [c_325, c_327, c_332]) (Nat.le_of_ble_eq_true rfl) (Nat.le_of_ble_eq_true rfl) dX3_number_34
  · skip
    have c_325 := (bI_eq0 _).mp c_325
    refine lv_iconst (v := 0) hx hb dX3_number_8 (by decide) ?_
    exact r_int hx hb hr hlk hW (by refine ⟨?_, rfl⟩; simp only [Fnumber]; simp [c_325]) (Nat.le_of_ble_eq_true rfl) (Nat.le_of_ble_eq_true rfl) dX3_number_9

set_option maxHeartbeats 4000000 in
set_option maxRecDepth 100000 in
theorem k_X3_is (l : Launch) {E : gE} {y : Nat} {ad : Nat → Nat} {r t : sg} {g : gm} (hM : MR E y ad r t g) (hIV : IV r) (a b d : Int32) : CM l yX3_is cX3_is 4 (some .int) ({ frames := 2, cells := 0, slots := 0, locals := 44 }) E [.ref (y), .int (a), .int (b), .int (d)] g (fun vv g' => vv = some (.int (Fis r a b d)) ∧ g' = g) := by
  refine CM.of (by decide) (Nat.le_of_ble_eq_true rfl) ?_
  intro p e s m below meth c ls hM hK hW hl
  obtain ⟨hx, hb, hr, hml, hown, hts, hlk, hnm⟩ := hM
  have hown : s.vm.findClass RX3 = some m.cls := hown
  have hl : lv_has ls 4 [(0, .ref (y)), (1, .int (a)), (2, .int (b)), (3, .int (d))] := hl
  refine lv_aload_n hx hb dX3_is_0 rfl (lv_at hl 0 rfl) ?_
  refine lv_iload_n hx hb dX3_is_1 rfl (lv_at hl 1 rfl) ?_
  refine c_virt (own := RX3) (As := [.int (a)]) (rest := []) hx hb hml hown hts hK hW (k_X3_isMessage l hM hIV.1 hIV.2.1 _) ml_RX3_97 im_yX3_isMessage se_yX3_isMessage in_RX3 cd_yX3_isMessage 1 (by decide +kernel) ⟨Nat.le_of_ble_eq_true rfl, Nat.le_of_ble_eq_true rfl⟩ hM.1 rfl rfl rfl hl.1 rfl (Nat.le_of_ble_eq_true rfl) dX3_is_2 ⟨Nat.le_of_ble_eq_true rfl, Nat.le_of_ble_eq_true rfl⟩ (fun v g2 H1 locs1 hp hW hKT => ?_)
  obtain ⟨rfl, hg⟩ := hp
  rw [hg] at hW
  refine W.eq (g2 := F0 m 5 ls [.int (bI (isMb r (a)))]) rfl ?_
  refine lv_if_eq (tgt := 16) hx hb dX3_is_5 (by decide) (fun c_333 => ?_) (fun c_333 => ?_)
  · skip
    have c_333 := (bI_eq0 _).mp c_333
    refine lv_bipush (v := -2) hx hb dX3_is_16 (by decide) ?_
    exact r_int hx hb hr hlk hW (by refine ⟨?_, rfl⟩; simp [Fis, bI, c_333]) (Nat.le_of_ble_eq_true rfl) (Nat.le_of_ble_eq_true rfl) dX3_is_18
  · skip
    have c_333 := bI_ne0 c_333
    have hb_334 : ix (a) < 60 := by have := isMb_lt c_333; have := hIV.2.1; omega
    have hm := hIV.2.2.1 _ (isMb_lt c_333)
    refine lv_iload_n hx hb dX3_is_8 rfl (lv_at hl 2 rfl) ?_
    refine lv_iload_n hx hb dX3_is_9 rfl (lv_at hl 3 rfl) ?_
    refine c_stat (own := RX3) (As := [.int (b), .int (d)]) (rest := []) hx hb hml hown hts hK hW (k_X3_isView l _ _) ml_RX3_111 st_yX3_isView in_RX3 cd_yX3_isView 2 (by decide +kernel) ⟨Nat.le_of_ble_eq_true rfl, Nat.le_of_ble_eq_true rfl⟩ rfl hl.1 rfl (Nat.le_of_ble_eq_true rfl) dX3_is_10 ⟨Nat.le_of_ble_eq_true rfl, Nat.le_of_ble_eq_true rfl⟩ (fun v g2 H1 locs1 hp hW hKT => ?_)
    obtain ⟨rfl, hg⟩ := hp
    rw [hg] at hW
    refine W.eq (g2 := F0 m 13 ls [.int (bI (kindB (b) (d)))]) rfl ?_
    refine lv_if_ne (tgt := 19) hx hb dX3_is_13 (by decide) (fun c_335 => ?_) (fun c_335 => ?_)
    · skip
      have c_335 := bI_ne0 c_335
      refine lv_aload_n hx hb dX3_is_19 rfl (lv_at hl 0 rfl) ?_
      refine lv_iload_n hx hb dX3_is_20 rfl (lv_at hl 1 rfl) ?_
      refine lv_iload_n hx hb dX3_is_21 rfl (lv_at hl 2 rfl) ?_
      refine lv_iload_n hx hb dX3_is_22 rfl (lv_at hl 3 rfl) ?_
      refine c_virt (own := RX3) (As := [.int (a), .int (b), .int (d)]) (rest := []) hx hb hml hown hts hK hW (k_X3_isOf l hM (i := ix (a)) ((nI_ix (isMb_nn c_333)).symm) (by omega) _ _) ml_RX3_90 im_yX3_isOf se_yX3_isOf in_RX3 cd_yX3_isOf 3 (by decide +kernel) ⟨Nat.le_of_ble_eq_true rfl, Nat.le_of_ble_eq_true rfl⟩ hM.1 rfl rfl rfl hl.1 rfl (Nat.le_of_ble_eq_true rfl) dX3_is_23 ⟨Nat.le_of_ble_eq_true rfl, Nat.le_of_ble_eq_true rfl⟩ (fun v g2 H1 locs1 hp hW hKT => ?_)
      obtain ⟨rfl, hg⟩ := hp
      rw [hg] at hW
      refine W.eq (g2 := F0 m 26 ls [.int (bI (fitB r (ix (a)) (b) (d)))]) rfl ?_
      refine lv_if_eq (tgt := 33) hx hb dX3_is_26 (by decide) (fun c_336 => ?_) (fun c_336 => ?_)
      · skip
        have c_336 := (bI_eq0 _).mp c_336
        refine lv_iconst (v := 0) hx hb dX3_is_33 (by decide) ?_
        exact r_int hx hb hr hlk hW (by refine ⟨?_, rfl⟩; simp [Fis, bI, c_333, c_335, c_336]) (Nat.le_of_ble_eq_true rfl) (Nat.le_of_ble_eq_true rfl) dX3_is_34
      · skip
        have c_336 := bI_ne0 c_336
        refine lv_iconst (v := 1) hx hb dX3_is_29 (by decide) ?_
        refine lv_goto (tgt := 34) hx hb dX3_is_30 (by decide) ?_
        exact r_int hx hb hr hlk hW (by refine ⟨?_, rfl⟩; simp [Fis, bI, c_333, c_335, c_336]) (Nat.le_of_ble_eq_true rfl) (Nat.le_of_ble_eq_true rfl) dX3_is_34
    · skip
      have c_335 := (bI_eq0 _).mp c_335
      refine lv_bipush (v := -2) hx hb dX3_is_16 (by decide) ?_
      exact r_int hx hb hr hlk hW (by refine ⟨?_, rfl⟩; simp [Fis, bI, c_333, c_335]) (Nat.le_of_ble_eq_true rfl) (Nat.le_of_ble_eq_true rfl) dX3_is_18

set_option maxHeartbeats 4000000 in
set_option maxRecDepth 100000 in
theorem k_X3_about (l : Launch) {E : gE} {y : Nat} {ad : Nat → Nat} {r t : sg} {g : gm} (hM : MR E y ad r t g) (hIV : IV r) (a b : Int32) : CM l yX3_about cX3_about 3 (some .int) ({ frames := 2, cells := 0, slots := 0, locals := 43 }) E [.ref (y), .int (a), .int (b)] g (fun vv g' => vv = some (.int (Fabout r a b)) ∧ g' = g) := by
  refine CM.of (by decide) (Nat.le_of_ble_eq_true rfl) ?_
  intro p e s m below meth c ls hM hK hW hl
  obtain ⟨hx, hb, hr, hml, hown, hts, hlk, hnm⟩ := hM
  have hown : s.vm.findClass RX3 = some m.cls := hown
  have hl : lv_has ls 3 [(0, .ref (y)), (1, .int (a)), (2, .int (b))] := hl
  refine lv_aload_n hx hb dX3_about_0 rfl (lv_at hl 0 rfl) ?_
  refine lv_iload_n hx hb dX3_about_1 rfl (lv_at hl 1 rfl) ?_
  refine c_virt (own := RX3) (As := [.int (a)]) (rest := []) hx hb hml hown hts hK hW (k_X3_isMessage l hM hIV.1 hIV.2.1 _) ml_RX3_97 im_yX3_isMessage se_yX3_isMessage in_RX3 cd_yX3_isMessage 1 (by decide +kernel) ⟨Nat.le_of_ble_eq_true rfl, Nat.le_of_ble_eq_true rfl⟩ hM.1 rfl rfl rfl hl.1 rfl (Nat.le_of_ble_eq_true rfl) dX3_about_2 ⟨Nat.le_of_ble_eq_true rfl, Nat.le_of_ble_eq_true rfl⟩ (fun v g2 H1 locs1 hp hW hKT => ?_)
  obtain ⟨rfl, hg⟩ := hp
  rw [hg] at hW
  refine W.eq (g2 := F0 m 5 ls [.int (bI (isMb r (a)))]) rfl ?_
  refine lv_if_eq (tgt := 17) hx hb dX3_about_5 (by decide) (fun c_337 => ?_) (fun c_337 => ?_)
  · skip
    have c_337 := (bI_eq0 _).mp c_337
    refine lv_bipush (v := -2) hx hb dX3_about_17 (by decide) ?_
    exact r_int hx hb hr hlk hW (by refine ⟨?_, rfl⟩; simp [Fabout, c_337]) (Nat.le_of_ble_eq_true rfl) (Nat.le_of_ble_eq_true rfl) dX3_about_19
  · skip
    have c_337 := bI_ne0 c_337
    have hb_338 : ix (a) < 60 := by have := isMb_lt c_337; have := hIV.2.1; omega
    have hm := hIV.2.2.1 _ (isMb_lt c_337)
    refine lv_iload_n hx hb dX3_about_8 rfl (lv_at hl 2 rfl) ?_
    refine lv_iconst (v := 0) hx hb dX3_about_9 (by decide) ?_
    refine lv_iconst (v := 2) hx hb dX3_about_10 (by decide) ?_
    refine c_stat (own := RX3) (As := [.int (b), .int (0), .int (2)]) (rest := []) hx hb hml hown hts hK hW (k_X3_in l _ _ _) ml_RX3_78 st_yX3_in in_RX3 cd_yX3_in 3 (by decide +kernel) ⟨Nat.le_of_ble_eq_true rfl, Nat.le_of_ble_eq_true rfl⟩ rfl hl.1 rfl (Nat.le_of_ble_eq_true rfl) dX3_about_11 ⟨Nat.le_of_ble_eq_true rfl, Nat.le_of_ble_eq_true rfl⟩ (fun v g2 H1 locs1 hp hW hKT => ?_)
    obtain ⟨rfl, hg⟩ := hp
    rw [hg] at hW
    refine W.eq (g2 := F0 m 14 ls [.int (bI (mIn (b) (0) (2)))]) rfl ?_
    refine lv_if_ne (tgt := 20) hx hb dX3_about_14 (by decide) (fun c_339 => ?_) (fun c_339 => ?_)
    · skip
      have c_339 := bI_ne0 c_339
      have hr9 := in_t (n := 2) (by decide) c_339
      have hr9 : b = 0 ∨ b = 1 ∨ b = 2 := by
        obtain ⟨j, hj, e9⟩ := hr9
        rcases (show j = 0 ∨ j = 1 ∨ j = 2 by omega) with rfl | rfl | rfl
        all_goals (rw [e9]; simp [nI])
      refine lv_iload_n hx hb dX3_about_20 rfl (lv_at hl 2 rfl) ?_
      refine lv_if_ne (tgt := 33) hx hb dX3_about_21 (by decide) (fun c_340 => ?_) (fun c_340 => ?_)
      · skip
        refine lv_iload_n hx hb dX3_about_33 rfl (lv_at hl 2 rfl) ?_
        refine lv_iconst (v := 1) hx hb dX3_about_34 (by decide) ?_
        refine lv_icmp_ne (tgt := 47) hx hb dX3_about_35 (by decide) (fun c_341 => ?_) (fun c_341 => ?_)
        · skip
          refine lv_aload_n hx hb dX3_about_47 rfl (lv_at hl 0 rfl) ?_
          refine m_get hx hb hts hown hK hW hM 4 (by decide) fl_RX3_19 (v := .ref (ad 3)) rfl dX3_about_48 ?_
          refine lv_iload_n hx hb dX3_about_51 rfl (lv_at hl 1 rfl) ?_
          refine m_iald 3 (j := ix (a)) (v := r 3 (ix (a))) hx hb hK hW hM (by decide) rfl ((nI_ix (isMb_nn c_337)).symm) (show ix (a) < 60 from by omega) rfl dX3_about_52 ?_
          exact r_int hx hb hr hlk hW (by refine ⟨?_, rfl⟩; rcases hr9 with hr9 | hr9 | hr9 <;> simp_all [Fabout]) (Nat.le_of_ble_eq_true rfl) (Nat.le_of_ble_eq_true rfl) dX3_about_53
        · skip
          refine lv_aload_n hx hb dX3_about_38 rfl (lv_at hl 0 rfl) ?_
          refine m_get hx hb hts hown hK hW hM 2 (by decide) fl_RX3_13 (v := .ref (ad 1)) rfl dX3_about_39 ?_
          refine lv_iload_n hx hb dX3_about_42 rfl (lv_at hl 1 rfl) ?_
          refine m_iald 1 (j := ix (a)) (v := r 1 (ix (a))) hx hb hK hW hM (by decide) rfl ((nI_ix (isMb_nn c_337)).symm) (show ix (a) < 60 from by omega) rfl dX3_about_43 ?_
          refine lv_goto (tgt := 53) hx hb dX3_about_44 (by decide) ?_
          exact r_int hx hb hr hlk hW (by refine ⟨?_, rfl⟩; rcases hr9 with hr9 | hr9 | hr9 <;> simp_all [Fabout]) (Nat.le_of_ble_eq_true rfl) (Nat.le_of_ble_eq_true rfl) dX3_about_53
      · skip
        refine lv_aload_n hx hb dX3_about_24 rfl (lv_at hl 0 rfl) ?_
        refine m_get hx hb hts hown hK hW hM 1 (by decide) fl_RX3_7 (v := .ref (ad 0)) rfl dX3_about_25 ?_
        refine lv_iload_n hx hb dX3_about_28 rfl (lv_at hl 1 rfl) ?_
        refine m_iald 0 (j := ix (a)) (v := r 0 (ix (a))) hx hb hK hW hM (by decide) rfl ((nI_ix (isMb_nn c_337)).symm) (show ix (a) < 60 from by omega) rfl dX3_about_29 ?_
        refine lv_goto (tgt := 53) hx hb dX3_about_30 (by decide) ?_
        exact r_int hx hb hr hlk hW (by refine ⟨?_, rfl⟩; rcases hr9 with hr9 | hr9 | hr9 <;> simp_all [Fabout]) (Nat.le_of_ble_eq_true rfl) (Nat.le_of_ble_eq_true rfl) dX3_about_53
    · skip
      have c_339 := (bI_eq0 _).mp c_339
      have hq_342 : ¬ b = 0 := in_f (n := 2) (by decide) c_339 (j := 0) (by decide)
      have hq_343 : ¬ b = 1 := in_f (n := 2) (by decide) c_339 (j := 1) (by decide)
      have hq_344 : ¬ b = 2 := in_f (n := 2) (by decide) c_339 (j := 2) (by decide)
      refine lv_bipush (v := -2) hx hb dX3_about_17 (by decide) ?_
      exact r_int hx hb hr hlk hW (by refine ⟨?_, rfl⟩; simp [Fabout, c_337, c_339, hq_342, hq_343, hq_344]) (Nat.le_of_ble_eq_true rfl) (Nat.le_of_ble_eq_true rfl) dX3_about_19

set_option maxHeartbeats 4000000 in
set_option maxRecDepth 100000 in
theorem k_X3_told (l : Launch) {E : gE} {y : Nat} {ad : Nat → Nat} {r t : sg} {g : gm} (hM : MR E y ad r t g) (hIV : IV r) (b : Int32) : CM l yX3_told cX3_told 2 (some .int) ({ frames := 1, cells := 0, slots := 0, locals := 22 }) E [.ref (y), .int (b)] g (fun vv g' => vv = some (.int (Ftold (r 17 1 == 0) r b)) ∧ g' = g) := by
  refine CM.of (by decide) (Nat.le_of_ble_eq_true rfl) ?_
  intro p e s m below meth c ls hM hK hW hl
  obtain ⟨hx, hb, hr, hml, hown, hts, hlk, hnm⟩ := hM
  have hown : s.vm.findClass RX3 = some m.cls := hown
  have hl : lv_has ls 2 [(0, .ref (y)), (1, .int (b))] := hl
  refine lv_iload_n hx hb dX3_told_0 rfl (lv_at hl 1 rfl) ?_
  refine lv_iconst (v := 0) hx hb dX3_told_1 (by decide) ?_
  refine lv_iconst (v := 4) hx hb dX3_told_2 (by decide) ?_
  refine c_stat (own := RX3) (As := [.int (b), .int (0), .int (4)]) (rest := []) hx hb hml hown hts hK hW (k_X3_in l _ _ _) ml_RX3_78 st_yX3_in in_RX3 cd_yX3_in 3 (by decide +kernel) ⟨Nat.le_of_ble_eq_true rfl, Nat.le_of_ble_eq_true rfl⟩ rfl hl.1 rfl (Nat.le_of_ble_eq_true rfl) dX3_told_3 ⟨Nat.le_of_ble_eq_true rfl, Nat.le_of_ble_eq_true rfl⟩ (fun v g2 H1 locs1 hp hW hKT => ?_)
  obtain ⟨rfl, hg⟩ := hp
  rw [hg] at hW
  refine W.eq (g2 := F0 m 6 ls [.int (bI (mIn (b) (0) (4)))]) rfl ?_
  refine lv_if_ne (tgt := 12) hx hb dX3_told_6 (by decide) (fun c_345 => ?_) (fun c_345 => ?_)
  · skip
    have c_345 := bI_ne0 c_345
    have hr9 := in_t (n := 4) (by decide) c_345
    have hr9 : b = 0 ∨ b = 1 ∨ b = 2 ∨ b = 3 ∨ b = 4 := by
      obtain ⟨j, hj, e9⟩ := hr9
      rcases (show j = 0 ∨ j = 1 ∨ j = 2 ∨ j = 3 ∨ j = 4 by omega) with rfl | rfl | rfl | rfl | rfl
      all_goals (rw [e9]; simp [nI])
    refine lv_aload_n hx hb dX3_told_12 rfl (lv_at hl 0 rfl) ?_
    refine m_get hx hb hts hown hK hW hM 18 (by decide) fl_RX3_158 (v := .int (r 17 1)) rfl dX3_told_13 ?_
    refine lv_if_ne (tgt := 30) hx hb dX3_told_16 (by decide) (fun c_346 => ?_) (fun c_346 => ?_)
    · skip
      refine lv_iload_n hx hb dX3_told_30 rfl (lv_at hl 1 rfl) ?_
      refine lv_if_ne (tgt := 41) hx hb dX3_told_31 (by decide) (fun c_347 => ?_) (fun c_347 => ?_)
      · skip
        refine lv_iload_n hx hb dX3_told_41 rfl (lv_at hl 1 rfl) ?_
        refine lv_iconst (v := 1) hx hb dX3_told_42 (by decide) ?_
        refine lv_icmp_ne (tgt := 53) hx hb dX3_told_43 (by decide) (fun c_348 => ?_) (fun c_348 => ?_)
        · skip
          refine lv_iload_n hx hb dX3_told_53 rfl (lv_at hl 1 rfl) ?_
          refine lv_iconst (v := 2) hx hb dX3_told_54 (by decide) ?_
          refine lv_icmp_ne (tgt := 65) hx hb dX3_told_55 (by decide) (fun c_349 => ?_) (fun c_349 => ?_)
          · skip
            refine lv_iload_n hx hb dX3_told_65 rfl (lv_at hl 1 rfl) ?_
            refine lv_iconst (v := 3) hx hb dX3_told_66 (by decide) ?_
            refine lv_icmp_ne (tgt := 77) hx hb dX3_told_67 (by decide) (fun c_350 => ?_) (fun c_350 => ?_)
            · skip
              refine lv_aload_n hx hb dX3_told_77 rfl (lv_at hl 0 rfl) ?_
              refine m_get hx hb hts hown hK hW hM 23 (by decide) fl_RX3_139 (v := .int (r 17 6)) rfl dX3_told_78 ?_
              exact r_int hx hb hr hlk hW (by refine ⟨?_, rfl⟩; rcases hr9 with hr9 | hr9 | hr9 | hr9 | hr9 <;> simp_all [Ftold, tal]) (Nat.le_of_ble_eq_true rfl) (Nat.le_of_ble_eq_true rfl) dX3_told_81
            · skip
              refine lv_aload_n hx hb dX3_told_70 rfl (lv_at hl 0 rfl) ?_
              refine m_get hx hb hts hown hK hW hM 22 (by decide) fl_RX3_136 (v := .int (r 17 5)) rfl dX3_told_71 ?_
              refine lv_goto (tgt := 81) hx hb dX3_told_74 (by decide) ?_
              exact r_int hx hb hr hlk hW (by refine ⟨?_, rfl⟩; rcases hr9 with hr9 | hr9 | hr9 | hr9 | hr9 <;> simp_all [Ftold, tal]) (Nat.le_of_ble_eq_true rfl) (Nat.le_of_ble_eq_true rfl) dX3_told_81
          · skip
            refine lv_aload_n hx hb dX3_told_58 rfl (lv_at hl 0 rfl) ?_
            refine m_get hx hb hts hown hK hW hM 21 (by decide) fl_RX3_145 (v := .int (r 17 4)) rfl dX3_told_59 ?_
            refine lv_goto (tgt := 81) hx hb dX3_told_62 (by decide) ?_
            exact r_int hx hb hr hlk hW (by refine ⟨?_, rfl⟩; rcases hr9 with hr9 | hr9 | hr9 | hr9 | hr9 <;> simp_all [Ftold, tal]) (Nat.le_of_ble_eq_true rfl) (Nat.le_of_ble_eq_true rfl) dX3_told_81
        · skip
          refine lv_aload_n hx hb dX3_told_46 rfl (lv_at hl 0 rfl) ?_
          refine m_get hx hb hts hown hK hW hM 20 (by decide) fl_RX3_133 (v := .int (r 17 3)) rfl dX3_told_47 ?_
          refine lv_goto (tgt := 81) hx hb dX3_told_50 (by decide) ?_
          exact r_int hx hb hr hlk hW (by refine ⟨?_, rfl⟩; rcases hr9 with hr9 | hr9 | hr9 | hr9 | hr9 <;> simp_all [Ftold, tal]) (Nat.le_of_ble_eq_true rfl) (Nat.le_of_ble_eq_true rfl) dX3_told_81
      · skip
        refine lv_aload_n hx hb dX3_told_34 rfl (lv_at hl 0 rfl) ?_
        refine m_get hx hb hts hown hK hW hM 19 (by decide) fl_RX3_148 (v := .int (r 17 2)) rfl dX3_told_35 ?_
        refine lv_goto (tgt := 81) hx hb dX3_told_38 (by decide) ?_
        exact r_int hx hb hr hlk hW (by refine ⟨?_, rfl⟩; rcases hr9 with hr9 | hr9 | hr9 | hr9 | hr9 <;> simp_all [Ftold, tal]) (Nat.le_of_ble_eq_true rfl) (Nat.le_of_ble_eq_true rfl) dX3_told_81
    · skip
      refine lv_iload_n hx hb dX3_told_19 rfl (lv_at hl 1 rfl) ?_
      refine lv_iconst (v := 4) hx hb dX3_told_20 (by decide) ?_
      refine lv_icmp_ne (tgt := 28) hx hb dX3_told_21 (by decide) (fun c_351 => ?_) (fun c_351 => ?_)
      · skip
        refine lv_iconst (v := 0) hx hb dX3_told_28 (by decide) ?_
        exact r_int hx hb hr hlk hW (by refine ⟨?_, rfl⟩; rcases hr9 with hr9 | hr9 | hr9 | hr9 | hr9 <;> simp_all [Ftold, tal]) (Nat.le_of_ble_eq_true rfl) (Nat.le_of_ble_eq_true rfl) dX3_told_29
      · skip
        refine lv_iconst (v := -1) hx hb dX3_told_24 (by decide) ?_
        refine lv_goto (tgt := 29) hx hb dX3_told_25 (by decide) ?_
        exact r_int hx hb hr hlk hW (by refine ⟨?_, rfl⟩; rcases hr9 with hr9 | hr9 | hr9 | hr9 | hr9 <;> simp_all [Ftold, tal]) (Nat.le_of_ble_eq_true rfl) (Nat.le_of_ble_eq_true rfl) dX3_told_29
  · skip
    have c_345 := (bI_eq0 _).mp c_345
    have hq_352 : ¬ b = 0 := in_f (n := 4) (by decide) c_345 (j := 0) (by decide)
    have hq_353 : ¬ b = 1 := in_f (n := 4) (by decide) c_345 (j := 1) (by decide)
    have hq_354 : ¬ b = 2 := in_f (n := 4) (by decide) c_345 (j := 2) (by decide)
    have hq_355 : ¬ b = 3 := in_f (n := 4) (by decide) c_345 (j := 3) (by decide)
    have hq_356 : ¬ b = 4 := in_f (n := 4) (by decide) c_345 (j := 4) (by decide)
    refine lv_bipush (v := -2) hx hb dX3_told_9 (by decide) ?_
    exact r_int hx hb hr hlk hW (by refine ⟨?_, rfl⟩; simp [Ftold, tal, c_345, hq_352, hq_353, hq_354, hq_355, hq_356]) (Nat.le_of_ble_eq_true rfl) (Nat.le_of_ble_eq_true rfl) dX3_told_11

set_option maxHeartbeats 4000000 in
set_option maxRecDepth 100000 in
theorem k_X3_of (l : Launch) {E : gE} {y : Nat} {ad : Nat → Nat} {r t : sg} {g : gm} (hM : MR E y ad r t g) (hIV : IV r) (a b : Int32) : CM l yX3_of cX3_of 3 (some .int) ({ frames := 2, cells := 0, slots := 0, locals := 43 }) E [.ref (y), .int (a), .int (b)] g (fun vv g' => vv = some (.int (Fof r a b)) ∧ g' = g) := by
  refine CM.of (by decide) (Nat.le_of_ble_eq_true rfl) ?_
  intro p e s m below meth c ls hM hK hW hl
  obtain ⟨hx, hb, hr, hml, hown, hts, hlk, hnm⟩ := hM
  have hown : s.vm.findClass RX3 = some m.cls := hown
  have hl : lv_has ls 3 [(0, .ref (y)), (1, .int (a)), (2, .int (b))] := hl
  refine lv_aload_n hx hb dX3_of_0 rfl (lv_at hl 0 rfl) ?_
  refine lv_iload_n hx hb dX3_of_1 rfl (lv_at hl 1 rfl) ?_
  refine c_virt (own := RX3) (As := [.int (a)]) (rest := []) hx hb hml hown hts hK hW (k_X3_isCounter l hM _) ml_RX3_114 im_yX3_isCounter se_yX3_isCounter in_RX3 cd_yX3_isCounter 1 (by decide +kernel) ⟨Nat.le_of_ble_eq_true rfl, Nat.le_of_ble_eq_true rfl⟩ hM.1 rfl rfl rfl hl.1 rfl (Nat.le_of_ble_eq_true rfl) dX3_of_2 ⟨Nat.le_of_ble_eq_true rfl, Nat.le_of_ble_eq_true rfl⟩ (fun v g2 H1 locs1 hp hW hKT => ?_)
  obtain ⟨rfl, hg⟩ := hp
  rw [hg] at hW
  refine W.eq (g2 := F0 m 5 ls [.int (bI (isCb r (a)))]) rfl ?_
  refine lv_if_eq (tgt := 18) hx hb dX3_of_5 (by decide) (fun c_357 => ?_) (fun c_357 => ?_)
  · skip
    have c_357 := (bI_eq0 _).mp c_357
    refine lv_iconst (v := 0) hx hb dX3_of_18 (by decide) ?_
    exact r_int hx hb hr hlk hW (by refine ⟨?_, rfl⟩; simp [Fof, asI, c_357]) (Nat.le_of_ble_eq_true rfl) (Nat.le_of_ble_eq_true rfl) dX3_of_19
  · skip
    have c_357 := bI_ne0 c_357
    have hb_358 : ix (a) < 8 := isCb_lt c_357
    refine lv_iload_n hx hb dX3_of_8 rfl (lv_at hl 2 rfl) ?_
    refine lv_iconst (v := 0) hx hb dX3_of_9 (by decide) ?_
    refine lv_bipush (v := 6) hx hb dX3_of_10 (by decide) ?_
    refine c_stat (own := RX3) (As := [.int (b), .int (0), .int (6)]) (rest := []) hx hb hml hown hts hK hW (k_X3_in l _ _ _) ml_RX3_78 st_yX3_in in_RX3 cd_yX3_in 3 (by decide +kernel) ⟨Nat.le_of_ble_eq_true rfl, Nat.le_of_ble_eq_true rfl⟩ rfl hl.1 rfl (Nat.le_of_ble_eq_true rfl) dX3_of_12 ⟨Nat.le_of_ble_eq_true rfl, Nat.le_of_ble_eq_true rfl⟩ (fun v g2 H1 locs1 hp hW hKT => ?_)
    obtain ⟨rfl, hg⟩ := hp
    rw [hg] at hW
    refine W.eq (g2 := F0 m 15 ls [.int (bI (mIn (b) (0) (6)))]) rfl ?_
    refine lv_if_ne (tgt := 20) hx hb dX3_of_15 (by decide) (fun c_359 => ?_) (fun c_359 => ?_)
    · skip
      have c_359 := bI_ne0 c_359
      have hr9 := in_t (n := 6) (by decide) c_359
      have hr9 : b = 0 ∨ b = 1 ∨ b = 2 ∨ b = 3 ∨ b = 4 ∨ b = 5 ∨ b = 6 := by
        obtain ⟨j, hj, e9⟩ := hr9
        rcases (show j = 0 ∨ j = 1 ∨ j = 2 ∨ j = 3 ∨ j = 4 ∨ j = 5 ∨ j = 6 by omega) with rfl | rfl | rfl | rfl | rfl | rfl | rfl
        all_goals (rw [e9]; simp [nI])
      refine lv_iload_n hx hb dX3_of_20 rfl (lv_at hl 2 rfl) ?_
      by_cases c_360 : b = 0
      · skip
        refine lv_tableIn (tgt := 60) hx hb dX3_of_21 (by rw [c_360]; decide) (by rw [c_360]; decide) (by rw [c_360]; rfl) (by decide) ?_
        refine lv_aload_n hx hb dX3_of_60 rfl (lv_at hl 0 rfl) ?_
        refine m_get hx hb hts hown hK hW hM 14 (by decide) fl_RX3_50 (v := .ref (ad 13)) rfl dX3_of_61 ?_
        refine lv_iload_n hx hb dX3_of_64 rfl (lv_at hl 1 rfl) ?_
        refine m_iald 13 (j := ix (a)) (v := r 13 (ix (a))) hx hb hK hW hM (by decide) rfl ((nI_ix (isCb_nn c_357)).symm) (show ix (a) < 8 from by omega) rfl dX3_of_65 ?_
        exact r_int hx hb hr hlk hW (by refine ⟨?_, rfl⟩; rcases hr9 with hr9 | hr9 | hr9 | hr9 | hr9 | hr9 | hr9 <;> simp_all [Fof, asI]) (Nat.le_of_ble_eq_true rfl) (Nat.le_of_ble_eq_true rfl) dX3_of_66
      by_cases c_361 : b = 1
      · skip
        refine lv_tableIn (tgt := 67) hx hb dX3_of_21 (by rw [c_361]; decide) (by rw [c_361]; decide) (by rw [c_361]; rfl) (by decide) ?_
        refine lv_aload_n hx hb dX3_of_67 rfl (lv_at hl 0 rfl) ?_
        refine m_get hx hb hts hown hK hW hM 16 (by decide) fl_RX3_56 (v := .ref (ad 15)) rfl dX3_of_68 ?_
        refine lv_iload_n hx hb dX3_of_71 rfl (lv_at hl 1 rfl) ?_
        refine m_iald 15 (j := ix (a)) (v := r 15 (ix (a))) hx hb hK hW hM (by decide) rfl ((nI_ix (isCb_nn c_357)).symm) (show ix (a) < 8 from by omega) rfl dX3_of_72 ?_
        exact r_int hx hb hr hlk hW (by refine ⟨?_, rfl⟩; rcases hr9 with hr9 | hr9 | hr9 | hr9 | hr9 | hr9 | hr9 <;> simp_all [Fof, asI]) (Nat.le_of_ble_eq_true rfl) (Nat.le_of_ble_eq_true rfl) dX3_of_73
      by_cases c_362 : b = 2
      · skip
        refine lv_tableIn (tgt := 74) hx hb dX3_of_21 (by rw [c_362]; decide) (by rw [c_362]; decide) (by rw [c_362]; rfl) (by decide) ?_
        refine lv_aload_n hx hb dX3_of_74 rfl (lv_at hl 0 rfl) ?_
        refine m_get hx hb hts hown hK hW hM 17 (by decide) fl_RX3_59 (v := .ref (ad 16)) rfl dX3_of_75 ?_
        refine lv_iload_n hx hb dX3_of_78 rfl (lv_at hl 1 rfl) ?_
        refine m_iald 16 (j := ix (a)) (v := r 16 (ix (a))) hx hb hK hW hM (by decide) rfl ((nI_ix (isCb_nn c_357)).symm) (show ix (a) < 8 from by omega) rfl dX3_of_79 ?_
        exact r_int hx hb hr hlk hW (by refine ⟨?_, rfl⟩; rcases hr9 with hr9 | hr9 | hr9 | hr9 | hr9 | hr9 | hr9 <;> simp_all [Fof, asI]) (Nat.le_of_ble_eq_true rfl) (Nat.le_of_ble_eq_true rfl) dX3_of_80
      by_cases c_363 : b = 3
      · skip
        refine lv_tableIn (tgt := 81) hx hb dX3_of_21 (by rw [c_363]; decide) (by rw [c_363]; decide) (by rw [c_363]; rfl) (by decide) ?_
        refine lv_aload_n hx hb dX3_of_81 rfl (lv_at hl 0 rfl) ?_
        refine m_get hx hb hts hown hK hW hM 7 (by decide) fl_RX3_29 (v := .ref (ad 6)) rfl dX3_of_82 ?_
        refine lv_iload_n hx hb dX3_of_85 rfl (lv_at hl 1 rfl) ?_
        refine m_zald 6 (j := ix (a)) (v := r 6 (ix (a))) hx hb hK hW hM (by decide) rfl ((nI_ix (isCb_nn c_357)).symm) (show ix (a) < 8 from by omega) rfl dX3_of_86 ?_
        refine lv_if_eq (tgt := 94) hx hb dX3_of_87 (by decide) (fun c_364 => ?_) (fun c_364 => ?_)
        · skip
          refine lv_iconst (v := 0) hx hb dX3_of_94 (by decide) ?_
          exact r_int hx hb hr hlk hW (by refine ⟨?_, rfl⟩; rcases hr9 with hr9 | hr9 | hr9 | hr9 | hr9 | hr9 | hr9 <;> simp_all [Fof, asI]) (Nat.le_of_ble_eq_true rfl) (Nat.le_of_ble_eq_true rfl) dX3_of_95
        · skip
          refine lv_iconst (v := 1) hx hb dX3_of_90 (by decide) ?_
          refine lv_goto (tgt := 95) hx hb dX3_of_91 (by decide) ?_
          exact r_int hx hb hr hlk hW (by refine ⟨?_, rfl⟩; rcases hr9 with hr9 | hr9 | hr9 | hr9 | hr9 | hr9 | hr9 <;> simp_all [Fof, asI]) (Nat.le_of_ble_eq_true rfl) (Nat.le_of_ble_eq_true rfl) dX3_of_95
      by_cases c_365 : b = 4
      · skip
        refine lv_tableIn (tgt := 96) hx hb dX3_of_21 (by rw [c_365]; decide) (by rw [c_365]; decide) (by rw [c_365]; rfl) (by decide) ?_
        refine lv_aload_n hx hb dX3_of_96 rfl (lv_at hl 0 rfl) ?_
        refine m_get hx hb hts hown hK hW hM 15 (by decide) fl_RX3_53 (v := .ref (ad 14)) rfl dX3_of_97 ?_
        refine lv_iload_n hx hb dX3_of_100 rfl (lv_at hl 1 rfl) ?_
        refine m_iald 14 (j := ix (a)) (v := r 14 (ix (a))) hx hb hK hW hM (by decide) rfl ((nI_ix (isCb_nn c_357)).symm) (show ix (a) < 8 from by omega) rfl dX3_of_101 ?_
        exact r_int hx hb hr hlk hW (by refine ⟨?_, rfl⟩; rcases hr9 with hr9 | hr9 | hr9 | hr9 | hr9 | hr9 | hr9 <;> simp_all [Fof, asI]) (Nat.le_of_ble_eq_true rfl) (Nat.le_of_ble_eq_true rfl) dX3_of_102
      by_cases c_366 : b = 5
      · skip
        refine lv_tableIn (tgt := 103) hx hb dX3_of_21 (by rw [c_366]; decide) (by rw [c_366]; decide) (by rw [c_366]; rfl) (by decide) ?_
        refine lv_aload_n hx hb dX3_of_103 rfl (lv_at hl 0 rfl) ?_
        refine m_get hx hb hts hown hK hW hM 13 (by decide) fl_RX3_47 (v := .ref (ad 12)) rfl dX3_of_104 ?_
        refine lv_iload_n hx hb dX3_of_107 rfl (lv_at hl 1 rfl) ?_
        refine m_iald 12 (j := ix (a)) (v := r 12 (ix (a))) hx hb hK hW hM (by decide) rfl ((nI_ix (isCb_nn c_357)).symm) (show ix (a) < 8 from by omega) rfl dX3_of_108 ?_
        exact r_int hx hb hr hlk hW (by refine ⟨?_, rfl⟩; rcases hr9 with hr9 | hr9 | hr9 | hr9 | hr9 | hr9 | hr9 <;> simp_all [Fof, asI]) (Nat.le_of_ble_eq_true rfl) (Nat.le_of_ble_eq_true rfl) dX3_of_109
      refine lv_tableOut (tgt := 110) hx hb dX3_of_21 (by have z0 := lv_neT (a := 0) c_360 (by decide); have z1 := lv_neT (a := 1) c_361 (by decide); have z2 := lv_neT (a := 2) c_362 (by decide); have z3 := lv_neT (a := 3) c_363 (by decide); have z4 := lv_neT (a := 4) c_365 (by decide); have z5 := lv_neT (a := 5) c_366 (by decide); omega) (by decide) ?_
      refine lv_aload_n hx hb dX3_of_110 rfl (lv_at hl 0 rfl) ?_
      refine m_get hx hb hts hown hK hW hM 8 (by decide) fl_RX3_32 (v := .ref (ad 7)) rfl dX3_of_111 ?_
      refine lv_iload_n hx hb dX3_of_114 rfl (lv_at hl 1 rfl) ?_
      refine m_zald 7 (j := ix (a)) (v := r 7 (ix (a))) hx hb hK hW hM (by decide) rfl ((nI_ix (isCb_nn c_357)).symm) (show ix (a) < 8 from by omega) rfl dX3_of_115 ?_
      refine lv_if_eq (tgt := 123) hx hb dX3_of_116 (by decide) (fun c_367 => ?_) (fun c_367 => ?_)
      · skip
        refine lv_iconst (v := 0) hx hb dX3_of_123 (by decide) ?_
        exact r_int hx hb hr hlk hW (by refine ⟨?_, rfl⟩; rcases hr9 with hr9 | hr9 | hr9 | hr9 | hr9 | hr9 | hr9 <;> simp_all [Fof, asI]) (Nat.le_of_ble_eq_true rfl) (Nat.le_of_ble_eq_true rfl) dX3_of_124
      · skip
        refine lv_iconst (v := 1) hx hb dX3_of_119 (by decide) ?_
        refine lv_goto (tgt := 124) hx hb dX3_of_120 (by decide) ?_
        exact r_int hx hb hr hlk hW (by refine ⟨?_, rfl⟩; rcases hr9 with hr9 | hr9 | hr9 | hr9 | hr9 | hr9 | hr9 <;> simp_all [Fof, asI]) (Nat.le_of_ble_eq_true rfl) (Nat.le_of_ble_eq_true rfl) dX3_of_124
    · skip
      have c_359 := (bI_eq0 _).mp c_359
      have hq_368 : ¬ b = 0 := in_f (n := 6) (by decide) c_359 (j := 0) (by decide)
      have hq_369 : ¬ b = 1 := in_f (n := 6) (by decide) c_359 (j := 1) (by decide)
      have hq_370 : ¬ b = 2 := in_f (n := 6) (by decide) c_359 (j := 2) (by decide)
      have hq_371 : ¬ b = 3 := in_f (n := 6) (by decide) c_359 (j := 3) (by decide)
      have hq_372 : ¬ b = 4 := in_f (n := 6) (by decide) c_359 (j := 4) (by decide)
      have hq_373 : ¬ b = 5 := in_f (n := 6) (by decide) c_359 (j := 5) (by decide)
      have hq_374 : ¬ b = 6 := in_f (n := 6) (by decide) c_359 (j := 6) (by decide)
      refine lv_iconst (v := 0) hx hb dX3_of_18 (by decide) ?_
      exact r_int hx hb hr hlk hW (by refine ⟨?_, rfl⟩; simp [Fof, asI, c_357, c_359, hq_368, hq_369, hq_370, hq_371, hq_372, hq_373, hq_374]) (Nat.le_of_ble_eq_true rfl) (Nat.le_of_ble_eq_true rfl) dX3_of_19
