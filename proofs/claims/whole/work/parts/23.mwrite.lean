theorem in7 {a : Int32} {n : Nat} (hn : n < 2 ^ 30) (h : mIn a 0 (nI n) = true) : ¬ a < 0 ∧ ix a < n + 1 := by
  obtain ⟨j, hj, rfl⟩ := in_t (by omega) h
  refine ⟨nI_pos (by omega), ?_⟩
  rw [ix, nI_clamp (by omega)]
  omega
theorem in7b {a : Int32} : (mIn a 0 7) = (!decide (a < 0) && decide (a < 8)) := by
  have := mIn_n (v := a) (n := 8) (by decide)
  exact this
theorem can_eq {r : sg} {k : Nat} (h : ¬ r 11 k < 0) (j : Int32) : (mIn j 0 5 && !(mIn j 2 4 && (r 11 k == 0 || (!decide (r 10 k < 4) && r 11 k == 1)))) = canB r k j := by
  have hd : decide (0 < r 11 k) = !(r 11 k == 0) := by
    by_cases h0 : r 11 k = 0
    · simp [h0]
    · have : 0 < r 11 k := by
        rw [Int32.lt_iff_toInt_lt] at h ⊢
        have : (r 11 k).toInt ≠ 0 := fun q => h0 (Int32.toInt_inj.mp q)
        simp only [show (0 : Int32).toInt = 0 from rfl] at h ⊢
        omega
      simp [h0, this]
  have h24 : mIn j 2 4 = decide (j = 2 ∨ j = 3 ∨ j = 4) := by
    rw [Bool.eq_iff_iff]
    simp only [mIn, Bool.and_eq_true, Bool.not_eq_true', decide_eq_false_iff_not, decide_eq_true_eq, Int32.lt_iff_toInt_lt, ← Int32.toInt_inj, show (2 : Int32).toInt = 2 from rfl, show (3 : Int32).toInt = 3 from rfl, show (4 : Int32).toInt = 4 from rfl]
    omega
  have h05 : (j = 2 ∨ j = 3 ∨ j = 4) → mIn j 0 5 = true := fun q => by rcases q with rfl | rfl | rfl <;> rfl
  by_cases hj : j = 2 ∨ j = 3 ∨ j = 4
  · rw [h24, h05 hj]
    simp only [canB, if_pos hj, hd, figB, hj, decide_true, Bool.true_and]
    cases (r 11 k == 0) <;> simp
  · rw [h24]
    simp only [canB, if_neg hj, hj, decide_false, Bool.false_and, Bool.not_false, Bool.and_true]
    rfl

set_option maxHeartbeats 4000000 in
set_option maxRecDepth 100000 in
theorem k_X3_place (l : Launch) {E : gE} {y : Nat} {ad : Nat → Nat} {r t : sg} {g : gm} (hM : MR E y ad r t g) (hIV : IV r) (a b d : Int32) : CM l yX3_place cX3_place 4 (some .int) ({ frames := 3, cells := 0, slots := 0, locals := 66 }) E [.ref (y), .int (a), .int (b), .int (d)] g (fun vv g' => vv = some (.int (Fplace r a b d).1) ∧ MR E y ad (Fplace r a b d).2 t g') := by
  refine CM.of (by decide) (Nat.le_of_ble_eq_true rfl) ?_
  intro p e s m below meth c ls hM hK hW hl
  obtain ⟨hx, hb, hr, hml, hown, hts, hlk, hnm⟩ := hM
  have hown : s.vm.findClass RX3 = some m.cls := hown
  have hl : lv_has ls 4 [(0, .ref (y)), (1, .int (a)), (2, .int (b)), (3, .int (d))] := hl
  refine lv_aload_n hx hb dX3_place_0 rfl (lv_at hl 0 rfl) ?_
  refine lv_iload_n hx hb dX3_place_1 rfl (lv_at hl 1 rfl) ?_
  refine c_virt (own := RX3) (As := [.int (a)]) (rest := []) hx hb hml hown hts hK hW (k_X3_isMessage l hM hIV.1 hIV.2.1 _) ml_RX3_97 im_yX3_isMessage se_yX3_isMessage in_RX3 cd_yX3_isMessage 1 (by decide +kernel) ⟨Nat.le_of_ble_eq_true rfl, Nat.le_of_ble_eq_true rfl⟩ hM.1 rfl rfl rfl hl.1 rfl (Nat.le_of_ble_eq_true rfl) dX3_place_2 ⟨Nat.le_of_ble_eq_true rfl, Nat.le_of_ble_eq_true rfl⟩ (fun v g2 H1 locs1 hp hW hKT => ?_)
  obtain ⟨rfl, hg⟩ := hp
  rw [hg] at hW
  refine W.eq (g2 := F0 m 5 ls [.int (bI (isMb r (a)))]) rfl ?_
  refine lv_if_eq (tgt := 21) hx hb dX3_place_5 (by decide) (fun c_375 => ?_) (fun c_375 => ?_)
  · skip
    have c_375 := (bI_eq0 _).mp c_375
    refine lv_bipush (v := -2) hx hb dX3_place_21 (by decide) ?_
    exact r_int hx hb hr hlk hW (by have e1 : Fplace r a b d = (-2, r) := (by first | (simp [Fplace, c_375]; done) | (simp_all [Fplace]; done)); rw [e1]; exact ⟨rfl, hM⟩) (Nat.le_of_ble_eq_true rfl) (Nat.le_of_ble_eq_true rfl) dX3_place_23
  · skip
    have c_375 := bI_ne0 c_375
    have hb_376 : ix (a) < 60 := by have := isMb_lt c_375; have := hIV.2.1; omega
    have hm := hIV.2.2.1 _ (isMb_lt c_375)
    refine lv_iload_n hx hb dX3_place_8 rfl (lv_at hl 3 rfl) ?_
    refine lv_iconst (v := -1) hx hb dX3_place_9 (by decide) ?_
    refine lv_icmp_eq (tgt := 24) hx hb dX3_place_10 (by decide) (fun c_377 => ?_) (fun c_377 => ?_)
    · skip
      refine lv_aload_n hx hb dX3_place_24 rfl (lv_at hl 0 rfl) ?_
      refine lv_iload_n hx hb dX3_place_25 rfl (lv_at hl 1 rfl) ?_
      refine c_virt (own := RX3) (As := [.int (a)]) (rest := []) hx hb hml hown hts hK hW (k_X3_isBundle l hM (i := ix (a)) ((nI_ix (isMb_nn c_375)).symm) (by omega)) ml_RX3_100 im_yX3_isBundle se_yX3_isBundle in_RX3 cd_yX3_isBundle 1 (by decide +kernel) ⟨Nat.le_of_ble_eq_true rfl, Nat.le_of_ble_eq_true rfl⟩ hM.1 rfl rfl rfl hl.1 rfl (Nat.le_of_ble_eq_true rfl) dX3_place_26 ⟨Nat.le_of_ble_eq_true rfl, Nat.le_of_ble_eq_true rfl⟩ (fun v g2 H1 locs1 hp hW hKT => ?_)
      obtain ⟨rfl, hg⟩ := hp
      rw [hg] at hW
      refine W.eq (g2 := F0 m 29 ls [.int (bI (bunB r (ix (a))))]) rfl ?_
      refine lv_if_eq (tgt := 57) hx hb dX3_place_29 (by decide) (fun c_378 => ?_) (fun c_378 => ?_)
      · skip
        have c_378 := (bI_eq0 _).mp c_378
        refine lv_bipush (v := -5) hx hb dX3_place_57 (by decide) ?_
        exact r_int hx hb hr hlk hW (by have e1 : Fplace r a b d = (-5, r) := (by simp only [Fplace, ← place_eq hm]; first | (simp [Fplace, c_375, c_377, c_378]; done) | (simp_all [Fplace]; done)); rw [e1]; exact ⟨rfl, hM⟩) (Nat.le_of_ble_eq_true rfl) (Nat.le_of_ble_eq_true rfl) dX3_place_59
      · skip
        have c_378 := bI_ne0 c_378
        refine lv_iload_n hx hb dX3_place_32 rfl (lv_at hl 2 rfl) ?_
        refine lv_iconst (v := 0) hx hb dX3_place_33 (by decide) ?_
        refine lv_aload_n hx hb dX3_place_34 rfl (lv_at hl 0 rfl) ?_
        refine m_get hx hb hts hown hK hW hM 4 (by decide) fl_RX3_19 (v := .ref (ad 3)) rfl dX3_place_35 ?_
        refine lv_iload_n hx hb dX3_place_38 rfl (lv_at hl 1 rfl) ?_
        refine m_iald 3 (j := ix (a)) (v := r 3 (ix (a))) hx hb hK hW hM (by decide) rfl ((nI_ix (isMb_nn c_375)).symm) (show ix (a) < 60 from by omega) rfl dX3_place_39 ?_
        refine lv_iconst (v := 1) hx hb dX3_place_40 (by decide) ?_
        refine lv_isub hx hb dX3_place_41 ?_
        refine c_stat (own := RX3) (As := [.int (b), .int (0), .int ((r 3 (ix (a))) - (1))]) (rest := []) hx hb hml hown hts hK hW (k_X3_in l _ _ _) ml_RX3_78 st_yX3_in in_RX3 cd_yX3_in 3 (by decide +kernel) ⟨Nat.le_of_ble_eq_true rfl, Nat.le_of_ble_eq_true rfl⟩ rfl hl.1 rfl (Nat.le_of_ble_eq_true rfl) dX3_place_42 ⟨Nat.le_of_ble_eq_true rfl, Nat.le_of_ble_eq_true rfl⟩ (fun v g2 H1 locs1 hp hW hKT => ?_)
        obtain ⟨rfl, hg⟩ := hp
        rw [hg] at hW
        refine W.eq (g2 := F0 m 45 ls [.int (bI (mIn (b) (0) ((r 3 (ix (a))) - (1))))]) rfl ?_
        refine lv_if_eq (tgt := 57) hx hb dX3_place_45 (by decide) (fun c_379 => ?_) (fun c_379 => ?_)
        · skip
          have c_379 := (bI_eq0 _).mp c_379
          refine lv_bipush (v := -5) hx hb dX3_place_57 (by decide) ?_
          exact r_int hx hb hr hlk hW (by have e1 : Fplace r a b d = (-5, r) := (by simp only [Fplace, ← place_eq hm]; first | (simp [Fplace, c_375, c_377, c_378, c_379]; done) | (simp_all [Fplace]; done)); rw [e1]; exact ⟨rfl, hM⟩) (Nat.le_of_ble_eq_true rfl) (Nat.le_of_ble_eq_true rfl) dX3_place_59
        · skip
          have c_379 := bI_ne0 c_379
          have hb_380 := inB_lt (by rw [← mIn_in hm.2.2.1 hm.2.2.2.1]; exact c_379) hm.2.2.1
          have hb_381 : ix (b) < 8 := Nat.lt_of_lt_of_le hb_380.2 hm.2.2.2.1
          refine lv_aload_n hx hb dX3_place_48 rfl (lv_at hl 0 rfl) ?_
          refine lv_iload_n hx hb dX3_place_49 rfl (lv_at hl 1 rfl) ?_
          refine lv_iload_n hx hb dX3_place_50 rfl (lv_at hl 3 rfl) ?_
          refine c_virt (own := RX3) (As := [.int (a), .int (d)]) (rest := []) hx hb hml hown hts hK hW (k_X3_holds l hM (i := ix (a)) ((nI_ix (isMb_nn c_375)).symm) (by omega) (Or.inl c_377)) ml_RX3_103 im_yX3_holds se_yX3_holds in_RX3 cd_yX3_holds 2 (by decide +kernel) ⟨Nat.le_of_ble_eq_true rfl, Nat.le_of_ble_eq_true rfl⟩ hM.1 rfl rfl rfl hl.1 rfl (Nat.le_of_ble_eq_true rfl) dX3_place_51 ⟨Nat.le_of_ble_eq_true rfl, Nat.le_of_ble_eq_true rfl⟩ (fun v g2 H1 locs1 hp hW hKT => ?_)
          obtain ⟨rfl, hg⟩ := hp
          rw [hg] at hW
          refine W.eq (g2 := F0 m 54 ls [.int (bI (holdB r (ix (a)) (d)))]) rfl ?_
          refine lv_if_ne (tgt := 60) hx hb dX3_place_54 (by decide) (fun c_382 => ?_) (fun c_382 => ?_)
          · skip
            have c_382 := bI_ne0 c_382
            refine lv_aload_n hx hb dX3_place_60 rfl (lv_at hl 0 rfl) ?_
            refine m_get hx hb hts hown hK hW hM 5 (by decide) fl_RX3_22 (v := .ref (ad 4)) rfl dX3_place_61 ?_
            refine lv_bipush (v := 8) hx hb dX3_place_64 (by decide) ?_
            refine lv_iload_n hx hb dX3_place_66 rfl (lv_at hl 1 rfl) ?_
            refine lv_imul hx hb dX3_place_67 ?_
            refine lv_iload_n hx hb dX3_place_68 rfl (lv_at hl 2 rfl) ?_
            refine lv_iadd hx hb dX3_place_69 ?_
            refine lv_iload_n hx hb dX3_place_70 rfl (lv_at hl 3 rfl) ?_
            refine m_iast 4 (j := 8 * (ix (a)) + (ix (b))) hx hb hK hW hM (by decide) rfl ((it_e ((nI_ix (isMb_nn c_375)).symm) ((nI_ix hb_380.1).symm))) (show 8 * (ix (a)) + (ix (b)) < 480 from by omega) dX3_place_71 (fun H1 locs1 g1 hW hM => ?_)
            refine lv_iconst (v := 1) hx hb dX3_place_72 (by decide) ?_
            exact r_int hx hb hr hlk hW (by have e1 : Fplace r a b d = (1, s2 r 4 (8 * (ix (a)) + (ix (b))) (d)) := (by simp only [Fplace, ← place_eq hm]; first | (simp [Fplace, c_375, c_377, c_378, c_379, c_382]; done) | (simp_all [Fplace]; done)); rw [e1]; exact ⟨rfl, hM⟩) (Nat.le_of_ble_eq_true rfl) (Nat.le_of_ble_eq_true rfl) dX3_place_73
          · skip
            have c_382 := (bI_eq0 _).mp c_382
            refine lv_bipush (v := -5) hx hb dX3_place_57 (by decide) ?_
            exact r_int hx hb hr hlk hW (by have e1 : Fplace r a b d = (-5, r) := (by simp only [Fplace, ← place_eq hm]; first | (simp [Fplace, c_375, c_377, c_378, c_379, c_382]; done) | (simp_all [Fplace]; done)); rw [e1]; exact ⟨rfl, hM⟩) (Nat.le_of_ble_eq_true rfl) (Nat.le_of_ble_eq_true rfl) dX3_place_59
    · skip
      refine lv_aload_n hx hb dX3_place_13 rfl (lv_at hl 0 rfl) ?_
      refine lv_iload_n hx hb dX3_place_14 rfl (lv_at hl 3 rfl) ?_
      refine c_virt (own := RX3) (As := [.int (d)]) (rest := []) hx hb hml hown hts hK hW (k_X3_isMessage l hM hIV.1 hIV.2.1 _) ml_RX3_97 im_yX3_isMessage se_yX3_isMessage in_RX3 cd_yX3_isMessage 1 (by decide +kernel) ⟨Nat.le_of_ble_eq_true rfl, Nat.le_of_ble_eq_true rfl⟩ hM.1 rfl rfl rfl hl.1 rfl (Nat.le_of_ble_eq_true rfl) dX3_place_15 ⟨Nat.le_of_ble_eq_true rfl, Nat.le_of_ble_eq_true rfl⟩ (fun v g2 H1 locs1 hp hW hKT => ?_)
      obtain ⟨rfl, hg⟩ := hp
      rw [hg] at hW
      refine W.eq (g2 := F0 m 18 ls [.int (bI (isMb r (d)))]) rfl ?_
      refine lv_if_ne (tgt := 24) hx hb dX3_place_18 (by decide) (fun c_383 => ?_) (fun c_383 => ?_)
      · skip
        have c_383 := bI_ne0 c_383
        have hb_384 : ix (d) < 60 := by have := isMb_lt c_383; have := hIV.2.1; omega
        refine lv_aload_n hx hb dX3_place_24 rfl (lv_at hl 0 rfl) ?_
        refine lv_iload_n hx hb dX3_place_25 rfl (lv_at hl 1 rfl) ?_
        refine c_virt (own := RX3) (As := [.int (a)]) (rest := []) hx hb hml hown hts hK hW (k_X3_isBundle l hM (i := ix (a)) ((nI_ix (isMb_nn c_375)).symm) (by omega)) ml_RX3_100 im_yX3_isBundle se_yX3_isBundle in_RX3 cd_yX3_isBundle 1 (by decide +kernel) ⟨Nat.le_of_ble_eq_true rfl, Nat.le_of_ble_eq_true rfl⟩ hM.1 rfl rfl rfl hl.1 rfl (Nat.le_of_ble_eq_true rfl) dX3_place_26 ⟨Nat.le_of_ble_eq_true rfl, Nat.le_of_ble_eq_true rfl⟩ (fun v g2 H1 locs1 hp hW hKT => ?_)
        obtain ⟨rfl, hg⟩ := hp
        rw [hg] at hW
        refine W.eq (g2 := F0 m 29 ls [.int (bI (bunB r (ix (a))))]) rfl ?_
        refine lv_if_eq (tgt := 57) hx hb dX3_place_29 (by decide) (fun c_385 => ?_) (fun c_385 => ?_)
        · skip
          have c_385 := (bI_eq0 _).mp c_385
          refine lv_bipush (v := -5) hx hb dX3_place_57 (by decide) ?_
          exact r_int hx hb hr hlk hW (by have e1 : Fplace r a b d = (-5, r) := (by simp only [Fplace, ← place_eq hm]; first | (simp [Fplace, c_375, c_377, c_383, c_385]; done) | (simp_all [Fplace]; done)); rw [e1]; exact ⟨rfl, hM⟩) (Nat.le_of_ble_eq_true rfl) (Nat.le_of_ble_eq_true rfl) dX3_place_59
        · skip
          have c_385 := bI_ne0 c_385
          refine lv_iload_n hx hb dX3_place_32 rfl (lv_at hl 2 rfl) ?_
          refine lv_iconst (v := 0) hx hb dX3_place_33 (by decide) ?_
          refine lv_aload_n hx hb dX3_place_34 rfl (lv_at hl 0 rfl) ?_
          refine m_get hx hb hts hown hK hW hM 4 (by decide) fl_RX3_19 (v := .ref (ad 3)) rfl dX3_place_35 ?_
          refine lv_iload_n hx hb dX3_place_38 rfl (lv_at hl 1 rfl) ?_
          refine m_iald 3 (j := ix (a)) (v := r 3 (ix (a))) hx hb hK hW hM (by decide) rfl ((nI_ix (isMb_nn c_375)).symm) (show ix (a) < 60 from by omega) rfl dX3_place_39 ?_
          refine lv_iconst (v := 1) hx hb dX3_place_40 (by decide) ?_
          refine lv_isub hx hb dX3_place_41 ?_
          refine c_stat (own := RX3) (As := [.int (b), .int (0), .int ((r 3 (ix (a))) - (1))]) (rest := []) hx hb hml hown hts hK hW (k_X3_in l _ _ _) ml_RX3_78 st_yX3_in in_RX3 cd_yX3_in 3 (by decide +kernel) ⟨Nat.le_of_ble_eq_true rfl, Nat.le_of_ble_eq_true rfl⟩ rfl hl.1 rfl (Nat.le_of_ble_eq_true rfl) dX3_place_42 ⟨Nat.le_of_ble_eq_true rfl, Nat.le_of_ble_eq_true rfl⟩ (fun v g2 H1 locs1 hp hW hKT => ?_)
          obtain ⟨rfl, hg⟩ := hp
          rw [hg] at hW
          refine W.eq (g2 := F0 m 45 ls [.int (bI (mIn (b) (0) ((r 3 (ix (a))) - (1))))]) rfl ?_
          refine lv_if_eq (tgt := 57) hx hb dX3_place_45 (by decide) (fun c_386 => ?_) (fun c_386 => ?_)
          · skip
            have c_386 := (bI_eq0 _).mp c_386
            refine lv_bipush (v := -5) hx hb dX3_place_57 (by decide) ?_
            exact r_int hx hb hr hlk hW (by have e1 : Fplace r a b d = (-5, r) := (by simp only [Fplace, ← place_eq hm]; first | (simp [Fplace, c_375, c_377, c_383, c_385, c_386]; done) | (simp_all [Fplace]; done)); rw [e1]; exact ⟨rfl, hM⟩) (Nat.le_of_ble_eq_true rfl) (Nat.le_of_ble_eq_true rfl) dX3_place_59
          · skip
            have c_386 := bI_ne0 c_386
            have hb_387 := inB_lt (by rw [← mIn_in hm.2.2.1 hm.2.2.2.1]; exact c_386) hm.2.2.1
            have hb_388 : ix (b) < 8 := Nat.lt_of_lt_of_le hb_387.2 hm.2.2.2.1
            refine lv_aload_n hx hb dX3_place_48 rfl (lv_at hl 0 rfl) ?_
            refine lv_iload_n hx hb dX3_place_49 rfl (lv_at hl 1 rfl) ?_
            refine lv_iload_n hx hb dX3_place_50 rfl (lv_at hl 3 rfl) ?_
            refine c_virt (own := RX3) (As := [.int (a), .int (d)]) (rest := []) hx hb hml hown hts hK hW (k_X3_holds l hM (i := ix (a)) ((nI_ix (isMb_nn c_375)).symm) (by omega) (Or.inr ⟨isMb_nn c_383, by omega⟩)) ml_RX3_103 im_yX3_holds se_yX3_holds in_RX3 cd_yX3_holds 2 (by decide +kernel) ⟨Nat.le_of_ble_eq_true rfl, Nat.le_of_ble_eq_true rfl⟩ hM.1 rfl rfl rfl hl.1 rfl (Nat.le_of_ble_eq_true rfl) dX3_place_51 ⟨Nat.le_of_ble_eq_true rfl, Nat.le_of_ble_eq_true rfl⟩ (fun v g2 H1 locs1 hp hW hKT => ?_)
            obtain ⟨rfl, hg⟩ := hp
            rw [hg] at hW
            refine W.eq (g2 := F0 m 54 ls [.int (bI (holdB r (ix (a)) (d)))]) rfl ?_
            refine lv_if_ne (tgt := 60) hx hb dX3_place_54 (by decide) (fun c_389 => ?_) (fun c_389 => ?_)
            · skip
              have c_389 := bI_ne0 c_389
              refine lv_aload_n hx hb dX3_place_60 rfl (lv_at hl 0 rfl) ?_
              refine m_get hx hb hts hown hK hW hM 5 (by decide) fl_RX3_22 (v := .ref (ad 4)) rfl dX3_place_61 ?_
              refine lv_bipush (v := 8) hx hb dX3_place_64 (by decide) ?_
              refine lv_iload_n hx hb dX3_place_66 rfl (lv_at hl 1 rfl) ?_
              refine lv_imul hx hb dX3_place_67 ?_
              refine lv_iload_n hx hb dX3_place_68 rfl (lv_at hl 2 rfl) ?_
              refine lv_iadd hx hb dX3_place_69 ?_
              refine lv_iload_n hx hb dX3_place_70 rfl (lv_at hl 3 rfl) ?_
              refine m_iast 4 (j := 8 * (ix (a)) + (ix (b))) hx hb hK hW hM (by decide) rfl ((it_e ((nI_ix (isMb_nn c_375)).symm) ((nI_ix hb_387.1).symm))) (show 8 * (ix (a)) + (ix (b)) < 480 from by omega) dX3_place_71 (fun H1 locs1 g1 hW hM => ?_)
              refine lv_iconst (v := 1) hx hb dX3_place_72 (by decide) ?_
              exact r_int hx hb hr hlk hW (by have e1 : Fplace r a b d = (1, s2 r 4 (8 * (ix (a)) + (ix (b))) (d)) := (by simp only [Fplace, ← place_eq hm]; first | (simp [Fplace, c_375, c_377, c_383, c_385, c_386, c_389]; done) | (simp_all [Fplace]; done)); rw [e1]; exact ⟨rfl, hM⟩) (Nat.le_of_ble_eq_true rfl) (Nat.le_of_ble_eq_true rfl) dX3_place_73
            · skip
              have c_389 := (bI_eq0 _).mp c_389
              refine lv_bipush (v := -5) hx hb dX3_place_57 (by decide) ?_
              exact r_int hx hb hr hlk hW (by have e1 : Fplace r a b d = (-5, r) := (by simp only [Fplace, ← place_eq hm]; first | (simp [Fplace, c_375, c_377, c_383, c_385, c_386, c_389]; done) | (simp_all [Fplace]; done)); rw [e1]; exact ⟨rfl, hM⟩) (Nat.le_of_ble_eq_true rfl) (Nat.le_of_ble_eq_true rfl) dX3_place_59
      · skip
        have c_383 := (bI_eq0 _).mp c_383
        refine lv_bipush (v := -2) hx hb dX3_place_21 (by decide) ?_
        exact r_int hx hb hr hlk hW (by have e1 : Fplace r a b d = (-2, r) := (by simp only [Fplace, ← place_eq hm]; first | (simp [Fplace, c_375, c_377, c_383]; done) | (simp_all [Fplace]; done)); rw [e1]; exact ⟨rfl, hM⟩) (Nat.le_of_ble_eq_true rfl) (Nat.le_of_ble_eq_true rfl) dX3_place_23

set_option maxHeartbeats 4000000 in
set_option maxRecDepth 100000 in
theorem k_X3_figure (l : Launch) {E : gE} {y : Nat} {ad : Nat → Nat} {r t : sg} {g : gm} (hM : MR E y ad r t g) (hIV : IV r) (a b d : Int32) : CM l yX3_figure cX3_figure 4 (some .int) ({ frames := 2, cells := 0, slots := 0, locals := 43 }) E [.ref (y), .int (a), .int (b), .int (d)] g (fun vv g' => vv = some (.int (Ffigure r a b d).1) ∧ MR E y ad (Ffigure r a b d).2 t g') := by
  refine CM.of (by decide) (Nat.le_of_ble_eq_true rfl) ?_
  intro p e s m below meth c ls hM hK hW hl
  obtain ⟨hx, hb, hr, hml, hown, hts, hlk, hnm⟩ := hM
  have hown : s.vm.findClass RX3 = some m.cls := hown
  have hl : lv_has ls 4 [(0, .ref (y)), (1, .int (a)), (2, .int (b)), (3, .int (d))] := hl
  refine lv_aload_n hx hb dX3_figure_0 rfl (lv_at hl 0 rfl) ?_
  refine lv_iload_n hx hb dX3_figure_1 rfl (lv_at hl 1 rfl) ?_
  refine c_virt (own := RX3) (As := [.int (a)]) (rest := []) hx hb hml hown hts hK hW (k_X3_isMessage l hM hIV.1 hIV.2.1 _) ml_RX3_97 im_yX3_isMessage se_yX3_isMessage in_RX3 cd_yX3_isMessage 1 (by decide +kernel) ⟨Nat.le_of_ble_eq_true rfl, Nat.le_of_ble_eq_true rfl⟩ hM.1 rfl rfl rfl hl.1 rfl (Nat.le_of_ble_eq_true rfl) dX3_figure_2 ⟨Nat.le_of_ble_eq_true rfl, Nat.le_of_ble_eq_true rfl⟩ (fun v g2 H1 locs1 hp hW hKT => ?_)
  obtain ⟨rfl, hg⟩ := hp
  rw [hg] at hW
  refine W.eq (g2 := F0 m 5 ls [.int (bI (isMb r (a)))]) rfl ?_
  refine lv_if_ne (tgt := 11) hx hb dX3_figure_5 (by decide) (fun c_390 => ?_) (fun c_390 => ?_)
  · skip
    have c_390 := bI_ne0 c_390
    have hb_391 : ix (a) < 60 := by have := isMb_lt c_390; have := hIV.2.1; omega
    have hm := hIV.2.2.1 _ (isMb_lt c_390)
    refine lv_aload_n hx hb dX3_figure_11 rfl (lv_at hl 0 rfl) ?_
    refine lv_iload_n hx hb dX3_figure_12 rfl (lv_at hl 1 rfl) ?_
    refine c_virt (own := RX3) (As := [.int (a)]) (rest := []) hx hb hml hown hts hK hW (k_X3_isFigures l hM (i := ix (a)) ((nI_ix (isMb_nn c_390)).symm) (by omega)) ml_RX3_86 im_yX3_isFigures se_yX3_isFigures in_RX3 cd_yX3_isFigures 1 (by decide +kernel) ⟨Nat.le_of_ble_eq_true rfl, Nat.le_of_ble_eq_true rfl⟩ hM.1 rfl rfl rfl hl.1 rfl (Nat.le_of_ble_eq_true rfl) dX3_figure_13 ⟨Nat.le_of_ble_eq_true rfl, Nat.le_of_ble_eq_true rfl⟩ (fun v g2 H1 locs1 hp hW hKT => ?_)
    obtain ⟨rfl, hg⟩ := hp
    rw [hg] at hW
    refine W.eq (g2 := F0 m 16 ls [.int (bI (figB (r 0 (ix (a))) (r 1 (ix (a)))))]) rfl ?_
    refine lv_if_eq (tgt := 35) hx hb dX3_figure_16 (by decide) (fun c_392 => ?_) (fun c_392 => ?_)
    · skip
      have c_392 := (bI_eq0 _).mp c_392
      refine lv_bipush (v := -5) hx hb dX3_figure_35 (by decide) ?_
      exact r_int hx hb hr hlk hW (by have e1 : Ffigure r a b d = (-5, r) := (by simp only [Ffigure, ← num_eq hm]; first | (simp [Ffigure, c_390, c_392]; done) | (simp_all [Ffigure]; done)); rw [e1]; exact ⟨rfl, hM⟩) (Nat.le_of_ble_eq_true rfl) (Nat.le_of_ble_eq_true rfl) dX3_figure_37
    · skip
      have c_392 := bI_ne0 c_392
      refine lv_iload_n hx hb dX3_figure_19 rfl (lv_at hl 2 rfl) ?_
      refine lv_iconst (v := 0) hx hb dX3_figure_20 (by decide) ?_
      refine lv_aload_n hx hb dX3_figure_21 rfl (lv_at hl 0 rfl) ?_
      refine m_get hx hb hts hown hK hW hM 4 (by decide) fl_RX3_19 (v := .ref (ad 3)) rfl dX3_figure_22 ?_
      refine lv_iload_n hx hb dX3_figure_25 rfl (lv_at hl 1 rfl) ?_
      refine m_iald 3 (j := ix (a)) (v := r 3 (ix (a))) hx hb hK hW hM (by decide) rfl ((nI_ix (isMb_nn c_390)).symm) (show ix (a) < 60 from by omega) rfl dX3_figure_26 ?_
      refine lv_iconst (v := 1) hx hb dX3_figure_27 (by decide) ?_
      refine lv_isub hx hb dX3_figure_28 ?_
      refine c_stat (own := RX3) (As := [.int (b), .int (0), .int ((r 3 (ix (a))) - (1))]) (rest := []) hx hb hml hown hts hK hW (k_X3_in l _ _ _) ml_RX3_78 st_yX3_in in_RX3 cd_yX3_in 3 (by decide +kernel) ⟨Nat.le_of_ble_eq_true rfl, Nat.le_of_ble_eq_true rfl⟩ rfl hl.1 rfl (Nat.le_of_ble_eq_true rfl) dX3_figure_29 ⟨Nat.le_of_ble_eq_true rfl, Nat.le_of_ble_eq_true rfl⟩ (fun v g2 H1 locs1 hp hW hKT => ?_)
      obtain ⟨rfl, hg⟩ := hp
      rw [hg] at hW
      refine W.eq (g2 := F0 m 32 ls [.int (bI (mIn (b) (0) ((r 3 (ix (a))) - (1))))]) rfl ?_
      refine lv_if_ne (tgt := 38) hx hb dX3_figure_32 (by decide) (fun c_393 => ?_) (fun c_393 => ?_)
      · skip
        have c_393 := bI_ne0 c_393
        have hb_394 := inB_lt (by rw [← mIn_in hm.2.2.1 hm.2.2.2.1]; exact c_393) hm.2.2.1
        have hb_395 : ix (b) < 8 := Nat.lt_of_lt_of_le hb_394.2 hm.2.2.2.1
        refine lv_aload_n hx hb dX3_figure_38 rfl (lv_at hl 0 rfl) ?_
        refine m_get hx hb hts hown hK hW hM 5 (by decide) fl_RX3_22 (v := .ref (ad 4)) rfl dX3_figure_39 ?_
        refine lv_bipush (v := 8) hx hb dX3_figure_42 (by decide) ?_
        refine lv_iload_n hx hb dX3_figure_44 rfl (lv_at hl 1 rfl) ?_
        refine lv_imul hx hb dX3_figure_45 ?_
        refine lv_iload_n hx hb dX3_figure_46 rfl (lv_at hl 2 rfl) ?_
        refine lv_iadd hx hb dX3_figure_47 ?_
        refine lv_aload_n hx hb dX3_figure_48 rfl (lv_at hl 0 rfl) ?_
        refine m_get hx hb hts hown hK hW hM 1 (by decide) fl_RX3_7 (v := .ref (ad 0)) rfl dX3_figure_49 ?_
        refine lv_iload_n hx hb dX3_figure_52 rfl (lv_at hl 1 rfl) ?_
        refine m_iald 0 (j := ix (a)) (v := r 0 (ix (a))) hx hb hK hW hM (by decide) rfl ((nI_ix (isMb_nn c_390)).symm) (show ix (a) < 60 from by omega) rfl dX3_figure_53 ?_
        refine lv_iload_n hx hb dX3_figure_54 rfl (lv_at hl 3 rfl) ?_
        refine c_stat (own := RX3) (As := [.int (r 0 (ix (a))), .int (d)]) (rest := [.int (((8) * (a)) + (b)), .ref (ad 4)]) hx hb hml hown hts hK hW (k_X3_cut l _ _) ml_RX3_107 st_yX3_cut in_RX3 cd_yX3_cut 2 (by decide +kernel) ⟨Nat.le_of_ble_eq_true rfl, Nat.le_of_ble_eq_true rfl⟩ rfl hl.1 rfl (Nat.le_of_ble_eq_true rfl) dX3_figure_55 ⟨Nat.le_of_ble_eq_true rfl, Nat.le_of_ble_eq_true rfl⟩ (fun v g2 H1 locs1 hp hW hKT => ?_)
        obtain ⟨rfl, hg⟩ := hp
        rw [hg] at hW
        refine W.eq (g2 := F0 m 58 ls [.int (lowI (r 0 (ix (a))) (d)), .int (((8) * (a)) + (b)), .ref (ad 4)]) rfl ?_
        refine m_iast 4 (j := 8 * (ix (a)) + (ix (b))) hx hb hK hW hM (by decide) rfl ((it_e ((nI_ix (isMb_nn c_390)).symm) ((nI_ix hb_394.1).symm))) (show 8 * (ix (a)) + (ix (b)) < 480 from by omega) dX3_figure_58 (fun H1 locs1 g1 hW hM => ?_)
        refine lv_iconst (v := 1) hx hb dX3_figure_59 (by decide) ?_
        exact r_int hx hb hr hlk hW (by have e1 : Ffigure r a b d = (1, s2 r 4 (8 * (ix (a)) + (ix (b))) (lowI (r 0 (ix (a))) (d))) := (by simp only [Ffigure, ← num_eq hm]; first | (simp [Ffigure, c_390, c_392, c_393]; done) | (simp_all [Ffigure]; done)); rw [e1]; exact ⟨rfl, hM⟩) (Nat.le_of_ble_eq_true rfl) (Nat.le_of_ble_eq_true rfl) dX3_figure_60
      · skip
        have c_393 := (bI_eq0 _).mp c_393
        refine lv_bipush (v := -5) hx hb dX3_figure_35 (by decide) ?_
        exact r_int hx hb hr hlk hW (by have e1 : Ffigure r a b d = (-5, r) := (by simp only [Ffigure, ← num_eq hm]; first | (simp [Ffigure, c_390, c_392, c_393]; done) | (simp_all [Ffigure]; done)); rw [e1]; exact ⟨rfl, hM⟩) (Nat.le_of_ble_eq_true rfl) (Nat.le_of_ble_eq_true rfl) dX3_figure_37
  · skip
    have c_390 := (bI_eq0 _).mp c_390
    refine lv_bipush (v := -2) hx hb dX3_figure_8 (by decide) ?_
    exact r_int hx hb hr hlk hW (by have e1 : Ffigure r a b d = (-2, r) := (by first | (simp [Ffigure, c_390]; done) | (simp_all [Ffigure]; done)); rw [e1]; exact ⟨rfl, hM⟩) (Nat.le_of_ble_eq_true rfl) (Nat.le_of_ble_eq_true rfl) dX3_figure_10

set_option maxHeartbeats 4000000 in
set_option maxRecDepth 100000 in
theorem k_X3_shut (l : Launch) {E : gE} {y : Nat} {ad : Nat → Nat} {r t : sg} {g : gm} (hM : MR E y ad r t g) (hIV : IV r) (a : Int32) (b : Bool) : CM l yX3_shut cX3_shut 4 (some .int) ({ frames := 2, cells := 0, slots := 0, locals := 43 }) E [.ref (y), .int (a), .int (bI b)] g (fun vv g' => vv = some (.int (Fshut r a b).1) ∧ MR E y ad (Fshut r a b).2 t g') := by
  refine CM.of (by decide) (Nat.le_of_ble_eq_true rfl) ?_
  intro p e s m below meth c ls hM hK hW hl
  obtain ⟨hx, hb, hr, hml, hown, hts, hlk, hnm⟩ := hM
  have hown : s.vm.findClass RX3 = some m.cls := hown
  have hl : lv_has ls 4 [(0, .ref (y)), (1, .int (a)), (2, .int (bI b))] := hl
  refine lv_aload_n hx hb dX3_shut_0 rfl (lv_at hl 0 rfl) ?_
  refine lv_iload_n hx hb dX3_shut_1 rfl (lv_at hl 1 rfl) ?_
  refine c_virt (own := RX3) (As := [.int (a)]) (rest := []) hx hb hml hown hts hK hW (k_X3_isCounter l hM _) ml_RX3_114 im_yX3_isCounter se_yX3_isCounter in_RX3 cd_yX3_isCounter 1 (by decide +kernel) ⟨Nat.le_of_ble_eq_true rfl, Nat.le_of_ble_eq_true rfl⟩ hM.1 rfl rfl rfl hl.1 rfl (Nat.le_of_ble_eq_true rfl) dX3_shut_2 ⟨Nat.le_of_ble_eq_true rfl, Nat.le_of_ble_eq_true rfl⟩ (fun v g2 H1 locs1 hp hW hKT => ?_)
  obtain ⟨rfl, hg⟩ := hp
  rw [hg] at hW
  refine W.eq (g2 := F0 m 5 ls [.int (bI (isCb r (a)))]) rfl ?_
  refine lv_if_ne (tgt := 11) hx hb dX3_shut_5 (by decide) (fun c_396 => ?_) (fun c_396 => ?_)
  · skip
    have c_396 := bI_ne0 c_396
    have hb_397 : ix (a) < 8 := isCb_lt c_396
    refine lv_aload_n hx hb dX3_shut_11 rfl (lv_at hl 0 rfl) ?_
    refine m_get hx hb hts hown hK hW hM 7 (by decide) fl_RX3_29 (v := .ref (ad 6)) rfl dX3_shut_12 ?_
    refine lv_iload_n hx hb dX3_shut_15 rfl (lv_at hl 1 rfl) ?_
    refine m_zald 6 (j := ix (a)) (v := r 6 (ix (a))) hx hb hK hW hM (by decide) rfl ((nI_ix (isCb_nn c_396)).symm) (show ix (a) < 8 from by omega) rfl dX3_shut_16 ?_
    refine lv_if_eq (tgt := 24) hx hb dX3_shut_17 (by decide) (fun c_398 => ?_) (fun c_398 => ?_)
    · skip
      refine lv_iconst (v := 0) hx hb dX3_shut_24 (by decide) ?_
      refine lv_istore_n (lv' := [(3, .int (0)), (0, .ref (y)), (1, .int (a)), (2, .int (bI b))]) hx hb dX3_shut_25 rfl hl (by decide) rfl (fun ls hl => ?_)
      refine lv_aload_n hx hb dX3_shut_26 rfl (lv_at hl 1 rfl) ?_
      refine m_get hx hb hts hown hK hW hM 7 (by decide) fl_RX3_29 (v := .ref (ad 6)) rfl dX3_shut_27 ?_
      refine lv_iload_n hx hb dX3_shut_30 rfl (lv_at hl 2 rfl) ?_
      refine lv_iload_n hx hb dX3_shut_31 rfl (lv_at hl 3 rfl) ?_
      refine m_zast 6 (j := ix (a)) hx hb hK hW hM (by decide) rfl ((nI_ix (isCb_nn c_396)).symm) (show ix (a) < 8 from by omega) (nr_bI _) dX3_shut_32 (fun H1 locs1 g1 hW hM => ?_)
      refine lv_iload_n hx hb dX3_shut_33 rfl (lv_at hl 0 rfl) ?_
      exact r_int hx hb hr hlk hW (by have e1 : Fshut r a b = (0, s2 r 6 (ix (a)) (bI b)) := (by first | (simp [Fshut, asI, c_396, c_398]; done) | (simp_all [Fshut, asI]; done)); rw [e1]; exact ⟨rfl, hM⟩) (Nat.le_of_ble_eq_true rfl) (Nat.le_of_ble_eq_true rfl) dX3_shut_34
    · skip
      refine lv_iconst (v := 1) hx hb dX3_shut_20 (by decide) ?_
      refine lv_goto (tgt := 25) hx hb dX3_shut_21 (by decide) ?_
      refine lv_istore_n (lv' := [(3, .int (1)), (0, .ref (y)), (1, .int (a)), (2, .int (bI b))]) hx hb dX3_shut_25 rfl hl (by decide) rfl (fun ls hl => ?_)
      refine lv_aload_n hx hb dX3_shut_26 rfl (lv_at hl 1 rfl) ?_
      refine m_get hx hb hts hown hK hW hM 7 (by decide) fl_RX3_29 (v := .ref (ad 6)) rfl dX3_shut_27 ?_
      refine lv_iload_n hx hb dX3_shut_30 rfl (lv_at hl 2 rfl) ?_
      refine lv_iload_n hx hb dX3_shut_31 rfl (lv_at hl 3 rfl) ?_
      refine m_zast 6 (j := ix (a)) hx hb hK hW hM (by decide) rfl ((nI_ix (isCb_nn c_396)).symm) (show ix (a) < 8 from by omega) (nr_bI _) dX3_shut_32 (fun H1 locs1 g1 hW hM => ?_)
      refine lv_iload_n hx hb dX3_shut_33 rfl (lv_at hl 0 rfl) ?_
      exact r_int hx hb hr hlk hW (by have e1 : Fshut r a b = (1, s2 r 6 (ix (a)) (bI b)) := (by first | (simp [Fshut, asI, c_396, c_398]; done) | (simp_all [Fshut, asI]; done)); rw [e1]; exact ⟨rfl, hM⟩) (Nat.le_of_ble_eq_true rfl) (Nat.le_of_ble_eq_true rfl) dX3_shut_34
  · skip
    have c_396 := (bI_eq0 _).mp c_396
    refine lv_bipush (v := -2) hx hb dX3_shut_8 (by decide) ?_
    exact r_int hx hb hr hlk hW (by have e1 : Fshut r a b = (-2, r) := (by first | (simp [Fshut, asI, c_396]; done) | (simp_all [Fshut, asI]; done)); rw [e1]; exact ⟨rfl, hM⟩) (Nat.le_of_ble_eq_true rfl) (Nat.le_of_ble_eq_true rfl) dX3_shut_10

theorem mIn1 (q : Int32) : (!decide (q < 0) && !decide (1 < q)) = mIn q 0 1 := rfl

set_option maxHeartbeats 4000000 in
set_option maxRecDepth 100000 in
theorem k_X3_job (l : Launch) {E : gE} {y : Nat} {ad : Nat → Nat} {r t : sg} {g : gm} (hM : MR E y ad r t g) (hIV : IV r) (a b d f q : Int32) : CM l yX3_job cX3_job 6 (some .int) ({ frames := 2, cells := 0, slots := 0, locals := 43 }) E [.ref (y), .int (a), .int (b), .int (d), .int (f), .int (q)] g (fun vv g' => vv = some (.int (Fjob r a b d f q).1) ∧ MR E y ad (Fjob r a b d f q).2 t g') := by
  refine CM.of (by decide) (Nat.le_of_ble_eq_true rfl) ?_
  intro p e s m below meth c ls hM hK hW hl
  obtain ⟨hx, hb, hr, hml, hown, hts, hlk, hnm⟩ := hM
  have hown : s.vm.findClass RX3 = some m.cls := hown
  have hl : lv_has ls 6 [(0, .ref (y)), (1, .int (a)), (2, .int (b)), (3, .int (d)), (4, .int (f)), (5, .int (q))] := hl
  refine lv_aload_n hx hb dX3_job_0 rfl (lv_at hl 0 rfl) ?_
  refine lv_iload_n hx hb dX3_job_1 rfl (lv_at hl 1 rfl) ?_
  refine c_virt (own := RX3) (As := [.int (a)]) (rest := []) hx hb hml hown hts hK hW (k_X3_isCounter l hM _) ml_RX3_114 im_yX3_isCounter se_yX3_isCounter in_RX3 cd_yX3_isCounter 1 (by decide +kernel) ⟨Nat.le_of_ble_eq_true rfl, Nat.le_of_ble_eq_true rfl⟩ hM.1 rfl rfl rfl hl.1 rfl (Nat.le_of_ble_eq_true rfl) dX3_job_2 ⟨Nat.le_of_ble_eq_true rfl, Nat.le_of_ble_eq_true rfl⟩ (fun v g2 H1 locs1 hp hW hKT => ?_)
  obtain ⟨rfl, hg⟩ := hp
  rw [hg] at hW
  refine W.eq (g2 := F0 m 5 ls [.int (bI (isCb r (a)))]) rfl ?_
  refine lv_if_eq (tgt := 42) hx hb dX3_job_5 (by decide) (fun c_399 => ?_) (fun c_399 => ?_)
  · skip
    have c_399 := (bI_eq0 _).mp c_399
    refine lv_bipush (v := -2) hx hb dX3_job_42 (by decide) ?_
    exact r_int hx hb hr hlk hW (by have e1 : Fjob r a b d f q = (-2, r) := (by first | (simp [Fjob, mIn1, lt4, c_399]; done) | (simp_all [Fjob, mIn1, lt4]; done)); rw [e1]; exact ⟨rfl, hM⟩) (Nat.le_of_ble_eq_true rfl) (Nat.le_of_ble_eq_true rfl) dX3_job_44
  · skip
    have c_399 := bI_ne0 c_399
    have hb_400 : ix (a) < 8 := isCb_lt c_399
    have hca := can_eq (hIV.2.2.2 _ (isCb_lt c_399)).2.1.2 b
    refine lv_iload_n hx hb dX3_job_8 rfl (lv_at hl 2 rfl) ?_
    refine lv_iconst (v := 0) hx hb dX3_job_9 (by decide) ?_
    refine lv_iconst (v := 5) hx hb dX3_job_10 (by decide) ?_
    refine c_stat (own := RX3) (As := [.int (b), .int (0), .int (5)]) (rest := []) hx hb hml hown hts hK hW (k_X3_in l _ _ _) ml_RX3_78 st_yX3_in in_RX3 cd_yX3_in 3 (by decide +kernel) ⟨Nat.le_of_ble_eq_true rfl, Nat.le_of_ble_eq_true rfl⟩ rfl hl.1 rfl (Nat.le_of_ble_eq_true rfl) dX3_job_11 ⟨Nat.le_of_ble_eq_true rfl, Nat.le_of_ble_eq_true rfl⟩ (fun v g2 H1 locs1 hp hW hKT => ?_)
    obtain ⟨rfl, hg⟩ := hp
    rw [hg] at hW
    refine W.eq (g2 := F0 m 14 ls [.int (bI (mIn (b) (0) (5)))]) rfl ?_
    refine lv_if_eq (tgt := 42) hx hb dX3_job_14 (by decide) (fun c_401 => ?_) (fun c_401 => ?_)
    · skip
      have c_401 := (bI_eq0 _).mp c_401
      refine lv_bipush (v := -2) hx hb dX3_job_42 (by decide) ?_
      exact r_int hx hb hr hlk hW (by have e1 : Fjob r a b d f q = (-2, r) := (by simp only [Fjob, ← hca]; first | (simp [Fjob, mIn1, lt4, c_399, c_401]; done) | (simp_all [Fjob, mIn1, lt4]; done)); rw [e1]; exact ⟨rfl, hM⟩) (Nat.le_of_ble_eq_true rfl) (Nat.le_of_ble_eq_true rfl) dX3_job_44
    · skip
      have c_401 := bI_ne0 c_401
      refine lv_iload hx hb dX3_job_17 (lv_at hl 4 rfl) ?_
      refine lv_iconst (v := -1) hx hb dX3_job_19 (by decide) ?_
      refine lv_icmp_eq (tgt := 32) hx hb dX3_job_20 (by decide) (fun c_402 => ?_) (fun c_402 => ?_)
      · skip
        refine lv_iload hx hb dX3_job_32 (lv_at hl 5 rfl) ?_
        refine lv_iconst (v := 0) hx hb dX3_job_34 (by decide) ?_
        refine lv_iconst (v := 1) hx hb dX3_job_35 (by decide) ?_
        refine c_stat (own := RX3) (As := [.int (q), .int (0), .int (1)]) (rest := []) hx hb hml hown hts hK hW (k_X3_in l _ _ _) ml_RX3_78 st_yX3_in in_RX3 cd_yX3_in 3 (by decide +kernel) ⟨Nat.le_of_ble_eq_true rfl, Nat.le_of_ble_eq_true rfl⟩ rfl hl.1 rfl (Nat.le_of_ble_eq_true rfl) dX3_job_36 ⟨Nat.le_of_ble_eq_true rfl, Nat.le_of_ble_eq_true rfl⟩ (fun v g2 H1 locs1 hp hW hKT => ?_)
        obtain ⟨rfl, hg⟩ := hp
        rw [hg] at hW
        refine W.eq (g2 := F0 m 39 ls [.int (bI (mIn (q) (0) (1)))]) rfl ?_
        refine lv_if_ne (tgt := 45) hx hb dX3_job_39 (by decide) (fun c_403 => ?_) (fun c_403 => ?_)
        · skip
          have c_403 := bI_ne0 c_403
          refine lv_iload_n hx hb dX3_job_45 rfl (lv_at hl 2 rfl) ?_
          refine lv_iconst (v := 2) hx hb dX3_job_46 (by decide) ?_
          refine lv_iconst (v := 4) hx hb dX3_job_47 (by decide) ?_
          refine c_stat (own := RX3) (As := [.int (b), .int (2), .int (4)]) (rest := []) hx hb hml hown hts hK hW (k_X3_in l _ _ _) ml_RX3_78 st_yX3_in in_RX3 cd_yX3_in 3 (by decide +kernel) ⟨Nat.le_of_ble_eq_true rfl, Nat.le_of_ble_eq_true rfl⟩ rfl hl.1 rfl (Nat.le_of_ble_eq_true rfl) dX3_job_48 ⟨Nat.le_of_ble_eq_true rfl, Nat.le_of_ble_eq_true rfl⟩ (fun v g2 H1 locs1 hp hW hKT => ?_)
          obtain ⟨rfl, hg⟩ := hp
          rw [hg] at hW
          refine W.eq (g2 := F0 m 51 ls [.int (bI (mIn (b) (2) (4)))]) rfl ?_
          refine lv_if_eq (tgt := 86) hx hb dX3_job_51 (by decide) (fun c_404 => ?_) (fun c_404 => ?_)
          · skip
            have c_404 := (bI_eq0 _).mp c_404
            refine lv_aload_n hx hb dX3_job_86 rfl (lv_at hl 0 rfl) ?_
            refine m_get hx hb hts hown hK hW hM 13 (by decide) fl_RX3_47 (v := .ref (ad 12)) rfl dX3_job_87 ?_
            refine lv_iload_n hx hb dX3_job_90 rfl (lv_at hl 1 rfl) ?_
            refine lv_iload_n hx hb dX3_job_91 rfl (lv_at hl 2 rfl) ?_
            refine m_iast 12 (j := ix (a)) hx hb hK hW hM (by decide) rfl ((nI_ix (isCb_nn c_399)).symm) (show ix (a) < 8 from by omega) dX3_job_92 (fun H1 locs1 g1 hW hM => ?_)
            refine lv_aload_n hx hb dX3_job_93 rfl (lv_at hl 0 rfl) ?_
            refine m_get hx hb hts hown hK hW hM 14 (by decide) fl_RX3_50 (v := .ref (ad 13)) rfl dX3_job_94 ?_
            refine lv_iload_n hx hb dX3_job_97 rfl (lv_at hl 1 rfl) ?_
            refine lv_iload_n hx hb dX3_job_98 rfl (lv_at hl 3 rfl) ?_
            refine m_iast 13 (j := ix (a)) hx hb hK hW hM (by decide) rfl ((nI_ix (isCb_nn c_399)).symm) (show ix (a) < 8 from by omega) dX3_job_99 (fun H1 locs1 g1 hW hM => ?_)
            refine lv_aload_n hx hb dX3_job_100 rfl (lv_at hl 0 rfl) ?_
            refine m_get hx hb hts hown hK hW hM 15 (by decide) fl_RX3_53 (v := .ref (ad 14)) rfl dX3_job_101 ?_
            refine lv_iload_n hx hb dX3_job_104 rfl (lv_at hl 1 rfl) ?_
            refine lv_iload hx hb dX3_job_105 (lv_at hl 4 rfl) ?_
            refine m_iast 14 (j := ix (a)) hx hb hK hW hM (by decide) rfl ((nI_ix (isCb_nn c_399)).symm) (show ix (a) < 8 from by omega) dX3_job_107 (fun H1 locs1 g1 hW hM => ?_)
            refine lv_aload_n hx hb dX3_job_108 rfl (lv_at hl 0 rfl) ?_
            refine m_get hx hb hts hown hK hW hM 8 (by decide) fl_RX3_32 (v := .ref (ad 7)) rfl dX3_job_109 ?_
            refine lv_iload_n hx hb dX3_job_112 rfl (lv_at hl 1 rfl) ?_
            refine lv_iload hx hb dX3_job_113 (lv_at hl 5 rfl) ?_
            refine lv_iconst (v := 1) hx hb dX3_job_115 (by decide) ?_
            refine lv_icmp_ne (tgt := 123) hx hb dX3_job_116 (by decide) (fun c_405 => ?_) (fun c_405 => ?_)
            · skip
              refine lv_iconst (v := 0) hx hb dX3_job_123 (by decide) ?_
              refine m_zast 7 (j := ix (a)) hx hb hK hW hM (by decide) rfl ((nI_ix (isCb_nn c_399)).symm) (show ix (a) < 8 from by omega) rfl dX3_job_124 (fun H1 locs1 g1 hW hM => ?_)
              refine lv_iconst (v := 1) hx hb dX3_job_125 (by decide) ?_
              exact r_int hx hb hr hlk hW (by have e1 : Fjob r a b d f q = (1, s2 (s2 (s2 (s2 r 12 (ix (a)) (b)) 13 (ix (a)) (d)) 14 (ix (a)) (f)) 7 (ix (a)) (0)) := (by simp only [Fjob, ← hca]; first | (simp [Fjob, mIn1, lt4, c_399, c_401, c_402, c_403, c_404, c_405]; done) | (simp_all [Fjob, mIn1, lt4]; done)); rw [e1]; exact ⟨rfl, hM⟩) (Nat.le_of_ble_eq_true rfl) (Nat.le_of_ble_eq_true rfl) dX3_job_126
            · skip
              refine lv_iconst (v := 1) hx hb dX3_job_119 (by decide) ?_
              refine lv_goto (tgt := 124) hx hb dX3_job_120 (by decide) ?_
              refine m_zast 7 (j := ix (a)) hx hb hK hW hM (by decide) rfl ((nI_ix (isCb_nn c_399)).symm) (show ix (a) < 8 from by omega) rfl dX3_job_124 (fun H1 locs1 g1 hW hM => ?_)
              refine lv_iconst (v := 1) hx hb dX3_job_125 (by decide) ?_
              exact r_int hx hb hr hlk hW (by have e1 : Fjob r a b d f q = (1, s2 (s2 (s2 (s2 r 12 (ix (a)) (b)) 13 (ix (a)) (d)) 14 (ix (a)) (f)) 7 (ix (a)) (1)) := (by simp only [Fjob, ← hca]; first | (simp [Fjob, mIn1, lt4, c_399, c_401, c_402, c_403, c_404, c_405]; done) | (simp_all [Fjob, mIn1, lt4]; done)); rw [e1]; exact ⟨rfl, hM⟩) (Nat.le_of_ble_eq_true rfl) (Nat.le_of_ble_eq_true rfl) dX3_job_126
          · skip
            have c_404 := bI_ne0 c_404
            refine lv_aload_n hx hb dX3_job_54 rfl (lv_at hl 0 rfl) ?_
            refine m_get hx hb hts hown hK hW hM 12 (by decide) fl_RX3_44 (v := .ref (ad 11)) rfl dX3_job_55 ?_
            refine lv_iload_n hx hb dX3_job_58 rfl (lv_at hl 1 rfl) ?_
            refine m_iald 11 (j := ix (a)) (v := r 11 (ix (a))) hx hb hK hW hM (by decide) rfl ((nI_ix (isCb_nn c_399)).symm) (show ix (a) < 8 from by omega) rfl dX3_job_59 ?_
            refine lv_if_eq (tgt := 83) hx hb dX3_job_60 (by decide) (fun c_406 => ?_) (fun c_406 => ?_)
            · skip
              refine lv_bipush (v := -2) hx hb dX3_job_83 (by decide) ?_
              exact r_int hx hb hr hlk hW (by have e1 : Fjob r a b d f q = (-2, r) := (by simp only [Fjob, ← hca]; first | (simp [Fjob, mIn1, lt4, c_399, c_401, c_402, c_403, c_404, c_406]; done) | (simp_all [Fjob, mIn1, lt4]; done)); rw [e1]; exact ⟨rfl, hM⟩) (Nat.le_of_ble_eq_true rfl) (Nat.le_of_ble_eq_true rfl) dX3_job_85
            · skip
              refine lv_aload_n hx hb dX3_job_63 rfl (lv_at hl 0 rfl) ?_
              refine m_get hx hb hts hown hK hW hM 11 (by decide) fl_RX3_41 (v := .ref (ad 10)) rfl dX3_job_64 ?_
              refine lv_iload_n hx hb dX3_job_67 rfl (lv_at hl 1 rfl) ?_
              refine m_iald 10 (j := ix (a)) (v := r 10 (ix (a))) hx hb hK hW hM (by decide) rfl ((nI_ix (isCb_nn c_399)).symm) (show ix (a) < 8 from by omega) rfl dX3_job_68 ?_
              refine lv_iconst (v := 3) hx hb dX3_job_69 (by decide) ?_
              refine lv_icmp_le (tgt := 86) hx hb dX3_job_70 (by decide) (fun c_407 => ?_) (fun c_407 => ?_)
              · skip
                have c_407 := Int32.not_lt.mpr c_407
                refine lv_aload_n hx hb dX3_job_86 rfl (lv_at hl 0 rfl) ?_
                refine m_get hx hb hts hown hK hW hM 13 (by decide) fl_RX3_47 (v := .ref (ad 12)) rfl dX3_job_87 ?_
                refine lv_iload_n hx hb dX3_job_90 rfl (lv_at hl 1 rfl) ?_
                refine lv_iload_n hx hb dX3_job_91 rfl (lv_at hl 2 rfl) ?_
                refine m_iast 12 (j := ix (a)) hx hb hK hW hM (by decide) rfl ((nI_ix (isCb_nn c_399)).symm) (show ix (a) < 8 from by omega) dX3_job_92 (fun H1 locs1 g1 hW hM => ?_)
                refine lv_aload_n hx hb dX3_job_93 rfl (lv_at hl 0 rfl) ?_
                refine m_get hx hb hts hown hK hW hM 14 (by decide) fl_RX3_50 (v := .ref (ad 13)) rfl dX3_job_94 ?_
                refine lv_iload_n hx hb dX3_job_97 rfl (lv_at hl 1 rfl) ?_
                refine lv_iload_n hx hb dX3_job_98 rfl (lv_at hl 3 rfl) ?_
                refine m_iast 13 (j := ix (a)) hx hb hK hW hM (by decide) rfl ((nI_ix (isCb_nn c_399)).symm) (show ix (a) < 8 from by omega) dX3_job_99 (fun H1 locs1 g1 hW hM => ?_)
                refine lv_aload_n hx hb dX3_job_100 rfl (lv_at hl 0 rfl) ?_
                refine m_get hx hb hts hown hK hW hM 15 (by decide) fl_RX3_53 (v := .ref (ad 14)) rfl dX3_job_101 ?_
                refine lv_iload_n hx hb dX3_job_104 rfl (lv_at hl 1 rfl) ?_
                refine lv_iload hx hb dX3_job_105 (lv_at hl 4 rfl) ?_
                refine m_iast 14 (j := ix (a)) hx hb hK hW hM (by decide) rfl ((nI_ix (isCb_nn c_399)).symm) (show ix (a) < 8 from by omega) dX3_job_107 (fun H1 locs1 g1 hW hM => ?_)
                refine lv_aload_n hx hb dX3_job_108 rfl (lv_at hl 0 rfl) ?_
                refine m_get hx hb hts hown hK hW hM 8 (by decide) fl_RX3_32 (v := .ref (ad 7)) rfl dX3_job_109 ?_
                refine lv_iload_n hx hb dX3_job_112 rfl (lv_at hl 1 rfl) ?_
                refine lv_iload hx hb dX3_job_113 (lv_at hl 5 rfl) ?_
                refine lv_iconst (v := 1) hx hb dX3_job_115 (by decide) ?_
                refine lv_icmp_ne (tgt := 123) hx hb dX3_job_116 (by decide) (fun c_408 => ?_) (fun c_408 => ?_)
                · skip
                  refine lv_iconst (v := 0) hx hb dX3_job_123 (by decide) ?_
                  refine m_zast 7 (j := ix (a)) hx hb hK hW hM (by decide) rfl ((nI_ix (isCb_nn c_399)).symm) (show ix (a) < 8 from by omega) rfl dX3_job_124 (fun H1 locs1 g1 hW hM => ?_)
                  refine lv_iconst (v := 1) hx hb dX3_job_125 (by decide) ?_
                  exact r_int hx hb hr hlk hW (by have e1 : Fjob r a b d f q = (1, s2 (s2 (s2 (s2 r 12 (ix (a)) (b)) 13 (ix (a)) (d)) 14 (ix (a)) (f)) 7 (ix (a)) (0)) := (by simp only [Fjob, ← hca]; first | (simp [Fjob, mIn1, lt4, c_399, c_401, c_402, c_403, c_404, c_406, c_407, c_408]; done) | (simp_all [Fjob, mIn1, lt4]; done)); rw [e1]; exact ⟨rfl, hM⟩) (Nat.le_of_ble_eq_true rfl) (Nat.le_of_ble_eq_true rfl) dX3_job_126
                · skip
                  refine lv_iconst (v := 1) hx hb dX3_job_119 (by decide) ?_
                  refine lv_goto (tgt := 124) hx hb dX3_job_120 (by decide) ?_
                  refine m_zast 7 (j := ix (a)) hx hb hK hW hM (by decide) rfl ((nI_ix (isCb_nn c_399)).symm) (show ix (a) < 8 from by omega) rfl dX3_job_124 (fun H1 locs1 g1 hW hM => ?_)
                  refine lv_iconst (v := 1) hx hb dX3_job_125 (by decide) ?_
                  exact r_int hx hb hr hlk hW (by have e1 : Fjob r a b d f q = (1, s2 (s2 (s2 (s2 r 12 (ix (a)) (b)) 13 (ix (a)) (d)) 14 (ix (a)) (f)) 7 (ix (a)) (1)) := (by simp only [Fjob, ← hca]; first | (simp [Fjob, mIn1, lt4, c_399, c_401, c_402, c_403, c_404, c_406, c_407, c_408]; done) | (simp_all [Fjob, mIn1, lt4]; done)); rw [e1]; exact ⟨rfl, hM⟩) (Nat.le_of_ble_eq_true rfl) (Nat.le_of_ble_eq_true rfl) dX3_job_126
              · skip
                have c_407 := Int32.not_le.mp c_407
                refine lv_aload_n hx hb dX3_job_73 rfl (lv_at hl 0 rfl) ?_
                refine m_get hx hb hts hown hK hW hM 12 (by decide) fl_RX3_44 (v := .ref (ad 11)) rfl dX3_job_74 ?_
                refine lv_iload_n hx hb dX3_job_77 rfl (lv_at hl 1 rfl) ?_
                refine m_iald 11 (j := ix (a)) (v := r 11 (ix (a))) hx hb hK hW hM (by decide) rfl ((nI_ix (isCb_nn c_399)).symm) (show ix (a) < 8 from by omega) rfl dX3_job_78 ?_
                refine lv_iconst (v := 1) hx hb dX3_job_79 (by decide) ?_
                refine lv_icmp_ne (tgt := 86) hx hb dX3_job_80 (by decide) (fun c_409 => ?_) (fun c_409 => ?_)
                · skip
                  refine lv_aload_n hx hb dX3_job_86 rfl (lv_at hl 0 rfl) ?_
                  refine m_get hx hb hts hown hK hW hM 13 (by decide) fl_RX3_47 (v := .ref (ad 12)) rfl dX3_job_87 ?_
                  refine lv_iload_n hx hb dX3_job_90 rfl (lv_at hl 1 rfl) ?_
                  refine lv_iload_n hx hb dX3_job_91 rfl (lv_at hl 2 rfl) ?_
                  refine m_iast 12 (j := ix (a)) hx hb hK hW hM (by decide) rfl ((nI_ix (isCb_nn c_399)).symm) (show ix (a) < 8 from by omega) dX3_job_92 (fun H1 locs1 g1 hW hM => ?_)
                  refine lv_aload_n hx hb dX3_job_93 rfl (lv_at hl 0 rfl) ?_
                  refine m_get hx hb hts hown hK hW hM 14 (by decide) fl_RX3_50 (v := .ref (ad 13)) rfl dX3_job_94 ?_
                  refine lv_iload_n hx hb dX3_job_97 rfl (lv_at hl 1 rfl) ?_
                  refine lv_iload_n hx hb dX3_job_98 rfl (lv_at hl 3 rfl) ?_
                  refine m_iast 13 (j := ix (a)) hx hb hK hW hM (by decide) rfl ((nI_ix (isCb_nn c_399)).symm) (show ix (a) < 8 from by omega) dX3_job_99 (fun H1 locs1 g1 hW hM => ?_)
                  refine lv_aload_n hx hb dX3_job_100 rfl (lv_at hl 0 rfl) ?_
                  refine m_get hx hb hts hown hK hW hM 15 (by decide) fl_RX3_53 (v := .ref (ad 14)) rfl dX3_job_101 ?_
                  refine lv_iload_n hx hb dX3_job_104 rfl (lv_at hl 1 rfl) ?_
                  refine lv_iload hx hb dX3_job_105 (lv_at hl 4 rfl) ?_
                  refine m_iast 14 (j := ix (a)) hx hb hK hW hM (by decide) rfl ((nI_ix (isCb_nn c_399)).symm) (show ix (a) < 8 from by omega) dX3_job_107 (fun H1 locs1 g1 hW hM => ?_)
                  refine lv_aload_n hx hb dX3_job_108 rfl (lv_at hl 0 rfl) ?_
                  refine m_get hx hb hts hown hK hW hM 8 (by decide) fl_RX3_32 (v := .ref (ad 7)) rfl dX3_job_109 ?_
                  refine lv_iload_n hx hb dX3_job_112 rfl (lv_at hl 1 rfl) ?_
                  refine lv_iload hx hb dX3_job_113 (lv_at hl 5 rfl) ?_
                  refine lv_iconst (v := 1) hx hb dX3_job_115 (by decide) ?_
                  refine lv_icmp_ne (tgt := 123) hx hb dX3_job_116 (by decide) (fun c_410 => ?_) (fun c_410 => ?_)
                  · skip
                    refine lv_iconst (v := 0) hx hb dX3_job_123 (by decide) ?_
                    refine m_zast 7 (j := ix (a)) hx hb hK hW hM (by decide) rfl ((nI_ix (isCb_nn c_399)).symm) (show ix (a) < 8 from by omega) rfl dX3_job_124 (fun H1 locs1 g1 hW hM => ?_)
                    refine lv_iconst (v := 1) hx hb dX3_job_125 (by decide) ?_
                    exact r_int hx hb hr hlk hW (by have e1 : Fjob r a b d f q = (1, s2 (s2 (s2 (s2 r 12 (ix (a)) (b)) 13 (ix (a)) (d)) 14 (ix (a)) (f)) 7 (ix (a)) (0)) := (by simp only [Fjob, ← hca]; first | (simp [Fjob, mIn1, lt4, c_399, c_401, c_402, c_403, c_404, c_406, c_407, c_409, c_410]; done) | (simp_all [Fjob, mIn1, lt4]; done)); rw [e1]; exact ⟨rfl, hM⟩) (Nat.le_of_ble_eq_true rfl) (Nat.le_of_ble_eq_true rfl) dX3_job_126
                  · skip
                    refine lv_iconst (v := 1) hx hb dX3_job_119 (by decide) ?_
                    refine lv_goto (tgt := 124) hx hb dX3_job_120 (by decide) ?_
                    refine m_zast 7 (j := ix (a)) hx hb hK hW hM (by decide) rfl ((nI_ix (isCb_nn c_399)).symm) (show ix (a) < 8 from by omega) rfl dX3_job_124 (fun H1 locs1 g1 hW hM => ?_)
                    refine lv_iconst (v := 1) hx hb dX3_job_125 (by decide) ?_
                    exact r_int hx hb hr hlk hW (by have e1 : Fjob r a b d f q = (1, s2 (s2 (s2 (s2 r 12 (ix (a)) (b)) 13 (ix (a)) (d)) 14 (ix (a)) (f)) 7 (ix (a)) (1)) := (by simp only [Fjob, ← hca]; first | (simp [Fjob, mIn1, lt4, c_399, c_401, c_402, c_403, c_404, c_406, c_407, c_409, c_410]; done) | (simp_all [Fjob, mIn1, lt4]; done)); rw [e1]; exact ⟨rfl, hM⟩) (Nat.le_of_ble_eq_true rfl) (Nat.le_of_ble_eq_true rfl) dX3_job_126
                · skip
                  refine lv_bipush (v := -2) hx hb dX3_job_83 (by decide) ?_
                  exact r_int hx hb hr hlk hW (by have e1 : Fjob r a b d f q = (-2, r) := (by simp only [Fjob, ← hca]; first | (simp [Fjob, mIn1, lt4, c_399, c_401, c_402, c_403, c_404, c_406, c_407, c_409]; done) | (simp_all [Fjob, mIn1, lt4]; done)); rw [e1]; exact ⟨rfl, hM⟩) (Nat.le_of_ble_eq_true rfl) (Nat.le_of_ble_eq_true rfl) dX3_job_85
        · skip
          have c_403 := (bI_eq0 _).mp c_403
          refine lv_bipush (v := -2) hx hb dX3_job_42 (by decide) ?_
          exact r_int hx hb hr hlk hW (by have e1 : Fjob r a b d f q = (-2, r) := (by simp only [Fjob, ← hca]; first | (simp [Fjob, mIn1, lt4, c_399, c_401, c_402, c_403]; done) | (simp_all [Fjob, mIn1, lt4]; done)); rw [e1]; exact ⟨rfl, hM⟩) (Nat.le_of_ble_eq_true rfl) (Nat.le_of_ble_eq_true rfl) dX3_job_44
      · skip
        refine lv_aload_n hx hb dX3_job_23 rfl (lv_at hl 0 rfl) ?_
        refine lv_iload hx hb dX3_job_24 (lv_at hl 4 rfl) ?_
        refine c_virt (own := RX3) (As := [.int (f)]) (rest := []) hx hb hml hown hts hK hW (k_X3_isMessage l hM hIV.1 hIV.2.1 _) ml_RX3_97 im_yX3_isMessage se_yX3_isMessage in_RX3 cd_yX3_isMessage 1 (by decide +kernel) ⟨Nat.le_of_ble_eq_true rfl, Nat.le_of_ble_eq_true rfl⟩ hM.1 rfl rfl rfl hl.1 rfl (Nat.le_of_ble_eq_true rfl) dX3_job_26 ⟨Nat.le_of_ble_eq_true rfl, Nat.le_of_ble_eq_true rfl⟩ (fun v g2 H1 locs1 hp hW hKT => ?_)
        obtain ⟨rfl, hg⟩ := hp
        rw [hg] at hW
        refine W.eq (g2 := F0 m 29 ls [.int (bI (isMb r (f)))]) rfl ?_
        refine lv_if_eq (tgt := 42) hx hb dX3_job_29 (by decide) (fun c_411 => ?_) (fun c_411 => ?_)
        · skip
          have c_411 := (bI_eq0 _).mp c_411
          refine lv_bipush (v := -2) hx hb dX3_job_42 (by decide) ?_
          exact r_int hx hb hr hlk hW (by have e1 : Fjob r a b d f q = (-2, r) := (by simp only [Fjob, ← hca]; first | (simp [Fjob, mIn1, lt4, c_399, c_401, c_402, c_411]; done) | (simp_all [Fjob, mIn1, lt4]; done)); rw [e1]; exact ⟨rfl, hM⟩) (Nat.le_of_ble_eq_true rfl) (Nat.le_of_ble_eq_true rfl) dX3_job_44
        · skip
          have c_411 := bI_ne0 c_411
          have hb_412 : ix (f) < 60 := by have := isMb_lt c_411; have := hIV.2.1; omega
          refine lv_iload hx hb dX3_job_32 (lv_at hl 5 rfl) ?_
          refine lv_iconst (v := 0) hx hb dX3_job_34 (by decide) ?_
          refine lv_iconst (v := 1) hx hb dX3_job_35 (by decide) ?_
          refine c_stat (own := RX3) (As := [.int (q), .int (0), .int (1)]) (rest := []) hx hb hml hown hts hK hW (k_X3_in l _ _ _) ml_RX3_78 st_yX3_in in_RX3 cd_yX3_in 3 (by decide +kernel) ⟨Nat.le_of_ble_eq_true rfl, Nat.le_of_ble_eq_true rfl⟩ rfl hl.1 rfl (Nat.le_of_ble_eq_true rfl) dX3_job_36 ⟨Nat.le_of_ble_eq_true rfl, Nat.le_of_ble_eq_true rfl⟩ (fun v g2 H1 locs1 hp hW hKT => ?_)
          obtain ⟨rfl, hg⟩ := hp
          rw [hg] at hW
          refine W.eq (g2 := F0 m 39 ls [.int (bI (mIn (q) (0) (1)))]) rfl ?_
          refine lv_if_ne (tgt := 45) hx hb dX3_job_39 (by decide) (fun c_413 => ?_) (fun c_413 => ?_)
          · skip
            have c_413 := bI_ne0 c_413
            refine lv_iload_n hx hb dX3_job_45 rfl (lv_at hl 2 rfl) ?_
            refine lv_iconst (v := 2) hx hb dX3_job_46 (by decide) ?_
            refine lv_iconst (v := 4) hx hb dX3_job_47 (by decide) ?_
            refine c_stat (own := RX3) (As := [.int (b), .int (2), .int (4)]) (rest := []) hx hb hml hown hts hK hW (k_X3_in l _ _ _) ml_RX3_78 st_yX3_in in_RX3 cd_yX3_in 3 (by decide +kernel) ⟨Nat.le_of_ble_eq_true rfl, Nat.le_of_ble_eq_true rfl⟩ rfl hl.1 rfl (Nat.le_of_ble_eq_true rfl) dX3_job_48 ⟨Nat.le_of_ble_eq_true rfl, Nat.le_of_ble_eq_true rfl⟩ (fun v g2 H1 locs1 hp hW hKT => ?_)
            obtain ⟨rfl, hg⟩ := hp
            rw [hg] at hW
            refine W.eq (g2 := F0 m 51 ls [.int (bI (mIn (b) (2) (4)))]) rfl ?_
            refine lv_if_eq (tgt := 86) hx hb dX3_job_51 (by decide) (fun c_414 => ?_) (fun c_414 => ?_)
            · skip
              have c_414 := (bI_eq0 _).mp c_414
              refine lv_aload_n hx hb dX3_job_86 rfl (lv_at hl 0 rfl) ?_
              refine m_get hx hb hts hown hK hW hM 13 (by decide) fl_RX3_47 (v := .ref (ad 12)) rfl dX3_job_87 ?_
              refine lv_iload_n hx hb dX3_job_90 rfl (lv_at hl 1 rfl) ?_
              refine lv_iload_n hx hb dX3_job_91 rfl (lv_at hl 2 rfl) ?_
              refine m_iast 12 (j := ix (a)) hx hb hK hW hM (by decide) rfl ((nI_ix (isCb_nn c_399)).symm) (show ix (a) < 8 from by omega) dX3_job_92 (fun H1 locs1 g1 hW hM => ?_)
              refine lv_aload_n hx hb dX3_job_93 rfl (lv_at hl 0 rfl) ?_
              refine m_get hx hb hts hown hK hW hM 14 (by decide) fl_RX3_50 (v := .ref (ad 13)) rfl dX3_job_94 ?_
              refine lv_iload_n hx hb dX3_job_97 rfl (lv_at hl 1 rfl) ?_
              refine lv_iload_n hx hb dX3_job_98 rfl (lv_at hl 3 rfl) ?_
              refine m_iast 13 (j := ix (a)) hx hb hK hW hM (by decide) rfl ((nI_ix (isCb_nn c_399)).symm) (show ix (a) < 8 from by omega) dX3_job_99 (fun H1 locs1 g1 hW hM => ?_)
              refine lv_aload_n hx hb dX3_job_100 rfl (lv_at hl 0 rfl) ?_
              refine m_get hx hb hts hown hK hW hM 15 (by decide) fl_RX3_53 (v := .ref (ad 14)) rfl dX3_job_101 ?_
              refine lv_iload_n hx hb dX3_job_104 rfl (lv_at hl 1 rfl) ?_
              refine lv_iload hx hb dX3_job_105 (lv_at hl 4 rfl) ?_
              refine m_iast 14 (j := ix (a)) hx hb hK hW hM (by decide) rfl ((nI_ix (isCb_nn c_399)).symm) (show ix (a) < 8 from by omega) dX3_job_107 (fun H1 locs1 g1 hW hM => ?_)
              refine lv_aload_n hx hb dX3_job_108 rfl (lv_at hl 0 rfl) ?_
              refine m_get hx hb hts hown hK hW hM 8 (by decide) fl_RX3_32 (v := .ref (ad 7)) rfl dX3_job_109 ?_
              refine lv_iload_n hx hb dX3_job_112 rfl (lv_at hl 1 rfl) ?_
              refine lv_iload hx hb dX3_job_113 (lv_at hl 5 rfl) ?_
              refine lv_iconst (v := 1) hx hb dX3_job_115 (by decide) ?_
              refine lv_icmp_ne (tgt := 123) hx hb dX3_job_116 (by decide) (fun c_415 => ?_) (fun c_415 => ?_)
              · skip
                refine lv_iconst (v := 0) hx hb dX3_job_123 (by decide) ?_
                refine m_zast 7 (j := ix (a)) hx hb hK hW hM (by decide) rfl ((nI_ix (isCb_nn c_399)).symm) (show ix (a) < 8 from by omega) rfl dX3_job_124 (fun H1 locs1 g1 hW hM => ?_)
                refine lv_iconst (v := 1) hx hb dX3_job_125 (by decide) ?_
                exact r_int hx hb hr hlk hW (by have e1 : Fjob r a b d f q = (1, s2 (s2 (s2 (s2 r 12 (ix (a)) (b)) 13 (ix (a)) (d)) 14 (ix (a)) (f)) 7 (ix (a)) (0)) := (by simp only [Fjob, ← hca]; first | (simp [Fjob, mIn1, lt4, c_399, c_401, c_402, c_411, c_413, c_414, c_415]; done) | (simp_all [Fjob, mIn1, lt4]; done)); rw [e1]; exact ⟨rfl, hM⟩) (Nat.le_of_ble_eq_true rfl) (Nat.le_of_ble_eq_true rfl) dX3_job_126
              · skip
                refine lv_iconst (v := 1) hx hb dX3_job_119 (by decide) ?_
                refine lv_goto (tgt := 124) hx hb dX3_job_120 (by decide) ?_
                refine m_zast 7 (j := ix (a)) hx hb hK hW hM (by decide) rfl ((nI_ix (isCb_nn c_399)).symm) (show ix (a) < 8 from by omega) rfl dX3_job_124 (fun H1 locs1 g1 hW hM => ?_)
                refine lv_iconst (v := 1) hx hb dX3_job_125 (by decide) ?_
                exact r_int hx hb hr hlk hW (by have e1 : Fjob r a b d f q = (1, s2 (s2 (s2 (s2 r 12 (ix (a)) (b)) 13 (ix (a)) (d)) 14 (ix (a)) (f)) 7 (ix (a)) (1)) := (by simp only [Fjob, ← hca]; first | (simp [Fjob, mIn1, lt4, c_399, c_401, c_402, c_411, c_413, c_414, c_415]; done) | (simp_all [Fjob, mIn1, lt4]; done)); rw [e1]; exact ⟨rfl, hM⟩) (Nat.le_of_ble_eq_true rfl) (Nat.le_of_ble_eq_true rfl) dX3_job_126
            · skip
              have c_414 := bI_ne0 c_414
              refine lv_aload_n hx hb dX3_job_54 rfl (lv_at hl 0 rfl) ?_
              refine m_get hx hb hts hown hK hW hM 12 (by decide) fl_RX3_44 (v := .ref (ad 11)) rfl dX3_job_55 ?_
              refine lv_iload_n hx hb dX3_job_58 rfl (lv_at hl 1 rfl) ?_
              refine m_iald 11 (j := ix (a)) (v := r 11 (ix (a))) hx hb hK hW hM (by decide) rfl ((nI_ix (isCb_nn c_399)).symm) (show ix (a) < 8 from by omega) rfl dX3_job_59 ?_
              refine lv_if_eq (tgt := 83) hx hb dX3_job_60 (by decide) (fun c_416 => ?_) (fun c_416 => ?_)
              · skip
                refine lv_bipush (v := -2) hx hb dX3_job_83 (by decide) ?_
                exact r_int hx hb hr hlk hW (by have e1 : Fjob r a b d f q = (-2, r) := (by simp only [Fjob, ← hca]; first | (simp [Fjob, mIn1, lt4, c_399, c_401, c_402, c_411, c_413, c_414, c_416]; done) | (simp_all [Fjob, mIn1, lt4]; done)); rw [e1]; exact ⟨rfl, hM⟩) (Nat.le_of_ble_eq_true rfl) (Nat.le_of_ble_eq_true rfl) dX3_job_85
              · skip
                refine lv_aload_n hx hb dX3_job_63 rfl (lv_at hl 0 rfl) ?_
                refine m_get hx hb hts hown hK hW hM 11 (by decide) fl_RX3_41 (v := .ref (ad 10)) rfl dX3_job_64 ?_
                refine lv_iload_n hx hb dX3_job_67 rfl (lv_at hl 1 rfl) ?_
                refine m_iald 10 (j := ix (a)) (v := r 10 (ix (a))) hx hb hK hW hM (by decide) rfl ((nI_ix (isCb_nn c_399)).symm) (show ix (a) < 8 from by omega) rfl dX3_job_68 ?_
                refine lv_iconst (v := 3) hx hb dX3_job_69 (by decide) ?_
                refine lv_icmp_le (tgt := 86) hx hb dX3_job_70 (by decide) (fun c_417 => ?_) (fun c_417 => ?_)
                · skip
                  have c_417 := Int32.not_lt.mpr c_417
                  refine lv_aload_n hx hb dX3_job_86 rfl (lv_at hl 0 rfl) ?_
                  refine m_get hx hb hts hown hK hW hM 13 (by decide) fl_RX3_47 (v := .ref (ad 12)) rfl dX3_job_87 ?_
                  refine lv_iload_n hx hb dX3_job_90 rfl (lv_at hl 1 rfl) ?_
                  refine lv_iload_n hx hb dX3_job_91 rfl (lv_at hl 2 rfl) ?_
                  refine m_iast 12 (j := ix (a)) hx hb hK hW hM (by decide) rfl ((nI_ix (isCb_nn c_399)).symm) (show ix (a) < 8 from by omega) dX3_job_92 (fun H1 locs1 g1 hW hM => ?_)
                  refine lv_aload_n hx hb dX3_job_93 rfl (lv_at hl 0 rfl) ?_
                  refine m_get hx hb hts hown hK hW hM 14 (by decide) fl_RX3_50 (v := .ref (ad 13)) rfl dX3_job_94 ?_
                  refine lv_iload_n hx hb dX3_job_97 rfl (lv_at hl 1 rfl) ?_
                  refine lv_iload_n hx hb dX3_job_98 rfl (lv_at hl 3 rfl) ?_
                  refine m_iast 13 (j := ix (a)) hx hb hK hW hM (by decide) rfl ((nI_ix (isCb_nn c_399)).symm) (show ix (a) < 8 from by omega) dX3_job_99 (fun H1 locs1 g1 hW hM => ?_)
                  refine lv_aload_n hx hb dX3_job_100 rfl (lv_at hl 0 rfl) ?_
                  refine m_get hx hb hts hown hK hW hM 15 (by decide) fl_RX3_53 (v := .ref (ad 14)) rfl dX3_job_101 ?_
                  refine lv_iload_n hx hb dX3_job_104 rfl (lv_at hl 1 rfl) ?_
                  refine lv_iload hx hb dX3_job_105 (lv_at hl 4 rfl) ?_
                  refine m_iast 14 (j := ix (a)) hx hb hK hW hM (by decide) rfl ((nI_ix (isCb_nn c_399)).symm) (show ix (a) < 8 from by omega) dX3_job_107 (fun H1 locs1 g1 hW hM => ?_)
                  refine lv_aload_n hx hb dX3_job_108 rfl (lv_at hl 0 rfl) ?_
                  refine m_get hx hb hts hown hK hW hM 8 (by decide) fl_RX3_32 (v := .ref (ad 7)) rfl dX3_job_109 ?_
                  refine lv_iload_n hx hb dX3_job_112 rfl (lv_at hl 1 rfl) ?_
                  refine lv_iload hx hb dX3_job_113 (lv_at hl 5 rfl) ?_
                  refine lv_iconst (v := 1) hx hb dX3_job_115 (by decide) ?_
                  refine lv_icmp_ne (tgt := 123) hx hb dX3_job_116 (by decide) (fun c_418 => ?_) (fun c_418 => ?_)
                  · skip
                    refine lv_iconst (v := 0) hx hb dX3_job_123 (by decide) ?_
                    refine m_zast 7 (j := ix (a)) hx hb hK hW hM (by decide) rfl ((nI_ix (isCb_nn c_399)).symm) (show ix (a) < 8 from by omega) rfl dX3_job_124 (fun H1 locs1 g1 hW hM => ?_)
                    refine lv_iconst (v := 1) hx hb dX3_job_125 (by decide) ?_
                    exact r_int hx hb hr hlk hW (by have e1 : Fjob r a b d f q = (1, s2 (s2 (s2 (s2 r 12 (ix (a)) (b)) 13 (ix (a)) (d)) 14 (ix (a)) (f)) 7 (ix (a)) (0)) := (by simp only [Fjob, ← hca]; first | (simp [Fjob, mIn1, lt4, c_399, c_401, c_402, c_411, c_413, c_414, c_416, c_417, c_418]; done) | (simp_all [Fjob, mIn1, lt4]; done)); rw [e1]; exact ⟨rfl, hM⟩) (Nat.le_of_ble_eq_true rfl) (Nat.le_of_ble_eq_true rfl) dX3_job_126
                  · skip
                    refine lv_iconst (v := 1) hx hb dX3_job_119 (by decide) ?_
                    refine lv_goto (tgt := 124) hx hb dX3_job_120 (by decide) ?_
                    refine m_zast 7 (j := ix (a)) hx hb hK hW hM (by decide) rfl ((nI_ix (isCb_nn c_399)).symm) (show ix (a) < 8 from by omega) rfl dX3_job_124 (fun H1 locs1 g1 hW hM => ?_)
                    refine lv_iconst (v := 1) hx hb dX3_job_125 (by decide) ?_
                    exact r_int hx hb hr hlk hW (by have e1 : Fjob r a b d f q = (1, s2 (s2 (s2 (s2 r 12 (ix (a)) (b)) 13 (ix (a)) (d)) 14 (ix (a)) (f)) 7 (ix (a)) (1)) := (by simp only [Fjob, ← hca]; first | (simp [Fjob, mIn1, lt4, c_399, c_401, c_402, c_411, c_413, c_414, c_416, c_417, c_418]; done) | (simp_all [Fjob, mIn1, lt4]; done)); rw [e1]; exact ⟨rfl, hM⟩) (Nat.le_of_ble_eq_true rfl) (Nat.le_of_ble_eq_true rfl) dX3_job_126
                · skip
                  have c_417 := Int32.not_le.mp c_417
                  refine lv_aload_n hx hb dX3_job_73 rfl (lv_at hl 0 rfl) ?_
                  refine m_get hx hb hts hown hK hW hM 12 (by decide) fl_RX3_44 (v := .ref (ad 11)) rfl dX3_job_74 ?_
                  refine lv_iload_n hx hb dX3_job_77 rfl (lv_at hl 1 rfl) ?_
                  refine m_iald 11 (j := ix (a)) (v := r 11 (ix (a))) hx hb hK hW hM (by decide) rfl ((nI_ix (isCb_nn c_399)).symm) (show ix (a) < 8 from by omega) rfl dX3_job_78 ?_
                  refine lv_iconst (v := 1) hx hb dX3_job_79 (by decide) ?_
                  refine lv_icmp_ne (tgt := 86) hx hb dX3_job_80 (by decide) (fun c_419 => ?_) (fun c_419 => ?_)
                  · skip
                    refine lv_aload_n hx hb dX3_job_86 rfl (lv_at hl 0 rfl) ?_
                    refine m_get hx hb hts hown hK hW hM 13 (by decide) fl_RX3_47 (v := .ref (ad 12)) rfl dX3_job_87 ?_
                    refine lv_iload_n hx hb dX3_job_90 rfl (lv_at hl 1 rfl) ?_
                    refine lv_iload_n hx hb dX3_job_91 rfl (lv_at hl 2 rfl) ?_
                    refine m_iast 12 (j := ix (a)) hx hb hK hW hM (by decide) rfl ((nI_ix (isCb_nn c_399)).symm) (show ix (a) < 8 from by omega) dX3_job_92 (fun H1 locs1 g1 hW hM => ?_)
                    refine lv_aload_n hx hb dX3_job_93 rfl (lv_at hl 0 rfl) ?_
                    refine m_get hx hb hts hown hK hW hM 14 (by decide) fl_RX3_50 (v := .ref (ad 13)) rfl dX3_job_94 ?_
                    refine lv_iload_n hx hb dX3_job_97 rfl (lv_at hl 1 rfl) ?_
                    refine lv_iload_n hx hb dX3_job_98 rfl (lv_at hl 3 rfl) ?_
                    refine m_iast 13 (j := ix (a)) hx hb hK hW hM (by decide) rfl ((nI_ix (isCb_nn c_399)).symm) (show ix (a) < 8 from by omega) dX3_job_99 (fun H1 locs1 g1 hW hM => ?_)
                    refine lv_aload_n hx hb dX3_job_100 rfl (lv_at hl 0 rfl) ?_
                    refine m_get hx hb hts hown hK hW hM 15 (by decide) fl_RX3_53 (v := .ref (ad 14)) rfl dX3_job_101 ?_
                    refine lv_iload_n hx hb dX3_job_104 rfl (lv_at hl 1 rfl) ?_
                    refine lv_iload hx hb dX3_job_105 (lv_at hl 4 rfl) ?_
                    refine m_iast 14 (j := ix (a)) hx hb hK hW hM (by decide) rfl ((nI_ix (isCb_nn c_399)).symm) (show ix (a) < 8 from by omega) dX3_job_107 (fun H1 locs1 g1 hW hM => ?_)
                    refine lv_aload_n hx hb dX3_job_108 rfl (lv_at hl 0 rfl) ?_
                    refine m_get hx hb hts hown hK hW hM 8 (by decide) fl_RX3_32 (v := .ref (ad 7)) rfl dX3_job_109 ?_
                    refine lv_iload_n hx hb dX3_job_112 rfl (lv_at hl 1 rfl) ?_
                    refine lv_iload hx hb dX3_job_113 (lv_at hl 5 rfl) ?_
                    refine lv_iconst (v := 1) hx hb dX3_job_115 (by decide) ?_
                    refine lv_icmp_ne (tgt := 123) hx hb dX3_job_116 (by decide) (fun c_420 => ?_) (fun c_420 => ?_)
                    · skip
                      refine lv_iconst (v := 0) hx hb dX3_job_123 (by decide) ?_
                      refine m_zast 7 (j := ix (a)) hx hb hK hW hM (by decide) rfl ((nI_ix (isCb_nn c_399)).symm) (show ix (a) < 8 from by omega) rfl dX3_job_124 (fun H1 locs1 g1 hW hM => ?_)
                      refine lv_iconst (v := 1) hx hb dX3_job_125 (by decide) ?_
                      exact r_int hx hb hr hlk hW (by have e1 : Fjob r a b d f q = (1, s2 (s2 (s2 (s2 r 12 (ix (a)) (b)) 13 (ix (a)) (d)) 14 (ix (a)) (f)) 7 (ix (a)) (0)) := (by simp only [Fjob, ← hca]; first | (simp [Fjob, mIn1, lt4, c_399, c_401, c_402, c_411, c_413, c_414, c_416, c_417, c_419, c_420]; done) | (simp_all [Fjob, mIn1, lt4]; done)); rw [e1]; exact ⟨rfl, hM⟩) (Nat.le_of_ble_eq_true rfl) (Nat.le_of_ble_eq_true rfl) dX3_job_126
                    · skip
                      refine lv_iconst (v := 1) hx hb dX3_job_119 (by decide) ?_
                      refine lv_goto (tgt := 124) hx hb dX3_job_120 (by decide) ?_
                      refine m_zast 7 (j := ix (a)) hx hb hK hW hM (by decide) rfl ((nI_ix (isCb_nn c_399)).symm) (show ix (a) < 8 from by omega) rfl dX3_job_124 (fun H1 locs1 g1 hW hM => ?_)
                      refine lv_iconst (v := 1) hx hb dX3_job_125 (by decide) ?_
                      exact r_int hx hb hr hlk hW (by have e1 : Fjob r a b d f q = (1, s2 (s2 (s2 (s2 r 12 (ix (a)) (b)) 13 (ix (a)) (d)) 14 (ix (a)) (f)) 7 (ix (a)) (1)) := (by simp only [Fjob, ← hca]; first | (simp [Fjob, mIn1, lt4, c_399, c_401, c_402, c_411, c_413, c_414, c_416, c_417, c_419, c_420]; done) | (simp_all [Fjob, mIn1, lt4]; done)); rw [e1]; exact ⟨rfl, hM⟩) (Nat.le_of_ble_eq_true rfl) (Nat.le_of_ble_eq_true rfl) dX3_job_126
                  · skip
                    refine lv_bipush (v := -2) hx hb dX3_job_83 (by decide) ?_
                    exact r_int hx hb hr hlk hW (by have e1 : Fjob r a b d f q = (-2, r) := (by simp only [Fjob, ← hca]; first | (simp [Fjob, mIn1, lt4, c_399, c_401, c_402, c_411, c_413, c_414, c_416, c_417, c_419]; done) | (simp_all [Fjob, mIn1, lt4]; done)); rw [e1]; exact ⟨rfl, hM⟩) (Nat.le_of_ble_eq_true rfl) (Nat.le_of_ble_eq_true rfl) dX3_job_85
          · skip
            have c_413 := (bI_eq0 _).mp c_413
            refine lv_bipush (v := -2) hx hb dX3_job_42 (by decide) ?_
            exact r_int hx hb hr hlk hW (by have e1 : Fjob r a b d f q = (-2, r) := (by simp only [Fjob, ← hca]; first | (simp [Fjob, mIn1, lt4, c_399, c_401, c_402, c_411, c_413]; done) | (simp_all [Fjob, mIn1, lt4]; done)); rw [e1]; exact ⟨rfl, hM⟩) (Nat.le_of_ble_eq_true rfl) (Nat.le_of_ble_eq_true rfl) dX3_job_44

set_option maxHeartbeats 4000000 in
set_option maxRecDepth 100000 in
theorem k_X3_counter (l : Launch) {E : gE} {y : Nat} {ad : Nat → Nat} {r t : sg} {g : gm} (hM : MR E y ad r t g) (hIV : IV r) (a b d f q : Int32) : CM l yX3_counter cX3_counter 6 (some .int) ({ frames := 2, cells := 0, slots := 0, locals := 43 }) E [.ref (y), .int (a), .int (b), .int (d), .int (f), .int (q)] g (fun vv g' => vv = some (.int (Fcounter r a b d f q).1) ∧ MR E y ad (Fcounter r a b d f q).2 t g') := by
  refine CM.of (by decide) (Nat.le_of_ble_eq_true rfl) ?_
  intro p e s m below meth c ls hM hK hW hl
  obtain ⟨hx, hb, hr, hml, hown, hts, hlk, hnm⟩ := hM
  have hown : s.vm.findClass RX3 = some m.cls := hown
  have hl : lv_has ls 6 [(0, .ref (y)), (1, .int (a)), (2, .int (b)), (3, .int (d)), (4, .int (f)), (5, .int (q))] := hl
  refine lv_iload_n hx hb dX3_counter_0 rfl (lv_at hl 1 rfl) ?_
  refine lv_iconst (v := 0) hx hb dX3_counter_1 (by decide) ?_
  refine lv_bipush (v := 7) hx hb dX3_counter_2 (by decide) ?_
  refine c_stat (own := RX3) (As := [.int (a), .int (0), .int (7)]) (rest := []) hx hb hml hown hts hK hW (k_X3_in l _ _ _) ml_RX3_78 st_yX3_in in_RX3 cd_yX3_in 3 (by decide +kernel) ⟨Nat.le_of_ble_eq_true rfl, Nat.le_of_ble_eq_true rfl⟩ rfl hl.1 rfl (Nat.le_of_ble_eq_true rfl) dX3_counter_4 ⟨Nat.le_of_ble_eq_true rfl, Nat.le_of_ble_eq_true rfl⟩ (fun v g2 H1 locs1 hp hW hKT => ?_)
  obtain ⟨rfl, hg⟩ := hp
  rw [hg] at hW
  refine W.eq (g2 := F0 m 7 ls [.int (bI (mIn (a) (0) (7)))]) rfl ?_
  refine lv_if_eq (tgt := 28) hx hb dX3_counter_7 (by decide) (fun c_421 => ?_) (fun c_421 => ?_)
  · skip
    have c_421 := (bI_eq0 _).mp c_421
    refine lv_bipush (v := -2) hx hb dX3_counter_28 (by decide) ?_
    exact r_int hx hb hr hlk hW (by have e1 : Fcounter r a b d f q = (-2, r) := (by simp only [Fcounter, ← Bool.and_assoc]; rw [← in7b]; simp [c_421]); rw [e1]; exact ⟨rfl, hM⟩) (Nat.le_of_ble_eq_true rfl) (Nat.le_of_ble_eq_true rfl) dX3_counter_30
  · skip
    have c_421 := bI_ne0 c_421
    have hb_422 := in7 (n := 7) (by decide) c_421
    have nhb_422 := hb_422.2
    refine lv_iload_n hx hb dX3_counter_10 rfl (lv_at hl 2 rfl) ?_
    refine lv_iload_n hx hb dX3_counter_11 rfl (lv_at hl 3 rfl) ?_
    refine c_stat (own := RX3) (As := [.int (b), .int (d)]) (rest := []) hx hb hml hown hts hK hW (k_X3_isView l _ _) ml_RX3_111 st_yX3_isView in_RX3 cd_yX3_isView 2 (by decide +kernel) ⟨Nat.le_of_ble_eq_true rfl, Nat.le_of_ble_eq_true rfl⟩ rfl hl.1 rfl (Nat.le_of_ble_eq_true rfl) dX3_counter_12 ⟨Nat.le_of_ble_eq_true rfl, Nat.le_of_ble_eq_true rfl⟩ (fun v g2 H1 locs1 hp hW hKT => ?_)
    obtain ⟨rfl, hg⟩ := hp
    rw [hg] at hW
    refine W.eq (g2 := F0 m 15 ls [.int (bI (kindB (b) (d)))]) rfl ?_
    refine lv_if_eq (tgt := 28) hx hb dX3_counter_15 (by decide) (fun c_423 => ?_) (fun c_423 => ?_)
    · skip
      have c_423 := (bI_eq0 _).mp c_423
      refine lv_bipush (v := -2) hx hb dX3_counter_28 (by decide) ?_
      exact r_int hx hb hr hlk hW (by have e1 : Fcounter r a b d f q = (-2, r) := (by simp only [Fcounter, ← Bool.and_assoc]; rw [← in7b]; simp [c_421, c_423]); rw [e1]; exact ⟨rfl, hM⟩) (Nat.le_of_ble_eq_true rfl) (Nat.le_of_ble_eq_true rfl) dX3_counter_30
    · skip
      have c_423 := bI_ne0 c_423
      refine lv_iload hx hb dX3_counter_18 (lv_at hl 4 rfl) ?_
      refine lv_iload hx hb dX3_counter_20 (lv_at hl 5 rfl) ?_
      refine c_stat (own := RX3) (As := [.int (f), .int (q)]) (rest := []) hx hb hml hown hts hK hW (k_X3_isView l _ _) ml_RX3_111 st_yX3_isView in_RX3 cd_yX3_isView 2 (by decide +kernel) ⟨Nat.le_of_ble_eq_true rfl, Nat.le_of_ble_eq_true rfl⟩ rfl hl.1 rfl (Nat.le_of_ble_eq_true rfl) dX3_counter_22 ⟨Nat.le_of_ble_eq_true rfl, Nat.le_of_ble_eq_true rfl⟩ (fun v g2 H1 locs1 hp hW hKT => ?_)
      obtain ⟨rfl, hg⟩ := hp
      rw [hg] at hW
      refine W.eq (g2 := F0 m 25 ls [.int (bI (kindB (f) (q)))]) rfl ?_
      refine lv_if_ne (tgt := 31) hx hb dX3_counter_25 (by decide) (fun c_424 => ?_) (fun c_424 => ?_)
      · skip
        have c_424 := bI_ne0 c_424
        refine lv_aload_n hx hb dX3_counter_31 rfl (lv_at hl 0 rfl) ?_
        refine m_get hx hb hts hown hK hW hM 6 (by decide) fl_RX3_25 (v := .ref (ad 5)) rfl dX3_counter_32 ?_
        refine lv_iload_n hx hb dX3_counter_35 rfl (lv_at hl 1 rfl) ?_
        refine lv_iconst (v := 1) hx hb dX3_counter_36 (by decide) ?_
        refine m_zast 5 (j := ix a) hx hb hK hW hM (by decide) rfl ((nI_ix hb_422.1).symm) (show ix a < 8 from by omega) rfl dX3_counter_37 (fun H1 locs1 g1 hW hM => ?_)
        refine lv_aload_n hx hb dX3_counter_38 rfl (lv_at hl 0 rfl) ?_
        refine m_get hx hb hts hown hK hW hM 7 (by decide) fl_RX3_29 (v := .ref (ad 6)) rfl dX3_counter_39 ?_
        refine lv_iload_n hx hb dX3_counter_42 rfl (lv_at hl 1 rfl) ?_
        refine lv_iconst (v := 0) hx hb dX3_counter_43 (by decide) ?_
        refine m_zast 6 (j := ix a) hx hb hK hW hM (by decide) rfl ((nI_ix hb_422.1).symm) (show ix a < 8 from by omega) rfl dX3_counter_44 (fun H1 locs1 g1 hW hM => ?_)
        refine lv_aload_n hx hb dX3_counter_45 rfl (lv_at hl 0 rfl) ?_
        refine m_get hx hb hts hown hK hW hM 8 (by decide) fl_RX3_32 (v := .ref (ad 7)) rfl dX3_counter_46 ?_
        refine lv_iload_n hx hb dX3_counter_49 rfl (lv_at hl 1 rfl) ?_
        refine lv_iconst (v := 0) hx hb dX3_counter_50 (by decide) ?_
        refine m_zast 7 (j := ix a) hx hb hK hW hM (by decide) rfl ((nI_ix hb_422.1).symm) (show ix a < 8 from by omega) rfl dX3_counter_51 (fun H1 locs1 g1 hW hM => ?_)
        refine lv_aload_n hx hb dX3_counter_52 rfl (lv_at hl 0 rfl) ?_
        refine m_get hx hb hts hown hK hW hM 9 (by decide) fl_RX3_35 (v := .ref (ad 8)) rfl dX3_counter_53 ?_
        refine lv_iload_n hx hb dX3_counter_56 rfl (lv_at hl 1 rfl) ?_
        refine lv_iload_n hx hb dX3_counter_57 rfl (lv_at hl 2 rfl) ?_
        refine m_iast 8 (j := ix a) hx hb hK hW hM (by decide) rfl ((nI_ix hb_422.1).symm) (show ix a < 8 from by omega) dX3_counter_58 (fun H1 locs1 g1 hW hM => ?_)
        refine lv_aload_n hx hb dX3_counter_59 rfl (lv_at hl 0 rfl) ?_
        refine m_get hx hb hts hown hK hW hM 10 (by decide) fl_RX3_38 (v := .ref (ad 9)) rfl dX3_counter_60 ?_
        refine lv_iload_n hx hb dX3_counter_63 rfl (lv_at hl 1 rfl) ?_
        refine lv_iload_n hx hb dX3_counter_64 rfl (lv_at hl 3 rfl) ?_
        refine m_iast 9 (j := ix a) hx hb hK hW hM (by decide) rfl ((nI_ix hb_422.1).symm) (show ix a < 8 from by omega) dX3_counter_65 (fun H1 locs1 g1 hW hM => ?_)
        refine lv_aload_n hx hb dX3_counter_66 rfl (lv_at hl 0 rfl) ?_
        refine m_get hx hb hts hown hK hW hM 11 (by decide) fl_RX3_41 (v := .ref (ad 10)) rfl dX3_counter_67 ?_
        refine lv_iload_n hx hb dX3_counter_70 rfl (lv_at hl 1 rfl) ?_
        refine lv_iload hx hb dX3_counter_71 (lv_at hl 4 rfl) ?_
        refine m_iast 10 (j := ix a) hx hb hK hW hM (by decide) rfl ((nI_ix hb_422.1).symm) (show ix a < 8 from by omega) dX3_counter_73 (fun H1 locs1 g1 hW hM => ?_)
        refine lv_aload_n hx hb dX3_counter_74 rfl (lv_at hl 0 rfl) ?_
        refine m_get hx hb hts hown hK hW hM 12 (by decide) fl_RX3_44 (v := .ref (ad 11)) rfl dX3_counter_75 ?_
        refine lv_iload_n hx hb dX3_counter_78 rfl (lv_at hl 1 rfl) ?_
        refine lv_iload hx hb dX3_counter_79 (lv_at hl 5 rfl) ?_
        refine m_iast 11 (j := ix a) hx hb hK hW hM (by decide) rfl ((nI_ix hb_422.1).symm) (show ix a < 8 from by omega) dX3_counter_81 (fun H1 locs1 g1 hW hM => ?_)
        refine lv_aload_n hx hb dX3_counter_82 rfl (lv_at hl 0 rfl) ?_
        refine m_get hx hb hts hown hK hW hM 13 (by decide) fl_RX3_47 (v := .ref (ad 12)) rfl dX3_counter_83 ?_
        refine lv_iload_n hx hb dX3_counter_86 rfl (lv_at hl 1 rfl) ?_
        refine lv_iconst (v := 0) hx hb dX3_counter_87 (by decide) ?_
        refine m_iast 12 (j := ix a) hx hb hK hW hM (by decide) rfl ((nI_ix hb_422.1).symm) (show ix a < 8 from by omega) dX3_counter_88 (fun H1 locs1 g1 hW hM => ?_)
        refine lv_aload_n hx hb dX3_counter_89 rfl (lv_at hl 0 rfl) ?_
        refine m_get hx hb hts hown hK hW hM 14 (by decide) fl_RX3_50 (v := .ref (ad 13)) rfl dX3_counter_90 ?_
        refine lv_iload_n hx hb dX3_counter_93 rfl (lv_at hl 1 rfl) ?_
        refine lv_iconst (v := 0) hx hb dX3_counter_94 (by decide) ?_
        refine m_iast 13 (j := ix a) hx hb hK hW hM (by decide) rfl ((nI_ix hb_422.1).symm) (show ix a < 8 from by omega) dX3_counter_95 (fun H1 locs1 g1 hW hM => ?_)
        refine lv_aload_n hx hb dX3_counter_96 rfl (lv_at hl 0 rfl) ?_
        refine m_get hx hb hts hown hK hW hM 15 (by decide) fl_RX3_53 (v := .ref (ad 14)) rfl dX3_counter_97 ?_
        refine lv_iload_n hx hb dX3_counter_100 rfl (lv_at hl 1 rfl) ?_
        refine lv_iconst (v := -1) hx hb dX3_counter_101 (by decide) ?_
        refine m_iast 14 (j := ix a) hx hb hK hW hM (by decide) rfl ((nI_ix hb_422.1).symm) (show ix a < 8 from by omega) dX3_counter_102 (fun H1 locs1 g1 hW hM => ?_)
        refine lv_aload_n hx hb dX3_counter_103 rfl (lv_at hl 0 rfl) ?_
        refine m_get hx hb hts hown hK hW hM 16 (by decide) fl_RX3_56 (v := .ref (ad 15)) rfl dX3_counter_104 ?_
        refine lv_iload_n hx hb dX3_counter_107 rfl (lv_at hl 1 rfl) ?_
        refine lv_iconst (v := 0) hx hb dX3_counter_108 (by decide) ?_
        refine m_iast 15 (j := ix a) hx hb hK hW hM (by decide) rfl ((nI_ix hb_422.1).symm) (show ix a < 8 from by omega) dX3_counter_109 (fun H1 locs1 g1 hW hM => ?_)
        refine lv_aload_n hx hb dX3_counter_110 rfl (lv_at hl 0 rfl) ?_
        refine m_get hx hb hts hown hK hW hM 17 (by decide) fl_RX3_59 (v := .ref (ad 16)) rfl dX3_counter_111 ?_
        refine lv_iload_n hx hb dX3_counter_114 rfl (lv_at hl 1 rfl) ?_
        refine lv_iconst (v := 0) hx hb dX3_counter_115 (by decide) ?_
        refine m_iast 16 (j := ix a) hx hb hK hW hM (by decide) rfl ((nI_ix hb_422.1).symm) (show ix a < 8 from by omega) dX3_counter_116 (fun H1 locs1 g1 hW hM => ?_)
        refine lv_iconst (v := 1) hx hb dX3_counter_117 (by decide) ?_
        exact r_int hx hb hr hlk hW (by have e1 : Fcounter r a b d f q = (1, s2 (s2 (s2 (s2 (s2 (s2 (s2 (s2 (s2 (s2 (s2 (s2 r 5 (ix a) (1)) 6 (ix a) (0)) 7 (ix a) (0)) 8 (ix a) (b)) 9 (ix a) (d)) 10 (ix a) (f)) 11 (ix a) (q)) 12 (ix a) (0)) 13 (ix a) (0)) 14 (ix a) (-1)) 15 (ix a) (0)) 16 (ix a) (0)) := (by simp only [Fcounter, ← Bool.and_assoc]; rw [← in7b]; simp [c_421, c_423, c_424, ctrF]); rw [e1]; exact ⟨rfl, hM⟩) (Nat.le_of_ble_eq_true rfl) (Nat.le_of_ble_eq_true rfl) dX3_counter_118
      · skip
        have c_424 := (bI_eq0 _).mp c_424
        refine lv_bipush (v := -2) hx hb dX3_counter_28 (by decide) ?_
        exact r_int hx hb hr hlk hW (by have e1 : Fcounter r a b d f q = (-2, r) := (by simp only [Fcounter, ← Bool.and_assoc]; rw [← in7b]; simp [c_421, c_423, c_424]); rw [e1]; exact ⟨rfl, hM⟩) (Nat.le_of_ble_eq_true rfl) (Nat.le_of_ble_eq_true rfl) dX3_counter_30
