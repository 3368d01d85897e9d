def bunB (r : sg) (i : Nat) : Bool := decide (0 < r 1 i) && !figB (r 0 i) (r 1 i)
theorem inB_lt {v n : Int32} (h : inB v n = true) (h3 : ¬ n < 0) : ¬ v < 0 ∧ ix v < ix n := by
  simp only [inB, Bool.and_eq_true, Bool.not_eq_true', decide_eq_false_iff_not, decide_eq_true_eq] at h
  obtain ⟨h1, h2⟩ := h
  refine ⟨h1, ?_⟩
  rw [Int32.lt_iff_toInt_lt, ix_i h1, ix_i h3] at h2
  omega
theorem view_kind (b d : Int32) : ((mIn b 0 3 && mIn d 0 3) || (mIn b 4 5 && mIn d 1 3)) = kindB b d := by
  have h4 : ∀ a c : Int32, a < c ↔ a.toInt < c.toInt := fun _ _ => Int32.lt_iff_toInt_lt
  simp only [mIn, kindB]
  rw [Bool.eq_iff_iff]
  simp only [Bool.or_eq_true, Bool.and_eq_true, Bool.not_eq_true', decide_eq_false_iff_not]
  by_cases hb : b < 4
  · rw [if_pos hb]
    simp only [h4] at hb ⊢
    simp only [show (0 : Int32).toInt = 0 from rfl, show (1 : Int32).toInt = 1 from rfl, show (3 : Int32).toInt = 3 from rfl, show (4 : Int32).toInt = 4 from rfl, show (5 : Int32).toInt = 5 from rfl] at hb ⊢
    omega
  · rw [if_neg hb]
    simp only [h4] at hb ⊢
    simp only [show (0 : Int32).toInt = 0 from rfl, show (1 : Int32).toInt = 1 from rfl, show (3 : Int32).toInt = 3 from rfl, show (4 : Int32).toInt = 4 from rfl, show (5 : Int32).toInt = 5 from rfl] at hb ⊢
    omega
theorem in_t {a : Int32} {n : Nat} (hn : n < 2 ^ 31) (h : mIn a 0 (nI n) = true) : ∃ j, j ≤ n ∧ a = nI j := by
  simp only [mIn, Bool.and_eq_true, Bool.not_eq_true', decide_eq_false_iff_not] at h
  refine ⟨ix a, ?_, (nI_ix h.1).symm⟩
  have h2 := h.2
  rw [Int32.lt_iff_toInt_lt, ix_i h.1, nI_toInt hn] at h2
  omega
theorem in_f {a : Int32} {n : Nat} (hn : n < 2 ^ 31) (h : mIn a 0 (nI n) = false) {j : Nat} (hj : j ≤ n) : ¬ a = nI j := fun e => by
  have h1 : ¬ a < 0 := by rw [e]; exact nI_pos (by omega)
  have h2 : ¬ nI n < a := by rw [e]; exact nI_nlt hj hn
  simp [mIn, h1, h2] at h
theorem place_eq {r : sg} {i : Nat} (h : IVm r i) (j : Int32) : (bunB r i && mIn j 0 (r 3 i - 1)) = hasP r i j := by
  rw [mIn_in h.2.2.1 h.2.2.2.1]
  by_cases hd : r 1 i = 0
  · have h0 : inB j 0 = false := by
      by_cases hj : j < 0
      · simp [inB, hj]
      · simp [inB, hj]
    have e3 := h.2.1 hd
    simp only [bunB, hasP, hd, e3]
    have h00 : ¬ (0 : Int32) < 0 := by decide
    have hx : (!decide (j < 0) && decide (j < 0)) = false := h0
    simp only [h00, hx, decide_false, Bool.false_and, Bool.and_false]
  · have hp : 0 < r 1 i := by
      have h1 := h.1
      rw [Int32.lt_iff_toInt_lt] at h1 ⊢
      have : (r 1 i).toInt ≠ 0 := fun q => hd (Int32.toInt_inj.mp q)
      simp only [show (0 : Int32).toInt = 0 from rfl] at h1 ⊢
      omega
    simp [bunB, hasP, inB, hp]
theorem num_eq {r : sg} {i : Nat} (h : IVm r i) (j : Int32) : (figB (r 0 i) (r 1 i) && mIn j 0 (r 3 i - 1)) = hasN r i j := by
  rw [mIn_in h.2.2.1 h.2.2.2.1]
  rfl

set_option maxHeartbeats 4000000 in
set_option maxRecDepth 100000 in
theorem k_X3_in (l : Launch) {E : gE} {g : gm} (a b d : Int32) : CM l yX3_in cX3_in 3 (some .boolean) ({ frames := 0, cells := 0, slots := 0, locals := 0 }) E [.int (a), .int (b), .int (d)] g (fun vv g' => vv = some (.int (bI (mIn a b d))) ∧ g' = g) := by
  refine CM.of (by decide) (Nat.le_of_ble_eq_true rfl) ?_
  intro p e s m below meth c ls hM hK hW hl
  obtain ⟨hx, hb, hr, hml, hown, hts, hlk, hnm⟩ := hM
  have hown : s.vm.findClass RX3 = some m.cls := hown
  have hl : lv_has ls 3 [(0, .int (a)), (1, .int (b)), (2, .int (d))] := hl
  refine lv_iload_n hx hb dX3_in_0 rfl (lv_at hl 0 rfl) ?_
  refine lv_iload_n hx hb dX3_in_1 rfl (lv_at hl 1 rfl) ?_
  refine lv_icmp_lt (tgt := 14) hx hb dX3_in_2 (by decide) (fun c_292 => ?_) (fun c_292 => ?_)
  · skip
    refine lv_iconst (v := 0) hx hb dX3_in_14 (by decide) ?_
    exact r_bool hx hb hr hlk hW rfl (by refine ⟨?_, rfl⟩; first | with_reducible rfl | (simp [bI, mIn, c_292]; done) | (simp_all [bI, mIn]; done)) (Nat.le_of_ble_eq_true rfl) (Nat.le_of_ble_eq_true rfl) dX3_in_15
  · skip
    refine lv_iload_n hx hb dX3_in_5 rfl (lv_at hl 0 rfl) ?_
    refine lv_iload_n hx hb dX3_in_6 rfl (lv_at hl 2 rfl) ?_
    refine lv_icmp_gt (tgt := 14) hx hb dX3_in_7 (by decide) (fun c_293 => ?_) (fun c_293 => ?_)
    · skip
      refine lv_iconst (v := 0) hx hb dX3_in_14 (by decide) ?_
      exact r_bool hx hb hr hlk hW rfl (by refine ⟨?_, rfl⟩; first | with_reducible rfl | (simp [bI, mIn, c_292, c_293]; done) | (simp_all [bI, mIn]; done)) (Nat.le_of_ble_eq_true rfl) (Nat.le_of_ble_eq_true rfl) dX3_in_15
    · skip
      refine lv_iconst (v := 1) hx hb dX3_in_10 (by decide) ?_
      refine lv_goto (tgt := 15) hx hb dX3_in_11 (by decide) ?_
      exact r_bool hx hb hr hlk hW rfl (by refine ⟨?_, rfl⟩; first | with_reducible rfl | (simp [bI, mIn, c_292, c_293]; done) | (simp_all [bI, mIn]; done)) (Nat.le_of_ble_eq_true rfl) (Nat.le_of_ble_eq_true rfl) dX3_in_15

set_option maxHeartbeats 4000000 in
set_option maxRecDepth 100000 in
theorem k_X3_passes (l : Launch) {E : gE} {g : gm} (a b : Int32) : CM l yX3_passes cX3_passes 2 (some .boolean) ({ frames := 0, cells := 0, slots := 0, locals := 0 }) E [.int (a), .int (b)] g (fun vv g' => vv = some (.int (bI (passB a b))) ∧ g' = g) := by
  refine CM.of (by decide) (Nat.le_of_ble_eq_true rfl) ?_
  intro p e s m below meth c ls hM hK hW hl
  obtain ⟨hx, hb, hr, hml, hown, hts, hlk, hnm⟩ := hM
  have hown : s.vm.findClass RX3 = some m.cls := hown
  have hl : lv_has ls 2 [(0, .int (a)), (1, .int (b))] := hl
  refine lv_iload_n hx hb dX3_passes_0 rfl (lv_at hl 0 rfl) ?_
  refine lv_iload_n hx hb dX3_passes_1 rfl (lv_at hl 1 rfl) ?_
  refine lv_icmp_eq (tgt := 29) hx hb dX3_passes_2 (by decide) (fun c_294 => ?_) (fun c_294 => ?_)
  · skip
    refine lv_iconst (v := 1) hx hb dX3_passes_29 (by decide) ?_
    refine lv_goto (tgt := 34) hx hb dX3_passes_30 (by decide) ?_
    exact r_bool hx hb hr hlk hW rfl (by refine ⟨?_, rfl⟩; first | with_reducible rfl | (simp [bI, passB, c_294]; done) | (simp_all [bI, passB]; done)) (Nat.le_of_ble_eq_true rfl) (Nat.le_of_ble_eq_true rfl) dX3_passes_34
  · skip
    refine lv_iload_n hx hb dX3_passes_5 rfl (lv_at hl 1 rfl) ?_
    refine lv_if_ne (tgt := 19) hx hb dX3_passes_6 (by decide) (fun c_295 => ?_) (fun c_295 => ?_)
    · skip
      refine lv_iload_n hx hb dX3_passes_19 rfl (lv_at hl 0 rfl) ?_
      refine lv_iconst (v := 2) hx hb dX3_passes_20 (by decide) ?_
      refine lv_icmp_ne (tgt := 33) hx hb dX3_passes_21 (by decide) (fun c_296 => ?_) (fun c_296 => ?_)
      · skip
        refine lv_iconst (v := 0) hx hb dX3_passes_33 (by decide) ?_
        exact r_bool hx hb hr hlk hW rfl (by refine ⟨?_, rfl⟩; first | with_reducible rfl | (simp [bI, passB, c_294, c_295, c_296]; done) | (simp_all [bI, passB]; done)) (Nat.le_of_ble_eq_true rfl) (Nat.le_of_ble_eq_true rfl) dX3_passes_34
      · skip
        refine lv_iload_n hx hb dX3_passes_24 rfl (lv_at hl 1 rfl) ?_
        refine lv_iconst (v := 3) hx hb dX3_passes_25 (by decide) ?_
        refine lv_icmp_ne (tgt := 33) hx hb dX3_passes_26 (by decide) (fun c_297 => ?_) (fun c_297 => ?_)
        · skip
          refine lv_iconst (v := 0) hx hb dX3_passes_33 (by decide) ?_
          exact r_bool hx hb hr hlk hW rfl (by refine ⟨?_, rfl⟩; first | with_reducible rfl | (simp [bI, passB, c_294, c_295, c_296, c_297]; done) | (simp_all [bI, passB]; done)) (Nat.le_of_ble_eq_true rfl) (Nat.le_of_ble_eq_true rfl) dX3_passes_34
        · skip
          refine lv_iconst (v := 1) hx hb dX3_passes_29 (by decide) ?_
          refine lv_goto (tgt := 34) hx hb dX3_passes_30 (by decide) ?_
          exact r_bool hx hb hr hlk hW rfl (by refine ⟨?_, rfl⟩; first | with_reducible rfl | (simp [bI, passB, c_294, c_295, c_296, c_297]; done) | (simp_all [bI, passB]; done)) (Nat.le_of_ble_eq_true rfl) (Nat.le_of_ble_eq_true rfl) dX3_passes_34
    · skip
      refine lv_iload_n hx hb dX3_passes_9 rfl (lv_at hl 0 rfl) ?_
      refine lv_iconst (v := 1) hx hb dX3_passes_10 (by decide) ?_
      refine lv_icmp_eq (tgt := 29) hx hb dX3_passes_11 (by decide) (fun c_298 => ?_) (fun c_298 => ?_)
      · skip
        refine lv_iconst (v := 1) hx hb dX3_passes_29 (by decide) ?_
        refine lv_goto (tgt := 34) hx hb dX3_passes_30 (by decide) ?_
        exact r_bool hx hb hr hlk hW rfl (by refine ⟨?_, rfl⟩; first | with_reducible rfl | (simp [bI, passB, c_294, c_295, c_298]; done) | (simp_all [bI, passB]; done)) (Nat.le_of_ble_eq_true rfl) (Nat.le_of_ble_eq_true rfl) dX3_passes_34
      · skip
        refine lv_iload_n hx hb dX3_passes_14 rfl (lv_at hl 0 rfl) ?_
        refine lv_iconst (v := 2) hx hb dX3_passes_15 (by decide) ?_
        refine lv_icmp_eq (tgt := 29) hx hb dX3_passes_16 (by decide) (fun c_299 => ?_) (fun c_299 => ?_)
        · skip
          refine lv_iconst (v := 1) hx hb dX3_passes_29 (by decide) ?_
          refine lv_goto (tgt := 34) hx hb dX3_passes_30 (by decide) ?_
          exact r_bool hx hb hr hlk hW rfl (by refine ⟨?_, rfl⟩; first | with_reducible rfl | (simp [bI, passB, c_294, c_295, c_298, c_299]; done) | (simp_all [bI, passB]; done)) (Nat.le_of_ble_eq_true rfl) (Nat.le_of_ble_eq_true rfl) dX3_passes_34
        · skip
          refine lv_iload_n hx hb dX3_passes_19 rfl (lv_at hl 0 rfl) ?_
          refine lv_iconst (v := 2) hx hb dX3_passes_20 (by decide) ?_
          refine lv_icmp_ne (tgt := 33) hx hb dX3_passes_21 (by decide) (fun c_300 => ?_) (fun c_300 => ?_)
          · skip
            refine lv_iconst (v := 0) hx hb dX3_passes_33 (by decide) ?_
            exact r_bool hx hb hr hlk hW rfl (by refine ⟨?_, rfl⟩; first | with_reducible rfl | (simp [bI, passB, c_294, c_295, c_298, c_299, c_300]; done) | (simp_all [bI, passB]; done)) (Nat.le_of_ble_eq_true rfl) (Nat.le_of_ble_eq_true rfl) dX3_passes_34
          · skip
            refine lv_iload_n hx hb dX3_passes_24 rfl (lv_at hl 1 rfl) ?_
            refine lv_iconst (v := 3) hx hb dX3_passes_25 (by decide) ?_
            refine lv_icmp_ne (tgt := 33) hx hb dX3_passes_26 (by decide) (fun c_301 => ?_) (fun c_301 => ?_)
            · skip
              refine lv_iconst (v := 0) hx hb dX3_passes_33 (by decide) ?_
              exact r_bool hx hb hr hlk hW rfl (by refine ⟨?_, rfl⟩; first | with_reducible rfl | (simp [bI, passB, c_294, c_295, c_298, c_299, c_300, c_301]; done) | (simp_all [bI, passB]; done)) (Nat.le_of_ble_eq_true rfl) (Nat.le_of_ble_eq_true rfl) dX3_passes_34
            · skip
              refine lv_iconst (v := 1) hx hb dX3_passes_29 (by decide) ?_
              refine lv_goto (tgt := 34) hx hb dX3_passes_30 (by decide) ?_
              exact r_bool hx hb hr hlk hW rfl (by refine ⟨?_, rfl⟩; first | with_reducible rfl | (simp [bI, passB, c_294, c_295, c_298, c_299, c_300, c_301]; done) | (simp_all [bI, passB]; done)) (Nat.le_of_ble_eq_true rfl) (Nat.le_of_ble_eq_true rfl) dX3_passes_34

set_option maxHeartbeats 4000000 in
set_option maxRecDepth 100000 in
theorem k_X3_isMessage (l : Launch) {E : gE} {y : Nat} {ad : Nat → Nat} {r t : sg} {g : gm} (hM : MR E y ad r t g) (hn0 : ¬ r 17 0 < 0) (h60 : nm r ≤ 60) (a : Int32) : CM l yX3_isMessage cX3_isMessage 2 (some .boolean) ({ frames := 1, cells := 0, slots := 0, locals := 22 }) E [.ref (y), .int (a)] g (fun vv g' => vv = some (.int (bI (isMb r a))) ∧ g' = g) := by
  refine CM.of (by decide) (Nat.le_of_ble_eq_true rfl) ?_
  intro p e s m below meth c ls hM hK hW hl
  obtain ⟨hx, hb, hr, hml, hown, hts, hlk, hnm⟩ := hM
  have hown : s.vm.findClass RX3 = some m.cls := hown
  have hl : lv_has ls 2 [(0, .ref (y)), (1, .int (a))] := hl
  refine lv_iload_n hx hb dX3_isMessage_0 rfl (lv_at hl 1 rfl) ?_
  refine lv_iconst (v := 0) hx hb dX3_isMessage_1 (by decide) ?_
  refine lv_aload_n hx hb dX3_isMessage_2 rfl (lv_at hl 0 rfl) ?_
  refine m_get hx hb hts hown hK hW hM 0 (by decide) fl_RX3_74 (v := .int (r 17 0)) rfl dX3_isMessage_3 ?_
  refine lv_iconst (v := 1) hx hb dX3_isMessage_6 (by decide) ?_
  refine lv_isub hx hb dX3_isMessage_7 ?_
  refine c_stat (own := RX3) (As := [.int (a), .int (0), .int ((r 17 0) - (1))]) (rest := []) hx hb hml hown hts hK hW (k_X3_in l _ _ _) ml_RX3_78 st_yX3_in in_RX3 cd_yX3_in 3 (by decide +kernel) ⟨Nat.le_of_ble_eq_true rfl, Nat.le_of_ble_eq_true rfl⟩ rfl hl.1 rfl (Nat.le_of_ble_eq_true rfl) dX3_isMessage_8 ⟨Nat.le_of_ble_eq_true rfl, Nat.le_of_ble_eq_true rfl⟩ (fun v g2 H1 locs1 hp hW hKT => ?_)
  obtain ⟨rfl, hg⟩ := hp
  rw [hg] at hW
  refine W.eq (g2 := F0 m 11 ls [.int (bI (mIn (a) (0) ((r 17 0) - (1))))]) rfl ?_
  exact r_bool hx hb hr hlk hW (nb_bI _) (by exact ⟨by rw [← mIn_isM hn0 h60], rfl⟩) (Nat.le_of_ble_eq_true rfl) (Nat.le_of_ble_eq_true rfl) dX3_isMessage_11

set_option maxHeartbeats 4000000 in
set_option maxRecDepth 100000 in
theorem k_X3_isOf (l : Launch) {E : gE} {y : Nat} {ad : Nat → Nat} {r t : sg} {g : gm} (hM : MR E y ad r t g) {i : Nat} {a : Int32} (ha : a = nI i) (hi : i < 60) (b d : Int32) : CM l yX3_isOf cX3_isOf 4 (some .boolean) ({ frames := 1, cells := 0, slots := 0, locals := 21 }) E [.ref (y), .int (a), .int (b), .int (d)] g (fun vv g' => vv = some (.int (bI (fitB r i b d))) ∧ g' = g) := by
  refine CM.of (by decide) (Nat.le_of_ble_eq_true rfl) ?_
  intro p e s m below meth c ls hM hK hW hl
  obtain ⟨hx, hb, hr, hml, hown, hts, hlk, hnm⟩ := hM
  have hown : s.vm.findClass RX3 = some m.cls := hown
  have hl : lv_has ls 4 [(0, .ref (y)), (1, .int (a)), (2, .int (b)), (3, .int (d))] := hl
  refine lv_aload_n hx hb dX3_isOf_0 rfl (lv_at hl 0 rfl) ?_
  refine m_get hx hb hts hown hK hW hM 2 (by decide) fl_RX3_13 (v := .ref (ad 1)) rfl dX3_isOf_1 ?_
  refine lv_iload_n hx hb dX3_isOf_4 rfl (lv_at hl 1 rfl) ?_
  refine m_iald 1 (j := i) (v := r 1 i) hx hb hK hW hM (by decide) rfl ha (show i < 60 from by omega) rfl dX3_isOf_5 ?_
  refine lv_iload_n hx hb dX3_isOf_6 rfl (lv_at hl 3 rfl) ?_
  refine lv_icmp_ne (tgt := 27) hx hb dX3_isOf_7 (by decide) (fun c_302 => ?_) (fun c_302 => ?_)
  · skip
    refine lv_iconst (v := 0) hx hb dX3_isOf_27 (by decide) ?_
    exact r_bool hx hb hr hlk hW rfl (by refine ⟨?_, rfl⟩; first | with_reducible rfl | (simp [bI, fitB, c_302]; done) | (simp_all [bI, fitB]; done)) (Nat.le_of_ble_eq_true rfl) (Nat.le_of_ble_eq_true rfl) dX3_isOf_28
  · skip
    refine lv_aload_n hx hb dX3_isOf_10 rfl (lv_at hl 0 rfl) ?_
    refine m_get hx hb hts hown hK hW hM 1 (by decide) fl_RX3_7 (v := .ref (ad 0)) rfl dX3_isOf_11 ?_
    refine lv_iload_n hx hb dX3_isOf_14 rfl (lv_at hl 1 rfl) ?_
    refine m_iald 0 (j := i) (v := r 0 i) hx hb hK hW hM (by decide) rfl ha (show i < 60 from by omega) rfl dX3_isOf_15 ?_
    refine lv_iload_n hx hb dX3_isOf_16 rfl (lv_at hl 2 rfl) ?_
    refine c_stat (own := RX3) (As := [.int (r 0 i), .int (b)]) (rest := []) hx hb hml hown hts hK hW (k_X3_passes l _ _) ml_RX3_82 st_yX3_passes in_RX3 cd_yX3_passes 2 (by decide +kernel) ⟨Nat.le_of_ble_eq_true rfl, Nat.le_of_ble_eq_true rfl⟩ rfl hl.1 rfl (Nat.le_of_ble_eq_true rfl) dX3_isOf_17 ⟨Nat.le_of_ble_eq_true rfl, Nat.le_of_ble_eq_true rfl⟩ (fun v g2 H1 locs1 hp hW hKT => ?_)
    obtain ⟨rfl, hg⟩ := hp
    rw [hg] at hW
    refine W.eq (g2 := F0 m 20 ls [.int (bI (passB (r 0 i) (b)))]) rfl ?_
    refine lv_if_eq (tgt := 27) hx hb dX3_isOf_20 (by decide) (fun c_303 => ?_) (fun c_303 => ?_)
    · skip
      have c_303 := (bI_eq0 _).mp c_303
      refine lv_iconst (v := 0) hx hb dX3_isOf_27 (by decide) ?_
      exact r_bool hx hb hr hlk hW rfl (by refine ⟨?_, rfl⟩; first | with_reducible rfl | (simp [bI, fitB, c_302, c_303]; done) | (simp_all [bI, fitB]; done)) (Nat.le_of_ble_eq_true rfl) (Nat.le_of_ble_eq_true rfl) dX3_isOf_28
    · skip
      have c_303 := bI_ne0 c_303
      refine lv_iconst (v := 1) hx hb dX3_isOf_23 (by decide) ?_
      refine lv_goto (tgt := 28) hx hb dX3_isOf_24 (by decide) ?_
      exact r_bool hx hb hr hlk hW rfl (by refine ⟨?_, rfl⟩; first | with_reducible rfl | (simp [bI, fitB, c_302, c_303]; done) | (simp_all [bI, fitB]; done)) (Nat.le_of_ble_eq_true rfl) (Nat.le_of_ble_eq_true rfl) dX3_isOf_28

set_option maxHeartbeats 4000000 in
set_option maxRecDepth 100000 in
theorem k_X3_isFigures (l : Launch) {E : gE} {y : Nat} {ad : Nat → Nat} {r t : sg} {g : gm} (hM : MR E y ad r t g) {i : Nat} {a : Int32} (ha : a = nI i) (hi : i < 60) : CM l yX3_isFigures cX3_isFigures 2 (some .boolean) ({ frames := 0, cells := 0, slots := 0, locals := 0 }) E [.ref (y), .int (a)] g (fun vv g' => vv = some (.int (bI (figB (r 0 i) (r 1 i)))) ∧ g' = g) := by
  refine CM.of (by decide) (Nat.le_of_ble_eq_true rfl) ?_
  intro p e s m below meth c ls hM hK hW hl
  obtain ⟨hx, hb, hr, hml, hown, hts, hlk, hnm⟩ := hM
  have hown : s.vm.findClass RX3 = some m.cls := hown
  have hl : lv_has ls 2 [(0, .ref (y)), (1, .int (a))] := hl
  refine lv_aload_n hx hb dX3_isFigures_0 rfl (lv_at hl 0 rfl) ?_
  refine m_get hx hb hts hown hK hW hM 1 (by decide) fl_RX3_7 (v := .ref (ad 0)) rfl dX3_isFigures_1 ?_
  refine lv_iload_n hx hb dX3_isFigures_4 rfl (lv_at hl 1 rfl) ?_
  refine m_iald 0 (j := i) (v := r 0 i) hx hb hK hW hM (by decide) rfl ha (show i < 60 from by omega) rfl dX3_isFigures_5 ?_
  refine lv_iconst (v := 3) hx hb dX3_isFigures_6 (by decide) ?_
  refine lv_icmp_le (tgt := 24) hx hb dX3_isFigures_7 (by decide) (fun c_304 => ?_) (fun c_304 => ?_)
  · skip
    have c_304 := Int32.not_lt.mpr c_304
    refine lv_iconst (v := 0) hx hb dX3_isFigures_24 (by decide) ?_
    exact r_bool hx hb hr hlk hW rfl (by refine ⟨?_, rfl⟩; first | with_reducible rfl | (simp [bI, figB, lt4, c_304]; done) | (simp_all [bI, figB, lt4]; done)) (Nat.le_of_ble_eq_true rfl) (Nat.le_of_ble_eq_true rfl) dX3_isFigures_25
  · skip
    have c_304 := Int32.not_le.mp c_304
    refine lv_aload_n hx hb dX3_isFigures_10 rfl (lv_at hl 0 rfl) ?_
    refine m_get hx hb hts hown hK hW hM 2 (by decide) fl_RX3_13 (v := .ref (ad 1)) rfl dX3_isFigures_11 ?_
    refine lv_iload_n hx hb dX3_isFigures_14 rfl (lv_at hl 1 rfl) ?_
    refine m_iald 1 (j := i) (v := r 1 i) hx hb hK hW hM (by decide) rfl ha (show i < 60 from by omega) rfl dX3_isFigures_15 ?_
    refine lv_iconst (v := 1) hx hb dX3_isFigures_16 (by decide) ?_
    refine lv_icmp_ne (tgt := 24) hx hb dX3_isFigures_17 (by decide) (fun c_305 => ?_) (fun c_305 => ?_)
    · skip
      refine lv_iconst (v := 0) hx hb dX3_isFigures_24 (by decide) ?_
      exact r_bool hx hb hr hlk hW rfl (by refine ⟨?_, rfl⟩; first | with_reducible rfl | (simp [bI, figB, lt4, c_304, c_305]; done) | (simp_all [bI, figB, lt4]; done)) (Nat.le_of_ble_eq_true rfl) (Nat.le_of_ble_eq_true rfl) dX3_isFigures_25
    · skip
      refine lv_iconst (v := 1) hx hb dX3_isFigures_20 (by decide) ?_
      refine lv_goto (tgt := 25) hx hb dX3_isFigures_21 (by decide) ?_
      exact r_bool hx hb hr hlk hW rfl (by refine ⟨?_, rfl⟩; first | with_reducible rfl | (simp [bI, figB, lt4, c_304, c_305]; done) | (simp_all [bI, figB, lt4]; done)) (Nat.le_of_ble_eq_true rfl) (Nat.le_of_ble_eq_true rfl) dX3_isFigures_25

set_option maxHeartbeats 4000000 in
set_option maxRecDepth 100000 in
theorem k_X3_isBundle (l : Launch) {E : gE} {y : Nat} {ad : Nat → Nat} {r t : sg} {g : gm} (hM : MR E y ad r t g) {i : Nat} {a : Int32} (ha : a = nI i) (hi : i < 60) : CM l yX3_isBundle cX3_isBundle 2 (some .boolean) ({ frames := 1, cells := 0, slots := 0, locals := 21 }) E [.ref (y), .int (a)] g (fun vv g' => vv = some (.int (bI (bunB r i))) ∧ g' = g) := by
  refine CM.of (by decide) (Nat.le_of_ble_eq_true rfl) ?_
  intro p e s m below meth c ls hM hK hW hl
  obtain ⟨hx, hb, hr, hml, hown, hts, hlk, hnm⟩ := hM
  have hown : s.vm.findClass RX3 = some m.cls := hown
  have hl : lv_has ls 2 [(0, .ref (y)), (1, .int (a))] := hl
  refine lv_aload_n hx hb dX3_isBundle_0 rfl (lv_at hl 0 rfl) ?_
  refine m_get hx hb hts hown hK hW hM 2 (by decide) fl_RX3_13 (v := .ref (ad 1)) rfl dX3_isBundle_1 ?_
  refine lv_iload_n hx hb dX3_isBundle_4 rfl (lv_at hl 1 rfl) ?_
  refine m_iald 1 (j := i) (v := r 1 i) hx hb hK hW hM (by decide) rfl ha (show i < 60 from by omega) rfl dX3_isBundle_5 ?_
  refine lv_if_le (tgt := 21) hx hb dX3_isBundle_6 (by decide) (fun c_306 => ?_) (fun c_306 => ?_)
  · skip
    have c_306 := Int32.not_lt.mpr c_306
    refine lv_iconst (v := 0) hx hb dX3_isBundle_21 (by decide) ?_
    exact r_bool hx hb hr hlk hW rfl (by refine ⟨?_, rfl⟩; first | with_reducible rfl | (simp [bI, bunB, c_306]; done) | (simp_all [bI, bunB]; done)) (Nat.le_of_ble_eq_true rfl) (Nat.le_of_ble_eq_true rfl) dX3_isBundle_22
  · skip
    have c_306 := Int32.not_le.mp c_306
    refine lv_aload_n hx hb dX3_isBundle_9 rfl (lv_at hl 0 rfl) ?_
    refine lv_iload_n hx hb dX3_isBundle_10 rfl (lv_at hl 1 rfl) ?_
    refine c_virt (own := RX3) (As := [.int (a)]) (rest := []) hx hb hml hown hts hK hW (k_X3_isFigures l hM (i := i) ha (by omega)) ml_RX3_86 im_yX3_isFigures se_yX3_isFigures in_RX3 cd_yX3_isFigures 1 (by decide +kernel) ⟨Nat.le_of_ble_eq_true rfl, Nat.le_of_ble_eq_true rfl⟩ hM.1 rfl rfl rfl hl.1 rfl (Nat.le_of_ble_eq_true rfl) dX3_isBundle_11 ⟨Nat.le_of_ble_eq_true rfl, Nat.le_of_ble_eq_true rfl⟩ (fun v g2 H1 locs1 hp hW hKT => ?_)
    obtain ⟨rfl, hg⟩ := hp
    rw [hg] at hW
    refine W.eq (g2 := F0 m 14 ls [.int (bI (figB (r 0 i) (r 1 i)))]) rfl ?_
    refine lv_if_ne (tgt := 21) hx hb dX3_isBundle_14 (by decide) (fun c_307 => ?_) (fun c_307 => ?_)
    · skip
      have c_307 := bI_ne0 c_307
      refine lv_iconst (v := 0) hx hb dX3_isBundle_21 (by decide) ?_
      exact r_bool hx hb hr hlk hW rfl (by refine ⟨?_, rfl⟩; first | with_reducible rfl | (simp [bI, bunB, c_306, c_307]; done) | (simp_all [bI, bunB]; done)) (Nat.le_of_ble_eq_true rfl) (Nat.le_of_ble_eq_true rfl) dX3_isBundle_22
    · skip
      have c_307 := (bI_eq0 _).mp c_307
      refine lv_iconst (v := 1) hx hb dX3_isBundle_17 (by decide) ?_
      refine lv_goto (tgt := 22) hx hb dX3_isBundle_18 (by decide) ?_
      exact r_bool hx hb hr hlk hW rfl (by refine ⟨?_, rfl⟩; first | with_reducible rfl | (simp [bI, bunB, c_306, c_307]; done) | (simp_all [bI, bunB]; done)) (Nat.le_of_ble_eq_true rfl) (Nat.le_of_ble_eq_true rfl) dX3_isBundle_22

set_option maxHeartbeats 4000000 in
set_option maxRecDepth 100000 in
theorem k_X3_holds (l : Launch) {E : gE} {y : Nat} {ad : Nat → Nat} {r t : sg} {g : gm} (hM : MR E y ad r t g) {i : Nat} {a : Int32} (ha : a = nI i) (hi : i < 60) {b : Int32} (hb1 : b = -1 ∨ (¬ b < 0 ∧ ix b < 60)) : CM l yX3_holds cX3_holds 3 (some .boolean) ({ frames := 2, cells := 0, slots := 0, locals := 44 }) E [.ref (y), .int (a), .int (b)] g (fun vv g' => vv = some (.int (bI (holdB r i b))) ∧ g' = g) := by
  refine CM.of (by decide) (Nat.le_of_ble_eq_true rfl) ?_
  intro p e s m below meth c ls hM hK hW hl
  obtain ⟨hx, hb, hr, hml, hown, hts, hlk, hnm⟩ := hM
  have hown : s.vm.findClass RX3 = some m.cls := hown
  have hl : lv_has ls 3 [(0, .ref (y)), (1, .int (a)), (2, .int (b))] := hl
  refine lv_iload_n hx hb dX3_holds_0 rfl (lv_at hl 2 rfl) ?_
  refine lv_iconst (v := -1) hx hb dX3_holds_1 (by decide) ?_
  refine lv_icmp_eq (tgt := 27) hx hb dX3_holds_2 (by decide) (fun c_308 => ?_) (fun c_308 => ?_)
  · skip
    refine lv_iconst (v := 1) hx hb dX3_holds_27 (by decide) ?_
    refine lv_goto (tgt := 32) hx hb dX3_holds_28 (by decide) ?_
    exact r_bool hx hb hr hlk hW rfl (by refine ⟨?_, rfl⟩; first | with_reducible rfl | (simp [bI, holdB, c_308]; done) | (simp_all [bI, holdB]; done)) (Nat.le_of_ble_eq_true rfl) (Nat.le_of_ble_eq_true rfl) dX3_holds_32
  · skip
    have hq := hb1.resolve_left c_308
    have hq2 := hq.2
    refine lv_aload_n hx hb dX3_holds_5 rfl (lv_at hl 0 rfl) ?_
    refine lv_iload_n hx hb dX3_holds_6 rfl (lv_at hl 2 rfl) ?_
    refine lv_aload_n hx hb dX3_holds_7 rfl (lv_at hl 0 rfl) ?_
    refine m_get hx hb hts hown hK hW hM 1 (by decide) fl_RX3_7 (v := .ref (ad 0)) rfl dX3_holds_8 ?_
    refine lv_iload_n hx hb dX3_holds_11 rfl (lv_at hl 1 rfl) ?_
    refine m_iald 0 (j := i) (v := r 0 i) hx hb hK hW hM (by decide) rfl ha (show i < 60 from by omega) rfl dX3_holds_12 ?_
    refine lv_aload_n hx hb dX3_holds_13 rfl (lv_at hl 0 rfl) ?_
    refine m_get hx hb hts hown hK hW hM 2 (by decide) fl_RX3_13 (v := .ref (ad 1)) rfl dX3_holds_14 ?_
    refine lv_iload_n hx hb dX3_holds_17 rfl (lv_at hl 1 rfl) ?_
    refine m_iald 1 (j := i) (v := r 1 i) hx hb hK hW hM (by decide) rfl ha (show i < 60 from by omega) rfl dX3_holds_18 ?_
    refine lv_iconst (v := 1) hx hb dX3_holds_19 (by decide) ?_
    refine lv_isub hx hb dX3_holds_20 ?_
    refine c_virt (own := RX3) (As := [.int (b), .int (r 0 i), .int ((r 1 i) - (1))]) (rest := []) hx hb hml hown hts hK hW (k_X3_isOf l hM (i := ix b) ((nI_ix hq.1).symm) (by omega) _ _) ml_RX3_90 im_yX3_isOf se_yX3_isOf in_RX3 cd_yX3_isOf 3 (by decide +kernel) ⟨Nat.le_of_ble_eq_true rfl, Nat.le_of_ble_eq_true rfl⟩ hM.1 rfl rfl rfl hl.1 rfl (Nat.le_of_ble_eq_true rfl) dX3_holds_21 ⟨Nat.le_of_ble_eq_true rfl, Nat.le_of_ble_eq_true rfl⟩ (fun v g2 H1 locs1 hp hW hKT => ?_)
    obtain ⟨rfl, hg⟩ := hp
    rw [hg] at hW
    refine W.eq (g2 := F0 m 24 ls [.int (bI (fitB r (ix b) (r 0 i) ((r 1 i) - (1))))]) rfl ?_
    refine lv_if_eq (tgt := 31) hx hb dX3_holds_24 (by decide) (fun c_309 => ?_) (fun c_309 => ?_)
    · skip
      have c_309 := (bI_eq0 _).mp c_309
      refine lv_iconst (v := 0) hx hb dX3_holds_31 (by decide) ?_
      exact r_bool hx hb hr hlk hW rfl (by refine ⟨?_, rfl⟩; first | with_reducible rfl | (simp [bI, holdB, c_308, c_309]; done) | (simp_all [bI, holdB]; done)) (Nat.le_of_ble_eq_true rfl) (Nat.le_of_ble_eq_true rfl) dX3_holds_32
    · skip
      have c_309 := bI_ne0 c_309
      refine lv_iconst (v := 1) hx hb dX3_holds_27 (by decide) ?_
      refine lv_goto (tgt := 32) hx hb dX3_holds_28 (by decide) ?_
      exact r_bool hx hb hr hlk hW rfl (by refine ⟨?_, rfl⟩; first | with_reducible rfl | (simp [bI, holdB, c_308, c_309]; done) | (simp_all [bI, holdB]; done)) (Nat.le_of_ble_eq_true rfl) (Nat.le_of_ble_eq_true rfl) dX3_holds_32

set_option maxHeartbeats 4000000 in
set_option maxRecDepth 100000 in
theorem k_X3_cut (l : Launch) {E : gE} {g : gm} (a b : Int32) : CM l yX3_cut cX3_cut 2 (some .int) ({ frames := 0, cells := 0, slots := 0, locals := 0 }) E [.int (a), .int (b)] g (fun vv g' => vv = some (.int (lowI a b)) ∧ g' = g) := by
  refine CM.of (by decide) (Nat.le_of_ble_eq_true rfl) ?_
  intro p e s m below meth c ls hM hK hW hl
  obtain ⟨hx, hb, hr, hml, hown, hts, hlk, hnm⟩ := hM
  have hown : s.vm.findClass RX3 = some m.cls := hown
  have hl : lv_has ls 2 [(0, .int (a)), (1, .int (b))] := hl
  refine lv_iload_n hx hb dX3_cut_0 rfl (lv_at hl 0 rfl) ?_
  refine lv_iconst (v := 4) hx hb dX3_cut_1 (by decide) ?_
  refine lv_icmp_ne (tgt := 10) hx hb dX3_cut_2 (by decide) (fun c_310 => ?_) (fun c_310 => ?_)
  · skip
    refine lv_iload_n hx hb dX3_cut_10 rfl (lv_at hl 1 rfl) ?_
    refine lv_ldc hx hb hown (hts _ co_RX3_106) dX3_cut_11 ?_
    refine lv_iand hx hb dX3_cut_13 ?_
    exact r_int hx hb hr hlk hW (by refine ⟨?_, rfl⟩; first | with_reducible rfl | (simp [bI, lowI, cut_e, c_310]; done) | (simp_all [bI, lowI, cut_e]; done)) (Nat.le_of_ble_eq_true rfl) (Nat.le_of_ble_eq_true rfl) dX3_cut_14
  · skip
    refine lv_iload_n hx hb dX3_cut_5 rfl (lv_at hl 1 rfl) ?_
    refine lv_i2b hx hb dX3_cut_6 rfl ?_
    refine lv_goto (tgt := 14) hx hb dX3_cut_7 (by decide) ?_
    exact r_int hx hb hr hlk hW (by refine ⟨?_, rfl⟩; first | with_reducible rfl | (simp [bI, lowI, cut_e, c_310]; done) | (simp_all [bI, lowI, cut_e]; done)) (Nat.le_of_ble_eq_true rfl) (Nat.le_of_ble_eq_true rfl) dX3_cut_14

set_option maxHeartbeats 4000000 in
set_option maxRecDepth 100000 in
theorem k_X3_isView (l : Launch) {E : gE} {g : gm} (a b : Int32) : CM l yX3_isView cX3_isView 2 (some .boolean) ({ frames := 1, cells := 0, slots := 0, locals := 22 }) E [.int (a), .int (b)] g (fun vv g' => vv = some (.int (bI (kindB a b))) ∧ g' = g) := by
  refine CM.of (by decide) (Nat.le_of_ble_eq_true rfl) ?_
  intro p e s m below meth c ls hM hK hW hl
  obtain ⟨hx, hb, hr, hml, hown, hts, hlk, hnm⟩ := hM
  have hown : s.vm.findClass RX3 = some m.cls := hown
  have hl : lv_has ls 2 [(0, .int (a)), (1, .int (b))] := hl
  refine lv_iload_n hx hb dX3_isView_0 rfl (lv_at hl 0 rfl) ?_
  refine lv_iconst (v := 0) hx hb dX3_isView_1 (by decide) ?_
  refine lv_iconst (v := 3) hx hb dX3_isView_2 (by decide) ?_
  refine c_stat (own := RX3) (As := [.int (a), .int (0), .int (3)]) (rest := []) hx hb hml hown hts hK hW (k_X3_in l _ _ _) ml_RX3_78 st_yX3_in in_RX3 cd_yX3_in 3 (by decide +kernel) ⟨Nat.le_of_ble_eq_true rfl, Nat.le_of_ble_eq_true rfl⟩ rfl hl.1 rfl (Nat.le_of_ble_eq_true rfl) dX3_isView_3 ⟨Nat.le_of_ble_eq_true rfl, Nat.le_of_ble_eq_true rfl⟩ (fun v g2 H1 locs1 hp hW hKT => ?_)
  obtain ⟨rfl, hg⟩ := hp
  rw [hg] at hW
  refine W.eq (g2 := F0 m 6 ls [.int (bI (mIn (a) (0) (3)))]) rfl ?_
  refine lv_if_eq (tgt := 18) hx hb dX3_isView_6 (by decide) (fun c_311 => ?_) (fun c_311 => ?_)
  · skip
    have c_311 := (bI_eq0 _).mp c_311
    refine lv_iload_n hx hb dX3_isView_18 rfl (lv_at hl 0 rfl) ?_
    refine lv_iconst (v := 4) hx hb dX3_isView_19 (by decide) ?_
    refine lv_iconst (v := 5) hx hb dX3_isView_20 (by decide) ?_
    refine c_stat (own := RX3) (As := [.int (a), .int (4), .int (5)]) (rest := []) hx hb hml hown hts hK hW (k_X3_in l _ _ _) ml_RX3_78 st_yX3_in in_RX3 cd_yX3_in 3 (by decide +kernel) ⟨Nat.le_of_ble_eq_true rfl, Nat.le_of_ble_eq_true rfl⟩ rfl hl.1 rfl (Nat.le_of_ble_eq_true rfl) dX3_isView_21 ⟨Nat.le_of_ble_eq_true rfl, Nat.le_of_ble_eq_true rfl⟩ (fun v g2 H1 locs1 hp hW hKT => ?_)
    obtain ⟨rfl, hg⟩ := hp
    rw [hg] at hW
    refine W.eq (g2 := F0 m 24 ls [.int (bI (mIn (a) (4) (5)))]) rfl ?_
    refine lv_if_eq (tgt := 40) hx hb dX3_isView_24 (by decide) (fun c_312 => ?_) (fun c_312 => ?_)
    · skip
      have c_312 := (bI_eq0 _).mp c_312
      refine lv_iconst (v := 0) hx hb dX3_isView_40 (by decide) ?_
      exact r_bool hx hb hr hlk hW rfl (by refine ⟨?_, rfl⟩; rw [← view_kind]; simp [bI, c_311, c_312]) (Nat.le_of_ble_eq_true rfl) (Nat.le_of_ble_eq_true rfl) dX3_isView_41
    · skip
      have c_312 := bI_ne0 c_312
      refine lv_iload_n hx hb dX3_isView_27 rfl (lv_at hl 1 rfl) ?_
      refine lv_iconst (v := 1) hx hb dX3_isView_28 (by decide) ?_
      refine lv_iconst (v := 3) hx hb dX3_isView_29 (by decide) ?_
      refine c_stat (own := RX3) (As := [.int (b), .int (1), .int (3)]) (rest := []) hx hb hml hown hts hK hW (k_X3_in l _ _ _) ml_RX3_78 st_yX3_in in_RX3 cd_yX3_in 3 (by decide +kernel) ⟨Nat.le_of_ble_eq_true rfl, Nat.le_of_ble_eq_true rfl⟩ rfl hl.1 rfl (Nat.le_of_ble_eq_true rfl) dX3_isView_30 ⟨Nat.le_of_ble_eq_true rfl, Nat.le_of_ble_eq_true rfl⟩ (fun v g2 H1 locs1 hp hW hKT => ?_)
      obtain ⟨rfl, hg⟩ := hp
      rw [hg] at hW
      refine W.eq (g2 := F0 m 33 ls [.int (bI (mIn (b) (1) (3)))]) rfl ?_
      refine lv_if_eq (tgt := 40) hx hb dX3_isView_33 (by decide) (fun c_313 => ?_) (fun c_313 => ?_)
      · skip
        have c_313 := (bI_eq0 _).mp c_313
        refine lv_iconst (v := 0) hx hb dX3_isView_40 (by decide) ?_
        exact r_bool hx hb hr hlk hW rfl (by refine ⟨?_, rfl⟩; rw [← view_kind]; simp [bI, c_311, c_312, c_313]) (Nat.le_of_ble_eq_true rfl) (Nat.le_of_ble_eq_true rfl) dX3_isView_41
      · skip
        have c_313 := bI_ne0 c_313
        refine lv_iconst (v := 1) hx hb dX3_isView_36 (by decide) ?_
        refine lv_goto (tgt := 41) hx hb dX3_isView_37 (by decide) ?_
        exact r_bool hx hb hr hlk hW rfl (by refine ⟨?_, rfl⟩; rw [← view_kind]; simp [bI, c_311, c_312, c_313]) (Nat.le_of_ble_eq_true rfl) (Nat.le_of_ble_eq_true rfl) dX3_isView_41
  · skip
    have c_311 := bI_ne0 c_311
    refine lv_iload_n hx hb dX3_isView_9 rfl (lv_at hl 1 rfl) ?_
    refine lv_iconst (v := 0) hx hb dX3_isView_10 (by decide) ?_
    refine lv_iconst (v := 3) hx hb dX3_isView_11 (by decide) ?_
    refine c_stat (own := RX3) (As := [.int (b), .int (0), .int (3)]) (rest := []) hx hb hml hown hts hK hW (k_X3_in l _ _ _) ml_RX3_78 st_yX3_in in_RX3 cd_yX3_in 3 (by decide +kernel) ⟨Nat.le_of_ble_eq_true rfl, Nat.le_of_ble_eq_true rfl⟩ rfl hl.1 rfl (Nat.le_of_ble_eq_true rfl) dX3_isView_12 ⟨Nat.le_of_ble_eq_true rfl, Nat.le_of_ble_eq_true rfl⟩ (fun v g2 H1 locs1 hp hW hKT => ?_)
    obtain ⟨rfl, hg⟩ := hp
    rw [hg] at hW
    refine W.eq (g2 := F0 m 15 ls [.int (bI (mIn (b) (0) (3)))]) rfl ?_
    refine lv_if_ne (tgt := 36) hx hb dX3_isView_15 (by decide) (fun c_314 => ?_) (fun c_314 => ?_)
    · skip
      have c_314 := bI_ne0 c_314
      refine lv_iconst (v := 1) hx hb dX3_isView_36 (by decide) ?_
      refine lv_goto (tgt := 41) hx hb dX3_isView_37 (by decide) ?_
      exact r_bool hx hb hr hlk hW rfl (by refine ⟨?_, rfl⟩; rw [← view_kind]; simp [bI, c_311, c_314]) (Nat.le_of_ble_eq_true rfl) (Nat.le_of_ble_eq_true rfl) dX3_isView_41
    · skip
      have c_314 := (bI_eq0 _).mp c_314
      refine lv_iload_n hx hb dX3_isView_18 rfl (lv_at hl 0 rfl) ?_
      refine lv_iconst (v := 4) hx hb dX3_isView_19 (by decide) ?_
      refine lv_iconst (v := 5) hx hb dX3_isView_20 (by decide) ?_
      refine c_stat (own := RX3) (As := [.int (a), .int (4), .int (5)]) (rest := []) hx hb hml hown hts hK hW (k_X3_in l _ _ _) ml_RX3_78 st_yX3_in in_RX3 cd_yX3_in 3 (by decide +kernel) ⟨Nat.le_of_ble_eq_true rfl, Nat.le_of_ble_eq_true rfl⟩ rfl hl.1 rfl (Nat.le_of_ble_eq_true rfl) dX3_isView_21 ⟨Nat.le_of_ble_eq_true rfl, Nat.le_of_ble_eq_true rfl⟩ (fun v g2 H1 locs1 hp hW hKT => ?_)
      obtain ⟨rfl, hg⟩ := hp
      rw [hg] at hW
      refine W.eq (g2 := F0 m 24 ls [.int (bI (mIn (a) (4) (5)))]) rfl ?_
      refine lv_if_eq (tgt := 40) hx hb dX3_isView_24 (by decide) (fun c_315 => ?_) (fun c_315 => ?_)
      · skip
        have c_315 := (bI_eq0 _).mp c_315
        refine lv_iconst (v := 0) hx hb dX3_isView_40 (by decide) ?_
        exact r_bool hx hb hr hlk hW rfl (by refine ⟨?_, rfl⟩; rw [← view_kind]; simp [bI, c_311, c_314, c_315]) (Nat.le_of_ble_eq_true rfl) (Nat.le_of_ble_eq_true rfl) dX3_isView_41
      · skip
        have c_315 := bI_ne0 c_315
        refine lv_iload_n hx hb dX3_isView_27 rfl (lv_at hl 1 rfl) ?_
        refine lv_iconst (v := 1) hx hb dX3_isView_28 (by decide) ?_
        refine lv_iconst (v := 3) hx hb dX3_isView_29 (by decide) ?_
        refine c_stat (own := RX3) (As := [.int (b), .int (1), .int (3)]) (rest := []) hx hb hml hown hts hK hW (k_X3_in l _ _ _) ml_RX3_78 st_yX3_in in_RX3 cd_yX3_in 3 (by decide +kernel) ⟨Nat.le_of_ble_eq_true rfl, Nat.le_of_ble_eq_true rfl⟩ rfl hl.1 rfl (Nat.le_of_ble_eq_true rfl) dX3_isView_30 ⟨Nat.le_of_ble_eq_true rfl, Nat.le_of_ble_eq_true rfl⟩ (fun v g2 H1 locs1 hp hW hKT => ?_)
        obtain ⟨rfl, hg⟩ := hp
        rw [hg] at hW
        refine W.eq (g2 := F0 m 33 ls [.int (bI (mIn (b) (1) (3)))]) rfl ?_
        refine lv_if_eq (tgt := 40) hx hb dX3_isView_33 (by decide) (fun c_316 => ?_) (fun c_316 => ?_)
        · skip
          have c_316 := (bI_eq0 _).mp c_316
          refine lv_iconst (v := 0) hx hb dX3_isView_40 (by decide) ?_
          exact r_bool hx hb hr hlk hW rfl (by refine ⟨?_, rfl⟩; rw [← view_kind]; simp [bI, c_311, c_314, c_315, c_316]) (Nat.le_of_ble_eq_true rfl) (Nat.le_of_ble_eq_true rfl) dX3_isView_41
        · skip
          have c_316 := bI_ne0 c_316
          refine lv_iconst (v := 1) hx hb dX3_isView_36 (by decide) ?_
          refine lv_goto (tgt := 41) hx hb dX3_isView_37 (by decide) ?_
          exact r_bool hx hb hr hlk hW rfl (by refine ⟨?_, rfl⟩; rw [← view_kind]; simp [bI, c_311, c_314, c_315, c_316]) (Nat.le_of_ble_eq_true rfl) (Nat.le_of_ble_eq_true rfl) dX3_isView_41

set_option maxHeartbeats 4000000 in
set_option maxRecDepth 100000 in
theorem k_X3_isCounter (l : Launch) {E : gE} {y : Nat} {ad : Nat → Nat} {r t : sg} {g : gm} (hM : MR E y ad r t g) (a : Int32) : CM l yX3_isCounter cX3_isCounter 2 (some .boolean) ({ frames := 1, cells := 0, slots := 0, locals := 22 }) E [.ref (y), .int (a)] g (fun vv g' => vv = some (.int (bI (isCb r a))) ∧ g' = g) := by
  refine CM.of (by decide) (Nat.le_of_ble_eq_true rfl) ?_
  intro p e s m below meth c ls hM hK hW hl
  obtain ⟨hx, hb, hr, hml, hown, hts, hlk, hnm⟩ := hM
  have hown : s.vm.findClass RX3 = some m.cls := hown
  have hl : lv_has ls 2 [(0, .ref (y)), (1, .int (a))] := hl
  refine lv_iload_n hx hb dX3_isCounter_0 rfl (lv_at hl 1 rfl) ?_
  refine lv_iconst (v := 0) hx hb dX3_isCounter_1 (by decide) ?_
  refine lv_bipush (v := 7) hx hb dX3_isCounter_2 (by decide) ?_
  refine c_stat (own := RX3) (As := [.int (a), .int (0), .int (7)]) (rest := []) hx hb hml hown hts hK hW (k_X3_in l _ _ _) ml_RX3_78 st_yX3_in in_RX3 cd_yX3_in 3 (by decide +kernel) ⟨Nat.le_of_ble_eq_true rfl, Nat.le_of_ble_eq_true rfl⟩ rfl hl.1 rfl (Nat.le_of_ble_eq_true rfl) dX3_isCounter_4 ⟨Nat.le_of_ble_eq_true rfl, Nat.le_of_ble_eq_true rfl⟩ (fun v g2 H1 locs1 hp hW hKT => ?_)
  obtain ⟨rfl, hg⟩ := hp
  rw [hg] at hW
  refine W.eq (g2 := F0 m 7 ls [.int (bI (mIn (a) (0) (7)))]) rfl ?_
  refine lv_if_eq (tgt := 23) hx hb dX3_isCounter_7 (by decide) (fun c_317 => ?_) (fun c_317 => ?_)
  · skip
    have c_317 := (bI_eq0 _).mp c_317
    refine lv_iconst (v := 0) hx hb dX3_isCounter_23 (by decide) ?_
    exact r_bool hx hb hr hlk hW rfl (by refine ⟨?_, rfl⟩; have hh : isCb r a = false := (by cases hq : isCb r a with | false => rfl | true => exact absurd (nI_ix (isCb_nn hq)).symm (in_f (n := 7) (by decide) c_317 (by have := isCb_lt hq; omega))); rw [hh]; rfl) (Nat.le_of_ble_eq_true rfl) (Nat.le_of_ble_eq_true rfl) dX3_isCounter_24
  · skip
    have c_317 := bI_ne0 c_317
    obtain ⟨j, hj, rfl⟩ := in_t (n := 7) (by decide) c_317
    have hl : lv_has ls 2 [(0, .ref y), (1, .int (nI j))] := hl
    refine lv_aload_n hx hb dX3_isCounter_10 rfl (lv_at hl 0 rfl) ?_
    refine m_get hx hb hts hown hK hW hM 6 (by decide) fl_RX3_25 (v := .ref (ad 5)) rfl dX3_isCounter_11 ?_
    refine lv_iload_n hx hb dX3_isCounter_14 rfl (lv_at hl 1 rfl) ?_
    refine m_zald 5 (j := j) (v := r 5 j) hx hb hK hW hM (by decide) rfl rfl (show j < 8 from by omega) rfl dX3_isCounter_15 ?_
    refine lv_if_eq (tgt := 23) hx hb dX3_isCounter_16 (by decide) (fun c_318 => ?_) (fun c_318 => ?_)
    · skip
      refine lv_iconst (v := 0) hx hb dX3_isCounter_23 (by decide) ?_
      exact r_bool hx hb hr hlk hW rfl (by refine ⟨?_, rfl⟩; rw [isCb_N (by omega)]; simp [bI, c_318]) (Nat.le_of_ble_eq_true rfl) (Nat.le_of_ble_eq_true rfl) dX3_isCounter_24
    · skip
      refine lv_iconst (v := 1) hx hb dX3_isCounter_19 (by decide) ?_
      refine lv_goto (tgt := 24) hx hb dX3_isCounter_20 (by decide) ?_
      exact r_bool hx hb hr hlk hW rfl (by refine ⟨?_, rfl⟩; rw [isCb_N (by omega)]; simp [bI, c_318]) (Nat.le_of_ble_eq_true rfl) (Nat.le_of_ble_eq_true rfl) dX3_isCounter_24
