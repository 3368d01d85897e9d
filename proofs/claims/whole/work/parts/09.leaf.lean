def asI (b : Int32) : Int32 := if b = 0 then 0 else 1
theorem asI_bI (b : Bool) : asI (bI b) = bI b := by cases b <;> rfl
def kindB (b d : Int32) : Bool := !decide (b < 0) && (!decide (5 < b) && (!decide (d < (if b < 4 then 0 else 1)) && !decide (3 < d)))
def failI (a : Int32) : Int32 := if a < -10 then -10 - a else 0
def hasP (r : sg) (i : Nat) (j : Int32) : Bool := !figB (r 0 i) (r 1 i) && (!decide (j < 0) && decide (j < r 3 i))
def hasN (r : sg) (i : Nat) (j : Int32) : Bool := figB (r 0 i) (r 1 i) && (!decide (j < 0) && decide (j < r 3 i))
def lowI (b v : Int32) : Int32 := if b = 4 then v.toInt8.toInt32 else (v.toUInt32 % 65536).toInt32
def canB (r : sg) (k : Nat) (j : Int32) : Bool := if j = 2 ∨ j = 3 ∨ j = 4 then decide (0 < r 11 k) && !figB (r 10 k) (r 11 k) else !decide (j < 0) && !decide (5 < j)
theorem fb_bI (b : Bool) : fits .boolean (.int (bI b)) = true := by cases b <;> decide

set_option maxHeartbeats 4000000 in
set_option maxRecDepth 100000 in
theorem k_X2_asInt (l : Launch) {E : gE} {g : gm} (b : Int32) : CM l yX2_asInt cX2_asInt 1 (some .int) ({ frames := 0, cells := 0, slots := 0, locals := 0 }) E [.int (b)] g (fun vv g' => vv = some (.int (asI b)) ∧ g' = g) := by
  refine CM.of (by decide) (Nat.le_of_ble_eq_true rfl) ?_
  intro p e s m below meth c ls hM hK hW hl
  obtain ⟨hx, hb, hr, hml, hown, hts, hlk, hnm⟩ := hM
  have hown : s.vm.findClass RX2 = some m.cls := hown
  have hl : lv_has ls 1 [(0, .int (b))] := hl
  refine lv_iload_n hx hb dX2_asInt_0 rfl (lv_at hl 0 rfl) ?_
  refine lv_if_eq (tgt := 8) hx hb dX2_asInt_1 (by decide) (fun c_1 => ?_) (fun c_1 => ?_)
  · skip
    refine lv_iconst (v := 0) hx hb dX2_asInt_8 (by decide) ?_
    exact r_int hx hb hr hlk hW (by refine ⟨?_, rfl⟩; first | with_reducible rfl | (simp [bI, asI, c_1]; done) | (simp_all [bI, asI]; done)) (Nat.le_of_ble_eq_true rfl) (Nat.le_of_ble_eq_true rfl) dX2_asInt_9
  · skip
    refine lv_iconst (v := 1) hx hb dX2_asInt_4 (by decide) ?_
    refine lv_goto (tgt := 9) hx hb dX2_asInt_5 (by decide) ?_
    exact r_int hx hb hr hlk hW (by refine ⟨?_, rfl⟩; first | with_reducible rfl | (simp [bI, asI, c_1]; done) | (simp_all [bI, asI]; done)) (Nat.le_of_ble_eq_true rfl) (Nat.le_of_ble_eq_true rfl) dX2_asInt_9

set_option maxHeartbeats 4000000 in
set_option maxRecDepth 100000 in
theorem k_X2_passesFor (l : Launch) {E : gE} {g : gm} (a b : Int32) : CM l yX2_passesFor cX2_passesFor 2 (some .boolean) ({ frames := 0, cells := 0, slots := 0, locals := 0 }) E [.int (a), .int (b)] g (fun vv g' => vv = some (.int (bI (passB a b))) ∧ g' = g) := by
  refine CM.of (by decide) (Nat.le_of_ble_eq_true rfl) ?_
  intro p e s m below meth c ls hM hK hW hl
  obtain ⟨hx, hb, hr, hml, hown, hts, hlk, hnm⟩ := hM
  have hown : s.vm.findClass RX2 = some m.cls := hown
  have hl : lv_has ls 2 [(0, .int (a)), (1, .int (b))] := hl
  refine lv_iload_n hx hb dX2_passesFor_0 rfl (lv_at hl 0 rfl) ?_
  refine lv_iload_n hx hb dX2_passesFor_1 rfl (lv_at hl 1 rfl) ?_
  refine lv_icmp_eq (tgt := 29) hx hb dX2_passesFor_2 (by decide) (fun c_2 => ?_) (fun c_2 => ?_)
  · skip
    refine lv_iconst (v := 1) hx hb dX2_passesFor_29 (by decide) ?_
    refine lv_goto (tgt := 34) hx hb dX2_passesFor_30 (by decide) ?_
    exact r_bool hx hb hr hlk hW rfl (by refine ⟨?_, rfl⟩; first | with_reducible rfl | (simp [bI, passB, c_2]; done) | (simp_all [bI, passB]; done)) (Nat.le_of_ble_eq_true rfl) (Nat.le_of_ble_eq_true rfl) dX2_passesFor_34
  · skip
    refine lv_iload_n hx hb dX2_passesFor_5 rfl (lv_at hl 1 rfl) ?_
    refine lv_if_ne (tgt := 19) hx hb dX2_passesFor_6 (by decide) (fun c_3 => ?_) (fun c_3 => ?_)
    · skip
      refine lv_iload_n hx hb dX2_passesFor_19 rfl (lv_at hl 1 rfl) ?_
      refine lv_iconst (v := 3) hx hb dX2_passesFor_20 (by decide) ?_
      refine lv_icmp_ne (tgt := 33) hx hb dX2_passesFor_21 (by decide) (fun c_4 => ?_) (fun c_4 => ?_)
      · skip
        refine lv_iconst (v := 0) hx hb dX2_passesFor_33 (by decide) ?_
        exact r_bool hx hb hr hlk hW rfl (by refine ⟨?_, rfl⟩; first | with_reducible rfl | (simp [bI, passB, c_2, c_3, c_4]; done) | (simp_all [bI, passB]; done)) (Nat.le_of_ble_eq_true rfl) (Nat.le_of_ble_eq_true rfl) dX2_passesFor_34
      · skip
        refine lv_iload_n hx hb dX2_passesFor_24 rfl (lv_at hl 0 rfl) ?_
        refine lv_iconst (v := 2) hx hb dX2_passesFor_25 (by decide) ?_
        refine lv_icmp_ne (tgt := 33) hx hb dX2_passesFor_26 (by decide) (fun c_5 => ?_) (fun c_5 => ?_)
        · skip
          refine lv_iconst (v := 0) hx hb dX2_passesFor_33 (by decide) ?_
          exact r_bool hx hb hr hlk hW rfl (by refine ⟨?_, rfl⟩; first | with_reducible rfl | (simp [bI, passB, c_2, c_3, c_4, c_5]; done) | (simp_all [bI, passB]; done)) (Nat.le_of_ble_eq_true rfl) (Nat.le_of_ble_eq_true rfl) dX2_passesFor_34
        · skip
          refine lv_iconst (v := 1) hx hb dX2_passesFor_29 (by decide) ?_
          refine lv_goto (tgt := 34) hx hb dX2_passesFor_30 (by decide) ?_
          exact r_bool hx hb hr hlk hW rfl (by refine ⟨?_, rfl⟩; first | with_reducible rfl | (simp [bI, passB, c_2, c_3, c_4, c_5]; done) | (simp_all [bI, passB]; done)) (Nat.le_of_ble_eq_true rfl) (Nat.le_of_ble_eq_true rfl) dX2_passesFor_34
    · skip
      refine lv_iload_n hx hb dX2_passesFor_9 rfl (lv_at hl 0 rfl) ?_
      refine lv_iconst (v := 1) hx hb dX2_passesFor_10 (by decide) ?_
      refine lv_icmp_eq (tgt := 29) hx hb dX2_passesFor_11 (by decide) (fun c_6 => ?_) (fun c_6 => ?_)
      · skip
        refine lv_iconst (v := 1) hx hb dX2_passesFor_29 (by decide) ?_
        refine lv_goto (tgt := 34) hx hb dX2_passesFor_30 (by decide) ?_
        exact r_bool hx hb hr hlk hW rfl (by refine ⟨?_, rfl⟩; first | with_reducible rfl | (simp [bI, passB, c_2, c_3, c_6]; done) | (simp_all [bI, passB]; done)) (Nat.le_of_ble_eq_true rfl) (Nat.le_of_ble_eq_true rfl) dX2_passesFor_34
      · skip
        refine lv_iload_n hx hb dX2_passesFor_14 rfl (lv_at hl 0 rfl) ?_
        refine lv_iconst (v := 2) hx hb dX2_passesFor_15 (by decide) ?_
        refine lv_icmp_eq (tgt := 29) hx hb dX2_passesFor_16 (by decide) (fun c_7 => ?_) (fun c_7 => ?_)
        · skip
          refine lv_iconst (v := 1) hx hb dX2_passesFor_29 (by decide) ?_
          refine lv_goto (tgt := 34) hx hb dX2_passesFor_30 (by decide) ?_
          exact r_bool hx hb hr hlk hW rfl (by refine ⟨?_, rfl⟩; first | with_reducible rfl | (simp [bI, passB, c_2, c_3, c_6, c_7]; done) | (simp_all [bI, passB]; done)) (Nat.le_of_ble_eq_true rfl) (Nat.le_of_ble_eq_true rfl) dX2_passesFor_34
        · skip
          refine lv_iload_n hx hb dX2_passesFor_19 rfl (lv_at hl 1 rfl) ?_
          refine lv_iconst (v := 3) hx hb dX2_passesFor_20 (by decide) ?_
          refine lv_icmp_ne (tgt := 33) hx hb dX2_passesFor_21 (by decide) (fun c_8 => ?_) (fun c_8 => ?_)
          · skip
            refine lv_iconst (v := 0) hx hb dX2_passesFor_33 (by decide) ?_
            exact r_bool hx hb hr hlk hW rfl (by refine ⟨?_, rfl⟩; first | with_reducible rfl | (simp [bI, passB, c_2, c_3, c_6, c_7, c_8]; done) | (simp_all [bI, passB]; done)) (Nat.le_of_ble_eq_true rfl) (Nat.le_of_ble_eq_true rfl) dX2_passesFor_34
          · skip
            refine lv_iload_n hx hb dX2_passesFor_24 rfl (lv_at hl 0 rfl) ?_
            refine lv_iconst (v := 2) hx hb dX2_passesFor_25 (by decide) ?_
            refine lv_icmp_ne (tgt := 33) hx hb dX2_passesFor_26 (by decide) (fun c_9 => ?_) (fun c_9 => ?_)
            · skip
              refine lv_iconst (v := 0) hx hb dX2_passesFor_33 (by decide) ?_
              exact r_bool hx hb hr hlk hW rfl (by refine ⟨?_, rfl⟩; first | with_reducible rfl | (simp [bI, passB, c_2, c_3, c_6, c_7, c_8, c_9]; done) | (simp_all [bI, passB]; done)) (Nat.le_of_ble_eq_true rfl) (Nat.le_of_ble_eq_true rfl) dX2_passesFor_34
            · skip
              refine lv_iconst (v := 1) hx hb dX2_passesFor_29 (by decide) ?_
              refine lv_goto (tgt := 34) hx hb dX2_passesFor_30 (by decide) ?_
              exact r_bool hx hb hr hlk hW rfl (by refine ⟨?_, rfl⟩; first | with_reducible rfl | (simp [bI, passB, c_2, c_3, c_6, c_7, c_8, c_9]; done) | (simp_all [bI, passB]; done)) (Nat.le_of_ble_eq_true rfl) (Nat.le_of_ble_eq_true rfl) dX2_passesFor_34

set_option maxHeartbeats 4000000 in
set_option maxRecDepth 100000 in
theorem k_X2_isKind (l : Launch) {E : gE} {g : gm} (a b : Int32) : CM l yX2_isKind cX2_isKind 3 (some .boolean) ({ frames := 0, cells := 0, slots := 0, locals := 0 }) E [.int (a), .int (b)] g (fun vv g' => vv = some (.int (bI (kindB a b))) ∧ g' = g) := by
  refine CM.of (by decide) (Nat.le_of_ble_eq_true rfl) ?_
  intro p e s m below meth c ls hM hK hW hl
  obtain ⟨hx, hb, hr, hml, hown, hts, hlk, hnm⟩ := hM
  have hown : s.vm.findClass RX2 = some m.cls := hown
  have hl : lv_has ls 3 [(0, .int (a)), (1, .int (b))] := hl
  refine lv_iload_n hx hb dX2_isKind_0 rfl (lv_at hl 0 rfl) ?_
  refine lv_iconst (v := 4) hx hb dX2_isKind_1 (by decide) ?_
  refine lv_icmp_lt (tgt := 9) hx hb dX2_isKind_2 (by decide) (fun c_10 => ?_) (fun c_10 => ?_)
  · skip
    refine lv_iconst (v := 0) hx hb dX2_isKind_9 (by decide) ?_
    refine lv_istore_n (lv' := [(2, .int (0)), (0, .int (a)), (1, .int (b))]) hx hb dX2_isKind_10 rfl hl (by decide) rfl (fun ls hl => ?_)
    refine lv_iload_n hx hb dX2_isKind_11 rfl (lv_at hl 1 rfl) ?_
    refine lv_if_lt (tgt := 34) hx hb dX2_isKind_12 (by decide) (fun c_11 => ?_) (fun c_11 => ?_)
    · skip
      refine lv_iconst (v := 0) hx hb dX2_isKind_34 (by decide) ?_
      exact r_bool hx hb hr hlk hW rfl (by refine ⟨?_, rfl⟩; first | with_reducible rfl | (simp [bI, kindB, c_10, c_11]; done) | (simp_all [bI, kindB]; done)) (Nat.le_of_ble_eq_true rfl) (Nat.le_of_ble_eq_true rfl) dX2_isKind_35
    · skip
      refine lv_iload_n hx hb dX2_isKind_15 rfl (lv_at hl 1 rfl) ?_
      refine lv_iconst (v := 5) hx hb dX2_isKind_16 (by decide) ?_
      refine lv_icmp_gt (tgt := 34) hx hb dX2_isKind_17 (by decide) (fun c_12 => ?_) (fun c_12 => ?_)
      · skip
        refine lv_iconst (v := 0) hx hb dX2_isKind_34 (by decide) ?_
        exact r_bool hx hb hr hlk hW rfl (by refine ⟨?_, rfl⟩; first | with_reducible rfl | (simp [bI, kindB, c_10, c_11, c_12]; done) | (simp_all [bI, kindB]; done)) (Nat.le_of_ble_eq_true rfl) (Nat.le_of_ble_eq_true rfl) dX2_isKind_35
      · skip
        refine lv_iload_n hx hb dX2_isKind_20 rfl (lv_at hl 2 rfl) ?_
        refine lv_iload_n hx hb dX2_isKind_21 rfl (lv_at hl 0 rfl) ?_
        refine lv_icmp_lt (tgt := 34) hx hb dX2_isKind_22 (by decide) (fun c_13 => ?_) (fun c_13 => ?_)
        · skip
          refine lv_iconst (v := 0) hx hb dX2_isKind_34 (by decide) ?_
          exact r_bool hx hb hr hlk hW rfl (by refine ⟨?_, rfl⟩; first | with_reducible rfl | (simp [bI, kindB, c_10, c_11, c_12, c_13]; done) | (simp_all [bI, kindB]; done)) (Nat.le_of_ble_eq_true rfl) (Nat.le_of_ble_eq_true rfl) dX2_isKind_35
        · skip
          refine lv_iload_n hx hb dX2_isKind_25 rfl (lv_at hl 2 rfl) ?_
          refine lv_iconst (v := 3) hx hb dX2_isKind_26 (by decide) ?_
          refine lv_icmp_gt (tgt := 34) hx hb dX2_isKind_27 (by decide) (fun c_14 => ?_) (fun c_14 => ?_)
          · skip
            refine lv_iconst (v := 0) hx hb dX2_isKind_34 (by decide) ?_
            exact r_bool hx hb hr hlk hW rfl (by refine ⟨?_, rfl⟩; first | with_reducible rfl | (simp [bI, kindB, c_10, c_11, c_12, c_13, c_14]; done) | (simp_all [bI, kindB]; done)) (Nat.le_of_ble_eq_true rfl) (Nat.le_of_ble_eq_true rfl) dX2_isKind_35
          · skip
            refine lv_iconst (v := 1) hx hb dX2_isKind_30 (by decide) ?_
            refine lv_goto (tgt := 35) hx hb dX2_isKind_31 (by decide) ?_
            exact r_bool hx hb hr hlk hW rfl (by refine ⟨?_, rfl⟩; first | with_reducible rfl | (simp [bI, kindB, c_10, c_11, c_12, c_13, c_14]; done) | (simp_all [bI, kindB]; done)) (Nat.le_of_ble_eq_true rfl) (Nat.le_of_ble_eq_true rfl) dX2_isKind_35
  · skip
    refine lv_iconst (v := 1) hx hb dX2_isKind_5 (by decide) ?_
    refine lv_goto (tgt := 10) hx hb dX2_isKind_6 (by decide) ?_
    refine lv_istore_n (lv' := [(2, .int (1)), (0, .int (a)), (1, .int (b))]) hx hb dX2_isKind_10 rfl hl (by decide) rfl (fun ls hl => ?_)
    refine lv_iload_n hx hb dX2_isKind_11 rfl (lv_at hl 1 rfl) ?_
    refine lv_if_lt (tgt := 34) hx hb dX2_isKind_12 (by decide) (fun c_15 => ?_) (fun c_15 => ?_)
    · skip
      refine lv_iconst (v := 0) hx hb dX2_isKind_34 (by decide) ?_
      exact r_bool hx hb hr hlk hW rfl (by refine ⟨?_, rfl⟩; first | with_reducible rfl | (simp [bI, kindB, c_10, c_15]; done) | (simp_all [bI, kindB]; done)) (Nat.le_of_ble_eq_true rfl) (Nat.le_of_ble_eq_true rfl) dX2_isKind_35
    · skip
      refine lv_iload_n hx hb dX2_isKind_15 rfl (lv_at hl 1 rfl) ?_
      refine lv_iconst (v := 5) hx hb dX2_isKind_16 (by decide) ?_
      refine lv_icmp_gt (tgt := 34) hx hb dX2_isKind_17 (by decide) (fun c_16 => ?_) (fun c_16 => ?_)
      · skip
        refine lv_iconst (v := 0) hx hb dX2_isKind_34 (by decide) ?_
        exact r_bool hx hb hr hlk hW rfl (by refine ⟨?_, rfl⟩; first | with_reducible rfl | (simp [bI, kindB, c_10, c_15, c_16]; done) | (simp_all [bI, kindB]; done)) (Nat.le_of_ble_eq_true rfl) (Nat.le_of_ble_eq_true rfl) dX2_isKind_35
      · skip
        refine lv_iload_n hx hb dX2_isKind_20 rfl (lv_at hl 2 rfl) ?_
        refine lv_iload_n hx hb dX2_isKind_21 rfl (lv_at hl 0 rfl) ?_
        refine lv_icmp_lt (tgt := 34) hx hb dX2_isKind_22 (by decide) (fun c_17 => ?_) (fun c_17 => ?_)
        · skip
          refine lv_iconst (v := 0) hx hb dX2_isKind_34 (by decide) ?_
          exact r_bool hx hb hr hlk hW rfl (by refine ⟨?_, rfl⟩; first | with_reducible rfl | (simp [bI, kindB, c_10, c_15, c_16, c_17]; done) | (simp_all [bI, kindB]; done)) (Nat.le_of_ble_eq_true rfl) (Nat.le_of_ble_eq_true rfl) dX2_isKind_35
        · skip
          refine lv_iload_n hx hb dX2_isKind_25 rfl (lv_at hl 2 rfl) ?_
          refine lv_iconst (v := 3) hx hb dX2_isKind_26 (by decide) ?_
          refine lv_icmp_gt (tgt := 34) hx hb dX2_isKind_27 (by decide) (fun c_18 => ?_) (fun c_18 => ?_)
          · skip
            refine lv_iconst (v := 0) hx hb dX2_isKind_34 (by decide) ?_
            exact r_bool hx hb hr hlk hW rfl (by refine ⟨?_, rfl⟩; first | with_reducible rfl | (simp [bI, kindB, c_10, c_15, c_16, c_17, c_18]; done) | (simp_all [bI, kindB]; done)) (Nat.le_of_ble_eq_true rfl) (Nat.le_of_ble_eq_true rfl) dX2_isKind_35
          · skip
            refine lv_iconst (v := 1) hx hb dX2_isKind_30 (by decide) ?_
            refine lv_goto (tgt := 35) hx hb dX2_isKind_31 (by decide) ?_
            exact r_bool hx hb hr hlk hW rfl (by refine ⟨?_, rfl⟩; first | with_reducible rfl | (simp [bI, kindB, c_10, c_15, c_16, c_17, c_18]; done) | (simp_all [bI, kindB]; done)) (Nat.le_of_ble_eq_true rfl) (Nat.le_of_ble_eq_true rfl) dX2_isKind_35

set_option maxHeartbeats 4000000 in
set_option maxRecDepth 100000 in
theorem k_X2_isOfFigures (l : Launch) {E : gE} {g : gm} (a b : Int32) : CM l yX2_isOfFigures cX2_isOfFigures 2 (some .boolean) ({ frames := 0, cells := 0, slots := 0, locals := 0 }) E [.int (a), .int (b)] g (fun vv g' => vv = some (.int (bI (figB a b))) ∧ g' = g) := by
  refine CM.of (by decide) (Nat.le_of_ble_eq_true rfl) ?_
  intro p e s m below meth c ls hM hK hW hl
  obtain ⟨hx, hb, hr, hml, hown, hts, hlk, hnm⟩ := hM
  have hown : s.vm.findClass RX2 = some m.cls := hown
  have hl : lv_has ls 2 [(0, .int (a)), (1, .int (b))] := hl
  refine lv_iload_n hx hb dX2_isOfFigures_0 rfl (lv_at hl 0 rfl) ?_
  refine lv_iconst (v := 4) hx hb dX2_isOfFigures_1 (by decide) ?_
  refine lv_icmp_lt (tgt := 14) hx hb dX2_isOfFigures_2 (by decide) (fun c_19 => ?_) (fun c_19 => ?_)
  · skip
    refine lv_iconst (v := 0) hx hb dX2_isOfFigures_14 (by decide) ?_
    exact r_bool hx hb hr hlk hW rfl (by refine ⟨?_, rfl⟩; first | with_reducible rfl | (simp [bI, figB, c_19]; done) | (simp_all [bI, figB]; done)) (Nat.le_of_ble_eq_true rfl) (Nat.le_of_ble_eq_true rfl) dX2_isOfFigures_15
  · skip
    refine lv_iload_n hx hb dX2_isOfFigures_5 rfl (lv_at hl 1 rfl) ?_
    refine lv_iconst (v := 1) hx hb dX2_isOfFigures_6 (by decide) ?_
    refine lv_icmp_ne (tgt := 14) hx hb dX2_isOfFigures_7 (by decide) (fun c_20 => ?_) (fun c_20 => ?_)
    · skip
      refine lv_iconst (v := 0) hx hb dX2_isOfFigures_14 (by decide) ?_
      exact r_bool hx hb hr hlk hW rfl (by refine ⟨?_, rfl⟩; first | with_reducible rfl | (simp [bI, figB, c_19, c_20]; done) | (simp_all [bI, figB]; done)) (Nat.le_of_ble_eq_true rfl) (Nat.le_of_ble_eq_true rfl) dX2_isOfFigures_15
    · skip
      refine lv_iconst (v := 1) hx hb dX2_isOfFigures_10 (by decide) ?_
      refine lv_goto (tgt := 15) hx hb dX2_isOfFigures_11 (by decide) ?_
      exact r_bool hx hb hr hlk hW rfl (by refine ⟨?_, rfl⟩; first | with_reducible rfl | (simp [bI, figB, c_19, c_20]; done) | (simp_all [bI, figB]; done)) (Nat.le_of_ble_eq_true rfl) (Nat.le_of_ble_eq_true rfl) dX2_isOfFigures_15

set_option maxHeartbeats 4000000 in
set_option maxRecDepth 100000 in
theorem k_X2_failureOf (l : Launch) {E : gE} {g : gm} (a : Int32) : CM l yX2_failureOf cX2_failureOf 1 (some .int) ({ frames := 0, cells := 0, slots := 0, locals := 0 }) E [.int (a)] g (fun vv g' => vv = some (.int (failI a)) ∧ g' = g) := by
  refine CM.of (by decide) (Nat.le_of_ble_eq_true rfl) ?_
  intro p e s m below meth c ls hM hK hW hl
  obtain ⟨hx, hb, hr, hml, hown, hts, hlk, hnm⟩ := hM
  have hown : s.vm.findClass RX2 = some m.cls := hown
  have hl : lv_has ls 1 [(0, .int (a))] := hl
  refine lv_iload_n hx hb dX2_failureOf_0 rfl (lv_at hl 0 rfl) ?_
  refine lv_bipush (v := -10) hx hb dX2_failureOf_1 (by decide) ?_
  refine lv_icmp_ge (tgt := 13) hx hb dX2_failureOf_3 (by decide) (fun c_21 => ?_) (fun c_21 => ?_)
  · skip
    have c_21 := Int32.not_lt.mpr c_21
    refine lv_iconst (v := 0) hx hb dX2_failureOf_13 (by decide) ?_
    exact r_int hx hb hr hlk hW (by refine ⟨?_, rfl⟩; first | with_reducible rfl | (simp [bI, failI, c_21]; done) | (simp_all [bI, failI]; done)) (Nat.le_of_ble_eq_true rfl) (Nat.le_of_ble_eq_true rfl) dX2_failureOf_14
  · skip
    have c_21 := Int32.not_le.mp c_21
    refine lv_bipush (v := -10) hx hb dX2_failureOf_6 (by decide) ?_
    refine lv_iload_n hx hb dX2_failureOf_8 rfl (lv_at hl 0 rfl) ?_
    refine lv_isub hx hb dX2_failureOf_9 ?_
    refine lv_goto (tgt := 14) hx hb dX2_failureOf_10 (by decide) ?_
    exact r_int hx hb hr hlk hW (by refine ⟨?_, rfl⟩; first | with_reducible rfl | (simp [bI, failI, c_21]; done) | (simp_all [bI, failI]; done)) (Nat.le_of_ble_eq_true rfl) (Nat.le_of_ble_eq_true rfl) dX2_failureOf_14

set_option maxHeartbeats 4000000 in
set_option maxRecDepth 100000 in
theorem k_X1_fits (l : Launch) {E : gE} {x xa xk : Nat} {ma pa ka : Nat → Nat} {z : Bool} {r : sg} {g : gm} (hR : HR E x xa xk ma pa ka z r g) {i : Nat} (hi : i < nm r) (b d : Int32) : CM l yX1_fits cX1_fits 3 (some .boolean) ({ frames := 1, cells := 0, slots := 0, locals := 21 }) E [.ref (ma i), .int (b), .int (d)] g (fun vv g' => vv = some (.int (bI (fitB r i b d))) ∧ g' = g) := by
  refine CM.of (by decide) (Nat.le_of_ble_eq_true rfl) ?_
  intro p e s m below meth c ls hM hK hW hl
  obtain ⟨hx, hb, hr, hml, hown, hts, hlk, hnm⟩ := hM
  have hown : s.vm.findClass RX1 = some m.cls := hown
  have hl : lv_has ls 3 [(0, .ref (ma i)), (1, .int (b)), (2, .int (d))] := hl
  refine lv_aload_n hx hb dX1_fits_0 rfl (lv_at hl 0 rfl) ?_
  refine hm_get hx hb hts hown hK hW hR hi 2 (by decide) fl_RX1_18 (v := .int (r 1 i)) rfl dX1_fits_1 ?_
  refine lv_iload_n hx hb dX1_fits_4 rfl (lv_at hl 2 rfl) ?_
  refine lv_icmp_ne (tgt := 23) hx hb dX1_fits_5 (by decide) (fun c_22 => ?_) (fun c_22 => ?_)
  · skip
    refine lv_iconst (v := 0) hx hb dX1_fits_23 (by decide) ?_
    exact r_bool hx hb hr hlk hW rfl (by refine ⟨?_, rfl⟩; first | with_reducible rfl | (simp [bI, fitB, c_22]; done) | (simp_all [bI, fitB]; done)) (Nat.le_of_ble_eq_true rfl) (Nat.le_of_ble_eq_true rfl) dX1_fits_24
  · skip
    refine lv_aload_n hx hb dX1_fits_8 rfl (lv_at hl 0 rfl) ?_
    refine hm_get hx hb hts hown hK hW hR hi 1 (by decide) fl_RX1_15 (v := .int (r 0 i)) rfl dX1_fits_9 ?_
    refine lv_iload_n hx hb dX1_fits_12 rfl (lv_at hl 1 rfl) ?_
    refine c_statN (own := RX1) (As := [.int (r 0 i), .int (b)]) (rest := []) hx hb hml hown hts hK hW (k_X2_passesFor l _ _) hK.2.2.1 st_yX2_passesFor in_RX2 cd_yX2_passesFor 2 (by decide +kernel) ⟨Nat.le_of_ble_eq_true rfl, Nat.le_of_ble_eq_true rfl⟩ rfl hl.1 rfl (Nat.le_of_ble_eq_true rfl) dX1_fits_13 ⟨Nat.le_of_ble_eq_true rfl, Nat.le_of_ble_eq_true rfl⟩ (fun v g2 H1 locs1 hp hW hKT => ?_)
    obtain ⟨rfl, hg⟩ := hp
    rw [hg] at hW
    refine W.eq (g2 := F0 m 16 ls [.int (bI (passB (r 0 i) (b)))]) rfl ?_
    refine lv_if_eq (tgt := 23) hx hb dX1_fits_16 (by decide) (fun c_23 => ?_) (fun c_23 => ?_)
    · skip
      have c_23 := (bI_eq0 _).mp c_23
      refine lv_iconst (v := 0) hx hb dX1_fits_23 (by decide) ?_
      exact r_bool hx hb hr hlk hW rfl (by refine ⟨?_, rfl⟩; first | with_reducible rfl | (simp [bI, fitB, c_22, c_23]; done) | (simp_all [bI, fitB]; done)) (Nat.le_of_ble_eq_true rfl) (Nat.le_of_ble_eq_true rfl) dX1_fits_24
    · skip
      have c_23 := bI_ne0 c_23
      refine lv_iconst (v := 1) hx hb dX1_fits_19 (by decide) ?_
      refine lv_goto (tgt := 24) hx hb dX1_fits_20 (by decide) ?_
      exact r_bool hx hb hr hlk hW rfl (by refine ⟨?_, rfl⟩; first | with_reducible rfl | (simp [bI, fitB, c_22, c_23]; done) | (simp_all [bI, fitB]; done)) (Nat.le_of_ble_eq_true rfl) (Nat.le_of_ble_eq_true rfl) dX1_fits_24

set_option maxHeartbeats 4000000 in
set_option maxRecDepth 100000 in
theorem k_X1_holdsN (l : Launch) {E : gE} {x xa xk : Nat} {ma pa ka : Nat → Nat} {z : Bool} {r : sg} {g : gm} (hR : HR E x xa xk ma pa ka z r g) {i : Nat} (hi : i < nm r) : CM l yX1_holds cX1_holds 2 (some .boolean) ({ frames := 2, cells := 0, slots := 0, locals := 43 }) E [.ref (ma i), .null] g (fun vv g' => vv = some (.int (bI true)) ∧ g' = g) := by
  refine CM.of (by decide) (Nat.le_of_ble_eq_true rfl) ?_
  intro p e s m below meth c ls hM hK hW hl
  obtain ⟨hx, hb, hr, hml, hown, hts, hlk, hnm⟩ := hM
  have hown : s.vm.findClass RX1 = some m.cls := hown
  have hl : lv_has ls 2 [(0, .ref (ma i)), (1, .null)] := hl
  refine lv_aload_nN hx hb dX1_holds_0 rfl (lv_at hl 1 rfl) ?_
  refine lv_ifnullN (tgt := 21) hx hb dX1_holds_1 (by decide) ?_
  refine lv_iconst (v := 1) hx hb dX1_holds_21 (by decide) ?_
  refine lv_goto (tgt := 26) hx hb dX1_holds_22 (by decide) ?_
  exact r_bool hx hb hr hlk hW rfl (by refine ⟨?_, rfl⟩; first | with_reducible rfl | (simp [bI]; done) | (simp_all [bI]; done)) (Nat.le_of_ble_eq_true rfl) (Nat.le_of_ble_eq_true rfl) dX1_holds_26

set_option maxHeartbeats 4000000 in
set_option maxRecDepth 100000 in
theorem k_X1_holds (l : Launch) {E : gE} {x xa xk : Nat} {ma pa ka : Nat → Nat} {z : Bool} {r : sg} {g : gm} (hR : HR E x xa xk ma pa ka z r g) {i : Nat} (hi : i < nm r) {j : Nat} (hj : j < nm r) : CM l yX1_holds cX1_holds 2 (some .boolean) ({ frames := 2, cells := 0, slots := 0, locals := 43 }) E [.ref (ma i), .ref (ma j)] g (fun vv g' => vv = some (.int (bI (fitB r j (r 0 i) (r 1 i - 1)))) ∧ g' = g) := by
  refine CM.of (by decide) (Nat.le_of_ble_eq_true rfl) ?_
  intro p e s m below meth c ls hM hK hW hl
  obtain ⟨hx, hb, hr, hml, hown, hts, hlk, hnm⟩ := hM
  have hown : s.vm.findClass RX1 = some m.cls := hown
  have hl : lv_has ls 2 [(0, .ref (ma i)), (1, .ref (ma j))] := hl
  refine lv_aload_n hx hb dX1_holds_0 rfl (lv_at hl 1 rfl) ?_
  refine lv_ifnull hx hb dX1_holds_1 ?_
  refine lv_aload_n hx hb dX1_holds_4 rfl (lv_at hl 1 rfl) ?_
  refine lv_aload_n hx hb dX1_holds_5 rfl (lv_at hl 0 rfl) ?_
  refine hm_get hx hb hts hown hK hW hR hi 1 (by decide) fl_RX1_15 (v := .int (r 0 i)) rfl dX1_holds_6 ?_
  refine lv_aload_n hx hb dX1_holds_9 rfl (lv_at hl 0 rfl) ?_
  refine hm_get hx hb hts hown hK hW hR hi 2 (by decide) fl_RX1_18 (v := .int (r 1 i)) rfl dX1_holds_10 ?_
  refine lv_iconst (v := 1) hx hb dX1_holds_13 (by decide) ?_
  refine lv_isub hx hb dX1_holds_14 ?_
  refine c_virt (own := RX1) (As := [.int (r 0 i), .int ((r 1 i) - (1))]) (rest := []) hx hb hml hown hts hK hW (k_X1_fits l hR hj _ _) ml_RX1_40 im_yX1_fits se_yX1_fits in_RX1 cd_yX1_fits 2 (by decide +kernel) ⟨Nat.le_of_ble_eq_true rfl, Nat.le_of_ble_eq_true rfl⟩ (hR.2.2.2.1 _ hj).1 rfl rfl rfl hl.1 rfl (Nat.le_of_ble_eq_true rfl) dX1_holds_15 ⟨Nat.le_of_ble_eq_true rfl, Nat.le_of_ble_eq_true rfl⟩ (fun v g2 H1 locs1 hp hW hKT => ?_)
  obtain ⟨rfl, hg⟩ := hp
  rw [hg] at hW
  refine W.eq (g2 := F0 m 18 ls [.int (bI (fitB r j (r 0 i) ((r 1 i) - (1))))]) rfl ?_
  refine lv_if_eq (tgt := 25) hx hb dX1_holds_18 (by decide) (fun c_24 => ?_) (fun c_24 => ?_)
  · skip
    have c_24 := (bI_eq0 _).mp c_24
    refine lv_iconst (v := 0) hx hb dX1_holds_25 (by decide) ?_
    exact r_bool hx hb hr hlk hW rfl (by refine ⟨?_, rfl⟩; first | with_reducible rfl | (simp [bI, c_24]; done) | (simp_all [bI]; done)) (Nat.le_of_ble_eq_true rfl) (Nat.le_of_ble_eq_true rfl) dX1_holds_26
  · skip
    have c_24 := bI_ne0 c_24
    refine lv_iconst (v := 1) hx hb dX1_holds_21 (by decide) ?_
    refine lv_goto (tgt := 26) hx hb dX1_holds_22 (by decide) ?_
    exact r_bool hx hb hr hlk hW rfl (by refine ⟨?_, rfl⟩; first | with_reducible rfl | (simp [bI, c_24]; done) | (simp_all [bI]; done)) (Nat.le_of_ble_eq_true rfl) (Nat.le_of_ble_eq_true rfl) dX1_holds_26

set_option maxHeartbeats 4000000 in
set_option maxRecDepth 100000 in
theorem k_X1_hasMessagePlace (l : Launch) {E : gE} {x xa xk : Nat} {ma pa ka : Nat → Nat} {z : Bool} {r : sg} {g : gm} (hR : HR E x xa xk ma pa ka z r g) {i : Nat} (hi : i < nm r) (j : Int32) : CM l yX1_hasMessagePlace cX1_hasMessagePlace 2 (some .boolean) ({ frames := 0, cells := 0, slots := 0, locals := 0 }) E [.ref (ma i), .int (j)] g (fun vv g' => vv = some (.int (bI (hasP r i j))) ∧ g' = g) := by
  refine CM.of (by decide) (Nat.le_of_ble_eq_true rfl) ?_
  intro p e s m below meth c ls hM hK hW hl
  obtain ⟨hx, hb, hr, hml, hown, hts, hlk, hnm⟩ := hM
  have hown : s.vm.findClass RX1 = some m.cls := hown
  have hl : lv_has ls 2 [(0, .ref (ma i)), (1, .int (j))] := hl
  refine lv_aload_n hx hb dX1_hasMessagePlace_0 rfl (lv_at hl 0 rfl) ?_
  refine hm_get hx hb hts hown hK hW hR hi 3 (by decide) fl_RX1_25 (v := .int (bI (figB (r 0 i) (r 1 i)))) rfl dX1_hasMessagePlace_1 ?_
  refine lv_if_ne (tgt := 24) hx hb dX1_hasMessagePlace_4 (by decide) (fun c_25 => ?_) (fun c_25 => ?_)
  · skip
    have c_25 := bI_ne0 c_25
    refine lv_iconst (v := 0) hx hb dX1_hasMessagePlace_24 (by decide) ?_
    exact r_bool hx hb hr hlk hW rfl (by refine ⟨?_, rfl⟩; first | with_reducible rfl | (simp [bI, hasP, c_25]; done) | (simp_all [bI, hasP]; done)) (Nat.le_of_ble_eq_true rfl) (Nat.le_of_ble_eq_true rfl) dX1_hasMessagePlace_25
  · skip
    have c_25 := (bI_eq0 _).mp c_25
    refine lv_iload_n hx hb dX1_hasMessagePlace_7 rfl (lv_at hl 1 rfl) ?_
    refine lv_if_lt (tgt := 24) hx hb dX1_hasMessagePlace_8 (by decide) (fun c_26 => ?_) (fun c_26 => ?_)
    · skip
      refine lv_iconst (v := 0) hx hb dX1_hasMessagePlace_24 (by decide) ?_
      exact r_bool hx hb hr hlk hW rfl (by refine ⟨?_, rfl⟩; first | with_reducible rfl | (simp [bI, hasP, c_25, c_26]; done) | (simp_all [bI, hasP]; done)) (Nat.le_of_ble_eq_true rfl) (Nat.le_of_ble_eq_true rfl) dX1_hasMessagePlace_25
    · skip
      refine lv_iload_n hx hb dX1_hasMessagePlace_11 rfl (lv_at hl 1 rfl) ?_
      refine lv_aload_n hx hb dX1_hasMessagePlace_12 rfl (lv_at hl 0 rfl) ?_
      refine hm_get hx hb hts hown hK hW hR hi 4 (by decide) fl_RX1_29 (v := .ref (pa i)) rfl dX1_hasMessagePlace_13 ?_
      refine hp_len hx hb hK hW hR hi dX1_hasMessagePlace_16 ?_
      refine lv_icmp_ge (tgt := 24) hx hb dX1_hasMessagePlace_17 (by decide) (fun c_27 => ?_) (fun c_27 => ?_)
      · skip
        have c_27 := Int32.not_lt.mpr c_27
        refine lv_iconst (v := 0) hx hb dX1_hasMessagePlace_24 (by decide) ?_
        exact r_bool hx hb hr hlk hW rfl (by refine ⟨?_, rfl⟩; first | with_reducible rfl | (simp [bI, hasP, c_25, c_26, c_27]; done) | (simp_all [bI, hasP]; done)) (Nat.le_of_ble_eq_true rfl) (Nat.le_of_ble_eq_true rfl) dX1_hasMessagePlace_25
      · skip
        have c_27 := Int32.not_le.mp c_27
        refine lv_iconst (v := 1) hx hb dX1_hasMessagePlace_20 (by decide) ?_
        refine lv_goto (tgt := 25) hx hb dX1_hasMessagePlace_21 (by decide) ?_
        exact r_bool hx hb hr hlk hW rfl (by refine ⟨?_, rfl⟩; first | with_reducible rfl | (simp [bI, hasP, c_25, c_26, c_27]; done) | (simp_all [bI, hasP]; done)) (Nat.le_of_ble_eq_true rfl) (Nat.le_of_ble_eq_true rfl) dX1_hasMessagePlace_25

set_option maxHeartbeats 4000000 in
set_option maxRecDepth 100000 in
theorem k_X1_hasNumber (l : Launch) {E : gE} {x xa xk : Nat} {ma pa ka : Nat → Nat} {z : Bool} {r : sg} {g : gm} (hR : HR E x xa xk ma pa ka z r g) {i : Nat} (hi : i < nm r) (j : Int32) : CM l yX1_hasNumber cX1_hasNumber 2 (some .boolean) ({ frames := 0, cells := 0, slots := 0, locals := 0 }) E [.ref (ma i), .int (j)] g (fun vv g' => vv = some (.int (bI (hasN r i j))) ∧ g' = g) := by
  refine CM.of (by decide) (Nat.le_of_ble_eq_true rfl) ?_
  intro p e s m below meth c ls hM hK hW hl
  obtain ⟨hx, hb, hr, hml, hown, hts, hlk, hnm⟩ := hM
  have hown : s.vm.findClass RX1 = some m.cls := hown
  have hl : lv_has ls 2 [(0, .ref (ma i)), (1, .int (j))] := hl
  refine lv_aload_n hx hb dX1_hasNumber_0 rfl (lv_at hl 0 rfl) ?_
  refine hm_get hx hb hts hown hK hW hR hi 3 (by decide) fl_RX1_25 (v := .int (bI (figB (r 0 i) (r 1 i)))) rfl dX1_hasNumber_1 ?_
  refine lv_if_eq (tgt := 24) hx hb dX1_hasNumber_4 (by decide) (fun c_28 => ?_) (fun c_28 => ?_)
  · skip
    have c_28 := (bI_eq0 _).mp c_28
    refine lv_iconst (v := 0) hx hb dX1_hasNumber_24 (by decide) ?_
    exact r_bool hx hb hr hlk hW rfl (by refine ⟨?_, rfl⟩; first | with_reducible rfl | (simp [bI, hasN, c_28]; done) | (simp_all [bI, hasN]; done)) (Nat.le_of_ble_eq_true rfl) (Nat.le_of_ble_eq_true rfl) dX1_hasNumber_25
  · skip
    have c_28 := bI_ne0 c_28
    refine lv_iload_n hx hb dX1_hasNumber_7 rfl (lv_at hl 1 rfl) ?_
    refine lv_if_lt (tgt := 24) hx hb dX1_hasNumber_8 (by decide) (fun c_29 => ?_) (fun c_29 => ?_)
    · skip
      refine lv_iconst (v := 0) hx hb dX1_hasNumber_24 (by decide) ?_
      exact r_bool hx hb hr hlk hW rfl (by refine ⟨?_, rfl⟩; first | with_reducible rfl | (simp [bI, hasN, c_28, c_29]; done) | (simp_all [bI, hasN]; done)) (Nat.le_of_ble_eq_true rfl) (Nat.le_of_ble_eq_true rfl) dX1_hasNumber_25
    · skip
      refine lv_iload_n hx hb dX1_hasNumber_11 rfl (lv_at hl 1 rfl) ?_
      refine lv_aload_n hx hb dX1_hasNumber_12 rfl (lv_at hl 0 rfl) ?_
      refine hm_get hx hb hts hown hK hW hR hi 4 (by decide) fl_RX1_29 (v := .ref (pa i)) rfl dX1_hasNumber_13 ?_
      refine hp_len hx hb hK hW hR hi dX1_hasNumber_16 ?_
      refine lv_icmp_ge (tgt := 24) hx hb dX1_hasNumber_17 (by decide) (fun c_30 => ?_) (fun c_30 => ?_)
      · skip
        have c_30 := Int32.not_lt.mpr c_30
        refine lv_iconst (v := 0) hx hb dX1_hasNumber_24 (by decide) ?_
        exact r_bool hx hb hr hlk hW rfl (by refine ⟨?_, rfl⟩; first | with_reducible rfl | (simp [bI, hasN, c_28, c_29, c_30]; done) | (simp_all [bI, hasN]; done)) (Nat.le_of_ble_eq_true rfl) (Nat.le_of_ble_eq_true rfl) dX1_hasNumber_25
      · skip
        have c_30 := Int32.not_le.mp c_30
        refine lv_iconst (v := 1) hx hb dX1_hasNumber_20 (by decide) ?_
        refine lv_goto (tgt := 25) hx hb dX1_hasNumber_21 (by decide) ?_
        exact r_bool hx hb hr hlk hW rfl (by refine ⟨?_, rfl⟩; first | with_reducible rfl | (simp [bI, hasN, c_28, c_29, c_30]; done) | (simp_all [bI, hasN]; done)) (Nat.le_of_ble_eq_true rfl) (Nat.le_of_ble_eq_true rfl) dX1_hasNumber_25

set_option maxHeartbeats 4000000 in
set_option maxRecDepth 100000 in
theorem k_X1_weight (l : Launch) {E : gE} {x xa xk : Nat} {ma pa ka : Nat → Nat} {z : Bool} {r : sg} {g : gm} (hR : HR E x xa xk ma pa ka z r g) {i : Nat} (hi : i < nm r) : CM l yX1_weight cX1_weight 1 (some .int) ({ frames := 0, cells := 0, slots := 0, locals := 0 }) E [.ref (ma i)] g (fun vv g' => vv = some (.int (if r 1 i = 0 then 1 else r 3 i)) ∧ g' = g) := by
  refine CM.of (by decide) (Nat.le_of_ble_eq_true rfl) ?_
  intro p e s m below meth c ls hM hK hW hl
  obtain ⟨hx, hb, hr, hml, hown, hts, hlk, hnm⟩ := hM
  have hown : s.vm.findClass RX1 = some m.cls := hown
  have hl : lv_has ls 1 [(0, .ref (ma i))] := hl
  refine lv_aload_n hx hb dX1_weight_0 rfl (lv_at hl 0 rfl) ?_
  refine hm_get hx hb hts hown hK hW hR hi 2 (by decide) fl_RX1_18 (v := .int (r 1 i)) rfl dX1_weight_1 ?_
  refine lv_if_ne (tgt := 11) hx hb dX1_weight_4 (by decide) (fun c_31 => ?_) (fun c_31 => ?_)
  · skip
    refine lv_aload_n hx hb dX1_weight_11 rfl (lv_at hl 0 rfl) ?_
    refine hm_get hx hb hts hown hK hW hR hi 4 (by decide) fl_RX1_29 (v := .ref (pa i)) rfl dX1_weight_12 ?_
    refine hp_len hx hb hK hW hR hi dX1_weight_15 ?_
    exact r_int hx hb hr hlk hW (by refine ⟨?_, rfl⟩; first | with_reducible rfl | (simp [bI, c_31]; done) | (simp_all [bI]; done)) (Nat.le_of_ble_eq_true rfl) (Nat.le_of_ble_eq_true rfl) dX1_weight_16
  · skip
    refine lv_iconst (v := 1) hx hb dX1_weight_7 (by decide) ?_
    refine lv_goto (tgt := 16) hx hb dX1_weight_8 (by decide) ?_
    exact r_int hx hb hr hlk hW (by refine ⟨?_, rfl⟩; first | with_reducible rfl | (simp [bI, c_31]; done) | (simp_all [bI]; done)) (Nat.le_of_ble_eq_true rfl) (Nat.le_of_ble_eq_true rfl) dX1_weight_16

set_option maxHeartbeats 4000000 in
set_option maxRecDepth 100000 in
theorem k_X1_lowestBits (l : Launch) {E : gE} {x xa xk : Nat} {ma pa ka : Nat → Nat} {z : Bool} {r : sg} {g : gm} (hR : HR E x xa xk ma pa ka z r g) {i : Nat} (hi : i < nm r) (v : Int32) : CM l yX1_lowestBits cX1_lowestBits 2 (some .int) ({ frames := 0, cells := 0, slots := 0, locals := 0 }) E [.ref (ma i), .int (v)] g (fun vv g' => vv = some (.int (lowI (r 0 i) v)) ∧ g' = g) := by
  refine CM.of (by decide) (Nat.le_of_ble_eq_true rfl) ?_
  intro p e s m below meth c ls hM hK hW hl
  obtain ⟨hx, hb, hr, hml, hown, hts, hlk, hnm⟩ := hM
  have hown : s.vm.findClass RX1 = some m.cls := hown
  have hl : lv_has ls 2 [(0, .ref (ma i)), (1, .int (v))] := hl
  refine lv_aload_n hx hb dX1_lowestBits_0 rfl (lv_at hl 0 rfl) ?_
  refine hm_get hx hb hts hown hK hW hR hi 1 (by decide) fl_RX1_15 (v := .int (r 0 i)) rfl dX1_lowestBits_1 ?_
  refine lv_iconst (v := 4) hx hb dX1_lowestBits_4 (by decide) ?_
  refine lv_icmp_ne (tgt := 11) hx hb dX1_lowestBits_5 (by decide) (fun c_32 => ?_) (fun c_32 => ?_)
  · skip
    refine lv_iload_n hx hb dX1_lowestBits_11 rfl (lv_at hl 1 rfl) ?_
    refine lv_i2c hx hb dX1_lowestBits_12 rfl ?_
    exact r_int hx hb hr hlk hW (by refine ⟨?_, rfl⟩; first | with_reducible rfl | (simp [bI, lowI, c_32]; done) | (simp_all [bI, lowI]; done)) (Nat.le_of_ble_eq_true rfl) (Nat.le_of_ble_eq_true rfl) dX1_lowestBits_13
  · skip
    refine lv_iload_n hx hb dX1_lowestBits_8 rfl (lv_at hl 1 rfl) ?_
    refine lv_i2b hx hb dX1_lowestBits_9 rfl ?_
    exact r_int hx hb hr hlk hW (by refine ⟨?_, rfl⟩; first | with_reducible rfl | (simp [bI, lowI, c_32]; done) | (simp_all [bI, lowI]; done)) (Nat.le_of_ble_eq_true rfl) (Nat.le_of_ble_eq_true rfl) dX1_lowestBits_10

set_option maxHeartbeats 4000000 in
set_option maxRecDepth 100000 in
theorem k_X0_asksFor (l : Launch) {E : gE} {x xa xk : Nat} {ma pa ka : Nat → Nat} {z : Bool} {r : sg} {g : gm} (hR : HR E x xa xk ma pa ka z r g) {k : Nat} (hk : k < 8) (hs : r 5 k ≠ 0) {i : Nat} (hi : i < nm r) : CM l yX0_asksFor cX0_asksFor 2 (some .boolean) ({ frames := 2, cells := 0, slots := 0, locals := 43 }) E [.ref (ka k), .ref (ma i)] g (fun vv g' => vv = some (.int (bI (r 6 k == 0 && fitB r i (r 8 k) (r 9 k)))) ∧ g' = g) := by
  refine CM.of (by decide) (Nat.le_of_ble_eq_true rfl) ?_
  intro p e s m below meth c ls hM hK hW hl
  obtain ⟨hx, hb, hr, hml, hown, hts, hlk, hnm⟩ := hM
  have hown : s.vm.findClass RX0 = some m.cls := hown
  have hl : lv_has ls 2 [(0, .ref (ka k)), (1, .ref (ma i))] := hl
  refine lv_aload_n hx hb dX0_asksFor_0 rfl (lv_at hl 0 rfl) ?_
  refine hk_get hx hb hts hown hK hW hR hk hs 9 (by decide) fl_RX0_40 (v := .int (r 6 k)) rfl dX0_asksFor_1 ?_
  refine lv_if_ne (tgt := 26) hx hb dX0_asksFor_4 (by decide) (fun c_33 => ?_) (fun c_33 => ?_)
  · skip
    refine lv_iconst (v := 0) hx hb dX0_asksFor_26 (by decide) ?_
    exact r_bool hx hb hr hlk hW rfl (by refine ⟨?_, rfl⟩; first | with_reducible rfl | (simp [bI, c_33]; done) | (simp_all [bI]; done)) (Nat.le_of_ble_eq_true rfl) (Nat.le_of_ble_eq_true rfl) dX0_asksFor_27
  · skip
    refine lv_aload_n hx hb dX0_asksFor_7 rfl (lv_at hl 1 rfl) ?_
    refine lv_aload_n hx hb dX0_asksFor_8 rfl (lv_at hl 0 rfl) ?_
    refine hk_get hx hb hts hown hK hW hR hk hs 1 (by decide) fl_RX0_15 (v := .int (r 8 k)) rfl dX0_asksFor_9 ?_
    refine lv_aload_n hx hb dX0_asksFor_12 rfl (lv_at hl 0 rfl) ?_
    refine hk_get hx hb hts hown hK hW hR hk hs 2 (by decide) fl_RX0_18 (v := .int (r 9 k)) rfl dX0_asksFor_13 ?_
    refine c_virt (own := RX0) (As := [.int (r 8 k), .int (r 9 k)]) (rest := []) hx hb hml hown hts hK hW (k_X1_fits l hR hi _ _) ml_RX0_49 im_yX1_fits se_yX1_fits in_RX1 cd_yX1_fits 2 (by decide +kernel) ⟨Nat.le_of_ble_eq_true rfl, Nat.le_of_ble_eq_true rfl⟩ (hR.2.2.2.1 _ hi).1 rfl rfl rfl hl.1 rfl (Nat.le_of_ble_eq_true rfl) dX0_asksFor_16 ⟨Nat.le_of_ble_eq_true rfl, Nat.le_of_ble_eq_true rfl⟩ (fun v g2 H1 locs1 hp hW hKT => ?_)
    obtain ⟨rfl, hg⟩ := hp
    rw [hg] at hW
    refine W.eq (g2 := F0 m 19 ls [.int (bI (fitB r i (r 8 k) (r 9 k)))]) rfl ?_
    refine lv_if_eq (tgt := 26) hx hb dX0_asksFor_19 (by decide) (fun c_34 => ?_) (fun c_34 => ?_)
    · skip
      have c_34 := (bI_eq0 _).mp c_34
      refine lv_iconst (v := 0) hx hb dX0_asksFor_26 (by decide) ?_
      exact r_bool hx hb hr hlk hW rfl (by refine ⟨?_, rfl⟩; first | with_reducible rfl | (simp [bI, c_33, c_34]; done) | (simp_all [bI]; done)) (Nat.le_of_ble_eq_true rfl) (Nat.le_of_ble_eq_true rfl) dX0_asksFor_27
    · skip
      have c_34 := bI_ne0 c_34
      refine lv_iconst (v := 1) hx hb dX0_asksFor_22 (by decide) ?_
      refine lv_goto (tgt := 27) hx hb dX0_asksFor_23 (by decide) ?_
      exact r_bool hx hb hr hlk hW rfl (by refine ⟨?_, rfl⟩; first | with_reducible rfl | (simp [bI, c_33, c_34]; done) | (simp_all [bI]; done)) (Nat.le_of_ble_eq_true rfl) (Nat.le_of_ble_eq_true rfl) dX0_asksFor_27

set_option maxHeartbeats 4000000 in
set_option maxRecDepth 100000 in
theorem k_X0_takes (l : Launch) {E : gE} {x xa xk : Nat} {ma pa ka : Nat → Nat} {z : Bool} {r : sg} {g : gm} (hR : HR E x xa xk ma pa ka z r g) {k : Nat} (hk : k < 8) (hs : r 5 k ≠ 0) {i : Nat} (hi : i < nm r) : CM l yX0_takes cX0_takes 2 (some .boolean) ({ frames := 2, cells := 0, slots := 0, locals := 43 }) E [.ref (ka k), .ref (ma i)] g (fun vv g' => vv = some (.int (bI (fitB r i (r 10 k) (r 11 k)))) ∧ g' = g) := by
  refine CM.of (by decide) (Nat.le_of_ble_eq_true rfl) ?_
  intro p e s m below meth c ls hM hK hW hl
  obtain ⟨hx, hb, hr, hml, hown, hts, hlk, hnm⟩ := hM
  have hown : s.vm.findClass RX0 = some m.cls := hown
  have hl : lv_has ls 2 [(0, .ref (ka k)), (1, .ref (ma i))] := hl
  refine lv_aload_n hx hb dX0_takes_0 rfl (lv_at hl 1 rfl) ?_
  refine lv_aload_n hx hb dX0_takes_1 rfl (lv_at hl 0 rfl) ?_
  refine hk_get hx hb hts hown hK hW hR hk hs 3 (by decide) fl_RX0_21 (v := .int (r 10 k)) rfl dX0_takes_2 ?_
  refine lv_aload_n hx hb dX0_takes_5 rfl (lv_at hl 0 rfl) ?_
  refine hk_get hx hb hts hown hK hW hR hk hs 4 (by decide) fl_RX0_24 (v := .int (r 11 k)) rfl dX0_takes_6 ?_
  refine c_virt (own := RX0) (As := [.int (r 10 k), .int (r 11 k)]) (rest := []) hx hb hml hown hts hK hW (k_X1_fits l hR hi _ _) ml_RX0_49 im_yX1_fits se_yX1_fits in_RX1 cd_yX1_fits 2 (by decide +kernel) ⟨Nat.le_of_ble_eq_true rfl, Nat.le_of_ble_eq_true rfl⟩ (hR.2.2.2.1 _ hi).1 rfl rfl rfl hl.1 rfl (Nat.le_of_ble_eq_true rfl) dX0_takes_9 ⟨Nat.le_of_ble_eq_true rfl, Nat.le_of_ble_eq_true rfl⟩ (fun v g2 H1 locs1 hp hW hKT => ?_)
  obtain ⟨rfl, hg⟩ := hp
  rw [hg] at hW
  refine W.eq (g2 := F0 m 12 ls [.int (bI (fitB r i (r 10 k) (r 11 k)))]) rfl ?_
  exact r_bool hx hb hr hlk hW (nb_bI _) (by refine ⟨?_, rfl⟩; first | with_reducible rfl | (simp [bI]; done) | (simp_all [bI]; done)) (Nat.le_of_ble_eq_true rfl) (Nat.le_of_ble_eq_true rfl) dX0_takes_12

set_option maxHeartbeats 4000000 in
set_option maxRecDepth 100000 in
theorem k_X0_canDo (l : Launch) {E : gE} {x xa xk : Nat} {ma pa ka : Nat → Nat} {z : Bool} {r : sg} {g : gm} (hR : HR E x xa xk ma pa ka z r g) {k : Nat} (hk : k < 8) (hs : r 5 k ≠ 0) (j : Int32) : CM l yX0_canDo cX0_canDo 2 (some .boolean) ({ frames := 1, cells := 0, slots := 0, locals := 21 }) E [.ref (ka k), .int (j)] g (fun vv g' => vv = some (.int (bI (canB r k j))) ∧ g' = g) := by
  refine CM.of (by decide) (Nat.le_of_ble_eq_true rfl) ?_
  intro p e s m below meth c ls hM hK hW hl
  obtain ⟨hx, hb, hr, hml, hown, hts, hlk, hnm⟩ := hM
  have hown : s.vm.findClass RX0 = some m.cls := hown
  have hl : lv_has ls 2 [(0, .ref (ka k)), (1, .int (j))] := hl
  refine lv_iload_n hx hb dX0_canDo_0 rfl (lv_at hl 1 rfl) ?_
  refine lv_iconst (v := 2) hx hb dX0_canDo_1 (by decide) ?_
  refine lv_icmp_eq (tgt := 15) hx hb dX0_canDo_2 (by decide) (fun c_35 => ?_) (fun c_35 => ?_)
  · skip
    refine lv_aload_n hx hb dX0_canDo_15 rfl (lv_at hl 0 rfl) ?_
    refine hk_get hx hb hts hown hK hW hR hk hs 4 (by decide) fl_RX0_24 (v := .int (r 11 k)) rfl dX0_canDo_16 ?_
    refine lv_if_le (tgt := 40) hx hb dX0_canDo_19 (by decide) (fun c_36 => ?_) (fun c_36 => ?_)
    · skip
      have c_36 := Int32.not_lt.mpr c_36
      refine lv_iconst (v := 0) hx hb dX0_canDo_40 (by decide) ?_
      exact r_bool hx hb hr hlk hW rfl (by refine ⟨?_, rfl⟩; first | with_reducible rfl | (simp [bI, canB, c_35, c_36]; done) | (simp_all [bI, canB]; done)) (Nat.le_of_ble_eq_true rfl) (Nat.le_of_ble_eq_true rfl) dX0_canDo_41
    · skip
      have c_36 := Int32.not_le.mp c_36
      refine lv_aload_n hx hb dX0_canDo_22 rfl (lv_at hl 0 rfl) ?_
      refine hk_get hx hb hts hown hK hW hR hk hs 3 (by decide) fl_RX0_21 (v := .int (r 10 k)) rfl dX0_canDo_23 ?_
      refine lv_aload_n hx hb dX0_canDo_26 rfl (lv_at hl 0 rfl) ?_
      refine hk_get hx hb hts hown hK hW hR hk hs 4 (by decide) fl_RX0_24 (v := .int (r 11 k)) rfl dX0_canDo_27 ?_
      refine c_statN (own := RX0) (As := [.int (r 10 k), .int (r 11 k)]) (rest := []) hx hb hml hown hts hK hW (k_X2_isOfFigures l _ _) hK.2.2.2.1 st_yX2_isOfFigures in_RX2 cd_yX2_isOfFigures 2 (by decide +kernel) ⟨Nat.le_of_ble_eq_true rfl, Nat.le_of_ble_eq_true rfl⟩ rfl hl.1 rfl (Nat.le_of_ble_eq_true rfl) dX0_canDo_30 ⟨Nat.le_of_ble_eq_true rfl, Nat.le_of_ble_eq_true rfl⟩ (fun v g2 H1 locs1 hp hW hKT => ?_)
      obtain ⟨rfl, hg⟩ := hp
      rw [hg] at hW
      refine W.eq (g2 := F0 m 33 ls [.int (bI (figB (r 10 k) (r 11 k)))]) rfl ?_
      refine lv_if_ne (tgt := 40) hx hb dX0_canDo_33 (by decide) (fun c_37 => ?_) (fun c_37 => ?_)
      · skip
        have c_37 := bI_ne0 c_37
        refine lv_iconst (v := 0) hx hb dX0_canDo_40 (by decide) ?_
        exact r_bool hx hb hr hlk hW rfl (by refine ⟨?_, rfl⟩; first | with_reducible rfl | (simp [bI, canB, c_35, c_36, c_37]; done) | (simp_all [bI, canB]; done)) (Nat.le_of_ble_eq_true rfl) (Nat.le_of_ble_eq_true rfl) dX0_canDo_41
      · skip
        have c_37 := (bI_eq0 _).mp c_37
        refine lv_iconst (v := 1) hx hb dX0_canDo_36 (by decide) ?_
        refine lv_goto (tgt := 41) hx hb dX0_canDo_37 (by decide) ?_
        exact r_bool hx hb hr hlk hW rfl (by refine ⟨?_, rfl⟩; first | with_reducible rfl | (simp [bI, canB, c_35, c_36, c_37]; done) | (simp_all [bI, canB]; done)) (Nat.le_of_ble_eq_true rfl) (Nat.le_of_ble_eq_true rfl) dX0_canDo_41
  · skip
    refine lv_iload_n hx hb dX0_canDo_5 rfl (lv_at hl 1 rfl) ?_
    refine lv_iconst (v := 3) hx hb dX0_canDo_6 (by decide) ?_
    refine lv_icmp_eq (tgt := 15) hx hb dX0_canDo_7 (by decide) (fun c_38 => ?_) (fun c_38 => ?_)
    · skip
      refine lv_aload_n hx hb dX0_canDo_15 rfl (lv_at hl 0 rfl) ?_
      refine hk_get hx hb hts hown hK hW hR hk hs 4 (by decide) fl_RX0_24 (v := .int (r 11 k)) rfl dX0_canDo_16 ?_
      refine lv_if_le (tgt := 40) hx hb dX0_canDo_19 (by decide) (fun c_39 => ?_) (fun c_39 => ?_)
      · skip
        have c_39 := Int32.not_lt.mpr c_39
        refine lv_iconst (v := 0) hx hb dX0_canDo_40 (by decide) ?_
        exact r_bool hx hb hr hlk hW rfl (by refine ⟨?_, rfl⟩; first | with_reducible rfl | (simp [bI, canB, c_35, c_38, c_39]; done) | (simp_all [bI, canB]; done)) (Nat.le_of_ble_eq_true rfl) (Nat.le_of_ble_eq_true rfl) dX0_canDo_41
      · skip
        have c_39 := Int32.not_le.mp c_39
        refine lv_aload_n hx hb dX0_canDo_22 rfl (lv_at hl 0 rfl) ?_
        refine hk_get hx hb hts hown hK hW hR hk hs 3 (by decide) fl_RX0_21 (v := .int (r 10 k)) rfl dX0_canDo_23 ?_
        refine lv_aload_n hx hb dX0_canDo_26 rfl (lv_at hl 0 rfl) ?_
        refine hk_get hx hb hts hown hK hW hR hk hs 4 (by decide) fl_RX0_24 (v := .int (r 11 k)) rfl dX0_canDo_27 ?_
        refine c_statN (own := RX0) (As := [.int (r 10 k), .int (r 11 k)]) (rest := []) hx hb hml hown hts hK hW (k_X2_isOfFigures l _ _) hK.2.2.2.1 st_yX2_isOfFigures in_RX2 cd_yX2_isOfFigures 2 (by decide +kernel) ⟨Nat.le_of_ble_eq_true rfl, Nat.le_of_ble_eq_true rfl⟩ rfl hl.1 rfl (Nat.le_of_ble_eq_true rfl) dX0_canDo_30 ⟨Nat.le_of_ble_eq_true rfl, Nat.le_of_ble_eq_true rfl⟩ (fun v g2 H1 locs1 hp hW hKT => ?_)
        obtain ⟨rfl, hg⟩ := hp
        rw [hg] at hW
        refine W.eq (g2 := F0 m 33 ls [.int (bI (figB (r 10 k) (r 11 k)))]) rfl ?_
        refine lv_if_ne (tgt := 40) hx hb dX0_canDo_33 (by decide) (fun c_40 => ?_) (fun c_40 => ?_)
        · skip
          have c_40 := bI_ne0 c_40
          refine lv_iconst (v := 0) hx hb dX0_canDo_40 (by decide) ?_
          exact r_bool hx hb hr hlk hW rfl (by refine ⟨?_, rfl⟩; first | with_reducible rfl | (simp [bI, canB, c_35, c_38, c_39, c_40]; done) | (simp_all [bI, canB]; done)) (Nat.le_of_ble_eq_true rfl) (Nat.le_of_ble_eq_true rfl) dX0_canDo_41
        · skip
          have c_40 := (bI_eq0 _).mp c_40
          refine lv_iconst (v := 1) hx hb dX0_canDo_36 (by decide) ?_
          refine lv_goto (tgt := 41) hx hb dX0_canDo_37 (by decide) ?_
          exact r_bool hx hb hr hlk hW rfl (by refine ⟨?_, rfl⟩; first | with_reducible rfl | (simp [bI, canB, c_35, c_38, c_39, c_40]; done) | (simp_all [bI, canB]; done)) (Nat.le_of_ble_eq_true rfl) (Nat.le_of_ble_eq_true rfl) dX0_canDo_41
    · skip
      refine lv_iload_n hx hb dX0_canDo_10 rfl (lv_at hl 1 rfl) ?_
      refine lv_iconst (v := 4) hx hb dX0_canDo_11 (by decide) ?_
      refine lv_icmp_ne (tgt := 42) hx hb dX0_canDo_12 (by decide) (fun c_41 => ?_) (fun c_41 => ?_)
      · skip
        refine lv_iload_n hx hb dX0_canDo_42 rfl (lv_at hl 1 rfl) ?_
        refine lv_if_lt (tgt := 55) hx hb dX0_canDo_43 (by decide) (fun c_42 => ?_) (fun c_42 => ?_)
        · skip
          refine lv_iconst (v := 0) hx hb dX0_canDo_55 (by decide) ?_
          exact r_bool hx hb hr hlk hW rfl (by refine ⟨?_, rfl⟩; first | with_reducible rfl | (simp [bI, canB, c_35, c_38, c_41, c_42]; done) | (simp_all [bI, canB]; done)) (Nat.le_of_ble_eq_true rfl) (Nat.le_of_ble_eq_true rfl) dX0_canDo_56
        · skip
          refine lv_iload_n hx hb dX0_canDo_46 rfl (lv_at hl 1 rfl) ?_
          refine lv_iconst (v := 5) hx hb dX0_canDo_47 (by decide) ?_
          refine lv_icmp_gt (tgt := 55) hx hb dX0_canDo_48 (by decide) (fun c_43 => ?_) (fun c_43 => ?_)
          · skip
            refine lv_iconst (v := 0) hx hb dX0_canDo_55 (by decide) ?_
            exact r_bool hx hb hr hlk hW rfl (by refine ⟨?_, rfl⟩; first | with_reducible rfl | (simp [bI, canB, c_35, c_38, c_41, c_42, c_43]; done) | (simp_all [bI, canB]; done)) (Nat.le_of_ble_eq_true rfl) (Nat.le_of_ble_eq_true rfl) dX0_canDo_56
          · skip
            refine lv_iconst (v := 1) hx hb dX0_canDo_51 (by decide) ?_
            refine lv_goto (tgt := 56) hx hb dX0_canDo_52 (by decide) ?_
            exact r_bool hx hb hr hlk hW rfl (by refine ⟨?_, rfl⟩; first | with_reducible rfl | (simp [bI, canB, c_35, c_38, c_41, c_42, c_43]; done) | (simp_all [bI, canB]; done)) (Nat.le_of_ble_eq_true rfl) (Nat.le_of_ble_eq_true rfl) dX0_canDo_56
      · skip
        refine lv_aload_n hx hb dX0_canDo_15 rfl (lv_at hl 0 rfl) ?_
        refine hk_get hx hb hts hown hK hW hR hk hs 4 (by decide) fl_RX0_24 (v := .int (r 11 k)) rfl dX0_canDo_16 ?_
        refine lv_if_le (tgt := 40) hx hb dX0_canDo_19 (by decide) (fun c_44 => ?_) (fun c_44 => ?_)
        · skip
          have c_44 := Int32.not_lt.mpr c_44
          refine lv_iconst (v := 0) hx hb dX0_canDo_40 (by decide) ?_
          exact r_bool hx hb hr hlk hW rfl (by refine ⟨?_, rfl⟩; first | with_reducible rfl | (simp [bI, canB, c_35, c_38, c_41, c_44]; done) | (simp_all [bI, canB]; done)) (Nat.le_of_ble_eq_true rfl) (Nat.le_of_ble_eq_true rfl) dX0_canDo_41
        · skip
          have c_44 := Int32.not_le.mp c_44
          refine lv_aload_n hx hb dX0_canDo_22 rfl (lv_at hl 0 rfl) ?_
          refine hk_get hx hb hts hown hK hW hR hk hs 3 (by decide) fl_RX0_21 (v := .int (r 10 k)) rfl dX0_canDo_23 ?_
          refine lv_aload_n hx hb dX0_canDo_26 rfl (lv_at hl 0 rfl) ?_
          refine hk_get hx hb hts hown hK hW hR hk hs 4 (by decide) fl_RX0_24 (v := .int (r 11 k)) rfl dX0_canDo_27 ?_
          refine c_statN (own := RX0) (As := [.int (r 10 k), .int (r 11 k)]) (rest := []) hx hb hml hown hts hK hW (k_X2_isOfFigures l _ _) hK.2.2.2.1 st_yX2_isOfFigures in_RX2 cd_yX2_isOfFigures 2 (by decide +kernel) ⟨Nat.le_of_ble_eq_true rfl, Nat.le_of_ble_eq_true rfl⟩ rfl hl.1 rfl (Nat.le_of_ble_eq_true rfl) dX0_canDo_30 ⟨Nat.le_of_ble_eq_true rfl, Nat.le_of_ble_eq_true rfl⟩ (fun v g2 H1 locs1 hp hW hKT => ?_)
          obtain ⟨rfl, hg⟩ := hp
          rw [hg] at hW
          refine W.eq (g2 := F0 m 33 ls [.int (bI (figB (r 10 k) (r 11 k)))]) rfl ?_
          refine lv_if_ne (tgt := 40) hx hb dX0_canDo_33 (by decide) (fun c_45 => ?_) (fun c_45 => ?_)
          · skip
            have c_45 := bI_ne0 c_45
            refine lv_iconst (v := 0) hx hb dX0_canDo_40 (by decide) ?_
            exact r_bool hx hb hr hlk hW rfl (by refine ⟨?_, rfl⟩; first | with_reducible rfl | (simp [bI, canB, c_35, c_38, c_41, c_44, c_45]; done) | (simp_all [bI, canB]; done)) (Nat.le_of_ble_eq_true rfl) (Nat.le_of_ble_eq_true rfl) dX0_canDo_41
          · skip
            have c_45 := (bI_eq0 _).mp c_45
            refine lv_iconst (v := 1) hx hb dX0_canDo_36 (by decide) ?_
            refine lv_goto (tgt := 41) hx hb dX0_canDo_37 (by decide) ?_
            exact r_bool hx hb hr hlk hW rfl (by refine ⟨?_, rfl⟩; first | with_reducible rfl | (simp [bI, canB, c_35, c_38, c_41, c_44, c_45]; done) | (simp_all [bI, canB]; done)) (Nat.le_of_ble_eq_true rfl) (Nat.le_of_ble_eq_true rfl) dX0_canDo_41
