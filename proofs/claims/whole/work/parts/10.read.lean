def isMb (r : sg) (m : Int32) : Bool := !decide (m < 0) && decide (ix m < nm r)
def isCb (r : sg) (k : Int32) : Bool := !decide (k < 0) && (decide (k < 8) && r 5 (ix k) != 0)
theorem ix_i {m : Int32} (h : ¬ m < 0) : m.toInt = (ix m : Int) := by
  obtain ⟨j, h1, rfl⟩ := nI_of h
  rw [ix, nI_clamp h1, nI_toInt h1]
theorem ix_lt {m : Int32} {n : Nat} (hn : n < 2 ^ 31) (h0 : ¬ m < 0) : ix m < n ↔ m < nI n := by
  rw [Int32.lt_iff_toInt_lt, ix_i h0, nI_toInt hn]
  omega
theorem vin {m : Int32} {n : Nat} (hn : n < 2 ^ 31) (h0 : ¬ m < 0) (h1 : m < nI n) : vp_in m n := fun q => q.elim h0 (fun q => absurd ((ix_lt hn h0).mpr h1) (Nat.not_lt.mpr q))
theorem isMb_hi {r : sg} (h : nm r ≤ 60) {m : Int32} (h1 : ¬ m < 60) : isMb r m = false := by
  by_cases h0 : m < 0
  · simp [isMb, h0]
  · have : ¬ ix m < 60 := fun q => h1 ((ix_lt (by decide) h0).mp q)
    simp only [isMb]
    rw [show decide (ix m < nm r) = false from by simp; omega]
    simp
theorem isMb_lt {r : sg} {m : Int32} (h : isMb r m = true) : ix m < nm r := by
  simp [isMb] at h
  exact h.2
theorem isMb_nn {r : sg} {m : Int32} (h : isMb r m = true) : ¬ m < 0 := by
  simp [isMb] at h
  exact fun q => absurd q (Int32.not_lt.mpr h.1)
theorem isMb_ne {r : sg} {m : Int32} (h : isMb r m = true) : ¬ m = -1 := fun e => absurd (by rw [e]; decide) (isMb_nn h)
theorem isCb_lt {r : sg} {k : Int32} (h : isCb r k = true) : ix k < 8 := by
  simp [isCb] at h
  exact (ix_lt (n := 8) (by decide) (Int32.not_lt.mpr h.1)).mpr h.2.1
theorem isCb_nn {r : sg} {k : Int32} (h : isCb r k = true) : ¬ k < 0 := by
  simp [isCb] at h
  exact fun q => absurd q (Int32.not_lt.mpr h.1)
theorem isCb_s {r : sg} {k : Int32} (h : isCb r k = true) : r 5 (ix k) ≠ 0 := by
  simp [isCb] at h
  exact h.2.2
theorem hasP_lt {r : sg} {i : Nat} {j : Int32} (h : hasP r i j = true) : ¬ j < 0 ∧ ix j < ix (r 3 i) := by
  simp [hasP] at h
  obtain ⟨-, h1, h2⟩ := h
  have h1' : ¬ j < 0 := fun q => absurd q (Int32.not_lt.mpr h1)
  refine ⟨h1', ?_⟩
  have h3 : ¬ r 3 i < 0 := fun q => by
    rw [Int32.lt_iff_toInt_lt] at q h2 h1'
    simp at q h1'
    omega
  rw [Int32.lt_iff_toInt_lt, ix_i h1', ix_i h3] at h2
  omega
theorem hasN_lt {r : sg} {i : Nat} {j : Int32} (h : hasN r i j = true) : ¬ j < 0 ∧ ix j < ix (r 3 i) := by
  simp [hasN] at h
  obtain ⟨-, h1, h2⟩ := h
  have h1' : ¬ j < 0 := fun q => absurd q (Int32.not_lt.mpr h1)
  refine ⟨h1', ?_⟩
  have h3 : ¬ r 3 i < 0 := fun q => by
    rw [Int32.lt_iff_toInt_lt] at q h2 h1'
    simp at q h1'
    omega
  rw [Int32.lt_iff_toInt_lt, ix_i h1', ix_i h3] at h2
  omega

set_option maxHeartbeats 4000000 in
set_option maxRecDepth 100000 in
theorem k_X2_messageAt (l : Launch) {E : gE} {x xa xk : Nat} {ma pa ka : Nat → Nat} {z : Bool} {r : sg} {g : gm} (hR : HR E x xa xk ma pa ka z r g) (mm : Int32) : CM l yX2_messageAt cX2_messageAt 2 (some (.object "PostHall$Message")) ({ frames := 0, cells := 0, slots := 0, locals := 0 }) E [.ref (x), .int (mm)] g (fun vv g' => ((isMb r mm = false ∧ vv = some .null) ∨ (isMb r mm = true ∧ vv = some (.ref (ma (ix mm))))) ∧ g' = g) := by
  refine CM.of (by decide) (Nat.le_of_ble_eq_true rfl) ?_
  intro p e s m below meth c ls hM hK hW hl
  obtain ⟨hx, hb, hr, hml, hown, hts, hlk, hnm⟩ := hM
  have hown : s.vm.findClass RX2 = some m.cls := hown
  have hl : lv_has ls 2 [(0, .ref (x)), (1, .int (mm))] := hl
  refine lv_iload_n hx hb dX2_messageAt_0 rfl (lv_at hl 1 rfl) ?_
  refine lv_if_lt (tgt := 19) hx hb dX2_messageAt_1 (by decide) (fun c_46 => ?_) (fun c_46 => ?_)
  · skip
    refine lv_null hx hb dX2_messageAt_19 ?_
    exact r_ref (v := none) hx hb hr hlk hW (by exact ⟨Or.inl ⟨by first | (simp [isMb, c_46]; done) | exact isMb_hi hR.2.2.2.2.2.2 c_46, rfl⟩, rfl⟩) (Nat.le_of_ble_eq_true rfl) (Nat.le_of_ble_eq_true rfl) dX2_messageAt_20
  · skip
    refine lv_iload_n hx hb dX2_messageAt_4 rfl (lv_at hl 1 rfl) ?_
    refine lv_bipush (v := 60) hx hb dX2_messageAt_5 (by decide) ?_
    refine lv_icmp_ge (tgt := 19) hx hb dX2_messageAt_7 (by decide) (fun c_47 => ?_) (fun c_47 => ?_)
    · skip
      have c_47 := Int32.not_lt.mpr c_47
      refine lv_null hx hb dX2_messageAt_19 ?_
      exact r_ref (v := none) hx hb hr hlk hW (by exact ⟨Or.inl ⟨by first | (simp [isMb, c_47]; done) | exact isMb_hi hR.2.2.2.2.2.2 c_47, rfl⟩, rfl⟩) (Nat.le_of_ble_eq_true rfl) (Nat.le_of_ble_eq_true rfl) dX2_messageAt_20
    · skip
      have c_47 := Int32.not_le.mp c_47
      refine lv_aload_n hx hb dX2_messageAt_10 rfl (lv_at hl 0 rfl) ?_
      refine h_get hx hb hts hown hK hW hR 0 (by decide) fl_RX2_11 (v := .ref (xa)) rfl dX2_messageAt_11 ?_
      refine lv_iload_n hx hb dX2_messageAt_14 rfl (lv_at hl 1 rfl) ?_
      refine g_aldM hx hb hK hW hR.2.1 (vin (n := 60) (by decide) c_46 c_47) dX2_messageAt_15 ?_
      by_cases hq : ix mm < nm r
      · skip
        rw [show mrw r ma (Int32.toNatClampNeg mm) = some (ma (ix mm)) from if_pos hq]
        refine lv_goto (tgt := 20) hx hb dX2_messageAt_16 (by decide) ?_
        exact r_ref (v := some (ma (ix mm))) hx hb hr hlk hW (by exact ⟨Or.inr ⟨by simp [isMb, c_46, c_47, hq], rfl⟩, rfl⟩) (Nat.le_of_ble_eq_true rfl) (Nat.le_of_ble_eq_true rfl) dX2_messageAt_20
      · skip
        rw [show mrw r ma (Int32.toNatClampNeg mm) = none from if_neg hq]
        refine lv_goto (tgt := 20) hx hb dX2_messageAt_16 (by decide) ?_
        exact r_ref (v := none) hx hb hr hlk hW (by exact ⟨Or.inl ⟨by simp [isMb, c_46, c_47, hq], rfl⟩, rfl⟩) (Nat.le_of_ble_eq_true rfl) (Nat.le_of_ble_eq_true rfl) dX2_messageAt_20

set_option maxHeartbeats 4000000 in
set_option maxRecDepth 100000 in
theorem k_X2_counterAt (l : Launch) {E : gE} {x xa xk : Nat} {ma pa ka : Nat → Nat} {z : Bool} {r : sg} {g : gm} (hR : HR E x xa xk ma pa ka z r g) (mm : Int32) : CM l yX2_counterAt cX2_counterAt 2 (some (.object "PostHall$Counter")) ({ frames := 0, cells := 0, slots := 0, locals := 0 }) E [.ref (x), .int (mm)] g (fun vv g' => ((isCb r mm = false ∧ vv = some .null) ∨ (isCb r mm = true ∧ vv = some (.ref (ka (ix mm))))) ∧ g' = g) := by
  refine CM.of (by decide) (Nat.le_of_ble_eq_true rfl) ?_
  intro p e s m below meth c ls hM hK hW hl
  obtain ⟨hx, hb, hr, hml, hown, hts, hlk, hnm⟩ := hM
  have hown : s.vm.findClass RX2 = some m.cls := hown
  have hl : lv_has ls 2 [(0, .ref (x)), (1, .int (mm))] := hl
  refine lv_iload_n hx hb dX2_counterAt_0 rfl (lv_at hl 1 rfl) ?_
  refine lv_if_lt (tgt := 19) hx hb dX2_counterAt_1 (by decide) (fun c_48 => ?_) (fun c_48 => ?_)
  · skip
    refine lv_null hx hb dX2_counterAt_19 ?_
    exact r_ref (v := none) hx hb hr hlk hW (by exact ⟨Or.inl ⟨by simp [isCb, c_48], rfl⟩, rfl⟩) (Nat.le_of_ble_eq_true rfl) (Nat.le_of_ble_eq_true rfl) dX2_counterAt_20
  · skip
    refine lv_iload_n hx hb dX2_counterAt_4 rfl (lv_at hl 1 rfl) ?_
    refine lv_bipush (v := 8) hx hb dX2_counterAt_5 (by decide) ?_
    refine lv_icmp_ge (tgt := 19) hx hb dX2_counterAt_7 (by decide) (fun c_49 => ?_) (fun c_49 => ?_)
    · skip
      have c_49 := Int32.not_lt.mpr c_49
      refine lv_null hx hb dX2_counterAt_19 ?_
      exact r_ref (v := none) hx hb hr hlk hW (by exact ⟨Or.inl ⟨by simp [isCb, c_48, c_49], rfl⟩, rfl⟩) (Nat.le_of_ble_eq_true rfl) (Nat.le_of_ble_eq_true rfl) dX2_counterAt_20
    · skip
      have c_49 := Int32.not_le.mp c_49
      refine lv_aload_n hx hb dX2_counterAt_10 rfl (lv_at hl 0 rfl) ?_
      refine h_get hx hb hts hown hK hW hR 1 (by decide) fl_RX2_17 (v := .ref (xk)) rfl dX2_counterAt_11 ?_
      refine lv_iload_n hx hb dX2_counterAt_14 rfl (lv_at hl 1 rfl) ?_
      refine g_aldC hx hb hK hW hR.2.2.1 (vin (n := 8) (by decide) c_48 c_49) dX2_counterAt_15 ?_
      by_cases hq : r 5 (ix mm) = 0
      · skip
        rw [show krw r ka (Int32.toNatClampNeg mm) = none from if_pos hq]
        refine lv_goto (tgt := 20) hx hb dX2_counterAt_16 (by decide) ?_
        exact r_ref (v := none) hx hb hr hlk hW (by exact ⟨Or.inl ⟨by simp [isCb, c_48, c_49, hq], rfl⟩, rfl⟩) (Nat.le_of_ble_eq_true rfl) (Nat.le_of_ble_eq_true rfl) dX2_counterAt_20
      · skip
        rw [show krw r ka (Int32.toNatClampNeg mm) = some (ka (ix mm)) from if_neg hq]
        refine lv_goto (tgt := 20) hx hb dX2_counterAt_16 (by decide) ?_
        exact r_ref (v := some (ka (ix mm))) hx hb hr hlk hW (by exact ⟨Or.inr ⟨by simp [isCb, c_48, c_49, hq], rfl⟩, rfl⟩) (Nat.le_of_ble_eq_true rfl) (Nat.le_of_ble_eq_true rfl) dX2_counterAt_20

def Fplaced (r : sg) (m i : Int32) : Int32 := if isMb r m then (if hasP r (ix m) i then r 4 (8 * ix m + ix i) else -5) else -2
def Fnumber (r : sg) (m i : Int32) : Int32 := if isMb r m then (if r 1 (ix m) = 0 then (if i = -1 then r 2 (ix m) else 0) else if hasN r (ix m) i then r 4 (8 * ix m + ix i) else 0) else 0
def Fis (r : sg) (m b d : Int32) : Int32 := if isMb r m then (if kindB b d then bI (fitB r (ix m) b d) else -2) else -2
def Fabout (r : sg) (m w : Int32) : Int32 := if isMb r m then (if w = 0 then r 0 (ix m) else if w = 1 then r 1 (ix m) else if w = 2 then r 3 (ix m) else -2) else -2
def Ftold (z : Bool) (r : sg) (w : Int32) : Int32 := if w = 0 then tal z r 2 else if w = 1 then tal z r 3 else if w = 2 then tal z r 4 else if w = 3 then tal z r 5 else if w = 4 then tal z r 6 else -2
def Fof (r : sg) (k w : Int32) : Int32 := if isCb r k then (if w = 0 then r 13 (ix k) else if w = 1 then r 15 (ix k) else if w = 2 then r 16 (ix k) else if w = 3 then asI (r 6 (ix k)) else if w = 4 then r 14 (ix k) else if w = 5 then r 12 (ix k) else if w = 6 then asI (r 7 (ix k)) else 0) else 0
def Fcount (r : sg) (w : Int32) : Int32 := if w = 0 then r 17 0 else if w = 1 then nsetN r 8 else if w = 2 then r 17 1 else -2

set_option maxHeartbeats 4000000 in
set_option maxRecDepth 100000 in
theorem k_X2_placed (l : Launch) {E : gE} {x xa xk : Nat} {ma pa ka : Nat → Nat} {z : Bool} {r : sg} {g : gm} (hR : HR E x xa xk ma pa ka z r g) (a b : Int32) : CM l yX2_placed cX2_placed 4 (some .int) ({ frames := 1, cells := 0, slots := 0, locals := 21 }) E [.ref (x), .int (a), .int (b)] g (fun vv g' => vv = some (.int (Fplaced r a b)) ∧ g' = g) := by
  refine CM.of (by decide) (Nat.le_of_ble_eq_true rfl) ?_
  intro p e s m below meth c ls hM hK hW hl
  obtain ⟨hx, hb, hr, hml, hown, hts, hlk, hnm⟩ := hM
  have hown : s.vm.findClass RX2 = some m.cls := hown
  have hl : lv_has ls 4 [(0, .ref (x)), (1, .int (a)), (2, .int (b))] := hl
  refine lv_aload_n hx hb dX2_placed_0 rfl (lv_at hl 0 rfl) ?_
  refine lv_iload_n hx hb dX2_placed_1 rfl (lv_at hl 1 rfl) ?_
  refine c_virt (own := RX2) (As := [.int (a)]) (rest := []) hx hb hml hown hts hK hW (k_X2_messageAt l hR (a)) ml_RX2_33 im_yX2_messageAt se_yX2_messageAt in_RX2 cd_yX2_messageAt 1 (by decide +kernel) ⟨Nat.le_of_ble_eq_true rfl, Nat.le_of_ble_eq_true rfl⟩ hR.1 rfl rfl rfl hl.1 rfl (Nat.le_of_ble_eq_true rfl) dX2_placed_2 ⟨Nat.le_of_ble_eq_true rfl, Nat.le_of_ble_eq_true rfl⟩ (fun v g2 H1 locs1 hp hW hKT => ?_)
  obtain ⟨hp, hg⟩ := hp
  rw [hg] at hW
  rcases hp with ⟨em_50, rfl⟩ | ⟨em_51, rfl⟩
  · skip
    refine W.eq (g2 := F0 m 5 ls [.null]) rfl ?_
    refine lv_astore_nN (lv' := [(3, .null), (0, .ref (x)), (1, .int (a)), (2, .int (b))]) hx hb dX2_placed_5 rfl hl (by decide) rfl (fun ls hl => ?_)
    refine lv_aload_nN hx hb dX2_placed_6 rfl (lv_at hl 0 rfl) ?_
    refine lv_ifnonnullN hx hb dX2_placed_7 ?_
    refine lv_bipush (v := -2) hx hb dX2_placed_10 (by decide) ?_
    exact r_int hx hb hr hlk hW (by refine ⟨?_, rfl⟩; first | with_reducible rfl | (simp [bI, Fplaced, em_50]; done) | (simp_all [bI, Fplaced]; done)) (Nat.le_of_ble_eq_true rfl) (Nat.le_of_ble_eq_true rfl) dX2_placed_12
  · skip
    have hi_52 := isMb_lt em_51
    have nhi_52 := isMb_ne em_51
    refine W.eq (g2 := F0 m 5 ls [.ref (ma (ix (a)))]) rfl ?_
    refine lv_astore_n (lv' := [(3, .ref (ma (ix (a)))), (0, .ref (x)), (1, .int (a)), (2, .int (b))]) hx hb dX2_placed_5 rfl hl (by decide) rfl (fun ls hl => ?_)
    refine lv_aload_n hx hb dX2_placed_6 rfl (lv_at hl 0 rfl) ?_
    refine lv_ifnonnull (tgt := 13) hx hb dX2_placed_7 (by decide) ?_
    refine lv_aload_n hx hb dX2_placed_13 rfl (lv_at hl 0 rfl) ?_
    refine lv_iload_n hx hb dX2_placed_14 rfl (lv_at hl 3 rfl) ?_
    refine c_virt (own := RX2) (As := [.int (b)]) (rest := []) hx hb hml hown hts hK hW (k_X1_hasMessagePlace l hR hi_52 _) ml_RX2_37 im_yX1_hasMessagePlace se_yX1_hasMessagePlace in_RX1 cd_yX1_hasMessagePlace 1 (by decide +kernel) ⟨Nat.le_of_ble_eq_true rfl, Nat.le_of_ble_eq_true rfl⟩ (hR.2.2.2.1 _ hi_52).1 rfl rfl rfl hl.1 rfl (Nat.le_of_ble_eq_true rfl) dX2_placed_15 ⟨Nat.le_of_ble_eq_true rfl, Nat.le_of_ble_eq_true rfl⟩ (fun v g2 H1 locs1 hp hW hKT => ?_)
    obtain ⟨rfl, hg⟩ := hp
    rw [hg] at hW
    refine W.eq (g2 := F0 m 18 ls [.int (bI (hasP r (ix (a)) (b)))]) rfl ?_
    refine lv_if_eq (tgt := 30) hx hb dX2_placed_18 (by decide) (fun c_53 => ?_) (fun c_53 => ?_)
    · skip
      have c_53 := (bI_eq0 _).mp c_53
      refine lv_bipush (v := -5) hx hb dX2_placed_30 (by decide) ?_
      exact r_int hx hb hr hlk hW (by refine ⟨?_, rfl⟩; first | with_reducible rfl | (simp [bI, Fplaced, em_51, nhi_52, c_53]; done) | (simp_all [bI, Fplaced]; done)) (Nat.le_of_ble_eq_true rfl) (Nat.le_of_ble_eq_true rfl) dX2_placed_32
    · skip
      have c_53 := bI_ne0 c_53
      refine lv_aload_n hx hb dX2_placed_21 rfl (lv_at hl 0 rfl) ?_
      refine hm_get hx hb hts hown hK hW hR hi_52 4 (by decide) fl_RX2_45 (v := .ref (pa (ix (a)))) rfl dX2_placed_22 ?_
      refine lv_iload_n hx hb dX2_placed_25 rfl (lv_at hl 3 rfl) ?_
      refine hp_ald hx hb hK hW hR hi_52 (hasP_lt c_53).1 (hasP_lt c_53).2 dX2_placed_26 ?_
      refine lv_goto (tgt := 32) hx hb dX2_placed_27 (by decide) ?_
      exact r_int hx hb hr hlk hW (by refine ⟨?_, rfl⟩; first | with_reducible rfl | (simp [bI, Fplaced, em_51, nhi_52, c_53]; done) | (simp_all [bI, Fplaced]; done)) (Nat.le_of_ble_eq_true rfl) (Nat.le_of_ble_eq_true rfl) dX2_placed_32

set_option maxHeartbeats 4000000 in
set_option maxRecDepth 100000 in
theorem k_X2_number (l : Launch) {E : gE} {x xa xk : Nat} {ma pa ka : Nat → Nat} {z : Bool} {r : sg} {g : gm} (hR : HR E x xa xk ma pa ka z r g) (a b : Int32) : CM l yX2_number cX2_number 4 (some .int) ({ frames := 1, cells := 0, slots := 0, locals := 21 }) E [.ref (x), .int (a), .int (b)] g (fun vv g' => vv = some (.int (Fnumber r a b)) ∧ g' = g) := by
  refine CM.of (by decide) (Nat.le_of_ble_eq_true rfl) ?_
  intro p e s m below meth c ls hM hK hW hl
  obtain ⟨hx, hb, hr, hml, hown, hts, hlk, hnm⟩ := hM
  have hown : s.vm.findClass RX2 = some m.cls := hown
  have hl : lv_has ls 4 [(0, .ref (x)), (1, .int (a)), (2, .int (b))] := hl
  refine lv_aload_n hx hb dX2_number_0 rfl (lv_at hl 0 rfl) ?_
  refine lv_iload_n hx hb dX2_number_1 rfl (lv_at hl 1 rfl) ?_
  refine c_virt (own := RX2) (As := [.int (a)]) (rest := []) hx hb hml hown hts hK hW (k_X2_messageAt l hR (a)) ml_RX2_33 im_yX2_messageAt se_yX2_messageAt in_RX2 cd_yX2_messageAt 1 (by decide +kernel) ⟨Nat.le_of_ble_eq_true rfl, Nat.le_of_ble_eq_true rfl⟩ hR.1 rfl rfl rfl hl.1 rfl (Nat.le_of_ble_eq_true rfl) dX2_number_2 ⟨Nat.le_of_ble_eq_true rfl, Nat.le_of_ble_eq_true rfl⟩ (fun v g2 H1 locs1 hp hW hKT => ?_)
  obtain ⟨hp, hg⟩ := hp
  rw [hg] at hW
  rcases hp with ⟨em_54, rfl⟩ | ⟨em_55, rfl⟩
  · skip
    refine W.eq (g2 := F0 m 5 ls [.null]) rfl ?_
    refine lv_astore_nN (lv' := [(3, .null), (0, .ref (x)), (1, .int (a)), (2, .int (b))]) hx hb dX2_number_5 rfl hl (by decide) rfl (fun ls hl => ?_)
    refine lv_aload_nN hx hb dX2_number_6 rfl (lv_at hl 0 rfl) ?_
    refine lv_ifnonnullN hx hb dX2_number_7 ?_
    refine lv_iconst (v := 0) hx hb dX2_number_10 (by decide) ?_
    exact r_int hx hb hr hlk hW (by refine ⟨?_, rfl⟩; first | with_reducible rfl | (simp [bI, Fnumber, em_54]; done) | (simp_all [bI, Fnumber]; done)) (Nat.le_of_ble_eq_true rfl) (Nat.le_of_ble_eq_true rfl) dX2_number_11
  · skip
    have hi_56 := isMb_lt em_55
    have nhi_56 := isMb_ne em_55
    refine W.eq (g2 := F0 m 5 ls [.ref (ma (ix (a)))]) rfl ?_
    refine lv_astore_n (lv' := [(3, .ref (ma (ix (a)))), (0, .ref (x)), (1, .int (a)), (2, .int (b))]) hx hb dX2_number_5 rfl hl (by decide) rfl (fun ls hl => ?_)
    refine lv_aload_n hx hb dX2_number_6 rfl (lv_at hl 0 rfl) ?_
    refine lv_ifnonnull (tgt := 12) hx hb dX2_number_7 (by decide) ?_
    refine lv_aload_n hx hb dX2_number_12 rfl (lv_at hl 0 rfl) ?_
    refine hm_get hx hb hts hown hK hW hR hi_56 2 (by decide) fl_RX2_56 (v := .int (r 1 (ix (a)))) rfl dX2_number_13 ?_
    refine lv_if_ne (tgt := 33) hx hb dX2_number_16 (by decide) (fun c_57 => ?_) (fun c_57 => ?_)
    · skip
      refine lv_aload_n hx hb dX2_number_33 rfl (lv_at hl 0 rfl) ?_
      refine lv_iload_n hx hb dX2_number_34 rfl (lv_at hl 3 rfl) ?_
      refine c_virt (own := RX2) (As := [.int (b)]) (rest := []) hx hb hml hown hts hK hW (k_X1_hasNumber l hR hi_56 _) ml_RX2_49 im_yX1_hasNumber se_yX1_hasNumber in_RX1 cd_yX1_hasNumber 1 (by decide +kernel) ⟨Nat.le_of_ble_eq_true rfl, Nat.le_of_ble_eq_true rfl⟩ (hR.2.2.2.1 _ hi_56).1 rfl rfl rfl hl.1 rfl (Nat.le_of_ble_eq_true rfl) dX2_number_35 ⟨Nat.le_of_ble_eq_true rfl, Nat.le_of_ble_eq_true rfl⟩ (fun v g2 H1 locs1 hp hW hKT => ?_)
      obtain ⟨rfl, hg⟩ := hp
      rw [hg] at hW
      refine W.eq (g2 := F0 m 38 ls [.int (bI (hasN r (ix (a)) (b)))]) rfl ?_
      refine lv_if_eq (tgt := 50) hx hb dX2_number_38 (by decide) (fun c_58 => ?_) (fun c_58 => ?_)
      · skip
        have c_58 := (bI_eq0 _).mp c_58
        refine lv_iconst (v := 0) hx hb dX2_number_50 (by decide) ?_
        exact r_int hx hb hr hlk hW (by refine ⟨?_, rfl⟩; first | with_reducible rfl | (simp [bI, Fnumber, em_55, nhi_56, c_57, c_58]; done) | (simp_all [bI, Fnumber]; done)) (Nat.le_of_ble_eq_true rfl) (Nat.le_of_ble_eq_true rfl) dX2_number_51
      · skip
        have c_58 := bI_ne0 c_58
        refine lv_aload_n hx hb dX2_number_41 rfl (lv_at hl 0 rfl) ?_
        refine hm_get hx hb hts hown hK hW hR hi_56 4 (by decide) fl_RX2_45 (v := .ref (pa (ix (a)))) rfl dX2_number_42 ?_
        refine lv_iload_n hx hb dX2_number_45 rfl (lv_at hl 3 rfl) ?_
        refine hp_ald hx hb hK hW hR hi_56 (hasN_lt c_58).1 (hasN_lt c_58).2 dX2_number_46 ?_
        refine lv_goto (tgt := 51) hx hb dX2_number_47 (by decide) ?_
        exact r_int hx hb hr hlk hW (by refine ⟨?_, rfl⟩; first | with_reducible rfl | (simp [bI, Fnumber, em_55, nhi_56, c_57, c_58]; done) | (simp_all [bI, Fnumber]; done)) (Nat.le_of_ble_eq_true rfl) (Nat.le_of_ble_eq_true rfl) dX2_number_51
    · skip
      refine lv_iload_n hx hb dX2_number_19 rfl (lv_at hl 3 rfl) ?_
      refine lv_iconst (v := -1) hx hb dX2_number_20 (by decide) ?_
      refine lv_icmp_ne (tgt := 31) hx hb dX2_number_21 (by decide) (fun c_59 => ?_) (fun c_59 => ?_)
      · skip
        refine lv_iconst (v := 0) hx hb dX2_number_31 (by decide) ?_
        exact r_int hx hb hr hlk hW (by refine ⟨?_, rfl⟩; first | with_reducible rfl | (simp [bI, Fnumber, em_55, nhi_56, c_57, c_59]; done) | (simp_all [bI, Fnumber]; done)) (Nat.le_of_ble_eq_true rfl) (Nat.le_of_ble_eq_true rfl) dX2_number_32
      · skip
        refine lv_aload_n hx hb dX2_number_24 rfl (lv_at hl 0 rfl) ?_
        refine hm_get hx hb hts hown hK hW hR hi_56 5 (by decide) fl_RX2_59 (v := .int (r 2 (ix (a)))) rfl dX2_number_25 ?_
        refine lv_goto (tgt := 32) hx hb dX2_number_28 (by decide) ?_
        exact r_int hx hb hr hlk hW (by refine ⟨?_, rfl⟩; first | with_reducible rfl | (simp [bI, Fnumber, em_55, nhi_56, c_57, c_59]; done) | (simp_all [bI, Fnumber]; done)) (Nat.le_of_ble_eq_true rfl) (Nat.le_of_ble_eq_true rfl) dX2_number_32

set_option maxHeartbeats 4000000 in
set_option maxRecDepth 100000 in
theorem k_X2_is (l : Launch) {E : gE} {x xa xk : Nat} {ma pa ka : Nat → Nat} {z : Bool} {r : sg} {g : gm} (hR : HR E x xa xk ma pa ka z r g) (a b d : Int32) : CM l yX2_is cX2_is 5 (some .int) ({ frames := 2, cells := 0, slots := 0, locals := 43 }) E [.ref (x), .int (a), .int (b), .int (d)] g (fun vv g' => vv = some (.int (Fis r a b d)) ∧ g' = g) := by
  refine CM.of (by decide) (Nat.le_of_ble_eq_true rfl) ?_
  intro p e s m below meth c ls hM hK hW hl
  obtain ⟨hx, hb, hr, hml, hown, hts, hlk, hnm⟩ := hM
  have hown : s.vm.findClass RX2 = some m.cls := hown
  have hl : lv_has ls 5 [(0, .ref (x)), (1, .int (a)), (2, .int (b)), (3, .int (d))] := hl
  refine lv_aload_n hx hb dX2_is_0 rfl (lv_at hl 0 rfl) ?_
  refine lv_iload_n hx hb dX2_is_1 rfl (lv_at hl 1 rfl) ?_
  refine c_virt (own := RX2) (As := [.int (a)]) (rest := []) hx hb hml hown hts hK hW (k_X2_messageAt l hR (a)) ml_RX2_33 im_yX2_messageAt se_yX2_messageAt in_RX2 cd_yX2_messageAt 1 (by decide +kernel) ⟨Nat.le_of_ble_eq_true rfl, Nat.le_of_ble_eq_true rfl⟩ hR.1 rfl rfl rfl hl.1 rfl (Nat.le_of_ble_eq_true rfl) dX2_is_2 ⟨Nat.le_of_ble_eq_true rfl, Nat.le_of_ble_eq_true rfl⟩ (fun v g2 H1 locs1 hp hW hKT => ?_)
  obtain ⟨hp, hg⟩ := hp
  rw [hg] at hW
  rcases hp with ⟨em_60, rfl⟩ | ⟨em_61, rfl⟩
  · skip
    refine W.eq (g2 := F0 m 5 ls [.null]) rfl ?_
    refine lv_astoreN (lv' := [(4, .null), (0, .ref (x)), (1, .int (a)), (2, .int (b)), (3, .int (d))]) hx hb dX2_is_5 hl (by decide) rfl (fun ls hl => ?_)
    refine lv_aloadN hx hb dX2_is_7 (lv_at hl 0 rfl) ?_
    refine lv_ifnullN (tgt := 20) hx hb dX2_is_9 (by decide) ?_
    refine lv_bipush (v := -2) hx hb dX2_is_20 (by decide) ?_
    exact r_int hx hb hr hlk hW (by refine ⟨?_, rfl⟩; first | with_reducible rfl | (simp [Fis, asI_bI, em_60]; done) | (simp_all [Fis, asI_bI]; done)) (Nat.le_of_ble_eq_true rfl) (Nat.le_of_ble_eq_true rfl) dX2_is_22
  · skip
    have hi_62 := isMb_lt em_61
    have nhi_62 := isMb_ne em_61
    refine W.eq (g2 := F0 m 5 ls [.ref (ma (ix (a)))]) rfl ?_
    refine lv_astore (lv' := [(4, .ref (ma (ix (a)))), (0, .ref (x)), (1, .int (a)), (2, .int (b)), (3, .int (d))]) hx hb dX2_is_5 hl (by decide) rfl (fun ls hl => ?_)
    refine lv_aload hx hb dX2_is_7 (lv_at hl 0 rfl) ?_
    refine lv_ifnull hx hb dX2_is_9 ?_
    refine lv_iload_n hx hb dX2_is_12 rfl (lv_at hl 3 rfl) ?_
    refine lv_iload_n hx hb dX2_is_13 rfl (lv_at hl 4 rfl) ?_
    refine c_stat (own := RX2) (As := [.int (b), .int (d)]) (rest := []) hx hb hml hown hts hK hW (k_X2_isKind l _ _) ml_RX2_29 st_yX2_isKind in_RX2 cd_yX2_isKind 2 (by decide +kernel) ⟨Nat.le_of_ble_eq_true rfl, Nat.le_of_ble_eq_true rfl⟩ rfl hl.1 rfl (Nat.le_of_ble_eq_true rfl) dX2_is_14 ⟨Nat.le_of_ble_eq_true rfl, Nat.le_of_ble_eq_true rfl⟩ (fun v g2 H1 locs1 hp hW hKT => ?_)
    obtain ⟨rfl, hg⟩ := hp
    rw [hg] at hW
    refine W.eq (g2 := F0 m 17 ls [.int (bI (kindB (b) (d)))]) rfl ?_
    refine lv_if_ne (tgt := 23) hx hb dX2_is_17 (by decide) (fun c_63 => ?_) (fun c_63 => ?_)
    · skip
      have c_63 := bI_ne0 c_63
      refine lv_aload hx hb dX2_is_23 (lv_at hl 0 rfl) ?_
      refine lv_iload_n hx hb dX2_is_25 rfl (lv_at hl 3 rfl) ?_
      refine lv_iload_n hx hb dX2_is_26 rfl (lv_at hl 4 rfl) ?_
      refine c_virt (own := RX2) (As := [.int (b), .int (d)]) (rest := []) hx hb hml hown hts hK hW (k_X1_fits l hR hi_62 _ _) ml_RX2_62 im_yX1_fits se_yX1_fits in_RX1 cd_yX1_fits 2 (by decide +kernel) ⟨Nat.le_of_ble_eq_true rfl, Nat.le_of_ble_eq_true rfl⟩ (hR.2.2.2.1 _ hi_62).1 rfl rfl rfl hl.1 rfl (Nat.le_of_ble_eq_true rfl) dX2_is_27 ⟨Nat.le_of_ble_eq_true rfl, Nat.le_of_ble_eq_true rfl⟩ (fun v g2 H1 locs1 hp hW hKT => ?_)
      obtain ⟨rfl, hg⟩ := hp
      rw [hg] at hW
      refine W.eq (g2 := F0 m 30 ls [.int (bI (fitB r (ix (a)) (b) (d)))]) rfl ?_
      refine c_stat (own := RX2) (As := [.int (bI (fitB r (ix (a)) (b) (d)))]) (rest := []) hx hb hml hown hts hK hW (k_X2_asInt l _) ml_RX2_65 st_yX2_asInt in_RX2 cd_yX2_asInt 1 (by decide +kernel) ⟨Nat.le_of_ble_eq_true rfl, Nat.le_of_ble_eq_true rfl⟩ rfl hl.1 rfl (Nat.le_of_ble_eq_true rfl) dX2_is_30 ⟨Nat.le_of_ble_eq_true rfl, Nat.le_of_ble_eq_true rfl⟩ (fun v g2 H1 locs1 hp hW hKT => ?_)
      obtain ⟨rfl, hg⟩ := hp
      rw [hg] at hW
      refine W.eq (g2 := F0 m 33 ls [.int (asI (bI (fitB r (ix (a)) (b) (d))))]) rfl ?_
      exact r_int hx hb hr hlk hW (by refine ⟨?_, rfl⟩; first | with_reducible rfl | (simp [Fis, asI_bI, em_61, nhi_62, c_63]; done) | (simp_all [Fis, asI_bI]; done)) (Nat.le_of_ble_eq_true rfl) (Nat.le_of_ble_eq_true rfl) dX2_is_33
    · skip
      have c_63 := (bI_eq0 _).mp c_63
      refine lv_bipush (v := -2) hx hb dX2_is_20 (by decide) ?_
      exact r_int hx hb hr hlk hW (by refine ⟨?_, rfl⟩; first | with_reducible rfl | (simp [Fis, asI_bI, em_61, nhi_62, c_63]; done) | (simp_all [Fis, asI_bI]; done)) (Nat.le_of_ble_eq_true rfl) (Nat.le_of_ble_eq_true rfl) dX2_is_22

set_option maxHeartbeats 4000000 in
set_option maxRecDepth 100000 in
theorem k_X2_about (l : Launch) {E : gE} {x xa xk : Nat} {ma pa ka : Nat → Nat} {z : Bool} {r : sg} {g : gm} (hR : HR E x xa xk ma pa ka z r g) (a b : Int32) : CM l yX2_about cX2_about 4 (some .int) ({ frames := 1, cells := 0, slots := 0, locals := 21 }) E [.ref (x), .int (a), .int (b)] g (fun vv g' => vv = some (.int (Fabout r a b)) ∧ g' = g) := by
  refine CM.of (by decide) (Nat.le_of_ble_eq_true rfl) ?_
  intro p e s m below meth c ls hM hK hW hl
  obtain ⟨hx, hb, hr, hml, hown, hts, hlk, hnm⟩ := hM
  have hown : s.vm.findClass RX2 = some m.cls := hown
  have hl : lv_has ls 4 [(0, .ref (x)), (1, .int (a)), (2, .int (b))] := hl
  refine lv_aload_n hx hb dX2_about_0 rfl (lv_at hl 0 rfl) ?_
  refine lv_iload_n hx hb dX2_about_1 rfl (lv_at hl 1 rfl) ?_
  refine c_virt (own := RX2) (As := [.int (a)]) (rest := []) hx hb hml hown hts hK hW (k_X2_messageAt l hR (a)) ml_RX2_33 im_yX2_messageAt se_yX2_messageAt in_RX2 cd_yX2_messageAt 1 (by decide +kernel) ⟨Nat.le_of_ble_eq_true rfl, Nat.le_of_ble_eq_true rfl⟩ hR.1 rfl rfl rfl hl.1 rfl (Nat.le_of_ble_eq_true rfl) dX2_about_2 ⟨Nat.le_of_ble_eq_true rfl, Nat.le_of_ble_eq_true rfl⟩ (fun v g2 H1 locs1 hp hW hKT => ?_)
  obtain ⟨hp, hg⟩ := hp
  rw [hg] at hW
  rcases hp with ⟨em_64, rfl⟩ | ⟨em_65, rfl⟩
  · skip
    refine W.eq (g2 := F0 m 5 ls [.null]) rfl ?_
    refine lv_astore_nN (lv' := [(3, .null), (0, .ref (x)), (1, .int (a)), (2, .int (b))]) hx hb dX2_about_5 rfl hl (by decide) rfl (fun ls hl => ?_)
    refine lv_aload_nN hx hb dX2_about_6 rfl (lv_at hl 0 rfl) ?_
    refine lv_ifnonnullN hx hb dX2_about_7 ?_
    refine lv_bipush (v := -2) hx hb dX2_about_10 (by decide) ?_
    exact r_int hx hb hr hlk hW (by refine ⟨?_, rfl⟩; first | with_reducible rfl | (simp [bI, Fabout, em_64]; done) | (simp_all [bI, Fabout]; done)) (Nat.le_of_ble_eq_true rfl) (Nat.le_of_ble_eq_true rfl) dX2_about_12
  · skip
    have hi_66 := isMb_lt em_65
    have nhi_66 := isMb_ne em_65
    refine W.eq (g2 := F0 m 5 ls [.ref (ma (ix (a)))]) rfl ?_
    refine lv_astore_n (lv' := [(3, .ref (ma (ix (a)))), (0, .ref (x)), (1, .int (a)), (2, .int (b))]) hx hb dX2_about_5 rfl hl (by decide) rfl (fun ls hl => ?_)
    refine lv_aload_n hx hb dX2_about_6 rfl (lv_at hl 0 rfl) ?_
    refine lv_ifnonnull (tgt := 13) hx hb dX2_about_7 (by decide) ?_
    refine lv_iload_n hx hb dX2_about_13 rfl (lv_at hl 3 rfl) ?_
    by_cases c_67 : b = 0
    · skip
      refine lv_tableIn (tgt := 40) hx hb dX2_about_14 (by rw [c_67]; decide) (by rw [c_67]; decide) (by rw [c_67]; rfl) (by decide) ?_
      refine lv_aload_n hx hb dX2_about_40 rfl (lv_at hl 0 rfl) ?_
      refine hm_get hx hb hts hown hK hW hR hi_66 1 (by decide) fl_RX2_69 (v := .int (r 0 (ix (a)))) rfl dX2_about_41 ?_
      exact r_int hx hb hr hlk hW (by refine ⟨?_, rfl⟩; first | with_reducible rfl | (simp [bI, Fabout, em_65, nhi_66, c_67]; done) | (simp_all [bI, Fabout]; done)) (Nat.le_of_ble_eq_true rfl) (Nat.le_of_ble_eq_true rfl) dX2_about_44
    by_cases c_68 : b = 1
    · skip
      refine lv_tableIn (tgt := 45) hx hb dX2_about_14 (by rw [c_68]; decide) (by rw [c_68]; decide) (by rw [c_68]; rfl) (by decide) ?_
      refine lv_aload_n hx hb dX2_about_45 rfl (lv_at hl 0 rfl) ?_
      refine hm_get hx hb hts hown hK hW hR hi_66 2 (by decide) fl_RX2_56 (v := .int (r 1 (ix (a)))) rfl dX2_about_46 ?_
      exact r_int hx hb hr hlk hW (by refine ⟨?_, rfl⟩; first | with_reducible rfl | (simp [bI, Fabout, em_65, nhi_66, c_67, c_68]; done) | (simp_all [bI, Fabout]; done)) (Nat.le_of_ble_eq_true rfl) (Nat.le_of_ble_eq_true rfl) dX2_about_49
    by_cases c_69 : b = 2
    · skip
      refine lv_tableIn (tgt := 50) hx hb dX2_about_14 (by rw [c_69]; decide) (by rw [c_69]; decide) (by rw [c_69]; rfl) (by decide) ?_
      refine lv_aload_n hx hb dX2_about_50 rfl (lv_at hl 0 rfl) ?_
      refine hm_get hx hb hts hown hK hW hR hi_66 4 (by decide) fl_RX2_45 (v := .ref (pa (ix (a)))) rfl dX2_about_51 ?_
      refine hp_len hx hb hK hW hR hi_66 dX2_about_54 ?_
      exact r_int hx hb hr hlk hW (by refine ⟨?_, rfl⟩; first | with_reducible rfl | (simp [bI, Fabout, em_65, nhi_66, c_67, c_68, c_69]; done) | (simp_all [bI, Fabout]; done)) (Nat.le_of_ble_eq_true rfl) (Nat.le_of_ble_eq_true rfl) dX2_about_55
    refine lv_tableOut (tgt := 56) hx hb dX2_about_14 (by have z0 := lv_neT (a := 0) c_67 (by decide); have z1 := lv_neT (a := 1) c_68 (by decide); have z2 := lv_neT (a := 2) c_69 (by decide); omega) (by decide) ?_
    refine lv_bipush (v := -2) hx hb dX2_about_56 (by decide) ?_
    exact r_int hx hb hr hlk hW (by refine ⟨?_, rfl⟩; first | with_reducible rfl | (simp [bI, Fabout, em_65, nhi_66, c_67, c_68, c_69]; done) | (simp_all [bI, Fabout]; done)) (Nat.le_of_ble_eq_true rfl) (Nat.le_of_ble_eq_true rfl) dX2_about_58

set_option maxHeartbeats 4000000 in
set_option maxRecDepth 100000 in
theorem k_X2_told (l : Launch) {E : gE} {x xa xk : Nat} {ma pa ka : Nat → Nat} {z : Bool} {r : sg} {g : gm} (hR : HR E x xa xk ma pa ka z r g) (a : Int32) : CM l yX2_told cX2_told 2 (some .int) ({ frames := 0, cells := 0, slots := 0, locals := 0 }) E [.ref (x), .int (a)] g (fun vv g' => vv = some (.int (Ftold z r a)) ∧ g' = g) := by
  refine CM.of (by decide) (Nat.le_of_ble_eq_true rfl) ?_
  intro p e s m below meth c ls hM hK hW hl
  obtain ⟨hx, hb, hr, hml, hown, hts, hlk, hnm⟩ := hM
  have hown : s.vm.findClass RX2 = some m.cls := hown
  have hl : lv_has ls 2 [(0, .ref (x)), (1, .int (a))] := hl
  refine lv_iload_n hx hb dX2_told_0 rfl (lv_at hl 1 rfl) ?_
  by_cases c_70 : a = 0
  · skip
    refine lv_tableIn (tgt := 36) hx hb dX2_told_1 (by rw [c_70]; decide) (by rw [c_70]; decide) (by rw [c_70]; rfl) (by decide) ?_
    refine lv_aload_n hx hb dX2_told_36 rfl (lv_at hl 0 rfl) ?_
    refine h_get hx hb hts hown hK hW hR 5 (by decide) fl_RX2_108 (v := .int (tal z r 2)) rfl dX2_told_37 ?_
    exact r_int hx hb hr hlk hW (by refine ⟨?_, rfl⟩; first | with_reducible rfl | (simp [bI, Ftold, c_70]; done) | (simp_all [bI, Ftold]; done)) (Nat.le_of_ble_eq_true rfl) (Nat.le_of_ble_eq_true rfl) dX2_told_40
  by_cases c_71 : a = 1
  · skip
    refine lv_tableIn (tgt := 41) hx hb dX2_told_1 (by rw [c_71]; decide) (by rw [c_71]; decide) (by rw [c_71]; rfl) (by decide) ?_
    refine lv_aload_n hx hb dX2_told_41 rfl (lv_at hl 0 rfl) ?_
    refine h_get hx hb hts hown hK hW hR 6 (by decide) fl_RX2_111 (v := .int (tal z r 3)) rfl dX2_told_42 ?_
    exact r_int hx hb hr hlk hW (by refine ⟨?_, rfl⟩; first | with_reducible rfl | (simp [bI, Ftold, c_70, c_71]; done) | (simp_all [bI, Ftold]; done)) (Nat.le_of_ble_eq_true rfl) (Nat.le_of_ble_eq_true rfl) dX2_told_45
  by_cases c_72 : a = 2
  · skip
    refine lv_tableIn (tgt := 46) hx hb dX2_told_1 (by rw [c_72]; decide) (by rw [c_72]; decide) (by rw [c_72]; rfl) (by decide) ?_
    refine lv_aload_n hx hb dX2_told_46 rfl (lv_at hl 0 rfl) ?_
    refine h_get hx hb hts hown hK hW hR 7 (by decide) fl_RX2_114 (v := .int (tal z r 4)) rfl dX2_told_47 ?_
    exact r_int hx hb hr hlk hW (by refine ⟨?_, rfl⟩; first | with_reducible rfl | (simp [bI, Ftold, c_70, c_71, c_72]; done) | (simp_all [bI, Ftold]; done)) (Nat.le_of_ble_eq_true rfl) (Nat.le_of_ble_eq_true rfl) dX2_told_50
  by_cases c_73 : a = 3
  · skip
    refine lv_tableIn (tgt := 51) hx hb dX2_told_1 (by rw [c_73]; decide) (by rw [c_73]; decide) (by rw [c_73]; rfl) (by decide) ?_
    refine lv_aload_n hx hb dX2_told_51 rfl (lv_at hl 0 rfl) ?_
    refine h_get hx hb hts hown hK hW hR 8 (by decide) fl_RX2_117 (v := .int (tal z r 5)) rfl dX2_told_52 ?_
    exact r_int hx hb hr hlk hW (by refine ⟨?_, rfl⟩; first | with_reducible rfl | (simp [bI, Ftold, c_70, c_71, c_72, c_73]; done) | (simp_all [bI, Ftold]; done)) (Nat.le_of_ble_eq_true rfl) (Nat.le_of_ble_eq_true rfl) dX2_told_55
  by_cases c_74 : a = 4
  · skip
    refine lv_tableIn (tgt := 56) hx hb dX2_told_1 (by rw [c_74]; decide) (by rw [c_74]; decide) (by rw [c_74]; rfl) (by decide) ?_
    refine lv_aload_n hx hb dX2_told_56 rfl (lv_at hl 0 rfl) ?_
    refine h_get hx hb hts hown hK hW hR 9 (by decide) fl_RX2_21 (v := .int (tal z r 6)) rfl dX2_told_57 ?_
    exact r_int hx hb hr hlk hW (by refine ⟨?_, rfl⟩; first | with_reducible rfl | (simp [bI, Ftold, c_70, c_71, c_72, c_73, c_74]; done) | (simp_all [bI, Ftold]; done)) (Nat.le_of_ble_eq_true rfl) (Nat.le_of_ble_eq_true rfl) dX2_told_60
  refine lv_tableOut (tgt := 61) hx hb dX2_told_1 (by have z0 := lv_neT (a := 0) c_70 (by decide); have z1 := lv_neT (a := 1) c_71 (by decide); have z2 := lv_neT (a := 2) c_72 (by decide); have z3 := lv_neT (a := 3) c_73 (by decide); have z4 := lv_neT (a := 4) c_74 (by decide); omega) (by decide) ?_
  refine lv_bipush (v := -2) hx hb dX2_told_61 (by decide) ?_
  exact r_int hx hb hr hlk hW (by refine ⟨?_, rfl⟩; first | with_reducible rfl | (simp [bI, Ftold, c_70, c_71, c_72, c_73, c_74]; done) | (simp_all [bI, Ftold]; done)) (Nat.le_of_ble_eq_true rfl) (Nat.le_of_ble_eq_true rfl) dX2_told_63

set_option maxHeartbeats 4000000 in
set_option maxRecDepth 100000 in
theorem k_X2_count (l : Launch) {E : gE} {x xa xk : Nat} {ma pa ka : Nat → Nat} {z : Bool} {r : sg} {g : gm} (hR : HR E x xa xk ma pa ka z r g) (a : Int32) : CM l yX2_count cX2_count 2 (some .int) ({ frames := 0, cells := 0, slots := 0, locals := 0 }) E [.ref (x), .int (a)] g (fun vv g' => vv = some (.int (Fcount r a)) ∧ g' = g) := by
  refine CM.of (by decide) (Nat.le_of_ble_eq_true rfl) ?_
  intro p e s m below meth c ls hM hK hW hl
  obtain ⟨hx, hb, hr, hml, hown, hts, hlk, hnm⟩ := hM
  have hown : s.vm.findClass RX2 = some m.cls := hown
  have hl : lv_has ls 2 [(0, .ref (x)), (1, .int (a))] := hl
  refine lv_iload_n hx hb dX2_count_0 rfl (lv_at hl 1 rfl) ?_
  by_cases c_75 : a = 0
  · skip
    refine lv_tableIn (tgt := 28) hx hb dX2_count_1 (by rw [c_75]; decide) (by rw [c_75]; decide) (by rw [c_75]; rfl) (by decide) ?_
    refine lv_aload_n hx hb dX2_count_28 rfl (lv_at hl 0 rfl) ?_
    refine h_get hx hb hts hown hK hW hR 2 (by decide) fl_RX2_130 (v := .int (r 17 0)) rfl dX2_count_29 ?_
    exact r_int hx hb hr hlk hW (by refine ⟨?_, rfl⟩; first | with_reducible rfl | (simp [bI, Fcount, c_75]; done) | (simp_all [bI, Fcount]; done)) (Nat.le_of_ble_eq_true rfl) (Nat.le_of_ble_eq_true rfl) dX2_count_32
  by_cases c_76 : a = 1
  · skip
    refine lv_tableIn (tgt := 33) hx hb dX2_count_1 (by rw [c_76]; decide) (by rw [c_76]; decide) (by rw [c_76]; rfl) (by decide) ?_
    refine lv_aload_n hx hb dX2_count_33 rfl (lv_at hl 0 rfl) ?_
    refine h_get hx hb hts hown hK hW hR 3 (by decide) fl_RX2_75 (v := .int (nsetN r 8)) rfl dX2_count_34 ?_
    exact r_int hx hb hr hlk hW (by refine ⟨?_, rfl⟩; first | with_reducible rfl | (simp [bI, Fcount, c_75, c_76]; done) | (simp_all [bI, Fcount]; done)) (Nat.le_of_ble_eq_true rfl) (Nat.le_of_ble_eq_true rfl) dX2_count_37
  by_cases c_77 : a = 2
  · skip
    refine lv_tableIn (tgt := 38) hx hb dX2_count_1 (by rw [c_77]; decide) (by rw [c_77]; decide) (by rw [c_77]; rfl) (by decide) ?_
    refine lv_aload_n hx hb dX2_count_38 rfl (lv_at hl 0 rfl) ?_
    refine h_get hx hb hts hown hK hW hR 4 (by decide) fl_RX2_105 (v := .int (r 17 1)) rfl dX2_count_39 ?_
    exact r_int hx hb hr hlk hW (by refine ⟨?_, rfl⟩; first | with_reducible rfl | (simp [bI, Fcount, c_75, c_76, c_77]; done) | (simp_all [bI, Fcount]; done)) (Nat.le_of_ble_eq_true rfl) (Nat.le_of_ble_eq_true rfl) dX2_count_42
  refine lv_tableOut (tgt := 43) hx hb dX2_count_1 (by have z0 := lv_neT (a := 0) c_75 (by decide); have z1 := lv_neT (a := 1) c_76 (by decide); have z2 := lv_neT (a := 2) c_77 (by decide); omega) (by decide) ?_
  refine lv_bipush (v := -2) hx hb dX2_count_43 (by decide) ?_
  exact r_int hx hb hr hlk hW (by refine ⟨?_, rfl⟩; first | with_reducible rfl | (simp [bI, Fcount, c_75, c_76, c_77]; done) | (simp_all [bI, Fcount]; done)) (Nat.le_of_ble_eq_true rfl) (Nat.le_of_ble_eq_true rfl) dX2_count_45

set_option maxHeartbeats 4000000 in
set_option maxRecDepth 100000 in
theorem k_X2_of (l : Launch) {E : gE} {x xa xk : Nat} {ma pa ka : Nat → Nat} {z : Bool} {r : sg} {g : gm} (hR : HR E x xa xk ma pa ka z r g) (a b : Int32) : CM l yX2_of cX2_of 4 (some .int) ({ frames := 1, cells := 0, slots := 0, locals := 21 }) E [.ref (x), .int (a), .int (b)] g (fun vv g' => vv = some (.int (Fof r a b)) ∧ g' = g) := by
  refine CM.of (by decide) (Nat.le_of_ble_eq_true rfl) ?_
  intro p e s m below meth c ls hM hK hW hl
  obtain ⟨hx, hb, hr, hml, hown, hts, hlk, hnm⟩ := hM
  have hown : s.vm.findClass RX2 = some m.cls := hown
  have hl : lv_has ls 4 [(0, .ref (x)), (1, .int (a)), (2, .int (b))] := hl
  refine lv_aload_n hx hb dX2_of_0 rfl (lv_at hl 0 rfl) ?_
  refine lv_iload_n hx hb dX2_of_1 rfl (lv_at hl 1 rfl) ?_
  refine c_virt (own := RX2) (As := [.int (a)]) (rest := []) hx hb hml hown hts hK hW (k_X2_counterAt l hR (a)) ml_RX2_82 im_yX2_counterAt se_yX2_counterAt in_RX2 cd_yX2_counterAt 1 (by decide +kernel) ⟨Nat.le_of_ble_eq_true rfl, Nat.le_of_ble_eq_true rfl⟩ hR.1 rfl rfl rfl hl.1 rfl (Nat.le_of_ble_eq_true rfl) dX2_of_2 ⟨Nat.le_of_ble_eq_true rfl, Nat.le_of_ble_eq_true rfl⟩ (fun v g2 H1 locs1 hp hW hKT => ?_)
  obtain ⟨hp, hg⟩ := hp
  rw [hg] at hW
  rcases hp with ⟨em_78, rfl⟩ | ⟨em_79, rfl⟩
  · skip
    refine W.eq (g2 := F0 m 5 ls [.null]) rfl ?_
    refine lv_astore_nN (lv' := [(3, .null), (0, .ref (x)), (1, .int (a)), (2, .int (b))]) hx hb dX2_of_5 rfl hl (by decide) rfl (fun ls hl => ?_)
    refine lv_aload_nN hx hb dX2_of_6 rfl (lv_at hl 0 rfl) ?_
    refine lv_ifnonnullN hx hb dX2_of_7 ?_
    refine lv_iconst (v := 0) hx hb dX2_of_10 (by decide) ?_
    exact r_int hx hb hr hlk hW (by refine ⟨?_, rfl⟩; first | with_reducible rfl | (simp [bI, Fof, em_78]; done) | (simp_all [bI, Fof]; done)) (Nat.le_of_ble_eq_true rfl) (Nat.le_of_ble_eq_true rfl) dX2_of_11
  · skip
    have hk_80 := isCb_lt em_79
    have hs_81 := isCb_s em_79
    refine W.eq (g2 := F0 m 5 ls [.ref (ka (ix (a)))]) rfl ?_
    refine lv_astore_n (lv' := [(3, .ref (ka (ix (a)))), (0, .ref (x)), (1, .int (a)), (2, .int (b))]) hx hb dX2_of_5 rfl hl (by decide) rfl (fun ls hl => ?_)
    refine lv_aload_n hx hb dX2_of_6 rfl (lv_at hl 0 rfl) ?_
    refine lv_ifnonnull (tgt := 12) hx hb dX2_of_7 (by decide) ?_
    refine lv_iload_n hx hb dX2_of_12 rfl (lv_at hl 3 rfl) ?_
    by_cases c_82 : b = 0
    · skip
      refine lv_tableIn (tgt := 56) hx hb dX2_of_13 (by rw [c_82]; decide) (by rw [c_82]; decide) (by rw [c_82]; rfl) (by decide) ?_
      refine lv_aload_n hx hb dX2_of_56 rfl (lv_at hl 0 rfl) ?_
      refine hk_get hx hb hts hown hK hW hR hk_80 hs_81 6 (by decide) fl_RX2_92 (v := .int (r 13 (ix (a)))) rfl dX2_of_57 ?_
      exact r_int hx hb hr hlk hW (by refine ⟨?_, rfl⟩; first | with_reducible rfl | (simp [bI, Fof, em_79, c_82]; done) | (simp_all [bI, Fof]; done)) (Nat.le_of_ble_eq_true rfl) (Nat.le_of_ble_eq_true rfl) dX2_of_60
    by_cases c_83 : b = 1
    · skip
      refine lv_tableIn (tgt := 61) hx hb dX2_of_13 (by rw [c_83]; decide) (by rw [c_83]; decide) (by rw [c_83]; rfl) (by decide) ?_
      refine lv_aload_n hx hb dX2_of_61 rfl (lv_at hl 0 rfl) ?_
      refine hk_get hx hb hts hown hK hW hR hk_80 hs_81 10 (by decide) fl_RX2_124 (v := .int (r 15 (ix (a)))) rfl dX2_of_62 ?_
      exact r_int hx hb hr hlk hW (by refine ⟨?_, rfl⟩; first | with_reducible rfl | (simp [bI, Fof, em_79, c_82, c_83]; done) | (simp_all [bI, Fof]; done)) (Nat.le_of_ble_eq_true rfl) (Nat.le_of_ble_eq_true rfl) dX2_of_65
    by_cases c_84 : b = 2
    · skip
      refine lv_tableIn (tgt := 66) hx hb dX2_of_13 (by rw [c_84]; decide) (by rw [c_84]; decide) (by rw [c_84]; rfl) (by decide) ?_
      refine lv_aload_n hx hb dX2_of_66 rfl (lv_at hl 0 rfl) ?_
      refine hk_get hx hb hts hown hK hW hR hk_80 hs_81 11 (by decide) fl_RX2_127 (v := .int (r 16 (ix (a)))) rfl dX2_of_67 ?_
      exact r_int hx hb hr hlk hW (by refine ⟨?_, rfl⟩; first | with_reducible rfl | (simp [bI, Fof, em_79, c_82, c_83, c_84]; done) | (simp_all [bI, Fof]; done)) (Nat.le_of_ble_eq_true rfl) (Nat.le_of_ble_eq_true rfl) dX2_of_70
    by_cases c_85 : b = 3
    · skip
      refine lv_tableIn (tgt := 71) hx hb dX2_of_13 (by rw [c_85]; decide) (by rw [c_85]; decide) (by rw [c_85]; rfl) (by decide) ?_
      refine lv_aload_n hx hb dX2_of_71 rfl (lv_at hl 0 rfl) ?_
      refine hk_get hx hb hts hown hK hW hR hk_80 hs_81 9 (by decide) fl_RX2_102 (v := .int (r 6 (ix (a)))) rfl dX2_of_72 ?_
      refine c_stat (own := RX2) (As := [.int (r 6 (ix (a)))]) (rest := []) hx hb hml hown hts hK hW (k_X2_asInt l _) ml_RX2_65 st_yX2_asInt in_RX2 cd_yX2_asInt 1 (by decide +kernel) ⟨Nat.le_of_ble_eq_true rfl, Nat.le_of_ble_eq_true rfl⟩ rfl hl.1 rfl (Nat.le_of_ble_eq_true rfl) dX2_of_75 ⟨Nat.le_of_ble_eq_true rfl, Nat.le_of_ble_eq_true rfl⟩ (fun v g2 H1 locs1 hp hW hKT => ?_)
      obtain ⟨rfl, hg⟩ := hp
      rw [hg] at hW
      refine W.eq (g2 := F0 m 78 ls [.int (asI (r 6 (ix (a))))]) rfl ?_
      exact r_int hx hb hr hlk hW (by refine ⟨?_, rfl⟩; first | with_reducible rfl | (simp [bI, Fof, em_79, c_82, c_83, c_84, c_85]; done) | (simp_all [bI, Fof]; done)) (Nat.le_of_ble_eq_true rfl) (Nat.le_of_ble_eq_true rfl) dX2_of_78
    by_cases c_86 : b = 4
    · skip
      refine lv_tableIn (tgt := 79) hx hb dX2_of_13 (by rw [c_86]; decide) (by rw [c_86]; decide) (by rw [c_86]; rfl) (by decide) ?_
      refine lv_aload_n hx hb dX2_of_79 rfl (lv_at hl 0 rfl) ?_
      refine hk_get hx hb hts hown hK hW hR hk_80 hs_81 7 (by decide) fl_RX2_95 (v := .int (r 14 (ix (a)))) rfl dX2_of_80 ?_
      exact r_int hx hb hr hlk hW (by refine ⟨?_, rfl⟩; first | with_reducible rfl | (simp [bI, Fof, em_79, c_82, c_83, c_84, c_85, c_86]; done) | (simp_all [bI, Fof]; done)) (Nat.le_of_ble_eq_true rfl) (Nat.le_of_ble_eq_true rfl) dX2_of_83
    by_cases c_87 : b = 5
    · skip
      refine lv_tableIn (tgt := 84) hx hb dX2_of_13 (by rw [c_87]; decide) (by rw [c_87]; decide) (by rw [c_87]; rfl) (by decide) ?_
      refine lv_aload_n hx hb dX2_of_84 rfl (lv_at hl 0 rfl) ?_
      refine hk_get hx hb hts hown hK hW hR hk_80 hs_81 5 (by decide) fl_RX2_89 (v := .int (r 12 (ix (a)))) rfl dX2_of_85 ?_
      exact r_int hx hb hr hlk hW (by refine ⟨?_, rfl⟩; first | with_reducible rfl | (simp [bI, Fof, em_79, c_82, c_83, c_84, c_85, c_86, c_87]; done) | (simp_all [bI, Fof]; done)) (Nat.le_of_ble_eq_true rfl) (Nat.le_of_ble_eq_true rfl) dX2_of_88
    by_cases c_88 : b = 6
    · skip
      refine lv_tableIn (tgt := 89) hx hb dX2_of_13 (by rw [c_88]; decide) (by rw [c_88]; decide) (by rw [c_88]; rfl) (by decide) ?_
      refine lv_aload_n hx hb dX2_of_89 rfl (lv_at hl 0 rfl) ?_
      refine hk_get hx hb hts hown hK hW hR hk_80 hs_81 8 (by decide) fl_RX2_98 (v := .int (r 7 (ix (a)))) rfl dX2_of_90 ?_
      refine c_stat (own := RX2) (As := [.int (r 7 (ix (a)))]) (rest := []) hx hb hml hown hts hK hW (k_X2_asInt l _) ml_RX2_65 st_yX2_asInt in_RX2 cd_yX2_asInt 1 (by decide +kernel) ⟨Nat.le_of_ble_eq_true rfl, Nat.le_of_ble_eq_true rfl⟩ rfl hl.1 rfl (Nat.le_of_ble_eq_true rfl) dX2_of_93 ⟨Nat.le_of_ble_eq_true rfl, Nat.le_of_ble_eq_true rfl⟩ (fun v g2 H1 locs1 hp hW hKT => ?_)
      obtain ⟨rfl, hg⟩ := hp
      rw [hg] at hW
      refine W.eq (g2 := F0 m 96 ls [.int (asI (r 7 (ix (a))))]) rfl ?_
      exact r_int hx hb hr hlk hW (by refine ⟨?_, rfl⟩; first | with_reducible rfl | (simp [bI, Fof, em_79, c_82, c_83, c_84, c_85, c_86, c_87, c_88]; done) | (simp_all [bI, Fof]; done)) (Nat.le_of_ble_eq_true rfl) (Nat.le_of_ble_eq_true rfl) dX2_of_96
    refine lv_tableOut (tgt := 97) hx hb dX2_of_13 (by have z0 := lv_neT (a := 0) c_82 (by decide); have z1 := lv_neT (a := 1) c_83 (by decide); have z2 := lv_neT (a := 2) c_84 (by decide); have z3 := lv_neT (a := 3) c_85 (by decide); have z4 := lv_neT (a := 4) c_86 (by decide); have z5 := lv_neT (a := 5) c_87 (by decide); have z6 := lv_neT (a := 6) c_88 (by decide); omega) (by decide) ?_
    refine lv_iconst (v := 0) hx hb dX2_of_97 (by decide) ?_
    exact r_int hx hb hr hlk hW (by refine ⟨?_, rfl⟩; first | with_reducible rfl | (simp [bI, Fof, em_79, c_82, c_83, c_84, c_85, c_86, c_87, c_88]; done) | (simp_all [bI, Fof]; done)) (Nat.le_of_ble_eq_true rfl) (Nat.le_of_ble_eq_true rfl) dX2_of_98
