def holdB (r : sg) (n : Nat) (x : Int32) : Bool := x == -1 || fitB r (ix x) (r 0 n) (r 1 n - 1)
theorem isMb_n1 {r : sg} {m : Int32} (h : isMb r m = true) : (m == -1) = false := by
  cases hq : (m == -1) with
  | false => rfl
  | true => exact absurd (by rw [beq_iff_eq.mp hq]; decide) (isMb_nn h)
def Fplace (r : sg) (m i x : Int32) : Int32 × sg := if isMb r m && (isMb r x || x == -1) then (if hasP r (ix m) i && holdB r (ix m) x then (1, s2 r 4 (8 * ix m + ix i) x) else (-5, r)) else (-2, r)
def Ffigure (r : sg) (m i v : Int32) : Int32 × sg := if isMb r m then (if hasN r (ix m) i then (1, s2 r 4 (8 * ix m + ix i) (lowI (r 0 (ix m)) v)) else (-5, r)) else (-2, r)
def Fjob (r : sg) (k j n o q : Int32) : Int32 × sg := if isCb r k && (canB r (ix k) j && ((o == -1 || isMb r o) && (!decide (q < 0) && !decide (1 < q)))) then (1, s2 (s2 (s2 (s2 r 12 (ix k) j) 13 (ix k) n) 14 (ix k) o) 7 (ix k) (if q = 1 then 1 else 0)) else (-2, r)
def Fshut (r : sg) (k : Int32) (on : Bool) : Int32 × sg := if isCb r k then (asI (r 6 (ix k)), s2 r 6 (ix k) (bI on)) else (-2, r)

set_option maxHeartbeats 4000000 in
set_option maxRecDepth 100000 in
theorem k_X2_place (l : Launch) {E : gE} {x xa xk : Nat} {ma pa ka : Nat → Nat} {z : Bool} {r : sg} {g : gm} (hR : HR E x xa xk ma pa ka z r g) (a b d : Int32) : CM l yX2_place cX2_place 6 (some .int) ({ frames := 3, cells := 0, slots := 0, locals := 64 }) E [.ref (x), .int (a), .int (b), .int (d)] g (fun vv g' => vv = some (.int (Fplace r a b d).1) ∧ HR E x xa xk ma pa ka z (Fplace r a b d).2 g') := by
  refine CM.of (by decide) (Nat.le_of_ble_eq_true rfl) ?_
  intro p e s m below meth c ls hM hK hW hl
  obtain ⟨hx, hb, hr, hml, hown, hts, hlk, hnm⟩ := hM
  have hown : s.vm.findClass RX2 = some m.cls := hown
  have hl : lv_has ls 6 [(0, .ref (x)), (1, .int (a)), (2, .int (b)), (3, .int (d))] := hl
  refine lv_aload_n hx hb dX2_place_0 rfl (lv_at hl 0 rfl) ?_
  refine lv_iload_n hx hb dX2_place_1 rfl (lv_at hl 1 rfl) ?_
  refine c_virt (own := RX2) (As := [.int (a)]) (rest := []) hx hb hml hown hts hK hW (k_X2_messageAt l hR (a)) ml_RX2_33 im_yX2_messageAt se_yX2_messageAt in_RX2 cd_yX2_messageAt 1 (by decide +kernel) ⟨Nat.le_of_ble_eq_true rfl, Nat.le_of_ble_eq_true rfl⟩ hR.1 rfl rfl rfl hl.1 rfl (Nat.le_of_ble_eq_true rfl) dX2_place_2 ⟨Nat.le_of_ble_eq_true rfl, Nat.le_of_ble_eq_true rfl⟩ (fun v g2 H1 locs1 hp hW hKT => ?_)
  obtain ⟨hp, hg⟩ := hp
  rw [hg] at hW
  rcases hp with ⟨em_89, rfl⟩ | ⟨em_90, rfl⟩
  · skip
    refine W.eq (g2 := F0 m 5 ls [.null]) rfl ?_
    refine lv_astoreN (lv' := [(4, .null), (0, .ref (x)), (1, .int (a)), (2, .int (b)), (3, .int (d))]) hx hb dX2_place_5 hl (by decide) rfl (fun ls hl => ?_)
    refine lv_aload_n hx hb dX2_place_7 rfl (lv_at hl 1 rfl) ?_
    refine lv_iload_n hx hb dX2_place_8 rfl (lv_at hl 4 rfl) ?_
    refine c_virt (own := RX2) (As := [.int (d)]) (rest := []) hx hb hml hown hts hK hW (k_X2_messageAt l hR (d)) ml_RX2_33 im_yX2_messageAt se_yX2_messageAt in_RX2 cd_yX2_messageAt 1 (by decide +kernel) ⟨Nat.le_of_ble_eq_true rfl, Nat.le_of_ble_eq_true rfl⟩ hR.1 rfl rfl rfl hl.1 rfl (Nat.le_of_ble_eq_true rfl) dX2_place_9 ⟨Nat.le_of_ble_eq_true rfl, Nat.le_of_ble_eq_true rfl⟩ (fun v g2 H1 locs1 hp hW hKT => ?_)
    obtain ⟨hp, hg⟩ := hp
    rw [hg] at hW
    rcases hp with ⟨em_92, rfl⟩ | ⟨em_93, rfl⟩
    · skip
      refine W.eq (g2 := F0 m 12 ls [.null]) rfl ?_
      refine lv_astoreN (lv' := [(5, .null), (4, .null), (0, .ref (x)), (1, .int (a)), (2, .int (b)), (3, .int (d))]) hx hb dX2_place_12 hl (by decide) rfl (fun ls hl => ?_)
      refine lv_aloadN hx hb dX2_place_14 (lv_at hl 1 rfl) ?_
      refine lv_ifnullN (tgt := 29) hx hb dX2_place_16 (by decide) ?_
      refine lv_bipush (v := -2) hx hb dX2_place_29 (by decide) ?_
      exact r_int hx hb hr hlk hW (by have e1 : Fplace r a b d = (-2, r) := (by first | (simp [Fplace, holdB, bI, isMb_n1, em_89, em_92]; done) | (simp_all [Fplace, holdB, bI, isMb_n1]; done)); rw [e1]; exact ⟨rfl, hR⟩) (Nat.le_of_ble_eq_true rfl) (Nat.le_of_ble_eq_true rfl) dX2_place_31
    · skip
      have hi_94 := isMb_lt em_93
      have nhi_94 := isMb_ne em_93
      refine W.eq (g2 := F0 m 12 ls [.ref (ma (ix (d)))]) rfl ?_
      refine lv_astore (lv' := [(5, .ref (ma (ix (d)))), (4, .null), (0, .ref (x)), (1, .int (a)), (2, .int (b)), (3, .int (d))]) hx hb dX2_place_12 hl (by decide) rfl (fun ls hl => ?_)
      refine lv_aloadN hx hb dX2_place_14 (lv_at hl 1 rfl) ?_
      refine lv_ifnullN (tgt := 29) hx hb dX2_place_16 (by decide) ?_
      refine lv_bipush (v := -2) hx hb dX2_place_29 (by decide) ?_
      exact r_int hx hb hr hlk hW (by have e1 : Fplace r a b d = (-2, r) := (by first | (simp [Fplace, holdB, bI, isMb_n1, em_89, em_93, nhi_94]; done) | (simp_all [Fplace, holdB, bI, isMb_n1]; done)); rw [e1]; exact ⟨rfl, hR⟩) (Nat.le_of_ble_eq_true rfl) (Nat.le_of_ble_eq_true rfl) dX2_place_31
  · skip
    have hi_91 := isMb_lt em_90
    have nhi_91 := isMb_ne em_90
    refine W.eq (g2 := F0 m 5 ls [.ref (ma (ix (a)))]) rfl ?_
    refine lv_astore (lv' := [(4, .ref (ma (ix (a)))), (0, .ref (x)), (1, .int (a)), (2, .int (b)), (3, .int (d))]) hx hb dX2_place_5 hl (by decide) rfl (fun ls hl => ?_)
    refine lv_aload_n hx hb dX2_place_7 rfl (lv_at hl 1 rfl) ?_
    refine lv_iload_n hx hb dX2_place_8 rfl (lv_at hl 4 rfl) ?_
    refine c_virt (own := RX2) (As := [.int (d)]) (rest := []) hx hb hml hown hts hK hW (k_X2_messageAt l hR (d)) ml_RX2_33 im_yX2_messageAt se_yX2_messageAt in_RX2 cd_yX2_messageAt 1 (by decide +kernel) ⟨Nat.le_of_ble_eq_true rfl, Nat.le_of_ble_eq_true rfl⟩ hR.1 rfl rfl rfl hl.1 rfl (Nat.le_of_ble_eq_true rfl) dX2_place_9 ⟨Nat.le_of_ble_eq_true rfl, Nat.le_of_ble_eq_true rfl⟩ (fun v g2 H1 locs1 hp hW hKT => ?_)
    obtain ⟨hp, hg⟩ := hp
    rw [hg] at hW
    rcases hp with ⟨em_95, rfl⟩ | ⟨em_96, rfl⟩
    · skip
      refine W.eq (g2 := F0 m 12 ls [.null]) rfl ?_
      refine lv_astoreN (lv' := [(5, .null), (4, .ref (ma (ix (a)))), (0, .ref (x)), (1, .int (a)), (2, .int (b)), (3, .int (d))]) hx hb dX2_place_12 hl (by decide) rfl (fun ls hl => ?_)
      refine lv_aload hx hb dX2_place_14 (lv_at hl 1 rfl) ?_
      refine lv_ifnull hx hb dX2_place_16 ?_
      refine lv_aloadN hx hb dX2_place_19 (lv_at hl 0 rfl) ?_
      refine lv_ifnonnullN hx hb dX2_place_21 ?_
      refine lv_iload_n hx hb dX2_place_24 rfl (lv_at hl 5 rfl) ?_
      refine lv_iconst (v := -1) hx hb dX2_place_25 (by decide) ?_
      refine lv_icmp_eq (tgt := 32) hx hb dX2_place_26 (by decide) (fun c_98 => ?_) (fun c_98 => ?_)
      · skip
        refine lv_aload hx hb dX2_place_32 (lv_at hl 1 rfl) ?_
        refine lv_iload_n hx hb dX2_place_34 rfl (lv_at hl 4 rfl) ?_
        refine c_virt (own := RX2) (As := [.int (b)]) (rest := []) hx hb hml hown hts hK hW (k_X1_hasMessagePlace l hR hi_91 _) ml_RX2_37 im_yX1_hasMessagePlace se_yX1_hasMessagePlace in_RX1 cd_yX1_hasMessagePlace 1 (by decide +kernel) ⟨Nat.le_of_ble_eq_true rfl, Nat.le_of_ble_eq_true rfl⟩ (hR.2.2.2.1 _ hi_91).1 rfl rfl rfl hl.1 rfl (Nat.le_of_ble_eq_true rfl) dX2_place_35 ⟨Nat.le_of_ble_eq_true rfl, Nat.le_of_ble_eq_true rfl⟩ (fun v g2 H1 locs1 hp hW hKT => ?_)
        obtain ⟨rfl, hg⟩ := hp
        rw [hg] at hW
        refine W.eq (g2 := F0 m 38 ls [.int (bI (hasP r (ix (a)) (b)))]) rfl ?_
        refine lv_if_eq (tgt := 51) hx hb dX2_place_38 (by decide) (fun c_99 => ?_) (fun c_99 => ?_)
        · skip
          have c_99 := (bI_eq0 _).mp c_99
          refine lv_bipush (v := -5) hx hb dX2_place_51 (by decide) ?_
          exact r_int hx hb hr hlk hW (by have e1 : Fplace r a b d = (-5, r) := (by first | (simp [Fplace, holdB, bI, isMb_n1, em_90, nhi_91, em_95, c_98, c_99]; done) | (simp_all [Fplace, holdB, bI, isMb_n1]; done)); rw [e1]; exact ⟨rfl, hR⟩) (Nat.le_of_ble_eq_true rfl) (Nat.le_of_ble_eq_true rfl) dX2_place_53
        · skip
          have c_99 := bI_ne0 c_99
          refine lv_aload hx hb dX2_place_41 (lv_at hl 1 rfl) ?_
          refine lv_aloadN hx hb dX2_place_43 (lv_at hl 0 rfl) ?_
          refine c_virt (own := RX2) (As := [.null]) (rest := []) hx hb hml hown hts hK hW (k_X1_holdsN l hR hi_91) ml_RX2_41 im_yX1_holds se_yX1_holds in_RX1 cd_yX1_holds 1 (by decide +kernel) ⟨Nat.le_of_ble_eq_true rfl, Nat.le_of_ble_eq_true rfl⟩ (hR.2.2.2.1 _ hi_91).1 rfl rfl rfl hl.1 rfl (Nat.le_of_ble_eq_true rfl) dX2_place_45 ⟨Nat.le_of_ble_eq_true rfl, Nat.le_of_ble_eq_true rfl⟩ (fun v g2 H1 locs1 hp hW hKT => ?_)
          obtain ⟨rfl, hg⟩ := hp
          rw [hg] at hW
          refine W.eq (g2 := F0 m 48 ls [.int (bI true)]) rfl ?_
          refine lv_if_ne (tgt := 54) hx hb dX2_place_48 (by decide) (fun c_100 => ?_) (fun c_100 => ?_)
          · skip
            have c_100 := bI_ne0 c_100
            refine lv_aload hx hb dX2_place_54 (lv_at hl 1 rfl) ?_
            refine hm_get hx hb hts hown hK hW hR hi_91 4 (by decide) fl_RX2_45 (v := .ref (pa (ix (a)))) rfl dX2_place_56 ?_
            refine lv_iload_n hx hb dX2_place_59 rfl (lv_at hl 4 rfl) ?_
            refine lv_iload_n hx hb dX2_place_60 rfl (lv_at hl 5 rfl) ?_
            refine hp_ast hx hb hK hW hR hi_91 (hasP_lt c_99).1 (hasP_lt c_99).2 dX2_place_61 (fun H1 locs1 g1 hW hR => ?_)
            refine lv_iconst (v := 1) hx hb dX2_place_62 (by decide) ?_
            exact r_int hx hb hr hlk hW (by have e1 : Fplace r a b d = (1, s2 r 4 (8 * (ix (a)) + ix b) (d)) := (by first | (simp [Fplace, holdB, bI, isMb_n1, em_90, nhi_91, em_95, c_98, c_99, c_100]; done) | (simp_all [Fplace, holdB, bI, isMb_n1]; done)); rw [e1]; exact ⟨rfl, hR⟩) (Nat.le_of_ble_eq_true rfl) (Nat.le_of_ble_eq_true rfl) dX2_place_63
          · skip
            have c_100 := (bI_eq0 _).mp c_100
            refine lv_bipush (v := -5) hx hb dX2_place_51 (by decide) ?_
            exact r_int hx hb hr hlk hW (by have e1 : Fplace r a b d = (-5, r) := (by first | (simp [Fplace, holdB, bI, isMb_n1, em_90, nhi_91, em_95, c_98, c_99, c_100]; done) | (simp_all [Fplace, holdB, bI, isMb_n1]; done)); rw [e1]; exact ⟨rfl, hR⟩) (Nat.le_of_ble_eq_true rfl) (Nat.le_of_ble_eq_true rfl) dX2_place_53
      · skip
        refine lv_bipush (v := -2) hx hb dX2_place_29 (by decide) ?_
        exact r_int hx hb hr hlk hW (by have e1 : Fplace r a b d = (-2, r) := (by first | (simp [Fplace, holdB, bI, isMb_n1, em_90, nhi_91, em_95, c_98]; done) | (simp_all [Fplace, holdB, bI, isMb_n1]; done)); rw [e1]; exact ⟨rfl, hR⟩) (Nat.le_of_ble_eq_true rfl) (Nat.le_of_ble_eq_true rfl) dX2_place_31
    · skip
      have hi_97 := isMb_lt em_96
      have nhi_97 := isMb_ne em_96
      refine W.eq (g2 := F0 m 12 ls [.ref (ma (ix (d)))]) rfl ?_
      refine lv_astore (lv' := [(5, .ref (ma (ix (d)))), (4, .ref (ma (ix (a)))), (0, .ref (x)), (1, .int (a)), (2, .int (b)), (3, .int (d))]) hx hb dX2_place_12 hl (by decide) rfl (fun ls hl => ?_)
      refine lv_aload hx hb dX2_place_14 (lv_at hl 1 rfl) ?_
      refine lv_ifnull hx hb dX2_place_16 ?_
      refine lv_aload hx hb dX2_place_19 (lv_at hl 0 rfl) ?_
      refine lv_ifnonnull (tgt := 32) hx hb dX2_place_21 (by decide) ?_
      refine lv_aload hx hb dX2_place_32 (lv_at hl 1 rfl) ?_
      refine lv_iload_n hx hb dX2_place_34 rfl (lv_at hl 4 rfl) ?_
      refine c_virt (own := RX2) (As := [.int (b)]) (rest := []) hx hb hml hown hts hK hW (k_X1_hasMessagePlace l hR hi_91 _) ml_RX2_37 im_yX1_hasMessagePlace se_yX1_hasMessagePlace in_RX1 cd_yX1_hasMessagePlace 1 (by decide +kernel) ⟨Nat.le_of_ble_eq_true rfl, Nat.le_of_ble_eq_true rfl⟩ (hR.2.2.2.1 _ hi_91).1 rfl rfl rfl hl.1 rfl (Nat.le_of_ble_eq_true rfl) dX2_place_35 ⟨Nat.le_of_ble_eq_true rfl, Nat.le_of_ble_eq_true rfl⟩ (fun v g2 H1 locs1 hp hW hKT => ?_)
      obtain ⟨rfl, hg⟩ := hp
      rw [hg] at hW
      refine W.eq (g2 := F0 m 38 ls [.int (bI (hasP r (ix (a)) (b)))]) rfl ?_
      refine lv_if_eq (tgt := 51) hx hb dX2_place_38 (by decide) (fun c_101 => ?_) (fun c_101 => ?_)
      · skip
        have c_101 := (bI_eq0 _).mp c_101
        refine lv_bipush (v := -5) hx hb dX2_place_51 (by decide) ?_
        exact r_int hx hb hr hlk hW (by have e1 : Fplace r a b d = (-5, r) := (by first | (simp [Fplace, holdB, bI, isMb_n1, em_90, nhi_91, em_96, nhi_97, c_101]; done) | (simp_all [Fplace, holdB, bI, isMb_n1]; done)); rw [e1]; exact ⟨rfl, hR⟩) (Nat.le_of_ble_eq_true rfl) (Nat.le_of_ble_eq_true rfl) dX2_place_53
      · skip
        have c_101 := bI_ne0 c_101
        refine lv_aload hx hb dX2_place_41 (lv_at hl 1 rfl) ?_
        refine lv_aload hx hb dX2_place_43 (lv_at hl 0 rfl) ?_
        refine c_virt (own := RX2) (As := [.ref (ma (ix (d)))]) (rest := []) hx hb hml hown hts hK hW (k_X1_holds l hR hi_91 hi_97) ml_RX2_41 im_yX1_holds se_yX1_holds in_RX1 cd_yX1_holds 1 (by decide +kernel) ⟨Nat.le_of_ble_eq_true rfl, Nat.le_of_ble_eq_true rfl⟩ (hR.2.2.2.1 _ hi_91).1 rfl rfl rfl hl.1 rfl (Nat.le_of_ble_eq_true rfl) dX2_place_45 ⟨Nat.le_of_ble_eq_true rfl, Nat.le_of_ble_eq_true rfl⟩ (fun v g2 H1 locs1 hp hW hKT => ?_)
        obtain ⟨rfl, hg⟩ := hp
        rw [hg] at hW
        refine W.eq (g2 := F0 m 48 ls [.int (bI (fitB r (ix (d)) (r 0 (ix (a))) (r 1 (ix (a)) - 1)))]) rfl ?_
        refine lv_if_ne (tgt := 54) hx hb dX2_place_48 (by decide) (fun c_102 => ?_) (fun c_102 => ?_)
        · skip
          have c_102 := bI_ne0 c_102
          refine lv_aload hx hb dX2_place_54 (lv_at hl 1 rfl) ?_
          refine hm_get hx hb hts hown hK hW hR hi_91 4 (by decide) fl_RX2_45 (v := .ref (pa (ix (a)))) rfl dX2_place_56 ?_
          refine lv_iload_n hx hb dX2_place_59 rfl (lv_at hl 4 rfl) ?_
          refine lv_iload_n hx hb dX2_place_60 rfl (lv_at hl 5 rfl) ?_
          refine hp_ast hx hb hK hW hR hi_91 (hasP_lt c_101).1 (hasP_lt c_101).2 dX2_place_61 (fun H1 locs1 g1 hW hR => ?_)
          refine lv_iconst (v := 1) hx hb dX2_place_62 (by decide) ?_
          exact r_int hx hb hr hlk hW (by have e1 : Fplace r a b d = (1, s2 r 4 (8 * (ix (a)) + ix b) (d)) := (by first | (simp [Fplace, holdB, bI, isMb_n1, em_90, nhi_91, em_96, nhi_97, c_101, c_102]; done) | (simp_all [Fplace, holdB, bI, isMb_n1]; done)); rw [e1]; exact ⟨rfl, hR⟩) (Nat.le_of_ble_eq_true rfl) (Nat.le_of_ble_eq_true rfl) dX2_place_63
        · skip
          have c_102 := (bI_eq0 _).mp c_102
          refine lv_bipush (v := -5) hx hb dX2_place_51 (by decide) ?_
          exact r_int hx hb hr hlk hW (by have e1 : Fplace r a b d = (-5, r) := (by first | (simp [Fplace, holdB, bI, isMb_n1, em_90, nhi_91, em_96, nhi_97, c_101, c_102]; done) | (simp_all [Fplace, holdB, bI, isMb_n1]; done)); rw [e1]; exact ⟨rfl, hR⟩) (Nat.le_of_ble_eq_true rfl) (Nat.le_of_ble_eq_true rfl) dX2_place_53

set_option maxHeartbeats 4000000 in
set_option maxRecDepth 100000 in
theorem k_X2_figure (l : Launch) {E : gE} {x xa xk : Nat} {ma pa ka : Nat → Nat} {z : Bool} {r : sg} {g : gm} (hR : HR E x xa xk ma pa ka z r g) (a b d : Int32) : CM l yX2_figure cX2_figure 5 (some .int) ({ frames := 1, cells := 0, slots := 0, locals := 21 }) E [.ref (x), .int (a), .int (b), .int (d)] g (fun vv g' => vv = some (.int (Ffigure r a b d).1) ∧ HR E x xa xk ma pa ka z (Ffigure r a b d).2 g') := by
  refine CM.of (by decide) (Nat.le_of_ble_eq_true rfl) ?_
  intro p e s m below meth c ls hM hK hW hl
  obtain ⟨hx, hb, hr, hml, hown, hts, hlk, hnm⟩ := hM
  have hown : s.vm.findClass RX2 = some m.cls := hown
  have hl : lv_has ls 5 [(0, .ref (x)), (1, .int (a)), (2, .int (b)), (3, .int (d))] := hl
  refine lv_aload_n hx hb dX2_figure_0 rfl (lv_at hl 0 rfl) ?_
  refine lv_iload_n hx hb dX2_figure_1 rfl (lv_at hl 1 rfl) ?_
  refine c_virt (own := RX2) (As := [.int (a)]) (rest := []) hx hb hml hown hts hK hW (k_X2_messageAt l hR (a)) ml_RX2_33 im_yX2_messageAt se_yX2_messageAt in_RX2 cd_yX2_messageAt 1 (by decide +kernel) ⟨Nat.le_of_ble_eq_true rfl, Nat.le_of_ble_eq_true rfl⟩ hR.1 rfl rfl rfl hl.1 rfl (Nat.le_of_ble_eq_true rfl) dX2_figure_2 ⟨Nat.le_of_ble_eq_true rfl, Nat.le_of_ble_eq_true rfl⟩ (fun v g2 H1 locs1 hp hW hKT => ?_)
  obtain ⟨hp, hg⟩ := hp
  rw [hg] at hW
  rcases hp with ⟨em_103, rfl⟩ | ⟨em_104, rfl⟩
  · skip
    refine W.eq (g2 := F0 m 5 ls [.null]) rfl ?_
    refine lv_astoreN (lv' := [(4, .null), (0, .ref (x)), (1, .int (a)), (2, .int (b)), (3, .int (d))]) hx hb dX2_figure_5 hl (by decide) rfl (fun ls hl => ?_)
    refine lv_aloadN hx hb dX2_figure_7 (lv_at hl 0 rfl) ?_
    refine lv_ifnonnullN hx hb dX2_figure_9 ?_
    refine lv_bipush (v := -2) hx hb dX2_figure_12 (by decide) ?_
    exact r_int hx hb hr hlk hW (by have e1 : Ffigure r a b d = (-2, r) := (by first | (simp [Ffigure, em_103]; done) | (simp_all [Ffigure]; done)); rw [e1]; exact ⟨rfl, hR⟩) (Nat.le_of_ble_eq_true rfl) (Nat.le_of_ble_eq_true rfl) dX2_figure_14
  · skip
    have hi_105 := isMb_lt em_104
    have nhi_105 := isMb_ne em_104
    refine W.eq (g2 := F0 m 5 ls [.ref (ma (ix (a)))]) rfl ?_
    refine lv_astore (lv' := [(4, .ref (ma (ix (a)))), (0, .ref (x)), (1, .int (a)), (2, .int (b)), (3, .int (d))]) hx hb dX2_figure_5 hl (by decide) rfl (fun ls hl => ?_)
    refine lv_aload hx hb dX2_figure_7 (lv_at hl 0 rfl) ?_
    refine lv_ifnonnull (tgt := 15) hx hb dX2_figure_9 (by decide) ?_
    refine lv_aload hx hb dX2_figure_15 (lv_at hl 0 rfl) ?_
    refine lv_iload_n hx hb dX2_figure_17 rfl (lv_at hl 3 rfl) ?_
    refine c_virt (own := RX2) (As := [.int (b)]) (rest := []) hx hb hml hown hts hK hW (k_X1_hasNumber l hR hi_105 _) ml_RX2_49 im_yX1_hasNumber se_yX1_hasNumber in_RX1 cd_yX1_hasNumber 1 (by decide +kernel) ⟨Nat.le_of_ble_eq_true rfl, Nat.le_of_ble_eq_true rfl⟩ (hR.2.2.2.1 _ hi_105).1 rfl rfl rfl hl.1 rfl (Nat.le_of_ble_eq_true rfl) dX2_figure_18 ⟨Nat.le_of_ble_eq_true rfl, Nat.le_of_ble_eq_true rfl⟩ (fun v g2 H1 locs1 hp hW hKT => ?_)
    obtain ⟨rfl, hg⟩ := hp
    rw [hg] at hW
    refine W.eq (g2 := F0 m 21 ls [.int (bI (hasN r (ix (a)) (b)))]) rfl ?_
    refine lv_if_ne (tgt := 27) hx hb dX2_figure_21 (by decide) (fun c_106 => ?_) (fun c_106 => ?_)
    · skip
      have c_106 := bI_ne0 c_106
      refine lv_aload hx hb dX2_figure_27 (lv_at hl 0 rfl) ?_
      refine hm_get hx hb hts hown hK hW hR hi_105 4 (by decide) fl_RX2_45 (v := .ref (pa (ix (a)))) rfl dX2_figure_29 ?_
      refine lv_iload_n hx hb dX2_figure_32 rfl (lv_at hl 3 rfl) ?_
      refine lv_aload hx hb dX2_figure_33 (lv_at hl 0 rfl) ?_
      refine lv_iload_n hx hb dX2_figure_35 rfl (lv_at hl 4 rfl) ?_
      refine c_virt (own := RX2) (As := [.int (d)]) (rest := [.int (b), .ref (pa (ix (a)))]) hx hb hml hown hts hK hW (k_X1_lowestBits l hR hi_105 _) ml_RX2_52 im_yX1_lowestBits se_yX1_lowestBits in_RX1 cd_yX1_lowestBits 1 (by decide +kernel) ⟨Nat.le_of_ble_eq_true rfl, Nat.le_of_ble_eq_true rfl⟩ (hR.2.2.2.1 _ hi_105).1 rfl rfl rfl hl.1 rfl (Nat.le_of_ble_eq_true rfl) dX2_figure_36 ⟨Nat.le_of_ble_eq_true rfl, Nat.le_of_ble_eq_true rfl⟩ (fun v g2 H1 locs1 hp hW hKT => ?_)
      obtain ⟨rfl, hg⟩ := hp
      rw [hg] at hW
      refine W.eq (g2 := F0 m 39 ls [.int (lowI (r 0 (ix (a))) (d)), .int (b), .ref (pa (ix (a)))]) rfl ?_
      refine hp_ast hx hb hK hW hR hi_105 (hasN_lt c_106).1 (hasN_lt c_106).2 dX2_figure_39 (fun H1 locs1 g1 hW hR => ?_)
      refine lv_iconst (v := 1) hx hb dX2_figure_40 (by decide) ?_
      exact r_int hx hb hr hlk hW (by have e1 : Ffigure r a b d = (1, s2 r 4 (8 * (ix (a)) + ix b) (lowI (r 0 (ix (a))) (d))) := (by first | (simp [Ffigure, em_104, nhi_105, c_106]; done) | (simp_all [Ffigure]; done)); rw [e1]; exact ⟨rfl, hR⟩) (Nat.le_of_ble_eq_true rfl) (Nat.le_of_ble_eq_true rfl) dX2_figure_41
    · skip
      have c_106 := (bI_eq0 _).mp c_106
      refine lv_bipush (v := -5) hx hb dX2_figure_24 (by decide) ?_
      exact r_int hx hb hr hlk hW (by have e1 : Ffigure r a b d = (-5, r) := (by first | (simp [Ffigure, em_104, nhi_105, c_106]; done) | (simp_all [Ffigure]; done)); rw [e1]; exact ⟨rfl, hR⟩) (Nat.le_of_ble_eq_true rfl) (Nat.le_of_ble_eq_true rfl) dX2_figure_26

set_option maxHeartbeats 4000000 in
set_option maxRecDepth 100000 in
theorem k_X2_job (l : Launch) {E : gE} {x xa xk : Nat} {ma pa ka : Nat → Nat} {z : Bool} {r : sg} {g : gm} (hR : HR E x xa xk ma pa ka z r g) (a b d f q : Int32) : CM l yX2_job cX2_job 7 (some .int) ({ frames := 2, cells := 0, slots := 0, locals := 42 }) E [.ref (x), .int (a), .int (b), .int (d), .int (f), .int (q)] g (fun vv g' => vv = some (.int (Fjob r a b d f q).1) ∧ HR E x xa xk ma pa ka z (Fjob r a b d f q).2 g') := by
  refine CM.of (by decide) (Nat.le_of_ble_eq_true rfl) ?_
  intro p e s m below meth c ls hM hK hW hl
  obtain ⟨hx, hb, hr, hml, hown, hts, hlk, hnm⟩ := hM
  have hown : s.vm.findClass RX2 = some m.cls := hown
  have hl : lv_has ls 7 [(0, .ref (x)), (1, .int (a)), (2, .int (b)), (3, .int (d)), (4, .int (f)), (5, .int (q))] := hl
  refine lv_aload_n hx hb dX2_job_0 rfl (lv_at hl 0 rfl) ?_
  refine lv_iload_n hx hb dX2_job_1 rfl (lv_at hl 1 rfl) ?_
  refine c_virt (own := RX2) (As := [.int (a)]) (rest := []) hx hb hml hown hts hK hW (k_X2_counterAt l hR (a)) ml_RX2_82 im_yX2_counterAt se_yX2_counterAt in_RX2 cd_yX2_counterAt 1 (by decide +kernel) ⟨Nat.le_of_ble_eq_true rfl, Nat.le_of_ble_eq_true rfl⟩ hR.1 rfl rfl rfl hl.1 rfl (Nat.le_of_ble_eq_true rfl) dX2_job_2 ⟨Nat.le_of_ble_eq_true rfl, Nat.le_of_ble_eq_true rfl⟩ (fun v g2 H1 locs1 hp hW hKT => ?_)
  obtain ⟨hp, hg⟩ := hp
  rw [hg] at hW
  rcases hp with ⟨em_107, rfl⟩ | ⟨em_108, rfl⟩
  · skip
    refine W.eq (g2 := F0 m 5 ls [.null]) rfl ?_
    refine lv_astoreN (lv' := [(6, .null), (0, .ref (x)), (1, .int (a)), (2, .int (b)), (3, .int (d)), (4, .int (f)), (5, .int (q))]) hx hb dX2_job_5 hl (by decide) rfl (fun ls hl => ?_)
    refine lv_aloadN hx hb dX2_job_7 (lv_at hl 0 rfl) ?_
    refine lv_ifnullN (tgt := 21) hx hb dX2_job_9 (by decide) ?_
    refine lv_bipush (v := -2) hx hb dX2_job_21 (by decide) ?_
    exact r_int hx hb hr hlk hW (by have e1 : Fjob r a b d f q = (-2, r) := (by first | (simp [Fjob, isMb_n1, em_107]; done) | (simp_all [Fjob, isMb_n1]; done)); rw [e1]; exact ⟨rfl, hR⟩) (Nat.le_of_ble_eq_true rfl) (Nat.le_of_ble_eq_true rfl) dX2_job_23
  · skip
    have hk_109 := isCb_lt em_108
    have hs_110 := isCb_s em_108
    refine W.eq (g2 := F0 m 5 ls [.ref (ka (ix (a)))]) rfl ?_
    refine lv_astore (lv' := [(6, .ref (ka (ix (a)))), (0, .ref (x)), (1, .int (a)), (2, .int (b)), (3, .int (d)), (4, .int (f)), (5, .int (q))]) hx hb dX2_job_5 hl (by decide) rfl (fun ls hl => ?_)
    refine lv_aload hx hb dX2_job_7 (lv_at hl 0 rfl) ?_
    refine lv_ifnull hx hb dX2_job_9 ?_
    refine lv_aload hx hb dX2_job_12 (lv_at hl 0 rfl) ?_
    refine lv_iload_n hx hb dX2_job_14 rfl (lv_at hl 3 rfl) ?_
    refine c_virt (own := RX2) (As := [.int (b)]) (rest := []) hx hb hml hown hts hK hW (k_X0_canDo l hR hk_109 hs_110 _) ml_RX2_86 im_yX0_canDo se_yX0_canDo in_RX0 cd_yX0_canDo 1 (by decide +kernel) ⟨Nat.le_of_ble_eq_true rfl, Nat.le_of_ble_eq_true rfl⟩ (hR.2.2.2.2.1 _ hk_109 hs_110) rfl rfl rfl hl.1 rfl (Nat.le_of_ble_eq_true rfl) dX2_job_15 ⟨Nat.le_of_ble_eq_true rfl, Nat.le_of_ble_eq_true rfl⟩ (fun v g2 H1 locs1 hp hW hKT => ?_)
    obtain ⟨rfl, hg⟩ := hp
    rw [hg] at hW
    refine W.eq (g2 := F0 m 18 ls [.int (bI (canB r (ix (a)) (b)))]) rfl ?_
    refine lv_if_ne (tgt := 24) hx hb dX2_job_18 (by decide) (fun c_111 => ?_) (fun c_111 => ?_)
    · skip
      have c_111 := bI_ne0 c_111
      refine lv_iload hx hb dX2_job_24 (lv_at hl 5 rfl) ?_
      refine lv_iconst (v := -1) hx hb dX2_job_26 (by decide) ?_
      refine lv_icmp_eq (tgt := 39) hx hb dX2_job_27 (by decide) (fun c_112 => ?_) (fun c_112 => ?_)
      · skip
        refine lv_iload hx hb dX2_job_39 (lv_at hl 6 rfl) ?_
        refine lv_if_lt (tgt := 50) hx hb dX2_job_41 (by decide) (fun c_113 => ?_) (fun c_113 => ?_)
        · skip
          refine lv_bipush (v := -2) hx hb dX2_job_50 (by decide) ?_
          exact r_int hx hb hr hlk hW (by have e1 : Fjob r a b d f q = (-2, r) := (by first | (simp [Fjob, isMb_n1, em_108, c_111, c_112, c_113]; done) | (simp_all [Fjob, isMb_n1]; done)); rw [e1]; exact ⟨rfl, hR⟩) (Nat.le_of_ble_eq_true rfl) (Nat.le_of_ble_eq_true rfl) dX2_job_52
        · skip
          refine lv_iload hx hb dX2_job_44 (lv_at hl 6 rfl) ?_
          refine lv_iconst (v := 1) hx hb dX2_job_46 (by decide) ?_
          refine lv_icmp_le (tgt := 53) hx hb dX2_job_47 (by decide) (fun c_114 => ?_) (fun c_114 => ?_)
          · skip
            have c_114 := Int32.not_lt.mpr c_114
            refine lv_aload hx hb dX2_job_53 (lv_at hl 0 rfl) ?_
            refine lv_iload_n hx hb dX2_job_55 rfl (lv_at hl 3 rfl) ?_
            refine hk_put 12 hx hb hts hown hK hW hR hk_109 hs_110 5 (by decide) fl_RX2_89 rfl rfl rfl (by decide) (by simp [s2_a]) dX2_job_56 (fun H1 locs1 g1 hW hR => ?_)
            refine lv_aload hx hb dX2_job_59 (lv_at hl 0 rfl) ?_
            refine lv_iload_n hx hb dX2_job_61 rfl (lv_at hl 4 rfl) ?_
            refine hk_put 13 hx hb hts hown hK hW hR hk_109 hs_110 6 (by decide) fl_RX2_92 rfl rfl rfl (by decide) (by simp [s2_a]) dX2_job_62 (fun H1 locs1 g1 hW hR => ?_)
            refine lv_aload hx hb dX2_job_65 (lv_at hl 0 rfl) ?_
            refine lv_iload hx hb dX2_job_67 (lv_at hl 5 rfl) ?_
            refine hk_put 14 hx hb hts hown hK hW hR hk_109 hs_110 7 (by decide) fl_RX2_95 rfl rfl rfl (by decide) (by simp [s2_a]) dX2_job_69 (fun H1 locs1 g1 hW hR => ?_)
            refine lv_aload hx hb dX2_job_72 (lv_at hl 0 rfl) ?_
            refine lv_iload hx hb dX2_job_74 (lv_at hl 6 rfl) ?_
            refine lv_iconst (v := 1) hx hb dX2_job_76 (by decide) ?_
            refine lv_icmp_ne (tgt := 84) hx hb dX2_job_77 (by decide) (fun c_115 => ?_) (fun c_115 => ?_)
            · skip
              refine lv_iconst (v := 0) hx hb dX2_job_84 (by decide) ?_
              refine hk_put 7 hx hb hts hown hK hW hR hk_109 hs_110 8 (by decide) fl_RX2_98 rfl rfl rfl (by decide) (by simp [s2_a]) dX2_job_85 (fun H1 locs1 g1 hW hR => ?_)
              refine lv_iconst (v := 1) hx hb dX2_job_88 (by decide) ?_
              exact r_int hx hb hr hlk hW (by have e1 : Fjob r a b d f q = (1, s2 (s2 (s2 (s2 r 12 (ix (a)) (b)) 13 (ix (a)) (d)) 14 (ix (a)) (f)) 7 (ix (a)) (0)) := (by first | (simp [Fjob, isMb_n1, em_108, c_111, c_112, c_113, c_114, c_115]; done) | (simp_all [Fjob, isMb_n1]; done)); rw [e1]; exact ⟨rfl, hR⟩) (Nat.le_of_ble_eq_true rfl) (Nat.le_of_ble_eq_true rfl) dX2_job_89
            · skip
              refine lv_iconst (v := 1) hx hb dX2_job_80 (by decide) ?_
              refine lv_goto (tgt := 85) hx hb dX2_job_81 (by decide) ?_
              refine hk_put 7 hx hb hts hown hK hW hR hk_109 hs_110 8 (by decide) fl_RX2_98 rfl rfl rfl (by decide) (by simp [s2_a]) dX2_job_85 (fun H1 locs1 g1 hW hR => ?_)
              refine lv_iconst (v := 1) hx hb dX2_job_88 (by decide) ?_
              exact r_int hx hb hr hlk hW (by have e1 : Fjob r a b d f q = (1, s2 (s2 (s2 (s2 r 12 (ix (a)) (b)) 13 (ix (a)) (d)) 14 (ix (a)) (f)) 7 (ix (a)) (1)) := (by first | (simp [Fjob, isMb_n1, em_108, c_111, c_112, c_113, c_114, c_115]; done) | (simp_all [Fjob, isMb_n1]; done)); rw [e1]; exact ⟨rfl, hR⟩) (Nat.le_of_ble_eq_true rfl) (Nat.le_of_ble_eq_true rfl) dX2_job_89
          · skip
            have c_114 := Int32.not_le.mp c_114
            refine lv_bipush (v := -2) hx hb dX2_job_50 (by decide) ?_
            exact r_int hx hb hr hlk hW (by have e1 : Fjob r a b d f q = (-2, r) := (by first | (simp [Fjob, isMb_n1, em_108, c_111, c_112, c_113, c_114]; done) | (simp_all [Fjob, isMb_n1]; done)); rw [e1]; exact ⟨rfl, hR⟩) (Nat.le_of_ble_eq_true rfl) (Nat.le_of_ble_eq_true rfl) dX2_job_52
      · skip
        refine lv_aload_n hx hb dX2_job_30 rfl (lv_at hl 1 rfl) ?_
        refine lv_iload hx hb dX2_job_31 (lv_at hl 5 rfl) ?_
        refine c_virt (own := RX2) (As := [.int (f)]) (rest := []) hx hb hml hown hts hK hW (k_X2_messageAt l hR (f)) ml_RX2_33 im_yX2_messageAt se_yX2_messageAt in_RX2 cd_yX2_messageAt 1 (by decide +kernel) ⟨Nat.le_of_ble_eq_true rfl, Nat.le_of_ble_eq_true rfl⟩ hR.1 rfl rfl rfl hl.1 rfl (Nat.le_of_ble_eq_true rfl) dX2_job_33 ⟨Nat.le_of_ble_eq_true rfl, Nat.le_of_ble_eq_true rfl⟩ (fun v g2 H1 locs1 hp hW hKT => ?_)
        obtain ⟨hp, hg⟩ := hp
        rw [hg] at hW
        rcases hp with ⟨em_116, rfl⟩ | ⟨em_117, rfl⟩
        · skip
          refine W.eq (g2 := F0 m 36 ls [.null]) rfl ?_
          refine lv_ifnullN (tgt := 50) hx hb dX2_job_36 (by decide) ?_
          refine lv_bipush (v := -2) hx hb dX2_job_50 (by decide) ?_
          exact r_int hx hb hr hlk hW (by have e1 : Fjob r a b d f q = (-2, r) := (by first | (simp [Fjob, isMb_n1, em_108, c_111, c_112, em_116]; done) | (simp_all [Fjob, isMb_n1]; done)); rw [e1]; exact ⟨rfl, hR⟩) (Nat.le_of_ble_eq_true rfl) (Nat.le_of_ble_eq_true rfl) dX2_job_52
        · skip
          have hi_118 := isMb_lt em_117
          have nhi_118 := isMb_ne em_117
          refine W.eq (g2 := F0 m 36 ls [.ref (ma (ix (f)))]) rfl ?_
          refine lv_ifnull hx hb dX2_job_36 ?_
          refine lv_iload hx hb dX2_job_39 (lv_at hl 6 rfl) ?_
          refine lv_if_lt (tgt := 50) hx hb dX2_job_41 (by decide) (fun c_119 => ?_) (fun c_119 => ?_)
          · skip
            refine lv_bipush (v := -2) hx hb dX2_job_50 (by decide) ?_
            exact r_int hx hb hr hlk hW (by have e1 : Fjob r a b d f q = (-2, r) := (by first | (simp [Fjob, isMb_n1, em_108, c_111, c_112, em_117, nhi_118, c_119]; done) | (simp_all [Fjob, isMb_n1]; done)); rw [e1]; exact ⟨rfl, hR⟩) (Nat.le_of_ble_eq_true rfl) (Nat.le_of_ble_eq_true rfl) dX2_job_52
          · skip
            refine lv_iload hx hb dX2_job_44 (lv_at hl 6 rfl) ?_
            refine lv_iconst (v := 1) hx hb dX2_job_46 (by decide) ?_
            refine lv_icmp_le (tgt := 53) hx hb dX2_job_47 (by decide) (fun c_120 => ?_) (fun c_120 => ?_)
            · skip
              have c_120 := Int32.not_lt.mpr c_120
              refine lv_aload hx hb dX2_job_53 (lv_at hl 0 rfl) ?_
              refine lv_iload_n hx hb dX2_job_55 rfl (lv_at hl 3 rfl) ?_
              refine hk_put 12 hx hb hts hown hK hW hR hk_109 hs_110 5 (by decide) fl_RX2_89 rfl rfl rfl (by decide) (by simp [s2_a]) dX2_job_56 (fun H1 locs1 g1 hW hR => ?_)
              refine lv_aload hx hb dX2_job_59 (lv_at hl 0 rfl) ?_
              refine lv_iload_n hx hb dX2_job_61 rfl (lv_at hl 4 rfl) ?_
              refine hk_put 13 hx hb hts hown hK hW hR hk_109 hs_110 6 (by decide) fl_RX2_92 rfl rfl rfl (by decide) (by simp [s2_a]) dX2_job_62 (fun H1 locs1 g1 hW hR => ?_)
              refine lv_aload hx hb dX2_job_65 (lv_at hl 0 rfl) ?_
              refine lv_iload hx hb dX2_job_67 (lv_at hl 5 rfl) ?_
              refine hk_put 14 hx hb hts hown hK hW hR hk_109 hs_110 7 (by decide) fl_RX2_95 rfl rfl rfl (by decide) (by simp [s2_a]) dX2_job_69 (fun H1 locs1 g1 hW hR => ?_)
              refine lv_aload hx hb dX2_job_72 (lv_at hl 0 rfl) ?_
              refine lv_iload hx hb dX2_job_74 (lv_at hl 6 rfl) ?_
              refine lv_iconst (v := 1) hx hb dX2_job_76 (by decide) ?_
              refine lv_icmp_ne (tgt := 84) hx hb dX2_job_77 (by decide) (fun c_121 => ?_) (fun c_121 => ?_)
              · skip
                refine lv_iconst (v := 0) hx hb dX2_job_84 (by decide) ?_
                refine hk_put 7 hx hb hts hown hK hW hR hk_109 hs_110 8 (by decide) fl_RX2_98 rfl rfl rfl (by decide) (by simp [s2_a]) dX2_job_85 (fun H1 locs1 g1 hW hR => ?_)
                refine lv_iconst (v := 1) hx hb dX2_job_88 (by decide) ?_
                exact r_int hx hb hr hlk hW (by have e1 : Fjob r a b d f q = (1, s2 (s2 (s2 (s2 r 12 (ix (a)) (b)) 13 (ix (a)) (d)) 14 (ix (a)) (f)) 7 (ix (a)) (0)) := (by first | (simp [Fjob, isMb_n1, em_108, c_111, c_112, em_117, nhi_118, c_119, c_120, c_121]; done) | (simp_all [Fjob, isMb_n1]; done)); rw [e1]; exact ⟨rfl, hR⟩) (Nat.le_of_ble_eq_true rfl) (Nat.le_of_ble_eq_true rfl) dX2_job_89
              · skip
                refine lv_iconst (v := 1) hx hb dX2_job_80 (by decide) ?_
                refine lv_goto (tgt := 85) hx hb dX2_job_81 (by decide) ?_
                refine hk_put 7 hx hb hts hown hK hW hR hk_109 hs_110 8 (by decide) fl_RX2_98 rfl rfl rfl (by decide) (by simp [s2_a]) dX2_job_85 (fun H1 locs1 g1 hW hR => ?_)
                refine lv_iconst (v := 1) hx hb dX2_job_88 (by decide) ?_
                exact r_int hx hb hr hlk hW (by have e1 : Fjob r a b d f q = (1, s2 (s2 (s2 (s2 r 12 (ix (a)) (b)) 13 (ix (a)) (d)) 14 (ix (a)) (f)) 7 (ix (a)) (1)) := (by first | (simp [Fjob, isMb_n1, em_108, c_111, c_112, em_117, nhi_118, c_119, c_120, c_121]; done) | (simp_all [Fjob, isMb_n1]; done)); rw [e1]; exact ⟨rfl, hR⟩) (Nat.le_of_ble_eq_true rfl) (Nat.le_of_ble_eq_true rfl) dX2_job_89
            · skip
              have c_120 := Int32.not_le.mp c_120
              refine lv_bipush (v := -2) hx hb dX2_job_50 (by decide) ?_
              exact r_int hx hb hr hlk hW (by have e1 : Fjob r a b d f q = (-2, r) := (by first | (simp [Fjob, isMb_n1, em_108, c_111, c_112, em_117, nhi_118, c_119, c_120]; done) | (simp_all [Fjob, isMb_n1]; done)); rw [e1]; exact ⟨rfl, hR⟩) (Nat.le_of_ble_eq_true rfl) (Nat.le_of_ble_eq_true rfl) dX2_job_52
    · skip
      have c_111 := (bI_eq0 _).mp c_111
      refine lv_bipush (v := -2) hx hb dX2_job_21 (by decide) ?_
      exact r_int hx hb hr hlk hW (by have e1 : Fjob r a b d f q = (-2, r) := (by first | (simp [Fjob, isMb_n1, em_108, c_111]; done) | (simp_all [Fjob, isMb_n1]; done)); rw [e1]; exact ⟨rfl, hR⟩) (Nat.le_of_ble_eq_true rfl) (Nat.le_of_ble_eq_true rfl) dX2_job_23

set_option maxHeartbeats 4000000 in
set_option maxRecDepth 100000 in
theorem k_X2_shut (l : Launch) {E : gE} {x xa xk : Nat} {ma pa ka : Nat → Nat} {z : Bool} {r : sg} {g : gm} (hR : HR E x xa xk ma pa ka z r g) (a : Int32) (b : Bool) : CM l yX2_shut cX2_shut 5 (some .int) ({ frames := 1, cells := 0, slots := 0, locals := 21 }) E [.ref (x), .int (a), .int (bI b)] g (fun vv g' => vv = some (.int (Fshut r a b).1) ∧ HR E x xa xk ma pa ka z (Fshut r a b).2 g') := by
  refine CM.of (by decide) (Nat.le_of_ble_eq_true rfl) ?_
  intro p e s m below meth c ls hM hK hW hl
  obtain ⟨hx, hb, hr, hml, hown, hts, hlk, hnm⟩ := hM
  have hown : s.vm.findClass RX2 = some m.cls := hown
  have hl : lv_has ls 5 [(0, .ref (x)), (1, .int (a)), (2, .int (bI b))] := hl
  refine lv_aload_n hx hb dX2_shut_0 rfl (lv_at hl 0 rfl) ?_
  refine lv_iload_n hx hb dX2_shut_1 rfl (lv_at hl 1 rfl) ?_
  refine c_virt (own := RX2) (As := [.int (a)]) (rest := []) hx hb hml hown hts hK hW (k_X2_counterAt l hR (a)) ml_RX2_82 im_yX2_counterAt se_yX2_counterAt in_RX2 cd_yX2_counterAt 1 (by decide +kernel) ⟨Nat.le_of_ble_eq_true rfl, Nat.le_of_ble_eq_true rfl⟩ hR.1 rfl rfl rfl hl.1 rfl (Nat.le_of_ble_eq_true rfl) dX2_shut_2 ⟨Nat.le_of_ble_eq_true rfl, Nat.le_of_ble_eq_true rfl⟩ (fun v g2 H1 locs1 hp hW hKT => ?_)
  obtain ⟨hp, hg⟩ := hp
  rw [hg] at hW
  rcases hp with ⟨em_122, rfl⟩ | ⟨em_123, rfl⟩
  · skip
    refine W.eq (g2 := F0 m 5 ls [.null]) rfl ?_
    refine lv_astore_nN (lv' := [(3, .null), (0, .ref (x)), (1, .int (a)), (2, .int (bI b))]) hx hb dX2_shut_5 rfl hl (by decide) rfl (fun ls hl => ?_)
    refine lv_aload_nN hx hb dX2_shut_6 rfl (lv_at hl 0 rfl) ?_
    refine lv_ifnonnullN hx hb dX2_shut_7 ?_
    refine lv_bipush (v := -2) hx hb dX2_shut_10 (by decide) ?_
    exact r_int hx hb hr hlk hW (by have e1 : Fshut r a b = (-2, r) := (by first | (simp [Fshut, em_122]; done) | (simp_all [Fshut]; done)); rw [e1]; exact ⟨rfl, hR⟩) (Nat.le_of_ble_eq_true rfl) (Nat.le_of_ble_eq_true rfl) dX2_shut_12
  · skip
    have hk_124 := isCb_lt em_123
    have hs_125 := isCb_s em_123
    refine W.eq (g2 := F0 m 5 ls [.ref (ka (ix (a)))]) rfl ?_
    refine lv_astore_n (lv' := [(3, .ref (ka (ix (a)))), (0, .ref (x)), (1, .int (a)), (2, .int (bI b))]) hx hb dX2_shut_5 rfl hl (by decide) rfl (fun ls hl => ?_)
    refine lv_aload_n hx hb dX2_shut_6 rfl (lv_at hl 0 rfl) ?_
    refine lv_ifnonnull (tgt := 13) hx hb dX2_shut_7 (by decide) ?_
    refine lv_aload_n hx hb dX2_shut_13 rfl (lv_at hl 0 rfl) ?_
    refine hk_get hx hb hts hown hK hW hR hk_124 hs_125 9 (by decide) fl_RX2_102 (v := .int (r 6 (ix (a)))) rfl dX2_shut_14 ?_
    refine c_stat (own := RX2) (As := [.int (r 6 (ix (a)))]) (rest := []) hx hb hml hown hts hK hW (k_X2_asInt l _) ml_RX2_65 st_yX2_asInt in_RX2 cd_yX2_asInt 1 (by decide +kernel) ⟨Nat.le_of_ble_eq_true rfl, Nat.le_of_ble_eq_true rfl⟩ rfl hl.1 rfl (Nat.le_of_ble_eq_true rfl) dX2_shut_17 ⟨Nat.le_of_ble_eq_true rfl, Nat.le_of_ble_eq_true rfl⟩ (fun v g2 H1 locs1 hp hW hKT => ?_)
    obtain ⟨rfl, hg⟩ := hp
    rw [hg] at hW
    refine W.eq (g2 := F0 m 20 ls [.int (asI (r 6 (ix (a))))]) rfl ?_
    refine lv_istore (lv' := [(4, .int (asI (r 6 (ix (a))))), (3, .ref (ka (ix (a)))), (0, .ref (x)), (1, .int (a)), (2, .int (bI b))]) hx hb dX2_shut_20 hl (by decide) rfl (fun ls hl => ?_)
    refine lv_aload_n hx hb dX2_shut_22 rfl (lv_at hl 1 rfl) ?_
    refine lv_iload_n hx hb dX2_shut_23 rfl (lv_at hl 4 rfl) ?_
    refine hk_put 6 hx hb hts hown hK hW hR hk_124 hs_125 9 (by decide) fl_RX2_102 rfl (nb_bI _) (fb_bI _) (by decide) (by simp [s2_a]) dX2_shut_24 (fun H1 locs1 g1 hW hR => ?_)
    refine lv_iload hx hb dX2_shut_27 (lv_at hl 0 rfl) ?_
    exact r_int hx hb hr hlk hW (by have e1 : Fshut r a b = (asI (r 6 (ix (a))), s2 r 6 (ix (a)) (bI b)) := (by first | (simp [Fshut, em_123]; done) | (simp_all [Fshut]; done)); rw [e1]; exact ⟨rfl, hR⟩) (Nat.le_of_ble_eq_true rfl) (Nat.le_of_ble_eq_true rfl) dX2_shut_29
