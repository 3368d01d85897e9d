theorem k_X2_counterAtN (l : Launch) {E : gE} {x xa xk : Nat} {ma pa ka : Nat → Nat} {z : Bool} {r : sg} {g : gm} (hR : HR E x xa xk ma pa ka z r g) {k : Nat} (hk : k < 8) : CM l yX2_counterAt cX2_counterAt 2 (some (.object "PostHall$Counter")) ({ frames := 0, cells := 0, slots := 0, locals := 0 }) E [.ref x, .int (nI k)] g (fun vv g' => (((r 5 k != 0) = false ∧ vv = some .null) ∨ ((r 5 k != 0) = true ∧ vv = some (.ref (ka k)))) ∧ g' = g) := by
  have h := k_X2_counterAt l hR (nI k)
  have e2 : ix (nI k) = k := nI_clamp (by omega)
  rw [isCb_N hk, e2] at h
  exact h

set_option maxHeartbeats 4000000 in
set_option maxRecDepth 100000 in
theorem k_X2_carry_step (l : Launch) {E : gE} {x xa xk : Nat} {ma pa ka : Nat → Nat} {n : Nat} (hn8 : n ≤ 8) (hC : ∀ q, q < n → CarryC l E x xa xk ma pa ka q) : CarryC l E x xa xk ma pa ka n := by
  intro r0 g i cc hcc hR hIV hi
  refine CM.of (by decide) (Nat.le_of_ble_eq_true rfl) ?_
  intro p e s m below meth c ls hM hK hW hl
  obtain ⟨hx, hb, hr, hml, hown, hts, hlk, hnm⟩ := hM
  have hown : s.vm.findClass RX2 = some m.cls := hown
  have hl : lv_has ls 6 [(0, .ref (x)), (1, .ref (ma i)), (2, .int (cc))] := hl
  have loop : ∀ (q : Nat) (r : sg) (g1 : gm), q ≤ n → IV r → i < nm r → carryF q r i = carryF n r0 i → HR E x xa xk ma pa ka false r g1 → ∀ (H : Heap) (locs : List Loc) (ls : Array Slot), PW E (fr g s.heap.size) s.heap H locs g1 → lv_has ls 6 [(3, .int (nI (8 - q))), (0, .ref (x)), (1, .ref (ma i)), (2, .int (cc))] → W p l e ({ frames := 4 * n + 6, cells := 0, slots := 0, locals := 120 * n + 200 }) s m ([.ref (x), .ref (ma i), .int (cc)] : List Value).toArray below meth c H locs 0 0 (MQ below (QC E g s.heap.size (fun vv g' => vv = some (.int (carryF n r0 i).2) ∧ HR E x xa xk ma pa ka false (carryF n r0 i).1 g')) ([.ref (x), .ref (ma i), .int (cc)] : List Value).toArray s (Room.cells ({ frames := 4 * n + 6, cells := 0, slots := 0, locals := 120 * n + 200 })) (Room.slots ({ frames := 4 * n + 6, cells := 0, slots := 0, locals := 120 * n + 200 })) (fr g s.heap.size)) (F0 m 2 ls []) := by
    intro q
    induction q with
    | zero =>
      intro r g1 hq hIV hi hF hR H locs ls hW hl
      refine lv_iload_n hx hb dX2_carry_2 rfl (lv_at hl 0 rfl) ?_
      refine lv_bipush (v := 8) hx hb dX2_carry_3 (by decide) ?_
      refine lv_icmp_ge (tgt := 84) hx hb dX2_carry_5 (by decide) (fun c_256 => ?_) (fun c_256 => ?_)
      · skip
        have c_256 := Int32.not_lt.mpr c_256
        refine lv_aload_n hx hb dX2_carry_84 rfl (lv_at hl 1 rfl) ?_
        refine lv_dup hx hb dX2_carry_85 rfl ?_
        refine h_get hx hb hts hown hK hW hR 7 (by decide) fl_RX2_114 (v := .int (r 17 4)) rfl dX2_carry_86 ?_
        refine lv_iconst (v := 1) hx hb dX2_carry_89 (by decide) ?_
        refine lv_iadd hx hb dX2_carry_90 ?_
        refine h_tput 4 hx hb hts hown hK hW hR 7 (by decide) fl_RX2_114 rfl rfl (by decide) rfl dX2_carry_91 (fun H1 locs1 g1 hW hR => ?_)
        have hR : HR E x xa xk ma pa ka false (tinc r 4) g1 := hR
        refine lv_bipush (v := -4) hx hb dX2_carry_94 (by decide) ?_
        exact r_int hx hb hr hlk hW (by rw [← hF]; exact ⟨rfl, hR⟩) (Nat.le_of_ble_eq_true rfl) (Nat.le_of_ble_eq_true rfl) dX2_carry_96
      · skip
        have c_256 := Int32.not_le.mp c_256
        exact absurd c_256 (by rw [show nI (8 - 0) = (8 : Int32) from rfl]; decide)
    | succ q ih =>
      intro r g1 hq hIV hi hF hR H locs ls hW hl
      obtain ⟨k, hkq⟩ : ∃ k, k = 7 - q := ⟨_, rfl⟩
      rw [show 8 - (q + 1) = k from by omega] at hl
      have eC : carryF (q + 1) r i = (if asksB r k i then (if (meetF (carryF q) r k i).2 = 0 then (tinc (meetF (carryF q) r k i).1 3, nI k) else if (meetF (carryF q) r k i).2 = 5 ∨ (meetF (carryF q) r k i).1 7 k = 0 then ((meetF (carryF q) r k i).1, -10 - (meetF (carryF q) r k i).2) else carryF q (meetF (carryF q) r k i).1 i) else carryF q r i) := by rw [hkq]; rfl
      refine lv_iload_n hx hb dX2_carry_2 rfl (lv_at hl 0 rfl) ?_
      refine lv_bipush (v := 8) hx hb dX2_carry_3 (by decide) ?_
      refine lv_icmp_ge (tgt := 84) hx hb dX2_carry_5 (by decide) (fun c_257 => ?_) (fun c_257 => ?_)
      · skip
        have c_257 := Int32.not_lt.mpr c_257
        exact absurd ((nI_ltI (a := k) (b := 8) (by omega) (by decide)).mpr (by omega)) c_257
      · skip
        have c_257 := Int32.not_le.mp c_257
        refine lv_aload_n hx hb dX2_carry_8 rfl (lv_at hl 1 rfl) ?_
        refine lv_iload_n hx hb dX2_carry_9 rfl (lv_at hl 0 rfl) ?_
        refine c_virt (own := RX2) (As := [.int (nI k)]) (rest := []) hx hb hml hown hts hK hW (k_X2_counterAtN l hR (k := k) (by omega)) ml_RX2_82 im_yX2_counterAt se_yX2_counterAt in_RX2 cd_yX2_counterAt 1 (by decide +kernel) ⟨show 0 + 1 ≤ 4 * n + 6 from by omega, show 8 + (2 + 11) + (0) ≤ 120 * n + 200 from by omega⟩ hR.1 rfl rfl rfl hl.1 rfl (Nat.le_of_ble_eq_true rfl) dX2_carry_10 ⟨Nat.le_of_ble_eq_true rfl, Nat.le_of_ble_eq_true rfl⟩ (fun v g2 H1 locs1 hp hW hKT => ?_)
        obtain ⟨hp, hg⟩ := hp
        rw [hg] at hW
        rcases hp with ⟨em_258, rfl⟩ | ⟨em_259, rfl⟩
        · skip
          refine W.eq (g2 := F0 m 13 ls [.null]) rfl ?_
          refine lv_astoreN (lv' := [(4, .null), (3, .int (nI k)), (0, .ref (x)), (1, .ref (ma i)), (2, .int (cc))]) hx hb dX2_carry_13 hl (by decide) rfl (fun ls hl => ?_)
          refine lv_aloadN hx hb dX2_carry_15 (lv_at hl 0 rfl) ?_
          refine lv_ifnullN (tgt := 78) hx hb dX2_carry_17 (by decide) ?_
          refine lv_iinc (v := (nI k) + (1)) (lv' := [(3, .int ((nI k) + (1))), (4, .null), (0, .ref (x)), (1, .ref (ma i)), (2, .int (cc))]) hx hb dX2_carry_78 hl (k := 1) rfl rfl (by decide) rfl (fun ls hl => ?_)
          refine lv_goto (tgt := 2) hx hb dX2_carry_81 (by decide) ?_
          have e5 : carryF (q + 1) r i = carryF q (r) i := by
            rw [eC]
            simp [asksB, c_257, em_258]
          exact ih _ _ (by omega) hIV hi (by rw [← e5]; exact hF) hR _ _ _ hW (by rw [show nI (8 - q) = nI k + 1 from by rw [nI_1]; congr 1; omega]; exact lv_sub hl [0, 2, 3, 4] rfl)
        · skip
          have hk8 : k < 8 := by omega
          have hs : r 5 k ≠ 0 := by simpa using em_259
          refine W.eq (g2 := F0 m 13 ls [.ref (ka k)]) rfl ?_
          refine lv_astore (lv' := [(4, .ref (ka k)), (3, .int (nI k)), (0, .ref (x)), (1, .ref (ma i)), (2, .int (cc))]) hx hb dX2_carry_13 hl (by decide) rfl (fun ls hl => ?_)
          refine lv_aload hx hb dX2_carry_15 (lv_at hl 0 rfl) ?_
          refine lv_ifnull hx hb dX2_carry_17 ?_
          refine lv_aload hx hb dX2_carry_20 (lv_at hl 0 rfl) ?_
          refine lv_aload_n hx hb dX2_carry_22 rfl (lv_at hl 3 rfl) ?_
          refine c_virt (own := RX2) (As := [.ref (ma i)]) (rest := []) hx hb hml hown hts hK hW (k_X0_asksFor l hR hk8 hs hi) ml_RX2_136 im_yX0_asksFor se_yX0_asksFor in_RX0 cd_yX0_asksFor 1 (by decide +kernel) ⟨show 2 + 1 ≤ 4 * n + 6 from by omega, show 8 + (2 + 11) + (43) ≤ 120 * n + 200 from by omega⟩ (hR.2.2.2.2.1 _ hk8 hs) rfl rfl rfl hl.1 rfl (Nat.le_of_ble_eq_true rfl) dX2_carry_23 ⟨Nat.le_of_ble_eq_true rfl, Nat.le_of_ble_eq_true rfl⟩ (fun v g2 H1 locs1 hp hW hKT => ?_)
          obtain ⟨rfl, hg⟩ := hp
          rw [hg] at hW
          refine W.eq (g2 := F0 m 26 ls [.int (bI (r 6 k == 0 && fitB r i (r 8 k) (r 9 k)))]) rfl ?_
          refine lv_if_ne (tgt := 32) hx hb dX2_carry_26 (by decide) (fun c_260 => ?_) (fun c_260 => ?_)
          · skip
            have c_260 := bI_ne0 c_260
            refine lv_aload_n hx hb dX2_carry_32 rfl (lv_at hl 2 rfl) ?_
            refine lv_aload hx hb dX2_carry_33 (lv_at hl 0 rfl) ?_
            refine lv_aload_n hx hb dX2_carry_35 rfl (lv_at hl 3 rfl) ?_
            refine c_virt (own := RX2) (As := [.ref (ka k), .ref (ma i)]) (rest := []) hx hb hml hown hts hK hW (k_X2_meet l hR hIV (n := q) (k := k) (by omega) hk8 hs hi (hC q (by omega))) ml_RX2_139 im_yX2_meet se_yX2_meet in_RX2 cd_yX2_meet 2 (by decide +kernel) ⟨show 4 * q + 9 + 1 ≤ 4 * n + 6 from by omega, show 8 + (4 + 11) + (120 * q + 285) ≤ 120 * n + 200 from by omega⟩ hR.1 rfl rfl rfl hl.1 rfl (Nat.le_of_ble_eq_true rfl) dX2_carry_36 ⟨Nat.le_of_ble_eq_true rfl, Nat.le_of_ble_eq_true rfl⟩ (fun v g2 H1 locs1 hp hW hKT => ?_)
            obtain ⟨rfl, hR⟩ := hp
            refine W.eq (g2 := F0 m 39 ls [.int ((meetF (carryF q) r k i).2)]) rfl ?_
            have hok : OK r (meetF (carryF q) r k i).1 := meet_ok (carry_ok q) hIV hk8 hs hi
            have hs2 : (meetF (carryF q) r k i).1 5 k ≠ 0 := by rw [hok.2.1 5 (by omega)]; exact hs
            have hi2 : i < nm (meetF (carryF q) r k i).1 := by rw [hok.cnt]; exact hi
            refine lv_istore (lv' := [(5, .int ((meetF (carryF q) r k i).2)), (4, .ref (ka k)), (3, .int (nI k)), (0, .ref (x)), (1, .ref (ma i)), (2, .int (cc))]) hx hb dX2_carry_39 hl (by decide) rfl (fun ls hl => ?_)
            refine lv_iload hx hb dX2_carry_41 (lv_at hl 0 rfl) ?_
            refine lv_if_ne (tgt := 58) hx hb dX2_carry_43 (by decide) (fun c_261 => ?_) (fun c_261 => ?_)
            · skip
              refine lv_iload hx hb dX2_carry_58 (lv_at hl 0 rfl) ?_
              refine lv_iconst (v := 5) hx hb dX2_carry_60 (by decide) ?_
              refine lv_icmp_eq (tgt := 72) hx hb dX2_carry_61 (by decide) (fun c_262 => ?_) (fun c_262 => ?_)
              · skip
                refine lv_bipush (v := -10) hx hb dX2_carry_72 (by decide) ?_
                refine lv_iload hx hb dX2_carry_74 (lv_at hl 0 rfl) ?_
                refine lv_isub hx hb dX2_carry_76 ?_
                exact r_int hx hb hr hlk hW (by have e1 : carryF (q + 1) r i = ((meetF (carryF q) r k i).1, (-10) - ((meetF (carryF q) r k i).2)) := (by rw [eC]; simp [asksB, c_257, em_259, c_260, c_261, c_262]); rw [← hF, e1]; exact ⟨rfl, hR⟩) (Nat.le_of_ble_eq_true rfl) (Nat.le_of_ble_eq_true rfl) dX2_carry_77
              · skip
                refine lv_aload hx hb dX2_carry_64 (lv_at hl 1 rfl) ?_
                refine hk_get hx hb hts hown hK hW hR hk8 hs2 8 (by decide) fl_RX2_98 (v := .int (((meetF (carryF q) r k i).1) 7 k)) rfl dX2_carry_66 ?_
                refine lv_if_ne (tgt := 78) hx hb dX2_carry_69 (by decide) (fun c_263 => ?_) (fun c_263 => ?_)
                · skip
                  refine lv_iinc (v := (nI k) + (1)) (lv' := [(3, .int ((nI k) + (1))), (5, .int ((meetF (carryF q) r k i).2)), (4, .ref (ka k)), (0, .ref (x)), (1, .ref (ma i)), (2, .int (cc))]) hx hb dX2_carry_78 hl (k := 2) rfl rfl (by decide) rfl (fun ls hl => ?_)
                  refine lv_goto (tgt := 2) hx hb dX2_carry_81 (by decide) ?_
                  have e5 : carryF (q + 1) r i = carryF q ((meetF (carryF q) r k i).1) i := by
                    rw [eC]
                    simp [asksB, c_257, em_259, c_260, c_261, c_262, c_263]
                  exact ih _ _ (by omega) hok.1 hi2 (by rw [← e5]; exact hF) hR _ _ _ hW (by rw [show nI (8 - q) = nI k + 1 from by rw [nI_1]; congr 1; omega]; exact lv_sub hl [0, 3, 4, 5] rfl)
                · skip
                  refine lv_bipush (v := -10) hx hb dX2_carry_72 (by decide) ?_
                  refine lv_iload hx hb dX2_carry_74 (lv_at hl 0 rfl) ?_
                  refine lv_isub hx hb dX2_carry_76 ?_
                  exact r_int hx hb hr hlk hW (by have e1 : carryF (q + 1) r i = ((meetF (carryF q) r k i).1, (-10) - ((meetF (carryF q) r k i).2)) := (by rw [eC]; simp [asksB, c_257, em_259, c_260, c_261, c_262, c_263]); rw [← hF, e1]; exact ⟨rfl, hR⟩) (Nat.le_of_ble_eq_true rfl) (Nat.le_of_ble_eq_true rfl) dX2_carry_77
            · skip
              refine lv_aload_n hx hb dX2_carry_46 rfl (lv_at hl 3 rfl) ?_
              refine lv_dup hx hb dX2_carry_47 rfl ?_
              refine h_get hx hb hts hown hK hW hR 6 (by decide) fl_RX2_111 (v := .int (((meetF (carryF q) r k i).1) 17 3)) rfl dX2_carry_48 ?_
              refine lv_iconst (v := 1) hx hb dX2_carry_51 (by decide) ?_
              refine lv_iadd hx hb dX2_carry_52 ?_
              refine h_tput 3 hx hb hts hown hK hW hR 6 (by decide) fl_RX2_111 rfl rfl (by decide) rfl dX2_carry_53 (fun H1 locs1 g1 hW hR => ?_)
              have hR : HR E x xa xk ma pa ka false (tinc ((meetF (carryF q) r k i).1) 3) g1 := hR
              refine lv_iload_n hx hb dX2_carry_56 rfl (lv_at hl 2 rfl) ?_
              exact r_int hx hb hr hlk hW (by have e1 : carryF (q + 1) r i = (tinc ((meetF (carryF q) r k i).1) 3, nI k) := (by rw [eC]; simp [asksB, c_257, em_259, c_260, c_261]); rw [← hF, e1]; exact ⟨rfl, hR⟩) (Nat.le_of_ble_eq_true rfl) (Nat.le_of_ble_eq_true rfl) dX2_carry_57
          · skip
            have c_260 := (bI_eq0 _).mp c_260
            refine lv_goto (tgt := 78) hx hb dX2_carry_29 (by decide) ?_
            refine lv_iinc (v := (nI k) + (1)) (lv' := [(3, .int ((nI k) + (1))), (4, .ref (ka k)), (0, .ref (x)), (1, .ref (ma i)), (2, .int (cc))]) hx hb dX2_carry_78 hl (k := 1) rfl rfl (by decide) rfl (fun ls hl => ?_)
            refine lv_goto (tgt := 2) hx hb dX2_carry_81 (by decide) ?_
            have e5 : carryF (q + 1) r i = carryF q (r) i := by
              rw [eC]
              simp [asksB, c_257, em_259, c_260]
            exact ih _ _ (by omega) hIV hi (by rw [← e5]; exact hF) hR _ _ _ hW (by rw [show nI (8 - q) = nI k + 1 from by rw [nI_1]; congr 1; omega]; exact lv_sub hl [0, 2, 3, 4] rfl)
  refine lv_iload_n hx hb dX2_carry_0 rfl (lv_at hl 2 rfl) ?_
  refine lv_istore_n (lv' := [(3, .int (cc)), (0, .ref (x)), (1, .ref (ma i)), (2, .int (cc))]) hx hb dX2_carry_1 rfl hl (by decide) rfl (fun ls hl => ?_)
  exact loop n r0 g (Nat.le_refl _) hIV hi rfl hR _ _ _ hW (by rw [← hcc]; exact lv_sub hl [0, 1, 2, 3] rfl)

theorem k_X2_carry (l : Launch) {E : gE} {x xa xk : Nat} {ma pa ka : Nat → Nat} : ∀ n, n ≤ 8 → CarryC l E x xa xk ma pa ka n := by
  intro n
  induction n using Nat.strongRecOn with
  | _ n ih => exact fun hn => k_X2_carry_step l hn (fun q hq => ih q hq (by omega))
