set_option maxHeartbeats 40000000 in
set_option maxRecDepth 100000 in
/-- the law's loop: at its head, with q calls done, the hall and the model hold one state -/
theorem law_loop {p : Program} {l : Launch} {e : Env} {s : State} {m : MethodId} {below : List Frame} {meth : Method} {c : Code} {E : gE} {x xa xk y : Nat} {ad : Nat → Nat} {b L : Nat} {xs : Nat → Int32} (hL : L ≤ 3072) (C0 : lw_At p s m meth c b L xs) (hK : KC E s) :
    ∀ (k q : Nat) (ma pa ka : Nat → Nat) (r t : sg) (z : Bool) (gx gy : gm) (H : Heap) (locs : List Loc) (ls : Array Slot), L < 6 * q + k → 6 * q ≤ L → LI r z q → HR E x xa xk ma pa ka z r gx → MR E y ad r t gy → PW E (fun a : Nat => s.heap.size ≤ a) s.heap H locs gx → PW E (fun a : Nat => s.heap.size ≤ a) s.heap H locs gy → (∀ a, (gy a).isSome = true → gx a = none) → lv_has ls 4 [(0, .ref (b)), (1, .ref (x)), (2, .ref (y)), (3, .int (nI (6 * q)))] → W p l e room_1 s m #[Value.ref b] below meth c H locs (100 + 2 * q) (2000 + 14 * q) (lw_Z below #[Value.ref b] s) (F0 m 18 ls []) := by
  obtain ⟨hx, hb, hr, hml, hown, hts0, hX, hbl, hlocks, hgv⟩ := C0
  have hown : s.vm.findClass RL = some m.cls := hown
  have hts : ∀ w ∈ wsL_law, w.before #[Value.ref b] s = true := fun w hw => hts0 w (wsL_law_in w hw)
  have hbA : ¬ (fun a : Nat => s.heap.size ≤ a) b := Nat.not_le.mpr hbl
  intro k
  induction k with
  | zero =>
    intro q ma pa ka r t z gx gy H locs ls h1 h2
    exact absurd h1 (by omega)
  | succ k ih =>
    intro q ma pa ka r t z gx gy H locs ls hk1 hqL hLI hR hM hW1 hW2 hdis hl
    have nxt : 6 * q + 6 ≤ L → ∀ (ma pa ka : Nat → Nat) (r t : sg) (z : Bool) (gx gy : gm) (H : Heap) (locs : List Loc) (ls : Array Slot) (ce sl : Nat), ce ≤ 100 + 2 * (q + 1) → sl ≤ 2000 + 14 * (q + 1) → LI r z (q + 1) → HR E x xa xk ma pa ka z r gx → MR E y ad r t gy → PW E (fun a : Nat => s.heap.size ≤ a) s.heap H locs gx → PW E (fun a : Nat => s.heap.size ≤ a) s.heap H locs gy → (∀ a, (gy a).isSome = true → gx a = none) → lv_has ls 4 [(0, .ref (b)), (1, .ref (x)), (2, .ref (y)), (3, .int (nI (6 * q)))] → W p l e room_1 s m #[Value.ref b] below meth c H locs (ce) (sl) (lw_Z below #[Value.ref b] s) (F0 m 699 ls []) := by
      intro hq6 ma pa ka r t z gx gy H locs ls ce sl hce hsl hLI hR hM hW1 hW2 hdis hl
      refine lv_iinc (v := (nI (6 * q)) + (6)) (lv' := [(3, .int ((nI (6 * q)) + (6))), (0, .ref (b)), (1, .ref (x)), (2, .ref (y))]) hx hb dL_law_699 hl (k := 3) rfl rfl (by decide) rfl (fun ls hl => ?_)
      refine lv_goto (tgt := 18) hx hb dL_law_702 (by decide) ?_
      refine W.widen (k := 100 + 2 * (q + 1)) (n := 2000 + 14 * (q + 1)) hce hsl ?_
      exact ih (q + 1) ma pa ka r t z gx gy H locs ls (by omega) (by omega) hLI hR hM hW1 hW2 hdis (by rw [show nI (6 * (q + 1)) = nI (6 * q) + 6 from by rw [show (6 : Int32) = nI 6 from rfl, nI_add]; congr 1]; exact lv_sub hl [1, 2, 3, 0] rfl)
    have hIV := hLI.1
    have hz := hLI.2.1
    subst hz
    have hq9 : q ≤ 512 := by omega
    refine lv_iload_n hx hb dL_law_18 rfl (lv_at hl 3 rfl) ?_
    refine lv_aload_n hx hb dL_law_19 rfl (lv_at hl 0 rfl) ?_
    refine va_slen hx hb hX hbl hbA hW1.2.1 dL_law_20 ?_
    refine W.eq (g2 := F0 m 21 ls [.int (nI L), .int (nI (6 * q))]) rfl ?_
    refine lv_bipush (v := 6) hx hb dL_law_21 (by decide) ?_
    refine lv_isub hx hb dL_law_23 ?_
    refine lv_icmp_gt (tgt := 705) hx hb dL_law_24 (by decide) (fun c_600 => ?_) (fun c_600 => ?_)
    · skip
      refine lv_iconst (v := 1) hx hb dL_law_705 (by decide) ?_
      refine va_forget (fun q9 hq9 => hW1.2.1.2.2 q9 hq9) ?_
      refine W.widen (k := 634830) (n := 7197757) (by omega) (by omega) ?_
      exact lw_ret hx hb hr hlocks dL_law_706
    · skip
      have hq6 := law_c hL hqL c_600
      refine lv_aload_n hx hb dL_law_27 rfl (lv_at hl 0 rfl) ?_
      refine lv_iload_n hx hb dL_law_28 rfl (lv_at hl 3 rfl) ?_
      refine l_sld (j := 6 * q) hx hb hX hbl hbA hW1.2.1 hL rfl (by omega) dL_law_29 ?_
      refine lv_bipush (v := 15) hx hb dL_law_30 (by decide) ?_
      refine lv_iand hx hb dL_law_32 ?_
      by_cases c_601 : (xs (6 * q)) &&& (15) = 0
      · skip
        refine lv_tableIn (tgt := 108) hx hb dL_law_33 (by rw [c_601]; decide) (by rw [c_601]; decide) (by rw [c_601]; rfl) (by decide) ?_
        refine lv_aload_n hx hb dL_law_108 rfl (lv_at hl 1 rfl) ?_
        refine lv_aload_n hx hb dL_law_109 rfl (lv_at hl 0 rfl) ?_
        refine lv_iload_n hx hb dL_law_110 rfl (lv_at hl 3 rfl) ?_
        refine lv_iconst (v := 1) hx hb dL_law_111 (by decide) ?_
        refine lv_iadd hx hb dL_law_112 ?_
        refine l_sld (j := 6 * q + 1) hx hb hX hbl hbA hW1.2.1 hL ((add_e rfl (rfl : (1 : Int32) = nI 1))) (by omega) dL_law_113 ?_
        refine lv_aload_n hx hb dL_law_114 rfl (lv_at hl 0 rfl) ?_
        refine lv_iload_n hx hb dL_law_115 rfl (lv_at hl 3 rfl) ?_
        refine lv_iconst (v := 2) hx hb dL_law_116 (by decide) ?_
        refine lv_iadd hx hb dL_law_117 ?_
        refine l_sld (j := 6 * q + 2) hx hb hX hbl hbA hW1.2.1 hL ((add_e rfl (rfl : (2 : Int32) = nI 2))) (by omega) dL_law_118 ?_
        refine c_virt (own := RL) (As := [.int (xs (6 * q + 1)), .int (xs (6 * q + 2))]) (rest := []) hx hb hml hown hts hK hW1 (k_X2_slip l hR hIV.1 _ _) ml_RL_13 im_yX2_slip se_yX2_slip in_RX2 cd_yX2_slip 2 (by decide +kernel) ⟨Nat.le_of_ble_eq_true rfl, Nat.le_of_ble_eq_true rfl⟩ hR.1 rfl rfl rfl hl.1 rfl (Nat.le_of_ble_eq_true rfl) dL_law_119 ⟨show 100 + 2 * q + 2 ≤ 634830 from by omega, show 2000 + 14 * q + 14 ≤ 7197757 from by omega⟩ (fun v g2 H1 locs1 hp hW1 hKT => ?_)
        obtain ⟨hW2, hdis⟩ := hKT gy hW2 hdis
        obtain ⟨rfl, ma, pa, hR⟩ := hp
        refine W.eq (g2 := F0 m 122 ls [.int ((Fslip r (xs (6 * q + 1)) (xs (6 * q + 2))).1)]) rfl ?_
        refine lv_aload_n hx hb dL_law_122 rfl (lv_at hl 2 rfl) ?_
        refine lv_aload_n hx hb dL_law_123 rfl (lv_at hl 0 rfl) ?_
        refine lv_iload_n hx hb dL_law_124 rfl (lv_at hl 3 rfl) ?_
        refine lv_iconst (v := 1) hx hb dL_law_125 (by decide) ?_
        refine lv_iadd hx hb dL_law_126 ?_
        refine l_sld (j := 6 * q + 1) hx hb hX hbl hbA hW1.2.1 hL ((add_e rfl (rfl : (1 : Int32) = nI 1))) (by omega) dL_law_127 ?_
        refine lv_aload_n hx hb dL_law_128 rfl (lv_at hl 0 rfl) ?_
        refine lv_iload_n hx hb dL_law_129 rfl (lv_at hl 3 rfl) ?_
        refine lv_iconst (v := 2) hx hb dL_law_130 (by decide) ?_
        refine lv_iadd hx hb dL_law_131 ?_
        refine l_sld (j := 6 * q + 2) hx hb hX hbl hbA hW1.2.1 hL ((add_e rfl (rfl : (2 : Int32) = nI 2))) (by omega) dL_law_132 ?_
        refine c_virt (own := RL) (As := [.int (xs (6 * q + 1)), .int (xs (6 * q + 2))]) (rest := [.int ((Fslip r (xs (6 * q + 1)) (xs (6 * q + 2))).1)]) hx hb hml hown hts hK hW2 (k_X3_slip l hM hIV _ _) ml_RL_17 im_yX3_slip se_yX3_slip in_RX3 cd_yX3_slip 2 (by decide +kernel) ⟨Nat.le_of_ble_eq_true rfl, Nat.le_of_ble_eq_true rfl⟩ hM.1 rfl rfl rfl hl.1 rfl (Nat.le_of_ble_eq_true rfl) dL_law_133 ⟨show 100 + 2 * q + 2 + 0 ≤ 634830 from by omega, show 2000 + 14 * q + 14 + 0 ≤ 7197757 from by omega⟩ (fun v g3 H1 locs1 hp hW2 hKT => ?_)
        obtain ⟨hW1, hdis⟩ := hKT _ hW1 (dis_sym hdis)
        have hdis := dis_sym hdis
        obtain ⟨rfl, hM⟩ := hp
        refine W.eq (g2 := F0 m 136 ls [.int ((Fslip r (xs (6 * q + 1)) (xs (6 * q + 2))).1), .int ((Fslip r (xs (6 * q + 1)) (xs (6 * q + 2))).1)]) rfl ?_
        refine lv_icmp_eq (tgt := 699) hx hb dL_law_136 (by decide) (fun c_602 => ?_) (fun c_602 => ?_)
        · skip
          exact nxt hq6 _ _ _ _ _ _ _ _ _ _ _ _ _ (show 100 + 2 * q + 2 + 0 ≤ 100 + 2 * (q + 1) from by omega) (show 2000 + 14 * q + 14 + 0 ≤ 2000 + 14 * (q + 1) from by omega) (hLI.keep (IV_slip hIV _ _)) hR hM hW1 hW2 hdis (lv_sub hl [0, 1, 2, 3] rfl)
        · skip
          exact absurd rfl c_602
      by_cases c_603 : (xs (6 * q)) &&& (15) = 1
      · skip
        refine lv_tableIn (tgt := 141) hx hb dL_law_33 (by rw [c_603]; decide) (by rw [c_603]; decide) (by rw [c_603]; rfl) (by decide) ?_
        refine lv_aload_n hx hb dL_law_141 rfl (lv_at hl 1 rfl) ?_
        refine lv_aload_n hx hb dL_law_142 rfl (lv_at hl 0 rfl) ?_
        refine lv_iload_n hx hb dL_law_143 rfl (lv_at hl 3 rfl) ?_
        refine lv_iconst (v := 1) hx hb dL_law_144 (by decide) ?_
        refine lv_iadd hx hb dL_law_145 ?_
        refine l_sld (j := 6 * q + 1) hx hb hX hbl hbA hW1.2.1 hL ((add_e rfl (rfl : (1 : Int32) = nI 1))) (by omega) dL_law_146 ?_
        refine lv_aload_n hx hb dL_law_147 rfl (lv_at hl 0 rfl) ?_
        refine lv_iload_n hx hb dL_law_148 rfl (lv_at hl 3 rfl) ?_
        refine lv_iconst (v := 2) hx hb dL_law_149 (by decide) ?_
        refine lv_iadd hx hb dL_law_150 ?_
        refine l_sld (j := 6 * q + 2) hx hb hX hbl hbA hW1.2.1 hL ((add_e rfl (rfl : (2 : Int32) = nI 2))) (by omega) dL_law_151 ?_
        refine lv_aload_n hx hb dL_law_152 rfl (lv_at hl 0 rfl) ?_
        refine lv_iload_n hx hb dL_law_153 rfl (lv_at hl 3 rfl) ?_
        refine lv_iconst (v := 3) hx hb dL_law_154 (by decide) ?_
        refine lv_iadd hx hb dL_law_155 ?_
        refine l_sld (j := 6 * q + 3) hx hb hX hbl hbA hW1.2.1 hL ((add_e rfl (rfl : (3 : Int32) = nI 3))) (by omega) dL_law_156 ?_
        refine c_virt (own := RL) (As := [.int (xs (6 * q + 1)), .int (xs (6 * q + 2)), .int (xs (6 * q + 3))]) (rest := []) hx hb hml hown hts hK hW1 (k_X2_bundle l hR hIV.1 _ _ _) ml_RL_18 im_yX2_bundle se_yX2_bundle in_RX2 cd_yX2_bundle 3 (by decide +kernel) ⟨Nat.le_of_ble_eq_true rfl, Nat.le_of_ble_eq_true rfl⟩ hR.1 rfl rfl rfl hl.1 rfl (Nat.le_of_ble_eq_true rfl) dL_law_157 ⟨show 100 + 2 * q + 2 ≤ 634830 from by omega, show 2000 + 14 * q + 14 ≤ 7197757 from by omega⟩ (fun v g2 H1 locs1 hp hW1 hKT => ?_)
        obtain ⟨hW2, hdis⟩ := hKT gy hW2 hdis
        obtain ⟨rfl, ma, pa, hR⟩ := hp
        refine W.eq (g2 := F0 m 160 ls [.int ((Fbundle r (xs (6 * q + 1)) (xs (6 * q + 2)) (xs (6 * q + 3))).1)]) rfl ?_
        refine lv_aload_n hx hb dL_law_160 rfl (lv_at hl 2 rfl) ?_
        refine lv_aload_n hx hb dL_law_161 rfl (lv_at hl 0 rfl) ?_
        refine lv_iload_n hx hb dL_law_162 rfl (lv_at hl 3 rfl) ?_
        refine lv_iconst (v := 1) hx hb dL_law_163 (by decide) ?_
        refine lv_iadd hx hb dL_law_164 ?_
        refine l_sld (j := 6 * q + 1) hx hb hX hbl hbA hW1.2.1 hL ((add_e rfl (rfl : (1 : Int32) = nI 1))) (by omega) dL_law_165 ?_
        refine lv_aload_n hx hb dL_law_166 rfl (lv_at hl 0 rfl) ?_
        refine lv_iload_n hx hb dL_law_167 rfl (lv_at hl 3 rfl) ?_
        refine lv_iconst (v := 2) hx hb dL_law_168 (by decide) ?_
        refine lv_iadd hx hb dL_law_169 ?_
        refine l_sld (j := 6 * q + 2) hx hb hX hbl hbA hW1.2.1 hL ((add_e rfl (rfl : (2 : Int32) = nI 2))) (by omega) dL_law_170 ?_
        refine lv_aload_n hx hb dL_law_171 rfl (lv_at hl 0 rfl) ?_
        refine lv_iload_n hx hb dL_law_172 rfl (lv_at hl 3 rfl) ?_
        refine lv_iconst (v := 3) hx hb dL_law_173 (by decide) ?_
        refine lv_iadd hx hb dL_law_174 ?_
        refine l_sld (j := 6 * q + 3) hx hb hX hbl hbA hW1.2.1 hL ((add_e rfl (rfl : (3 : Int32) = nI 3))) (by omega) dL_law_175 ?_
        refine c_virt (own := RL) (As := [.int (xs (6 * q + 1)), .int (xs (6 * q + 2)), .int (xs (6 * q + 3))]) (rest := [.int ((Fbundle r (xs (6 * q + 1)) (xs (6 * q + 2)) (xs (6 * q + 3))).1)]) hx hb hml hown hts hK hW2 (k_X3_bundle l hM hIV _ _ _) ml_RL_22 im_yX3_bundle se_yX3_bundle in_RX3 cd_yX3_bundle 3 (by decide +kernel) ⟨Nat.le_of_ble_eq_true rfl, Nat.le_of_ble_eq_true rfl⟩ hM.1 rfl rfl rfl hl.1 rfl (Nat.le_of_ble_eq_true rfl) dL_law_176 ⟨show 100 + 2 * q + 2 + 0 ≤ 634830 from by omega, show 2000 + 14 * q + 14 + 0 ≤ 7197757 from by omega⟩ (fun v g3 H1 locs1 hp hW2 hKT => ?_)
        obtain ⟨hW1, hdis⟩ := hKT _ hW1 (dis_sym hdis)
        have hdis := dis_sym hdis
        obtain ⟨rfl, hM⟩ := hp
        refine W.eq (g2 := F0 m 179 ls [.int ((Fbundle r (xs (6 * q + 1)) (xs (6 * q + 2)) (xs (6 * q + 3))).1), .int ((Fbundle r (xs (6 * q + 1)) (xs (6 * q + 2)) (xs (6 * q + 3))).1)]) rfl ?_
        refine lv_icmp_eq (tgt := 699) hx hb dL_law_179 (by decide) (fun c_604 => ?_) (fun c_604 => ?_)
        · skip
          exact nxt hq6 _ _ _ _ _ _ _ _ _ _ _ _ _ (show 100 + 2 * q + 2 + 0 ≤ 100 + 2 * (q + 1) from by omega) (show 2000 + 14 * q + 14 + 0 ≤ 2000 + 14 * (q + 1) from by omega) (hLI.keep (IV_bundle hIV _ _ _)) hR hM hW1 hW2 hdis (lv_sub hl [0, 1, 2, 3] rfl)
        · skip
          exact absurd rfl c_604
      by_cases c_605 : (xs (6 * q)) &&& (15) = 2
      · skip
        refine lv_tableIn (tgt := 184) hx hb dL_law_33 (by rw [c_605]; decide) (by rw [c_605]; decide) (by rw [c_605]; rfl) (by decide) ?_
        refine lv_aload_n hx hb dL_law_184 rfl (lv_at hl 1 rfl) ?_
        refine lv_aload_n hx hb dL_law_185 rfl (lv_at hl 0 rfl) ?_
        refine lv_iload_n hx hb dL_law_186 rfl (lv_at hl 3 rfl) ?_
        refine lv_iconst (v := 1) hx hb dL_law_187 (by decide) ?_
        refine lv_iadd hx hb dL_law_188 ?_
        refine l_sld (j := 6 * q + 1) hx hb hX hbl hbA hW1.2.1 hL ((add_e rfl (rfl : (1 : Int32) = nI 1))) (by omega) dL_law_189 ?_
        refine lv_aload_n hx hb dL_law_190 rfl (lv_at hl 0 rfl) ?_
        refine lv_iload_n hx hb dL_law_191 rfl (lv_at hl 3 rfl) ?_
        refine lv_iconst (v := 2) hx hb dL_law_192 (by decide) ?_
        refine lv_iadd hx hb dL_law_193 ?_
        refine l_sld (j := 6 * q + 2) hx hb hX hbl hbA hW1.2.1 hL ((add_e rfl (rfl : (2 : Int32) = nI 2))) (by omega) dL_law_194 ?_
        refine lv_aload_n hx hb dL_law_195 rfl (lv_at hl 0 rfl) ?_
        refine lv_iload_n hx hb dL_law_196 rfl (lv_at hl 3 rfl) ?_
        refine lv_iconst (v := 3) hx hb dL_law_197 (by decide) ?_
        refine lv_iadd hx hb dL_law_198 ?_
        refine l_sld (j := 6 * q + 3) hx hb hX hbl hbA hW1.2.1 hL ((add_e rfl (rfl : (3 : Int32) = nI 3))) (by omega) dL_law_199 ?_
        refine c_virt (own := RL) (As := [.int (xs (6 * q + 1)), .int (xs (6 * q + 2)), .int (xs (6 * q + 3))]) (rest := []) hx hb hml hown hts hK hW1 (k_X2_place l hR _ _ _) ml_RL_23 im_yX2_place se_yX2_place in_RX2 cd_yX2_place 3 (by decide +kernel) ⟨Nat.le_of_ble_eq_true rfl, Nat.le_of_ble_eq_true rfl⟩ hR.1 rfl rfl rfl hl.1 rfl (Nat.le_of_ble_eq_true rfl) dL_law_200 ⟨show 100 + 2 * q + 0 ≤ 634830 from by omega, show 2000 + 14 * q + 0 ≤ 7197757 from by omega⟩ (fun v g2 H1 locs1 hp hW1 hKT => ?_)
        obtain ⟨hW2, hdis⟩ := hKT gy hW2 hdis
        obtain ⟨rfl, hR⟩ := hp
        refine W.eq (g2 := F0 m 203 ls [.int ((Fplace r (xs (6 * q + 1)) (xs (6 * q + 2)) (xs (6 * q + 3))).1)]) rfl ?_
        refine lv_aload_n hx hb dL_law_203 rfl (lv_at hl 2 rfl) ?_
        refine lv_aload_n hx hb dL_law_204 rfl (lv_at hl 0 rfl) ?_
        refine lv_iload_n hx hb dL_law_205 rfl (lv_at hl 3 rfl) ?_
        refine lv_iconst (v := 1) hx hb dL_law_206 (by decide) ?_
        refine lv_iadd hx hb dL_law_207 ?_
        refine l_sld (j := 6 * q + 1) hx hb hX hbl hbA hW1.2.1 hL ((add_e rfl (rfl : (1 : Int32) = nI 1))) (by omega) dL_law_208 ?_
        refine lv_aload_n hx hb dL_law_209 rfl (lv_at hl 0 rfl) ?_
        refine lv_iload_n hx hb dL_law_210 rfl (lv_at hl 3 rfl) ?_
        refine lv_iconst (v := 2) hx hb dL_law_211 (by decide) ?_
        refine lv_iadd hx hb dL_law_212 ?_
        refine l_sld (j := 6 * q + 2) hx hb hX hbl hbA hW1.2.1 hL ((add_e rfl (rfl : (2 : Int32) = nI 2))) (by omega) dL_law_213 ?_
        refine lv_aload_n hx hb dL_law_214 rfl (lv_at hl 0 rfl) ?_
        refine lv_iload_n hx hb dL_law_215 rfl (lv_at hl 3 rfl) ?_
        refine lv_iconst (v := 3) hx hb dL_law_216 (by decide) ?_
        refine lv_iadd hx hb dL_law_217 ?_
        refine l_sld (j := 6 * q + 3) hx hb hX hbl hbA hW1.2.1 hL ((add_e rfl (rfl : (3 : Int32) = nI 3))) (by omega) dL_law_218 ?_
        refine c_virt (own := RL) (As := [.int (xs (6 * q + 1)), .int (xs (6 * q + 2)), .int (xs (6 * q + 3))]) (rest := [.int ((Fplace r (xs (6 * q + 1)) (xs (6 * q + 2)) (xs (6 * q + 3))).1)]) hx hb hml hown hts hK hW2 (k_X3_place l hM hIV _ _ _) ml_RL_26 im_yX3_place se_yX3_place in_RX3 cd_yX3_place 3 (by decide +kernel) ⟨Nat.le_of_ble_eq_true rfl, Nat.le_of_ble_eq_true rfl⟩ hM.1 rfl rfl rfl hl.1 rfl (Nat.le_of_ble_eq_true rfl) dL_law_219 ⟨show 100 + 2 * q + 0 + 0 ≤ 634830 from by omega, show 2000 + 14 * q + 0 + 0 ≤ 7197757 from by omega⟩ (fun v g3 H1 locs1 hp hW2 hKT => ?_)
        obtain ⟨hW1, hdis⟩ := hKT _ hW1 (dis_sym hdis)
        have hdis := dis_sym hdis
        obtain ⟨rfl, hM⟩ := hp
        refine W.eq (g2 := F0 m 222 ls [.int ((Fplace r (xs (6 * q + 1)) (xs (6 * q + 2)) (xs (6 * q + 3))).1), .int ((Fplace r (xs (6 * q + 1)) (xs (6 * q + 2)) (xs (6 * q + 3))).1)]) rfl ?_
        refine lv_icmp_eq (tgt := 699) hx hb dL_law_222 (by decide) (fun c_606 => ?_) (fun c_606 => ?_)
        · skip
          exact nxt hq6 _ _ _ _ _ _ _ _ _ _ _ _ _ (show 100 + 2 * q + 0 + 0 ≤ 100 + 2 * (q + 1) from by omega) (show 2000 + 14 * q + 0 + 0 ≤ 2000 + 14 * (q + 1) from by omega) (hLI.keep (IV_place hIV _ _ _)) hR hM hW1 hW2 hdis (lv_sub hl [0, 1, 2, 3] rfl)
        · skip
          exact absurd rfl c_606
      by_cases c_607 : (xs (6 * q)) &&& (15) = 3
      · skip
        refine lv_tableIn (tgt := 227) hx hb dL_law_33 (by rw [c_607]; decide) (by rw [c_607]; decide) (by rw [c_607]; rfl) (by decide) ?_
        refine lv_aload_n hx hb dL_law_227 rfl (lv_at hl 1 rfl) ?_
        refine lv_aload_n hx hb dL_law_228 rfl (lv_at hl 0 rfl) ?_
        refine lv_iload_n hx hb dL_law_229 rfl (lv_at hl 3 rfl) ?_
        refine lv_iconst (v := 1) hx hb dL_law_230 (by decide) ?_
        refine lv_iadd hx hb dL_law_231 ?_
        refine l_sld (j := 6 * q + 1) hx hb hX hbl hbA hW1.2.1 hL ((add_e rfl (rfl : (1 : Int32) = nI 1))) (by omega) dL_law_232 ?_
        refine lv_aload_n hx hb dL_law_233 rfl (lv_at hl 0 rfl) ?_
        refine lv_iload_n hx hb dL_law_234 rfl (lv_at hl 3 rfl) ?_
        refine lv_iconst (v := 2) hx hb dL_law_235 (by decide) ?_
        refine lv_iadd hx hb dL_law_236 ?_
        refine l_sld (j := 6 * q + 2) hx hb hX hbl hbA hW1.2.1 hL ((add_e rfl (rfl : (2 : Int32) = nI 2))) (by omega) dL_law_237 ?_
        refine c_virt (own := RL) (As := [.int (xs (6 * q + 1)), .int (xs (6 * q + 2))]) (rest := []) hx hb hml hown hts hK hW1 (k_X2_placed l hR _ _) ml_RL_27 im_yX2_placed se_yX2_placed in_RX2 cd_yX2_placed 2 (by decide +kernel) ⟨Nat.le_of_ble_eq_true rfl, Nat.le_of_ble_eq_true rfl⟩ hR.1 rfl rfl rfl hl.1 rfl (Nat.le_of_ble_eq_true rfl) dL_law_238 ⟨show 100 + 2 * q + 0 ≤ 634830 from by omega, show 2000 + 14 * q + 0 ≤ 7197757 from by omega⟩ (fun v g2 H1 locs1 hp hW1 hKT => ?_)
        obtain ⟨hW2, hdis⟩ := hKT gy hW2 hdis
        obtain ⟨rfl, hg⟩ := hp
        rw [hg] at hW1 hdis
        refine W.eq (g2 := F0 m 241 ls [.int (Fplaced r (xs (6 * q + 1)) (xs (6 * q + 2)))]) rfl ?_
        refine lv_aload_n hx hb dL_law_241 rfl (lv_at hl 2 rfl) ?_
        refine lv_aload_n hx hb dL_law_242 rfl (lv_at hl 0 rfl) ?_
        refine lv_iload_n hx hb dL_law_243 rfl (lv_at hl 3 rfl) ?_
        refine lv_iconst (v := 1) hx hb dL_law_244 (by decide) ?_
        refine lv_iadd hx hb dL_law_245 ?_
        refine l_sld (j := 6 * q + 1) hx hb hX hbl hbA hW1.2.1 hL ((add_e rfl (rfl : (1 : Int32) = nI 1))) (by omega) dL_law_246 ?_
        refine lv_aload_n hx hb dL_law_247 rfl (lv_at hl 0 rfl) ?_
        refine lv_iload_n hx hb dL_law_248 rfl (lv_at hl 3 rfl) ?_
        refine lv_iconst (v := 2) hx hb dL_law_249 (by decide) ?_
        refine lv_iadd hx hb dL_law_250 ?_
        refine l_sld (j := 6 * q + 2) hx hb hX hbl hbA hW1.2.1 hL ((add_e rfl (rfl : (2 : Int32) = nI 2))) (by omega) dL_law_251 ?_
        refine c_virt (own := RL) (As := [.int (xs (6 * q + 1)), .int (xs (6 * q + 2))]) (rest := [.int (Fplaced r (xs (6 * q + 1)) (xs (6 * q + 2)))]) hx hb hml hown hts hK hW2 (k_X3_placed l hM hIV _ _) ml_RL_30 im_yX3_placed se_yX3_placed in_RX3 cd_yX3_placed 2 (by decide +kernel) ⟨Nat.le_of_ble_eq_true rfl, Nat.le_of_ble_eq_true rfl⟩ hM.1 rfl rfl rfl hl.1 rfl (Nat.le_of_ble_eq_true rfl) dL_law_252 ⟨show 100 + 2 * q + 0 + 0 ≤ 634830 from by omega, show 2000 + 14 * q + 0 + 0 ≤ 7197757 from by omega⟩ (fun v g3 H1 locs1 hp hW2 hKT => ?_)
        obtain ⟨hW1, hdis⟩ := hKT _ hW1 (dis_sym hdis)
        have hdis := dis_sym hdis
        obtain ⟨rfl, hg⟩ := hp
        rw [hg] at hW2 hdis
        refine W.eq (g2 := F0 m 255 ls [.int (Fplaced r (xs (6 * q + 1)) (xs (6 * q + 2))), .int (Fplaced r (xs (6 * q + 1)) (xs (6 * q + 2)))]) rfl ?_
        refine lv_icmp_eq (tgt := 699) hx hb dL_law_255 (by decide) (fun c_608 => ?_) (fun c_608 => ?_)
        · skip
          exact nxt hq6 _ _ _ _ _ _ _ _ _ _ _ _ _ (show 100 + 2 * q + 0 + 0 ≤ 100 + 2 * (q + 1) from by omega) (show 2000 + 14 * q + 0 + 0 ≤ 2000 + 14 * (q + 1) from by omega) hLI.same hR hM hW1 hW2 hdis (lv_sub hl [0, 1, 2, 3] rfl)
        · skip
          exact absurd rfl c_608
      by_cases c_609 : (xs (6 * q)) &&& (15) = 4
      · skip
        refine lv_tableIn (tgt := 260) hx hb dL_law_33 (by rw [c_609]; decide) (by rw [c_609]; decide) (by rw [c_609]; rfl) (by decide) ?_
        refine lv_aload_n hx hb dL_law_260 rfl (lv_at hl 1 rfl) ?_
        refine lv_aload_n hx hb dL_law_261 rfl (lv_at hl 0 rfl) ?_
        refine lv_iload_n hx hb dL_law_262 rfl (lv_at hl 3 rfl) ?_
        refine lv_iconst (v := 1) hx hb dL_law_263 (by decide) ?_
        refine lv_iadd hx hb dL_law_264 ?_
        refine l_sld (j := 6 * q + 1) hx hb hX hbl hbA hW1.2.1 hL ((add_e rfl (rfl : (1 : Int32) = nI 1))) (by omega) dL_law_265 ?_
        refine lv_aload_n hx hb dL_law_266 rfl (lv_at hl 0 rfl) ?_
        refine lv_iload_n hx hb dL_law_267 rfl (lv_at hl 3 rfl) ?_
        refine lv_iconst (v := 2) hx hb dL_law_268 (by decide) ?_
        refine lv_iadd hx hb dL_law_269 ?_
        refine l_sld (j := 6 * q + 2) hx hb hX hbl hbA hW1.2.1 hL ((add_e rfl (rfl : (2 : Int32) = nI 2))) (by omega) dL_law_270 ?_
        refine lv_aload_n hx hb dL_law_271 rfl (lv_at hl 0 rfl) ?_
        refine lv_iload_n hx hb dL_law_272 rfl (lv_at hl 3 rfl) ?_
        refine lv_iconst (v := 3) hx hb dL_law_273 (by decide) ?_
        refine lv_iadd hx hb dL_law_274 ?_
        refine l_sld (j := 6 * q + 3) hx hb hX hbl hbA hW1.2.1 hL ((add_e rfl (rfl : (3 : Int32) = nI 3))) (by omega) dL_law_275 ?_
        refine c_virt (own := RL) (As := [.int (xs (6 * q + 1)), .int (xs (6 * q + 2)), .int (xs (6 * q + 3))]) (rest := []) hx hb hml hown hts hK hW1 (k_X2_figure l hR _ _ _) ml_RL_31 im_yX2_figure se_yX2_figure in_RX2 cd_yX2_figure 3 (by decide +kernel) ⟨Nat.le_of_ble_eq_true rfl, Nat.le_of_ble_eq_true rfl⟩ hR.1 rfl rfl rfl hl.1 rfl (Nat.le_of_ble_eq_true rfl) dL_law_276 ⟨show 100 + 2 * q + 0 ≤ 634830 from by omega, show 2000 + 14 * q + 0 ≤ 7197757 from by omega⟩ (fun v g2 H1 locs1 hp hW1 hKT => ?_)
        obtain ⟨hW2, hdis⟩ := hKT gy hW2 hdis
        obtain ⟨rfl, hR⟩ := hp
        refine W.eq (g2 := F0 m 279 ls [.int ((Ffigure r (xs (6 * q + 1)) (xs (6 * q + 2)) (xs (6 * q + 3))).1)]) rfl ?_
        refine lv_aload_n hx hb dL_law_279 rfl (lv_at hl 2 rfl) ?_
        refine lv_aload_n hx hb dL_law_280 rfl (lv_at hl 0 rfl) ?_
        refine lv_iload_n hx hb dL_law_281 rfl (lv_at hl 3 rfl) ?_
        refine lv_iconst (v := 1) hx hb dL_law_282 (by decide) ?_
        refine lv_iadd hx hb dL_law_283 ?_
        refine l_sld (j := 6 * q + 1) hx hb hX hbl hbA hW1.2.1 hL ((add_e rfl (rfl : (1 : Int32) = nI 1))) (by omega) dL_law_284 ?_
        refine lv_aload_n hx hb dL_law_285 rfl (lv_at hl 0 rfl) ?_
        refine lv_iload_n hx hb dL_law_286 rfl (lv_at hl 3 rfl) ?_
        refine lv_iconst (v := 2) hx hb dL_law_287 (by decide) ?_
        refine lv_iadd hx hb dL_law_288 ?_
        refine l_sld (j := 6 * q + 2) hx hb hX hbl hbA hW1.2.1 hL ((add_e rfl (rfl : (2 : Int32) = nI 2))) (by omega) dL_law_289 ?_
        refine lv_aload_n hx hb dL_law_290 rfl (lv_at hl 0 rfl) ?_
        refine lv_iload_n hx hb dL_law_291 rfl (lv_at hl 3 rfl) ?_
        refine lv_iconst (v := 3) hx hb dL_law_292 (by decide) ?_
        refine lv_iadd hx hb dL_law_293 ?_
        refine l_sld (j := 6 * q + 3) hx hb hX hbl hbA hW1.2.1 hL ((add_e rfl (rfl : (3 : Int32) = nI 3))) (by omega) dL_law_294 ?_
        refine c_virt (own := RL) (As := [.int (xs (6 * q + 1)), .int (xs (6 * q + 2)), .int (xs (6 * q + 3))]) (rest := [.int ((Ffigure r (xs (6 * q + 1)) (xs (6 * q + 2)) (xs (6 * q + 3))).1)]) hx hb hml hown hts hK hW2 (k_X3_figure l hM hIV _ _ _) ml_RL_34 im_yX3_figure se_yX3_figure in_RX3 cd_yX3_figure 3 (by decide +kernel) ⟨Nat.le_of_ble_eq_true rfl, Nat.le_of_ble_eq_true rfl⟩ hM.1 rfl rfl rfl hl.1 rfl (Nat.le_of_ble_eq_true rfl) dL_law_295 ⟨show 100 + 2 * q + 0 + 0 ≤ 634830 from by omega, show 2000 + 14 * q + 0 + 0 ≤ 7197757 from by omega⟩ (fun v g3 H1 locs1 hp hW2 hKT => ?_)
        obtain ⟨hW1, hdis⟩ := hKT _ hW1 (dis_sym hdis)
        have hdis := dis_sym hdis
        obtain ⟨rfl, hM⟩ := hp
        refine W.eq (g2 := F0 m 298 ls [.int ((Ffigure r (xs (6 * q + 1)) (xs (6 * q + 2)) (xs (6 * q + 3))).1), .int ((Ffigure r (xs (6 * q + 1)) (xs (6 * q + 2)) (xs (6 * q + 3))).1)]) rfl ?_
        refine lv_icmp_eq (tgt := 699) hx hb dL_law_298 (by decide) (fun c_610 => ?_) (fun c_610 => ?_)
        · skip
          exact nxt hq6 _ _ _ _ _ _ _ _ _ _ _ _ _ (show 100 + 2 * q + 0 + 0 ≤ 100 + 2 * (q + 1) from by omega) (show 2000 + 14 * q + 0 + 0 ≤ 2000 + 14 * (q + 1) from by omega) (hLI.keep (IV_figure hIV _ _ _)) hR hM hW1 hW2 hdis (lv_sub hl [0, 1, 2, 3] rfl)
        · skip
          exact absurd rfl c_610
      by_cases c_611 : (xs (6 * q)) &&& (15) = 5
      · skip
        refine lv_tableIn (tgt := 303) hx hb dL_law_33 (by rw [c_611]; decide) (by rw [c_611]; decide) (by rw [c_611]; rfl) (by decide) ?_
        refine lv_aload_n hx hb dL_law_303 rfl (lv_at hl 1 rfl) ?_
        refine lv_aload_n hx hb dL_law_304 rfl (lv_at hl 0 rfl) ?_
        refine lv_iload_n hx hb dL_law_305 rfl (lv_at hl 3 rfl) ?_
        refine lv_iconst (v := 1) hx hb dL_law_306 (by decide) ?_
        refine lv_iadd hx hb dL_law_307 ?_
        refine l_sld (j := 6 * q + 1) hx hb hX hbl hbA hW1.2.1 hL ((add_e rfl (rfl : (1 : Int32) = nI 1))) (by omega) dL_law_308 ?_
        refine lv_aload_n hx hb dL_law_309 rfl (lv_at hl 0 rfl) ?_
        refine lv_iload_n hx hb dL_law_310 rfl (lv_at hl 3 rfl) ?_
        refine lv_iconst (v := 2) hx hb dL_law_311 (by decide) ?_
        refine lv_iadd hx hb dL_law_312 ?_
        refine l_sld (j := 6 * q + 2) hx hb hX hbl hbA hW1.2.1 hL ((add_e rfl (rfl : (2 : Int32) = nI 2))) (by omega) dL_law_313 ?_
        refine c_virt (own := RL) (As := [.int (xs (6 * q + 1)), .int (xs (6 * q + 2))]) (rest := []) hx hb hml hown hts hK hW1 (k_X2_number l hR _ _) ml_RL_35 im_yX2_number se_yX2_number in_RX2 cd_yX2_number 2 (by decide +kernel) ⟨Nat.le_of_ble_eq_true rfl, Nat.le_of_ble_eq_true rfl⟩ hR.1 rfl rfl rfl hl.1 rfl (Nat.le_of_ble_eq_true rfl) dL_law_314 ⟨show 100 + 2 * q + 0 ≤ 634830 from by omega, show 2000 + 14 * q + 0 ≤ 7197757 from by omega⟩ (fun v g2 H1 locs1 hp hW1 hKT => ?_)
        obtain ⟨hW2, hdis⟩ := hKT gy hW2 hdis
        obtain ⟨rfl, hg⟩ := hp
        rw [hg] at hW1 hdis
        refine W.eq (g2 := F0 m 317 ls [.int (Fnumber r (xs (6 * q + 1)) (xs (6 * q + 2)))]) rfl ?_
        refine lv_aload_n hx hb dL_law_317 rfl (lv_at hl 2 rfl) ?_
        refine lv_aload_n hx hb dL_law_318 rfl (lv_at hl 0 rfl) ?_
        refine lv_iload_n hx hb dL_law_319 rfl (lv_at hl 3 rfl) ?_
        refine lv_iconst (v := 1) hx hb dL_law_320 (by decide) ?_
        refine lv_iadd hx hb dL_law_321 ?_
        refine l_sld (j := 6 * q + 1) hx hb hX hbl hbA hW1.2.1 hL ((add_e rfl (rfl : (1 : Int32) = nI 1))) (by omega) dL_law_322 ?_
        refine lv_aload_n hx hb dL_law_323 rfl (lv_at hl 0 rfl) ?_
        refine lv_iload_n hx hb dL_law_324 rfl (lv_at hl 3 rfl) ?_
        refine lv_iconst (v := 2) hx hb dL_law_325 (by decide) ?_
        refine lv_iadd hx hb dL_law_326 ?_
        refine l_sld (j := 6 * q + 2) hx hb hX hbl hbA hW1.2.1 hL ((add_e rfl (rfl : (2 : Int32) = nI 2))) (by omega) dL_law_327 ?_
        refine c_virt (own := RL) (As := [.int (xs (6 * q + 1)), .int (xs (6 * q + 2))]) (rest := [.int (Fnumber r (xs (6 * q + 1)) (xs (6 * q + 2)))]) hx hb hml hown hts hK hW2 (k_X3_number l hM hIV _ _) ml_RL_38 im_yX3_number se_yX3_number in_RX3 cd_yX3_number 2 (by decide +kernel) ⟨Nat.le_of_ble_eq_true rfl, Nat.le_of_ble_eq_true rfl⟩ hM.1 rfl rfl rfl hl.1 rfl (Nat.le_of_ble_eq_true rfl) dL_law_328 ⟨show 100 + 2 * q + 0 + 0 ≤ 634830 from by omega, show 2000 + 14 * q + 0 + 0 ≤ 7197757 from by omega⟩ (fun v g3 H1 locs1 hp hW2 hKT => ?_)
        obtain ⟨hW1, hdis⟩ := hKT _ hW1 (dis_sym hdis)
        have hdis := dis_sym hdis
        obtain ⟨rfl, hg⟩ := hp
        rw [hg] at hW2 hdis
        refine W.eq (g2 := F0 m 331 ls [.int (Fnumber r (xs (6 * q + 1)) (xs (6 * q + 2))), .int (Fnumber r (xs (6 * q + 1)) (xs (6 * q + 2)))]) rfl ?_
        refine lv_icmp_eq (tgt := 699) hx hb dL_law_331 (by decide) (fun c_612 => ?_) (fun c_612 => ?_)
        · skip
          exact nxt hq6 _ _ _ _ _ _ _ _ _ _ _ _ _ (show 100 + 2 * q + 0 + 0 ≤ 100 + 2 * (q + 1) from by omega) (show 2000 + 14 * q + 0 + 0 ≤ 2000 + 14 * (q + 1) from by omega) hLI.same hR hM hW1 hW2 hdis (lv_sub hl [0, 1, 2, 3] rfl)
        · skip
          exact absurd rfl c_612
      by_cases c_613 : (xs (6 * q)) &&& (15) = 6
      · skip
        refine lv_tableIn (tgt := 336) hx hb dL_law_33 (by rw [c_613]; decide) (by rw [c_613]; decide) (by rw [c_613]; rfl) (by decide) ?_
        refine lv_aload_n hx hb dL_law_336 rfl (lv_at hl 1 rfl) ?_
        refine lv_aload_n hx hb dL_law_337 rfl (lv_at hl 0 rfl) ?_
        refine lv_iload_n hx hb dL_law_338 rfl (lv_at hl 3 rfl) ?_
        refine lv_iconst (v := 1) hx hb dL_law_339 (by decide) ?_
        refine lv_iadd hx hb dL_law_340 ?_
        refine l_sld (j := 6 * q + 1) hx hb hX hbl hbA hW1.2.1 hL ((add_e rfl (rfl : (1 : Int32) = nI 1))) (by omega) dL_law_341 ?_
        refine lv_aload_n hx hb dL_law_342 rfl (lv_at hl 0 rfl) ?_
        refine lv_iload_n hx hb dL_law_343 rfl (lv_at hl 3 rfl) ?_
        refine lv_iconst (v := 2) hx hb dL_law_344 (by decide) ?_
        refine lv_iadd hx hb dL_law_345 ?_
        refine l_sld (j := 6 * q + 2) hx hb hX hbl hbA hW1.2.1 hL ((add_e rfl (rfl : (2 : Int32) = nI 2))) (by omega) dL_law_346 ?_
        refine lv_aload_n hx hb dL_law_347 rfl (lv_at hl 0 rfl) ?_
        refine lv_iload_n hx hb dL_law_348 rfl (lv_at hl 3 rfl) ?_
        refine lv_iconst (v := 3) hx hb dL_law_349 (by decide) ?_
        refine lv_iadd hx hb dL_law_350 ?_
        refine l_sld (j := 6 * q + 3) hx hb hX hbl hbA hW1.2.1 hL ((add_e rfl (rfl : (3 : Int32) = nI 3))) (by omega) dL_law_351 ?_
        refine c_virt (own := RL) (As := [.int (xs (6 * q + 1)), .int (xs (6 * q + 2)), .int (xs (6 * q + 3))]) (rest := []) hx hb hml hown hts hK hW1 (k_X2_is l hR _ _ _) ml_RL_39 im_yX2_is se_yX2_is in_RX2 cd_yX2_is 3 (by decide +kernel) ⟨Nat.le_of_ble_eq_true rfl, Nat.le_of_ble_eq_true rfl⟩ hR.1 rfl rfl rfl hl.1 rfl (Nat.le_of_ble_eq_true rfl) dL_law_352 ⟨show 100 + 2 * q + 0 ≤ 634830 from by omega, show 2000 + 14 * q + 0 ≤ 7197757 from by omega⟩ (fun v g2 H1 locs1 hp hW1 hKT => ?_)
        obtain ⟨hW2, hdis⟩ := hKT gy hW2 hdis
        obtain ⟨rfl, hg⟩ := hp
        rw [hg] at hW1 hdis
        refine W.eq (g2 := F0 m 355 ls [.int (Fis r (xs (6 * q + 1)) (xs (6 * q + 2)) (xs (6 * q + 3)))]) rfl ?_
        refine lv_aload_n hx hb dL_law_355 rfl (lv_at hl 2 rfl) ?_
        refine lv_aload_n hx hb dL_law_356 rfl (lv_at hl 0 rfl) ?_
        refine lv_iload_n hx hb dL_law_357 rfl (lv_at hl 3 rfl) ?_
        refine lv_iconst (v := 1) hx hb dL_law_358 (by decide) ?_
        refine lv_iadd hx hb dL_law_359 ?_
        refine l_sld (j := 6 * q + 1) hx hb hX hbl hbA hW1.2.1 hL ((add_e rfl (rfl : (1 : Int32) = nI 1))) (by omega) dL_law_360 ?_
        refine lv_aload_n hx hb dL_law_361 rfl (lv_at hl 0 rfl) ?_
        refine lv_iload_n hx hb dL_law_362 rfl (lv_at hl 3 rfl) ?_
        refine lv_iconst (v := 2) hx hb dL_law_363 (by decide) ?_
        refine lv_iadd hx hb dL_law_364 ?_
        refine l_sld (j := 6 * q + 2) hx hb hX hbl hbA hW1.2.1 hL ((add_e rfl (rfl : (2 : Int32) = nI 2))) (by omega) dL_law_365 ?_
        refine lv_aload_n hx hb dL_law_366 rfl (lv_at hl 0 rfl) ?_
        refine lv_iload_n hx hb dL_law_367 rfl (lv_at hl 3 rfl) ?_
        refine lv_iconst (v := 3) hx hb dL_law_368 (by decide) ?_
        refine lv_iadd hx hb dL_law_369 ?_
        refine l_sld (j := 6 * q + 3) hx hb hX hbl hbA hW1.2.1 hL ((add_e rfl (rfl : (3 : Int32) = nI 3))) (by omega) dL_law_370 ?_
        refine c_virt (own := RL) (As := [.int (xs (6 * q + 1)), .int (xs (6 * q + 2)), .int (xs (6 * q + 3))]) (rest := [.int (Fis r (xs (6 * q + 1)) (xs (6 * q + 2)) (xs (6 * q + 3)))]) hx hb hml hown hts hK hW2 (k_X3_is l hM hIV _ _ _) ml_RL_42 im_yX3_is se_yX3_is in_RX3 cd_yX3_is 3 (by decide +kernel) ⟨Nat.le_of_ble_eq_true rfl, Nat.le_of_ble_eq_true rfl⟩ hM.1 rfl rfl rfl hl.1 rfl (Nat.le_of_ble_eq_true rfl) dL_law_371 ⟨show 100 + 2 * q + 0 + 0 ≤ 634830 from by omega, show 2000 + 14 * q + 0 + 0 ≤ 7197757 from by omega⟩ (fun v g3 H1 locs1 hp hW2 hKT => ?_)
        obtain ⟨hW1, hdis⟩ := hKT _ hW1 (dis_sym hdis)
        have hdis := dis_sym hdis
        obtain ⟨rfl, hg⟩ := hp
        rw [hg] at hW2 hdis
        refine W.eq (g2 := F0 m 374 ls [.int (Fis r (xs (6 * q + 1)) (xs (6 * q + 2)) (xs (6 * q + 3))), .int (Fis r (xs (6 * q + 1)) (xs (6 * q + 2)) (xs (6 * q + 3)))]) rfl ?_
        refine lv_icmp_eq (tgt := 699) hx hb dL_law_374 (by decide) (fun c_614 => ?_) (fun c_614 => ?_)
        · skip
          exact nxt hq6 _ _ _ _ _ _ _ _ _ _ _ _ _ (show 100 + 2 * q + 0 + 0 ≤ 100 + 2 * (q + 1) from by omega) (show 2000 + 14 * q + 0 + 0 ≤ 2000 + 14 * (q + 1) from by omega) hLI.same hR hM hW1 hW2 hdis (lv_sub hl [0, 1, 2, 3] rfl)
        · skip
          exact absurd rfl c_614
      by_cases c_615 : (xs (6 * q)) &&& (15) = 7
      · skip
        refine lv_tableIn (tgt := 379) hx hb dL_law_33 (by rw [c_615]; decide) (by rw [c_615]; decide) (by rw [c_615]; rfl) (by decide) ?_
        refine lv_aload_n hx hb dL_law_379 rfl (lv_at hl 1 rfl) ?_
        refine lv_aload_n hx hb dL_law_380 rfl (lv_at hl 0 rfl) ?_
        refine lv_iload_n hx hb dL_law_381 rfl (lv_at hl 3 rfl) ?_
        refine lv_iconst (v := 1) hx hb dL_law_382 (by decide) ?_
        refine lv_iadd hx hb dL_law_383 ?_
        refine l_sld (j := 6 * q + 1) hx hb hX hbl hbA hW1.2.1 hL ((add_e rfl (rfl : (1 : Int32) = nI 1))) (by omega) dL_law_384 ?_
        refine lv_aload_n hx hb dL_law_385 rfl (lv_at hl 0 rfl) ?_
        refine lv_iload_n hx hb dL_law_386 rfl (lv_at hl 3 rfl) ?_
        refine lv_iconst (v := 2) hx hb dL_law_387 (by decide) ?_
        refine lv_iadd hx hb dL_law_388 ?_
        refine l_sld (j := 6 * q + 2) hx hb hX hbl hbA hW1.2.1 hL ((add_e rfl (rfl : (2 : Int32) = nI 2))) (by omega) dL_law_389 ?_
        refine c_virt (own := RL) (As := [.int (xs (6 * q + 1)), .int (xs (6 * q + 2))]) (rest := []) hx hb hml hown hts hK hW1 (k_X2_about l hR _ _) ml_RL_43 im_yX2_about se_yX2_about in_RX2 cd_yX2_about 2 (by decide +kernel) ⟨Nat.le_of_ble_eq_true rfl, Nat.le_of_ble_eq_true rfl⟩ hR.1 rfl rfl rfl hl.1 rfl (Nat.le_of_ble_eq_true rfl) dL_law_390 ⟨show 100 + 2 * q + 0 ≤ 634830 from by omega, show 2000 + 14 * q + 0 ≤ 7197757 from by omega⟩ (fun v g2 H1 locs1 hp hW1 hKT => ?_)
        obtain ⟨hW2, hdis⟩ := hKT gy hW2 hdis
        obtain ⟨rfl, hg⟩ := hp
        rw [hg] at hW1 hdis
        refine W.eq (g2 := F0 m 393 ls [.int (Fabout r (xs (6 * q + 1)) (xs (6 * q + 2)))]) rfl ?_
        refine lv_aload_n hx hb dL_law_393 rfl (lv_at hl 2 rfl) ?_
        refine lv_aload_n hx hb dL_law_394 rfl (lv_at hl 0 rfl) ?_
        refine lv_iload_n hx hb dL_law_395 rfl (lv_at hl 3 rfl) ?_
        refine lv_iconst (v := 1) hx hb dL_law_396 (by decide) ?_
        refine lv_iadd hx hb dL_law_397 ?_
        refine l_sld (j := 6 * q + 1) hx hb hX hbl hbA hW1.2.1 hL ((add_e rfl (rfl : (1 : Int32) = nI 1))) (by omega) dL_law_398 ?_
        refine lv_aload_n hx hb dL_law_399 rfl (lv_at hl 0 rfl) ?_
        refine lv_iload_n hx hb dL_law_400 rfl (lv_at hl 3 rfl) ?_
        refine lv_iconst (v := 2) hx hb dL_law_401 (by decide) ?_
        refine lv_iadd hx hb dL_law_402 ?_
        refine l_sld (j := 6 * q + 2) hx hb hX hbl hbA hW1.2.1 hL ((add_e rfl (rfl : (2 : Int32) = nI 2))) (by omega) dL_law_403 ?_
        refine c_virt (own := RL) (As := [.int (xs (6 * q + 1)), .int (xs (6 * q + 2))]) (rest := [.int (Fabout r (xs (6 * q + 1)) (xs (6 * q + 2)))]) hx hb hml hown hts hK hW2 (k_X3_about l hM hIV _ _) ml_RL_46 im_yX3_about se_yX3_about in_RX3 cd_yX3_about 2 (by decide +kernel) ⟨Nat.le_of_ble_eq_true rfl, Nat.le_of_ble_eq_true rfl⟩ hM.1 rfl rfl rfl hl.1 rfl (Nat.le_of_ble_eq_true rfl) dL_law_404 ⟨show 100 + 2 * q + 0 + 0 ≤ 634830 from by omega, show 2000 + 14 * q + 0 + 0 ≤ 7197757 from by omega⟩ (fun v g3 H1 locs1 hp hW2 hKT => ?_)
        obtain ⟨hW1, hdis⟩ := hKT _ hW1 (dis_sym hdis)
        have hdis := dis_sym hdis
        obtain ⟨rfl, hg⟩ := hp
        rw [hg] at hW2 hdis
        refine W.eq (g2 := F0 m 407 ls [.int (Fabout r (xs (6 * q + 1)) (xs (6 * q + 2))), .int (Fabout r (xs (6 * q + 1)) (xs (6 * q + 2)))]) rfl ?_
        refine lv_icmp_eq (tgt := 699) hx hb dL_law_407 (by decide) (fun c_616 => ?_) (fun c_616 => ?_)
        · skip
          exact nxt hq6 _ _ _ _ _ _ _ _ _ _ _ _ _ (show 100 + 2 * q + 0 + 0 ≤ 100 + 2 * (q + 1) from by omega) (show 2000 + 14 * q + 0 + 0 ≤ 2000 + 14 * (q + 1) from by omega) hLI.same hR hM hW1 hW2 hdis (lv_sub hl [0, 1, 2, 3] rfl)
        · skip
          exact absurd rfl c_616
      by_cases c_617 : (xs (6 * q)) &&& (15) = 8
      · skip
        refine lv_tableIn (tgt := 412) hx hb dL_law_33 (by rw [c_617]; decide) (by rw [c_617]; decide) (by rw [c_617]; rfl) (by decide) ?_
        refine lv_aload_n hx hb dL_law_412 rfl (lv_at hl 1 rfl) ?_
        refine lv_aload_n hx hb dL_law_413 rfl (lv_at hl 0 rfl) ?_
        refine lv_iload_n hx hb dL_law_414 rfl (lv_at hl 3 rfl) ?_
        refine lv_iconst (v := 1) hx hb dL_law_415 (by decide) ?_
        refine lv_iadd hx hb dL_law_416 ?_
        refine l_sld (j := 6 * q + 1) hx hb hX hbl hbA hW1.2.1 hL ((add_e rfl (rfl : (1 : Int32) = nI 1))) (by omega) dL_law_417 ?_
        refine lv_aload_n hx hb dL_law_418 rfl (lv_at hl 0 rfl) ?_
        refine lv_iload_n hx hb dL_law_419 rfl (lv_at hl 3 rfl) ?_
        refine lv_iconst (v := 2) hx hb dL_law_420 (by decide) ?_
        refine lv_iadd hx hb dL_law_421 ?_
        refine l_sld (j := 6 * q + 2) hx hb hX hbl hbA hW1.2.1 hL ((add_e rfl (rfl : (2 : Int32) = nI 2))) (by omega) dL_law_422 ?_
        refine lv_aload_n hx hb dL_law_423 rfl (lv_at hl 0 rfl) ?_
        refine lv_iload_n hx hb dL_law_424 rfl (lv_at hl 3 rfl) ?_
        refine lv_iconst (v := 3) hx hb dL_law_425 (by decide) ?_
        refine lv_iadd hx hb dL_law_426 ?_
        refine l_sld (j := 6 * q + 3) hx hb hX hbl hbA hW1.2.1 hL ((add_e rfl (rfl : (3 : Int32) = nI 3))) (by omega) dL_law_427 ?_
        refine lv_aload_n hx hb dL_law_428 rfl (lv_at hl 0 rfl) ?_
        refine lv_iload_n hx hb dL_law_429 rfl (lv_at hl 3 rfl) ?_
        refine lv_iconst (v := 4) hx hb dL_law_430 (by decide) ?_
        refine lv_iadd hx hb dL_law_431 ?_
        refine l_sld (j := 6 * q + 4) hx hb hX hbl hbA hW1.2.1 hL ((add_e rfl (rfl : (4 : Int32) = nI 4))) (by omega) dL_law_432 ?_
        refine lv_aload_n hx hb dL_law_433 rfl (lv_at hl 0 rfl) ?_
        refine lv_iload_n hx hb dL_law_434 rfl (lv_at hl 3 rfl) ?_
        refine lv_iconst (v := 5) hx hb dL_law_435 (by decide) ?_
        refine lv_iadd hx hb dL_law_436 ?_
        refine l_sld (j := 6 * q + 5) hx hb hX hbl hbA hW1.2.1 hL ((add_e rfl (rfl : (5 : Int32) = nI 5))) (by omega) dL_law_437 ?_
        refine c_virt (own := RL) (As := [.int (xs (6 * q + 1)), .int (xs (6 * q + 2)), .int (xs (6 * q + 3)), .int (xs (6 * q + 4)), .int (xs (6 * q + 5))]) (rest := []) hx hb hml hown hts hK hW1 (k_X2_counter l hR (xs (6 * q + 1)) (fun h9 => (hIV.2.2.2 _ h9).1) _ _ _ _) ml_RL_47 im_yX2_counter se_yX2_counter in_RX2 cd_yX2_counter 5 (by decide +kernel) ⟨Nat.le_of_ble_eq_true rfl, Nat.le_of_ble_eq_true rfl⟩ hR.1 rfl rfl rfl hl.1 rfl (Nat.le_of_ble_eq_true rfl) dL_law_438 ⟨show 100 + 2 * q + 1 ≤ 634830 from by omega, show 2000 + 14 * q + 12 ≤ 7197757 from by omega⟩ (fun v g2 H1 locs1 hp hW1 hKT => ?_)
        obtain ⟨hW2, hdis⟩ := hKT gy hW2 hdis
        obtain ⟨rfl, ka, hR⟩ := hp
        refine W.eq (g2 := F0 m 441 ls [.int ((Fcounter r (xs (6 * q + 1)) (xs (6 * q + 2)) (xs (6 * q + 3)) (xs (6 * q + 4)) (xs (6 * q + 5))).1)]) rfl ?_
        refine lv_aload_n hx hb dL_law_441 rfl (lv_at hl 2 rfl) ?_
        refine lv_aload_n hx hb dL_law_442 rfl (lv_at hl 0 rfl) ?_
        refine lv_iload_n hx hb dL_law_443 rfl (lv_at hl 3 rfl) ?_
        refine lv_iconst (v := 1) hx hb dL_law_444 (by decide) ?_
        refine lv_iadd hx hb dL_law_445 ?_
        refine l_sld (j := 6 * q + 1) hx hb hX hbl hbA hW1.2.1 hL ((add_e rfl (rfl : (1 : Int32) = nI 1))) (by omega) dL_law_446 ?_
        refine lv_aload_n hx hb dL_law_447 rfl (lv_at hl 0 rfl) ?_
        refine lv_iload_n hx hb dL_law_448 rfl (lv_at hl 3 rfl) ?_
        refine lv_iconst (v := 2) hx hb dL_law_449 (by decide) ?_
        refine lv_iadd hx hb dL_law_450 ?_
        refine l_sld (j := 6 * q + 2) hx hb hX hbl hbA hW1.2.1 hL ((add_e rfl (rfl : (2 : Int32) = nI 2))) (by omega) dL_law_451 ?_
        refine lv_aload_n hx hb dL_law_452 rfl (lv_at hl 0 rfl) ?_
        refine lv_iload_n hx hb dL_law_453 rfl (lv_at hl 3 rfl) ?_
        refine lv_iconst (v := 3) hx hb dL_law_454 (by decide) ?_
        refine lv_iadd hx hb dL_law_455 ?_
        refine l_sld (j := 6 * q + 3) hx hb hX hbl hbA hW1.2.1 hL ((add_e rfl (rfl : (3 : Int32) = nI 3))) (by omega) dL_law_456 ?_
        refine lv_aload_n hx hb dL_law_457 rfl (lv_at hl 0 rfl) ?_
        refine lv_iload_n hx hb dL_law_458 rfl (lv_at hl 3 rfl) ?_
        refine lv_iconst (v := 4) hx hb dL_law_459 (by decide) ?_
        refine lv_iadd hx hb dL_law_460 ?_
        refine l_sld (j := 6 * q + 4) hx hb hX hbl hbA hW1.2.1 hL ((add_e rfl (rfl : (4 : Int32) = nI 4))) (by omega) dL_law_461 ?_
        refine lv_aload_n hx hb dL_law_462 rfl (lv_at hl 0 rfl) ?_
        refine lv_iload_n hx hb dL_law_463 rfl (lv_at hl 3 rfl) ?_
        refine lv_iconst (v := 5) hx hb dL_law_464 (by decide) ?_
        refine lv_iadd hx hb dL_law_465 ?_
        refine l_sld (j := 6 * q + 5) hx hb hX hbl hbA hW1.2.1 hL ((add_e rfl (rfl : (5 : Int32) = nI 5))) (by omega) dL_law_466 ?_
        refine c_virt (own := RL) (As := [.int (xs (6 * q + 1)), .int (xs (6 * q + 2)), .int (xs (6 * q + 3)), .int (xs (6 * q + 4)), .int (xs (6 * q + 5))]) (rest := [.int ((Fcounter r (xs (6 * q + 1)) (xs (6 * q + 2)) (xs (6 * q + 3)) (xs (6 * q + 4)) (xs (6 * q + 5))).1)]) hx hb hml hown hts hK hW2 (k_X3_counter l hM hIV _ _ _ _ _) ml_RL_51 im_yX3_counter se_yX3_counter in_RX3 cd_yX3_counter 5 (by decide +kernel) ⟨Nat.le_of_ble_eq_true rfl, Nat.le_of_ble_eq_true rfl⟩ hM.1 rfl rfl rfl hl.1 rfl (Nat.le_of_ble_eq_true rfl) dL_law_467 ⟨show 100 + 2 * q + 1 + 0 ≤ 634830 from by omega, show 2000 + 14 * q + 12 + 0 ≤ 7197757 from by omega⟩ (fun v g3 H1 locs1 hp hW2 hKT => ?_)
        obtain ⟨hW1, hdis⟩ := hKT _ hW1 (dis_sym hdis)
        have hdis := dis_sym hdis
        obtain ⟨rfl, hM⟩ := hp
        refine W.eq (g2 := F0 m 470 ls [.int ((Fcounter r (xs (6 * q + 1)) (xs (6 * q + 2)) (xs (6 * q + 3)) (xs (6 * q + 4)) (xs (6 * q + 5))).1), .int ((Fcounter r (xs (6 * q + 1)) (xs (6 * q + 2)) (xs (6 * q + 3)) (xs (6 * q + 4)) (xs (6 * q + 5))).1)]) rfl ?_
        refine lv_icmp_eq (tgt := 699) hx hb dL_law_470 (by decide) (fun c_618 => ?_) (fun c_618 => ?_)
        · skip
          exact nxt hq6 _ _ _ _ _ _ _ _ _ _ _ _ _ (show 100 + 2 * q + 1 + 0 ≤ 100 + 2 * (q + 1) from by omega) (show 2000 + 14 * q + 12 + 0 ≤ 2000 + 14 * (q + 1) from by omega) (hLI.keep (IV_counter hIV _ _ _ _ _)) hR hM hW1 hW2 hdis (lv_sub hl [0, 1, 2, 3] rfl)
        · skip
          exact absurd rfl c_618
      by_cases c_619 : (xs (6 * q)) &&& (15) = 9
      · skip
        refine lv_tableIn (tgt := 475) hx hb dL_law_33 (by rw [c_619]; decide) (by rw [c_619]; decide) (by rw [c_619]; rfl) (by decide) ?_
        refine lv_aload_n hx hb dL_law_475 rfl (lv_at hl 1 rfl) ?_
        refine lv_aload_n hx hb dL_law_476 rfl (lv_at hl 0 rfl) ?_
        refine lv_iload_n hx hb dL_law_477 rfl (lv_at hl 3 rfl) ?_
        refine lv_iconst (v := 1) hx hb dL_law_478 (by decide) ?_
        refine lv_iadd hx hb dL_law_479 ?_
        refine l_sld (j := 6 * q + 1) hx hb hX hbl hbA hW1.2.1 hL ((add_e rfl (rfl : (1 : Int32) = nI 1))) (by omega) dL_law_480 ?_
        refine lv_aload_n hx hb dL_law_481 rfl (lv_at hl 0 rfl) ?_
        refine lv_iload_n hx hb dL_law_482 rfl (lv_at hl 3 rfl) ?_
        refine lv_iconst (v := 2) hx hb dL_law_483 (by decide) ?_
        refine lv_iadd hx hb dL_law_484 ?_
        refine l_sld (j := 6 * q + 2) hx hb hX hbl hbA hW1.2.1 hL ((add_e rfl (rfl : (2 : Int32) = nI 2))) (by omega) dL_law_485 ?_
        refine lv_aload_n hx hb dL_law_486 rfl (lv_at hl 0 rfl) ?_
        refine lv_iload_n hx hb dL_law_487 rfl (lv_at hl 3 rfl) ?_
        refine lv_iconst (v := 3) hx hb dL_law_488 (by decide) ?_
        refine lv_iadd hx hb dL_law_489 ?_
        refine l_sld (j := 6 * q + 3) hx hb hX hbl hbA hW1.2.1 hL ((add_e rfl (rfl : (3 : Int32) = nI 3))) (by omega) dL_law_490 ?_
        refine lv_aload_n hx hb dL_law_491 rfl (lv_at hl 0 rfl) ?_
        refine lv_iload_n hx hb dL_law_492 rfl (lv_at hl 3 rfl) ?_
        refine lv_iconst (v := 4) hx hb dL_law_493 (by decide) ?_
        refine lv_iadd hx hb dL_law_494 ?_
        refine l_sld (j := 6 * q + 4) hx hb hX hbl hbA hW1.2.1 hL ((add_e rfl (rfl : (4 : Int32) = nI 4))) (by omega) dL_law_495 ?_
        refine lv_aload_n hx hb dL_law_496 rfl (lv_at hl 0 rfl) ?_
        refine lv_iload_n hx hb dL_law_497 rfl (lv_at hl 3 rfl) ?_
        refine lv_iconst (v := 5) hx hb dL_law_498 (by decide) ?_
        refine lv_iadd hx hb dL_law_499 ?_
        refine l_sld (j := 6 * q + 5) hx hb hX hbl hbA hW1.2.1 hL ((add_e rfl (rfl : (5 : Int32) = nI 5))) (by omega) dL_law_500 ?_
        refine c_virt (own := RL) (As := [.int (xs (6 * q + 1)), .int (xs (6 * q + 2)), .int (xs (6 * q + 3)), .int (xs (6 * q + 4)), .int (xs (6 * q + 5))]) (rest := []) hx hb hml hown hts hK hW1 (k_X2_job l hR _ _ _ _ _) ml_RL_52 im_yX2_job se_yX2_job in_RX2 cd_yX2_job 5 (by decide +kernel) ⟨Nat.le_of_ble_eq_true rfl, Nat.le_of_ble_eq_true rfl⟩ hR.1 rfl rfl rfl hl.1 rfl (Nat.le_of_ble_eq_true rfl) dL_law_501 ⟨show 100 + 2 * q + 0 ≤ 634830 from by omega, show 2000 + 14 * q + 0 ≤ 7197757 from by omega⟩ (fun v g2 H1 locs1 hp hW1 hKT => ?_)
        obtain ⟨hW2, hdis⟩ := hKT gy hW2 hdis
        obtain ⟨rfl, hR⟩ := hp
        refine W.eq (g2 := F0 m 504 ls [.int ((Fjob r (xs (6 * q + 1)) (xs (6 * q + 2)) (xs (6 * q + 3)) (xs (6 * q + 4)) (xs (6 * q + 5))).1)]) rfl ?_
        refine lv_aload_n hx hb dL_law_504 rfl (lv_at hl 2 rfl) ?_
        refine lv_aload_n hx hb dL_law_505 rfl (lv_at hl 0 rfl) ?_
        refine lv_iload_n hx hb dL_law_506 rfl (lv_at hl 3 rfl) ?_
        refine lv_iconst (v := 1) hx hb dL_law_507 (by decide) ?_
        refine lv_iadd hx hb dL_law_508 ?_
        refine l_sld (j := 6 * q + 1) hx hb hX hbl hbA hW1.2.1 hL ((add_e rfl (rfl : (1 : Int32) = nI 1))) (by omega) dL_law_509 ?_
        refine lv_aload_n hx hb dL_law_510 rfl (lv_at hl 0 rfl) ?_
        refine lv_iload_n hx hb dL_law_511 rfl (lv_at hl 3 rfl) ?_
        refine lv_iconst (v := 2) hx hb dL_law_512 (by decide) ?_
        refine lv_iadd hx hb dL_law_513 ?_
        refine l_sld (j := 6 * q + 2) hx hb hX hbl hbA hW1.2.1 hL ((add_e rfl (rfl : (2 : Int32) = nI 2))) (by omega) dL_law_514 ?_
        refine lv_aload_n hx hb dL_law_515 rfl (lv_at hl 0 rfl) ?_
        refine lv_iload_n hx hb dL_law_516 rfl (lv_at hl 3 rfl) ?_
        refine lv_iconst (v := 3) hx hb dL_law_517 (by decide) ?_
        refine lv_iadd hx hb dL_law_518 ?_
        refine l_sld (j := 6 * q + 3) hx hb hX hbl hbA hW1.2.1 hL ((add_e rfl (rfl : (3 : Int32) = nI 3))) (by omega) dL_law_519 ?_
        refine lv_aload_n hx hb dL_law_520 rfl (lv_at hl 0 rfl) ?_
        refine lv_iload_n hx hb dL_law_521 rfl (lv_at hl 3 rfl) ?_
        refine lv_iconst (v := 4) hx hb dL_law_522 (by decide) ?_
        refine lv_iadd hx hb dL_law_523 ?_
        refine l_sld (j := 6 * q + 4) hx hb hX hbl hbA hW1.2.1 hL ((add_e rfl (rfl : (4 : Int32) = nI 4))) (by omega) dL_law_524 ?_
        refine lv_aload_n hx hb dL_law_525 rfl (lv_at hl 0 rfl) ?_
        refine lv_iload_n hx hb dL_law_526 rfl (lv_at hl 3 rfl) ?_
        refine lv_iconst (v := 5) hx hb dL_law_527 (by decide) ?_
        refine lv_iadd hx hb dL_law_528 ?_
        refine l_sld (j := 6 * q + 5) hx hb hX hbl hbA hW1.2.1 hL ((add_e rfl (rfl : (5 : Int32) = nI 5))) (by omega) dL_law_529 ?_
        refine c_virt (own := RL) (As := [.int (xs (6 * q + 1)), .int (xs (6 * q + 2)), .int (xs (6 * q + 3)), .int (xs (6 * q + 4)), .int (xs (6 * q + 5))]) (rest := [.int ((Fjob r (xs (6 * q + 1)) (xs (6 * q + 2)) (xs (6 * q + 3)) (xs (6 * q + 4)) (xs (6 * q + 5))).1)]) hx hb hml hown hts hK hW2 (k_X3_job l hM hIV _ _ _ _ _) ml_RL_55 im_yX3_job se_yX3_job in_RX3 cd_yX3_job 5 (by decide +kernel) ⟨Nat.le_of_ble_eq_true rfl, Nat.le_of_ble_eq_true rfl⟩ hM.1 rfl rfl rfl hl.1 rfl (Nat.le_of_ble_eq_true rfl) dL_law_530 ⟨show 100 + 2 * q + 0 + 0 ≤ 634830 from by omega, show 2000 + 14 * q + 0 + 0 ≤ 7197757 from by omega⟩ (fun v g3 H1 locs1 hp hW2 hKT => ?_)
        obtain ⟨hW1, hdis⟩ := hKT _ hW1 (dis_sym hdis)
        have hdis := dis_sym hdis
        obtain ⟨rfl, hM⟩ := hp
        refine W.eq (g2 := F0 m 533 ls [.int ((Fjob r (xs (6 * q + 1)) (xs (6 * q + 2)) (xs (6 * q + 3)) (xs (6 * q + 4)) (xs (6 * q + 5))).1), .int ((Fjob r (xs (6 * q + 1)) (xs (6 * q + 2)) (xs (6 * q + 3)) (xs (6 * q + 4)) (xs (6 * q + 5))).1)]) rfl ?_
        refine lv_icmp_eq (tgt := 699) hx hb dL_law_533 (by decide) (fun c_620 => ?_) (fun c_620 => ?_)
        · skip
          exact nxt hq6 _ _ _ _ _ _ _ _ _ _ _ _ _ (show 100 + 2 * q + 0 + 0 ≤ 100 + 2 * (q + 1) from by omega) (show 2000 + 14 * q + 0 + 0 ≤ 2000 + 14 * (q + 1) from by omega) (hLI.keep (IV_job hIV _ _ _ _ _)) hR hM hW1 hW2 hdis (lv_sub hl [0, 1, 2, 3] rfl)
        · skip
          exact absurd rfl c_620
      by_cases c_621 : (xs (6 * q)) &&& (15) = 10
      · skip
        refine lv_tableIn (tgt := 538) hx hb dL_law_33 (by rw [c_621]; decide) (by rw [c_621]; decide) (by rw [c_621]; rfl) (by decide) ?_
        refine lv_aload_n hx hb dL_law_538 rfl (lv_at hl 1 rfl) ?_
        refine lv_aload_n hx hb dL_law_539 rfl (lv_at hl 0 rfl) ?_
        refine lv_iload_n hx hb dL_law_540 rfl (lv_at hl 3 rfl) ?_
        refine lv_iconst (v := 1) hx hb dL_law_541 (by decide) ?_
        refine lv_iadd hx hb dL_law_542 ?_
        refine l_sld (j := 6 * q + 1) hx hb hX hbl hbA hW1.2.1 hL ((add_e rfl (rfl : (1 : Int32) = nI 1))) (by omega) dL_law_543 ?_
        refine lv_aload_n hx hb dL_law_544 rfl (lv_at hl 0 rfl) ?_
        refine lv_iload_n hx hb dL_law_545 rfl (lv_at hl 3 rfl) ?_
        refine lv_iconst (v := 2) hx hb dL_law_546 (by decide) ?_
        refine lv_iadd hx hb dL_law_547 ?_
        refine l_sld (j := 6 * q + 2) hx hb hX hbl hbA hW1.2.1 hL ((add_e rfl (rfl : (2 : Int32) = nI 2))) (by omega) dL_law_548 ?_
        refine lv_if_eq (tgt := 556) hx hb dL_law_549 (by decide) (fun c_622 => ?_) (fun c_622 => ?_)
        · skip
          refine lv_iconst (v := 0) hx hb dL_law_556 (by decide) ?_
          refine c_virt (own := RL) (As := [.int (xs (6 * q + 1)), .int (0)]) (rest := []) hx hb hml hown hts hK hW1 (k_X2_shut l hR _ false) ml_RL_56 im_yX2_shut se_yX2_shut in_RX2 cd_yX2_shut 2 (by decide +kernel) ⟨Nat.le_of_ble_eq_true rfl, Nat.le_of_ble_eq_true rfl⟩ hR.1 rfl rfl rfl hl.1 rfl (Nat.le_of_ble_eq_true rfl) dL_law_557 ⟨show 100 + 2 * q + 0 ≤ 634830 from by omega, show 2000 + 14 * q + 0 ≤ 7197757 from by omega⟩ (fun v g2 H1 locs1 hp hW1 hKT => ?_)
          obtain ⟨hW2, hdis⟩ := hKT gy hW2 hdis
          obtain ⟨rfl, hR⟩ := hp
          refine W.eq (g2 := F0 m 560 ls [.int ((Fshut r (xs (6 * q + 1)) false).1)]) rfl ?_
          refine lv_aload_n hx hb dL_law_560 rfl (lv_at hl 2 rfl) ?_
          refine lv_aload_n hx hb dL_law_561 rfl (lv_at hl 0 rfl) ?_
          refine lv_iload_n hx hb dL_law_562 rfl (lv_at hl 3 rfl) ?_
          refine lv_iconst (v := 1) hx hb dL_law_563 (by decide) ?_
          refine lv_iadd hx hb dL_law_564 ?_
          refine l_sld (j := 6 * q + 1) hx hb hX hbl hbA hW1.2.1 hL ((add_e rfl (rfl : (1 : Int32) = nI 1))) (by omega) dL_law_565 ?_
          refine lv_aload_n hx hb dL_law_566 rfl (lv_at hl 0 rfl) ?_
          refine lv_iload_n hx hb dL_law_567 rfl (lv_at hl 3 rfl) ?_
          refine lv_iconst (v := 2) hx hb dL_law_568 (by decide) ?_
          refine lv_iadd hx hb dL_law_569 ?_
          refine l_sld (j := 6 * q + 2) hx hb hX hbl hbA hW1.2.1 hL ((add_e rfl (rfl : (2 : Int32) = nI 2))) (by omega) dL_law_570 ?_
          refine lv_if_eq (tgt := 578) hx hb dL_law_571 (by decide) (fun c_623 => ?_) (fun c_623 => ?_)
          · skip
            refine lv_iconst (v := 0) hx hb dL_law_578 (by decide) ?_
            refine c_virt (own := RL) (As := [.int (xs (6 * q + 1)), .int (0)]) (rest := [.int ((Fshut r (xs (6 * q + 1)) false).1)]) hx hb hml hown hts hK hW2 (k_X3_shut l hM hIV _ false) ml_RL_60 im_yX3_shut se_yX3_shut in_RX3 cd_yX3_shut 2 (by decide +kernel) ⟨Nat.le_of_ble_eq_true rfl, Nat.le_of_ble_eq_true rfl⟩ hM.1 rfl rfl rfl hl.1 rfl (Nat.le_of_ble_eq_true rfl) dL_law_579 ⟨show 100 + 2 * q + 0 + 0 ≤ 634830 from by omega, show 2000 + 14 * q + 0 + 0 ≤ 7197757 from by omega⟩ (fun v g3 H1 locs1 hp hW2 hKT => ?_)
            obtain ⟨hW1, hdis⟩ := hKT _ hW1 (dis_sym hdis)
            have hdis := dis_sym hdis
            obtain ⟨rfl, hM⟩ := hp
            refine W.eq (g2 := F0 m 582 ls [.int ((Fshut r (xs (6 * q + 1)) false).1), .int ((Fshut r (xs (6 * q + 1)) false).1)]) rfl ?_
            refine lv_icmp_eq (tgt := 699) hx hb dL_law_582 (by decide) (fun c_624 => ?_) (fun c_624 => ?_)
            · skip
              exact nxt hq6 _ _ _ _ _ _ _ _ _ _ _ _ _ (show 100 + 2 * q + 0 + 0 ≤ 100 + 2 * (q + 1) from by omega) (show 2000 + 14 * q + 0 + 0 ≤ 2000 + 14 * (q + 1) from by omega) (hLI.keep (IV_shut hIV _ _)) hR hM hW1 hW2 hdis (lv_sub hl [0, 1, 2, 3] rfl)
            · skip
              exact absurd rfl c_624
          · skip
            exact absurd c_622 c_623
        · skip
          refine lv_iconst (v := 1) hx hb dL_law_552 (by decide) ?_
          refine lv_goto (tgt := 557) hx hb dL_law_553 (by decide) ?_
          refine c_virt (own := RL) (As := [.int (xs (6 * q + 1)), .int (1)]) (rest := []) hx hb hml hown hts hK hW1 (k_X2_shut l hR _ true) ml_RL_56 im_yX2_shut se_yX2_shut in_RX2 cd_yX2_shut 2 (by decide +kernel) ⟨Nat.le_of_ble_eq_true rfl, Nat.le_of_ble_eq_true rfl⟩ hR.1 rfl rfl rfl hl.1 rfl (Nat.le_of_ble_eq_true rfl) dL_law_557 ⟨show 100 + 2 * q + 0 ≤ 634830 from by omega, show 2000 + 14 * q + 0 ≤ 7197757 from by omega⟩ (fun v g2 H1 locs1 hp hW1 hKT => ?_)
          obtain ⟨hW2, hdis⟩ := hKT gy hW2 hdis
          obtain ⟨rfl, hR⟩ := hp
          refine W.eq (g2 := F0 m 560 ls [.int ((Fshut r (xs (6 * q + 1)) true).1)]) rfl ?_
          refine lv_aload_n hx hb dL_law_560 rfl (lv_at hl 2 rfl) ?_
          refine lv_aload_n hx hb dL_law_561 rfl (lv_at hl 0 rfl) ?_
          refine lv_iload_n hx hb dL_law_562 rfl (lv_at hl 3 rfl) ?_
          refine lv_iconst (v := 1) hx hb dL_law_563 (by decide) ?_
          refine lv_iadd hx hb dL_law_564 ?_
          refine l_sld (j := 6 * q + 1) hx hb hX hbl hbA hW1.2.1 hL ((add_e rfl (rfl : (1 : Int32) = nI 1))) (by omega) dL_law_565 ?_
          refine lv_aload_n hx hb dL_law_566 rfl (lv_at hl 0 rfl) ?_
          refine lv_iload_n hx hb dL_law_567 rfl (lv_at hl 3 rfl) ?_
          refine lv_iconst (v := 2) hx hb dL_law_568 (by decide) ?_
          refine lv_iadd hx hb dL_law_569 ?_
          refine l_sld (j := 6 * q + 2) hx hb hX hbl hbA hW1.2.1 hL ((add_e rfl (rfl : (2 : Int32) = nI 2))) (by omega) dL_law_570 ?_
          refine lv_if_eq (tgt := 578) hx hb dL_law_571 (by decide) (fun c_625 => ?_) (fun c_625 => ?_)
          · skip
            exact absurd c_625 c_622
          · skip
            refine lv_iconst (v := 1) hx hb dL_law_574 (by decide) ?_
            refine lv_goto (tgt := 579) hx hb dL_law_575 (by decide) ?_
            refine c_virt (own := RL) (As := [.int (xs (6 * q + 1)), .int (1)]) (rest := [.int ((Fshut r (xs (6 * q + 1)) true).1)]) hx hb hml hown hts hK hW2 (k_X3_shut l hM hIV _ true) ml_RL_60 im_yX3_shut se_yX3_shut in_RX3 cd_yX3_shut 2 (by decide +kernel) ⟨Nat.le_of_ble_eq_true rfl, Nat.le_of_ble_eq_true rfl⟩ hM.1 rfl rfl rfl hl.1 rfl (Nat.le_of_ble_eq_true rfl) dL_law_579 ⟨show 100 + 2 * q + 0 + 0 ≤ 634830 from by omega, show 2000 + 14 * q + 0 + 0 ≤ 7197757 from by omega⟩ (fun v g3 H1 locs1 hp hW2 hKT => ?_)
            obtain ⟨hW1, hdis⟩ := hKT _ hW1 (dis_sym hdis)
            have hdis := dis_sym hdis
            obtain ⟨rfl, hM⟩ := hp
            refine W.eq (g2 := F0 m 582 ls [.int ((Fshut r (xs (6 * q + 1)) true).1), .int ((Fshut r (xs (6 * q + 1)) true).1)]) rfl ?_
            refine lv_icmp_eq (tgt := 699) hx hb dL_law_582 (by decide) (fun c_626 => ?_) (fun c_626 => ?_)
            · skip
              exact nxt hq6 _ _ _ _ _ _ _ _ _ _ _ _ _ (show 100 + 2 * q + 0 + 0 ≤ 100 + 2 * (q + 1) from by omega) (show 2000 + 14 * q + 0 + 0 ≤ 2000 + 14 * (q + 1) from by omega) (hLI.keep (IV_shut hIV _ _)) hR hM hW1 hW2 hdis (lv_sub hl [0, 1, 2, 3] rfl)
            · skip
              exact absurd rfl c_626
      by_cases c_627 : (xs (6 * q)) &&& (15) = 11
      · skip
        refine lv_tableIn (tgt := 587) hx hb dL_law_33 (by rw [c_627]; decide) (by rw [c_627]; decide) (by rw [c_627]; rfl) (by decide) ?_
        refine lv_aload_n hx hb dL_law_587 rfl (lv_at hl 1 rfl) ?_
        refine lv_aload_n hx hb dL_law_588 rfl (lv_at hl 0 rfl) ?_
        refine lv_iload_n hx hb dL_law_589 rfl (lv_at hl 3 rfl) ?_
        refine lv_iconst (v := 1) hx hb dL_law_590 (by decide) ?_
        refine lv_iadd hx hb dL_law_591 ?_
        refine l_sld (j := 6 * q + 1) hx hb hX hbl hbA hW1.2.1 hL ((add_e rfl (rfl : (1 : Int32) = nI 1))) (by omega) dL_law_592 ?_
        refine lv_aload_n hx hb dL_law_593 rfl (lv_at hl 0 rfl) ?_
        refine lv_iload_n hx hb dL_law_594 rfl (lv_at hl 3 rfl) ?_
        refine lv_iconst (v := 2) hx hb dL_law_595 (by decide) ?_
        refine lv_iadd hx hb dL_law_596 ?_
        refine l_sld (j := 6 * q + 2) hx hb hX hbl hbA hW1.2.1 hL ((add_e rfl (rfl : (2 : Int32) = nI 2))) (by omega) dL_law_597 ?_
        refine c_virt (own := RL) (As := [.int (xs (6 * q + 1)), .int (xs (6 * q + 2))]) (rest := []) hx hb hml hown hts hK hW1 (k_X2_send l hR hIV _ _) ml_RL_61 im_yX2_send se_yX2_send in_RX2 cd_yX2_send 2 (by decide +kernel) ⟨Nat.le_of_ble_eq_true rfl, Nat.le_of_ble_eq_true rfl⟩ hR.1 rfl rfl rfl hl.1 rfl (Nat.le_of_ble_eq_true rfl) dL_law_598 ⟨show 100 + 2 * q + 0 ≤ 634830 from by omega, show 2000 + 14 * q + 0 ≤ 7197757 from by omega⟩ (fun v g2 H1 locs1 hp hW1 hKT => ?_)
        obtain ⟨hW2, hdis⟩ := hKT gy hW2 hdis
        obtain ⟨rfl, hR⟩ := hp
        refine W.eq (g2 := F0 m 601 ls [.int ((Fsend r (xs (6 * q + 1)) (xs (6 * q + 2))).1)]) rfl ?_
        refine lv_aload_n hx hb dL_law_601 rfl (lv_at hl 2 rfl) ?_
        refine lv_aload_n hx hb dL_law_602 rfl (lv_at hl 0 rfl) ?_
        refine lv_iload_n hx hb dL_law_603 rfl (lv_at hl 3 rfl) ?_
        refine lv_iconst (v := 1) hx hb dL_law_604 (by decide) ?_
        refine lv_iadd hx hb dL_law_605 ?_
        refine l_sld (j := 6 * q + 1) hx hb hX hbl hbA hW1.2.1 hL ((add_e rfl (rfl : (1 : Int32) = nI 1))) (by omega) dL_law_606 ?_
        refine lv_aload_n hx hb dL_law_607 rfl (lv_at hl 0 rfl) ?_
        refine lv_iload_n hx hb dL_law_608 rfl (lv_at hl 3 rfl) ?_
        refine lv_iconst (v := 2) hx hb dL_law_609 (by decide) ?_
        refine lv_iadd hx hb dL_law_610 ?_
        refine l_sld (j := 6 * q + 2) hx hb hX hbl hbA hW1.2.1 hL ((add_e rfl (rfl : (2 : Int32) = nI 2))) (by omega) dL_law_611 ?_
        refine c_virt (own := RL) (As := [.int (xs (6 * q + 1)), .int (xs (6 * q + 2))]) (rest := [.int ((Fsend r (xs (6 * q + 1)) (xs (6 * q + 2))).1)]) hx hb hml hown hts hK hW2 (k_X3_send l hM hIV _ _) ml_RL_64 im_yX3_send se_yX3_send in_RX3 cd_yX3_send 2 (by decide +kernel) ⟨Nat.le_of_ble_eq_true rfl, Nat.le_of_ble_eq_true rfl⟩ hM.1 rfl rfl rfl hl.1 rfl (Nat.le_of_ble_eq_true rfl) dL_law_612 ⟨show 100 + 2 * q + 0 + 0 ≤ 634830 from by omega, show 2000 + 14 * q + 0 + 0 ≤ 7197757 from by omega⟩ (fun v g3 H1 locs1 hp hW2 hKT => ?_)
        obtain ⟨hW1, hdis⟩ := hKT _ hW1 (dis_sym hdis)
        have hdis := dis_sym hdis
        obtain ⟨rfl, t, hM⟩ := hp
        refine W.eq (g2 := F0 m 615 ls [.int ((Fsend r (xs (6 * q + 1)) (xs (6 * q + 2))).1), .int ((Fsend r (xs (6 * q + 1)) (xs (6 * q + 2))).1)]) rfl ?_
        refine lv_icmp_eq (tgt := 699) hx hb dL_law_615 (by decide) (fun c_628 => ?_) (fun c_628 => ?_)
        · skip
          exact nxt hq6 _ _ _ _ _ _ _ _ _ _ _ _ _ (show 100 + 2 * q + 0 + 0 ≤ 100 + 2 * (q + 1) from by omega) (show 2000 + 14 * q + 0 + 0 ≤ 2000 + 14 * (q + 1) from by omega) (LI.send (by omega) hLI _ _) hR hM hW1 hW2 hdis (lv_sub hl [0, 1, 2, 3] rfl)
        · skip
          exact absurd rfl c_628
      by_cases c_629 : (xs (6 * q)) &&& (15) = 12
      · skip
        refine lv_tableIn (tgt := 620) hx hb dL_law_33 (by rw [c_629]; decide) (by rw [c_629]; decide) (by rw [c_629]; rfl) (by decide) ?_
        refine lv_aload_n hx hb dL_law_620 rfl (lv_at hl 1 rfl) ?_
        refine lv_aload_n hx hb dL_law_621 rfl (lv_at hl 0 rfl) ?_
        refine lv_iload_n hx hb dL_law_622 rfl (lv_at hl 3 rfl) ?_
        refine lv_iconst (v := 1) hx hb dL_law_623 (by decide) ?_
        refine lv_iadd hx hb dL_law_624 ?_
        refine l_sld (j := 6 * q + 1) hx hb hX hbl hbA hW1.2.1 hL ((add_e rfl (rfl : (1 : Int32) = nI 1))) (by omega) dL_law_625 ?_
        refine c_virt (own := RL) (As := [.int (xs (6 * q + 1))]) (rest := []) hx hb hml hown hts hK hW1 (k_X2_told l hR _) ml_RL_65 im_yX2_told se_yX2_told in_RX2 cd_yX2_told 1 (by decide +kernel) ⟨Nat.le_of_ble_eq_true rfl, Nat.le_of_ble_eq_true rfl⟩ hR.1 rfl rfl rfl hl.1 rfl (Nat.le_of_ble_eq_true rfl) dL_law_626 ⟨show 100 + 2 * q + 0 ≤ 634830 from by omega, show 2000 + 14 * q + 0 ≤ 7197757 from by omega⟩ (fun v g2 H1 locs1 hp hW1 hKT => ?_)
        obtain ⟨hW2, hdis⟩ := hKT gy hW2 hdis
        obtain ⟨rfl, hg⟩ := hp
        rw [hg] at hW1 hdis
        refine W.eq (g2 := F0 m 629 ls [.int (Ftold (r 17 1 == 0) r (xs (6 * q + 1)))]) rfl ?_
        refine lv_aload_n hx hb dL_law_629 rfl (lv_at hl 2 rfl) ?_
        refine lv_aload_n hx hb dL_law_630 rfl (lv_at hl 0 rfl) ?_
        refine lv_iload_n hx hb dL_law_631 rfl (lv_at hl 3 rfl) ?_
        refine lv_iconst (v := 1) hx hb dL_law_632 (by decide) ?_
        refine lv_iadd hx hb dL_law_633 ?_
        refine l_sld (j := 6 * q + 1) hx hb hX hbl hbA hW1.2.1 hL ((add_e rfl (rfl : (1 : Int32) = nI 1))) (by omega) dL_law_634 ?_
        refine c_virt (own := RL) (As := [.int (xs (6 * q + 1))]) (rest := [.int (Ftold (r 17 1 == 0) r (xs (6 * q + 1)))]) hx hb hml hown hts hK hW2 (k_X3_told l hM hIV _) ml_RL_69 im_yX3_told se_yX3_told in_RX3 cd_yX3_told 1 (by decide +kernel) ⟨Nat.le_of_ble_eq_true rfl, Nat.le_of_ble_eq_true rfl⟩ hM.1 rfl rfl rfl hl.1 rfl (Nat.le_of_ble_eq_true rfl) dL_law_635 ⟨show 100 + 2 * q + 0 + 0 ≤ 634830 from by omega, show 2000 + 14 * q + 0 + 0 ≤ 7197757 from by omega⟩ (fun v g3 H1 locs1 hp hW2 hKT => ?_)
        obtain ⟨hW1, hdis⟩ := hKT _ hW1 (dis_sym hdis)
        have hdis := dis_sym hdis
        obtain ⟨rfl, hg⟩ := hp
        rw [hg] at hW2 hdis
        refine W.eq (g2 := F0 m 638 ls [.int (Ftold (r 17 1 == 0) r (xs (6 * q + 1))), .int (Ftold (r 17 1 == 0) r (xs (6 * q + 1)))]) rfl ?_
        refine lv_icmp_eq (tgt := 699) hx hb dL_law_638 (by decide) (fun c_630 => ?_) (fun c_630 => ?_)
        · skip
          exact nxt hq6 _ _ _ _ _ _ _ _ _ _ _ _ _ (show 100 + 2 * q + 0 + 0 ≤ 100 + 2 * (q + 1) from by omega) (show 2000 + 14 * q + 0 + 0 ≤ 2000 + 14 * (q + 1) from by omega) hLI.same hR hM hW1 hW2 hdis (lv_sub hl [0, 1, 2, 3] rfl)
        · skip
          exact absurd rfl c_630
      by_cases c_631 : (xs (6 * q)) &&& (15) = 13
      · skip
        refine lv_tableIn (tgt := 643) hx hb dL_law_33 (by rw [c_631]; decide) (by rw [c_631]; decide) (by rw [c_631]; rfl) (by decide) ?_
        refine lv_aload_n hx hb dL_law_643 rfl (lv_at hl 1 rfl) ?_
        refine lv_aload_n hx hb dL_law_644 rfl (lv_at hl 0 rfl) ?_
        refine lv_iload_n hx hb dL_law_645 rfl (lv_at hl 3 rfl) ?_
        refine lv_iconst (v := 1) hx hb dL_law_646 (by decide) ?_
        refine lv_iadd hx hb dL_law_647 ?_
        refine l_sld (j := 6 * q + 1) hx hb hX hbl hbA hW1.2.1 hL ((add_e rfl (rfl : (1 : Int32) = nI 1))) (by omega) dL_law_648 ?_
        refine lv_aload_n hx hb dL_law_649 rfl (lv_at hl 0 rfl) ?_
        refine lv_iload_n hx hb dL_law_650 rfl (lv_at hl 3 rfl) ?_
        refine lv_iconst (v := 2) hx hb dL_law_651 (by decide) ?_
        refine lv_iadd hx hb dL_law_652 ?_
        refine l_sld (j := 6 * q + 2) hx hb hX hbl hbA hW1.2.1 hL ((add_e rfl (rfl : (2 : Int32) = nI 2))) (by omega) dL_law_653 ?_
        refine c_virt (own := RL) (As := [.int (xs (6 * q + 1)), .int (xs (6 * q + 2))]) (rest := []) hx hb hml hown hts hK hW1 (k_X2_of l hR _ _) ml_RL_70 im_yX2_of se_yX2_of in_RX2 cd_yX2_of 2 (by decide +kernel) ⟨Nat.le_of_ble_eq_true rfl, Nat.le_of_ble_eq_true rfl⟩ hR.1 rfl rfl rfl hl.1 rfl (Nat.le_of_ble_eq_true rfl) dL_law_654 ⟨show 100 + 2 * q + 0 ≤ 634830 from by omega, show 2000 + 14 * q + 0 ≤ 7197757 from by omega⟩ (fun v g2 H1 locs1 hp hW1 hKT => ?_)
        obtain ⟨hW2, hdis⟩ := hKT gy hW2 hdis
        obtain ⟨rfl, hg⟩ := hp
        rw [hg] at hW1 hdis
        refine W.eq (g2 := F0 m 657 ls [.int (Fof r (xs (6 * q + 1)) (xs (6 * q + 2)))]) rfl ?_
        refine lv_aload_n hx hb dL_law_657 rfl (lv_at hl 2 rfl) ?_
        refine lv_aload_n hx hb dL_law_658 rfl (lv_at hl 0 rfl) ?_
        refine lv_iload_n hx hb dL_law_659 rfl (lv_at hl 3 rfl) ?_
        refine lv_iconst (v := 1) hx hb dL_law_660 (by decide) ?_
        refine lv_iadd hx hb dL_law_661 ?_
        refine l_sld (j := 6 * q + 1) hx hb hX hbl hbA hW1.2.1 hL ((add_e rfl (rfl : (1 : Int32) = nI 1))) (by omega) dL_law_662 ?_
        refine lv_aload_n hx hb dL_law_663 rfl (lv_at hl 0 rfl) ?_
        refine lv_iload_n hx hb dL_law_664 rfl (lv_at hl 3 rfl) ?_
        refine lv_iconst (v := 2) hx hb dL_law_665 (by decide) ?_
        refine lv_iadd hx hb dL_law_666 ?_
        refine l_sld (j := 6 * q + 2) hx hb hX hbl hbA hW1.2.1 hL ((add_e rfl (rfl : (2 : Int32) = nI 2))) (by omega) dL_law_667 ?_
        refine c_virt (own := RL) (As := [.int (xs (6 * q + 1)), .int (xs (6 * q + 2))]) (rest := [.int (Fof r (xs (6 * q + 1)) (xs (6 * q + 2)))]) hx hb hml hown hts hK hW2 (k_X3_of l hM hIV _ _) ml_RL_73 im_yX3_of se_yX3_of in_RX3 cd_yX3_of 2 (by decide +kernel) ⟨Nat.le_of_ble_eq_true rfl, Nat.le_of_ble_eq_true rfl⟩ hM.1 rfl rfl rfl hl.1 rfl (Nat.le_of_ble_eq_true rfl) dL_law_668 ⟨show 100 + 2 * q + 0 + 0 ≤ 634830 from by omega, show 2000 + 14 * q + 0 + 0 ≤ 7197757 from by omega⟩ (fun v g3 H1 locs1 hp hW2 hKT => ?_)
        obtain ⟨hW1, hdis⟩ := hKT _ hW1 (dis_sym hdis)
        have hdis := dis_sym hdis
        obtain ⟨rfl, hg⟩ := hp
        rw [hg] at hW2 hdis
        refine W.eq (g2 := F0 m 671 ls [.int (Fof r (xs (6 * q + 1)) (xs (6 * q + 2))), .int (Fof r (xs (6 * q + 1)) (xs (6 * q + 2)))]) rfl ?_
        refine lv_icmp_eq (tgt := 699) hx hb dL_law_671 (by decide) (fun c_632 => ?_) (fun c_632 => ?_)
        · skip
          exact nxt hq6 _ _ _ _ _ _ _ _ _ _ _ _ _ (show 100 + 2 * q + 0 + 0 ≤ 100 + 2 * (q + 1) from by omega) (show 2000 + 14 * q + 0 + 0 ≤ 2000 + 14 * (q + 1) from by omega) hLI.same hR hM hW1 hW2 hdis (lv_sub hl [0, 1, 2, 3] rfl)
        · skip
          exact absurd rfl c_632
      by_cases c_633 : (xs (6 * q)) &&& (15) = 14
      · skip
        refine lv_tableIn (tgt := 676) hx hb dL_law_33 (by rw [c_633]; decide) (by rw [c_633]; decide) (by rw [c_633]; rfl) (by decide) ?_
        refine lv_aload_n hx hb dL_law_676 rfl (lv_at hl 1 rfl) ?_
        refine lv_aload_n hx hb dL_law_677 rfl (lv_at hl 0 rfl) ?_
        refine lv_iload_n hx hb dL_law_678 rfl (lv_at hl 3 rfl) ?_
        refine lv_iconst (v := 1) hx hb dL_law_679 (by decide) ?_
        refine lv_iadd hx hb dL_law_680 ?_
        refine l_sld (j := 6 * q + 1) hx hb hX hbl hbA hW1.2.1 hL ((add_e rfl (rfl : (1 : Int32) = nI 1))) (by omega) dL_law_681 ?_
        refine c_virt (own := RL) (As := [.int (xs (6 * q + 1))]) (rest := []) hx hb hml hown hts hK hW1 (k_X2_count l hR _) ml_RL_74 im_yX2_count se_yX2_count in_RX2 cd_yX2_count 1 (by decide +kernel) ⟨Nat.le_of_ble_eq_true rfl, Nat.le_of_ble_eq_true rfl⟩ hR.1 rfl rfl rfl hl.1 rfl (Nat.le_of_ble_eq_true rfl) dL_law_682 ⟨show 100 + 2 * q + 0 ≤ 634830 from by omega, show 2000 + 14 * q + 0 ≤ 7197757 from by omega⟩ (fun v g2 H1 locs1 hp hW1 hKT => ?_)
        obtain ⟨hW2, hdis⟩ := hKT gy hW2 hdis
        obtain ⟨rfl, hg⟩ := hp
        rw [hg] at hW1 hdis
        refine W.eq (g2 := F0 m 685 ls [.int (Fcount r (xs (6 * q + 1)))]) rfl ?_
        refine lv_aload_n hx hb dL_law_685 rfl (lv_at hl 2 rfl) ?_
        refine lv_aload_n hx hb dL_law_686 rfl (lv_at hl 0 rfl) ?_
        refine lv_iload_n hx hb dL_law_687 rfl (lv_at hl 3 rfl) ?_
        refine lv_iconst (v := 1) hx hb dL_law_688 (by decide) ?_
        refine lv_iadd hx hb dL_law_689 ?_
        refine l_sld (j := 6 * q + 1) hx hb hX hbl hbA hW1.2.1 hL ((add_e rfl (rfl : (1 : Int32) = nI 1))) (by omega) dL_law_690 ?_
        refine c_virt (own := RL) (As := [.int (xs (6 * q + 1))]) (rest := [.int (Fcount r (xs (6 * q + 1)))]) hx hb hml hown hts hK hW2 (k_X3_count l hM _) ml_RL_77 im_yX3_count se_yX3_count in_RX3 cd_yX3_count 1 (by decide +kernel) ⟨Nat.le_of_ble_eq_true rfl, Nat.le_of_ble_eq_true rfl⟩ hM.1 rfl rfl rfl hl.1 rfl (Nat.le_of_ble_eq_true rfl) dL_law_691 ⟨show 100 + 2 * q + 0 + 0 ≤ 634830 from by omega, show 2000 + 14 * q + 0 + 0 ≤ 7197757 from by omega⟩ (fun v g3 H1 locs1 hp hW2 hKT => ?_)
        obtain ⟨hW1, hdis⟩ := hKT _ hW1 (dis_sym hdis)
        have hdis := dis_sym hdis
        obtain ⟨rfl, hg⟩ := hp
        rw [hg] at hW2 hdis
        refine W.eq (g2 := F0 m 694 ls [.int (Fcount r (xs (6 * q + 1))), .int (Fcount r (xs (6 * q + 1)))]) rfl ?_
        refine lv_icmp_eq (tgt := 699) hx hb dL_law_694 (by decide) (fun c_634 => ?_) (fun c_634 => ?_)
        · skip
          exact nxt hq6 _ _ _ _ _ _ _ _ _ _ _ _ _ (show 100 + 2 * q + 0 + 0 ≤ 100 + 2 * (q + 1) from by omega) (show 2000 + 14 * q + 0 + 0 ≤ 2000 + 14 * (q + 1) from by omega) hLI.same hR hM hW1 hW2 hdis (lv_sub hl [0, 1, 2, 3] rfl)
        · skip
          exact absurd rfl c_634
      refine lv_tableOut (tgt := 699) hx hb dL_law_33 (by have z0 := lv_neT (a := 0) c_601 (by decide); have z1 := lv_neT (a := 1) c_603 (by decide); have z2 := lv_neT (a := 2) c_605 (by decide); have z3 := lv_neT (a := 3) c_607 (by decide); have z4 := lv_neT (a := 4) c_609 (by decide); have z5 := lv_neT (a := 5) c_611 (by decide); have z6 := lv_neT (a := 6) c_613 (by decide); have z7 := lv_neT (a := 7) c_615 (by decide); have z8 := lv_neT (a := 8) c_617 (by decide); have z9 := lv_neT (a := 9) c_619 (by decide); have z10 := lv_neT (a := 10) c_621 (by decide); have z11 := lv_neT (a := 11) c_627 (by decide); have z12 := lv_neT (a := 12) c_629 (by decide); have z13 := lv_neT (a := 13) c_631 (by decide); have z14 := lv_neT (a := 14) c_633 (by decide); omega) (by decide) ?_
      exact nxt hq6 _ _ _ _ _ _ _ _ _ _ _ _ _ (show 100 + 2 * q ≤ 100 + 2 * (q + 1) from by omega) (show 2000 + 14 * q ≤ 2000 + 14 * (q + 1) from by omega) hLI.same hR hM hW1 hW2 hdis (lv_sub hl [0, 1, 2, 3] rfl)
