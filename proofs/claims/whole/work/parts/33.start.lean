theorem nwi_1 : nw1 ∈ lw_tbl := List.mem_append_right _ (List.mem_append_left _ (List.mem_of_getElem? (i := 61) rfl))
theorem nwi_2 : nw2 ∈ lw_tbl := List.mem_append_right _ (List.mem_append_left _ (List.mem_of_getElem? (i := 120) rfl))
theorem nwi_3 : nw3 ∈ lw_tbl := List.mem_append_right _ (List.mem_append_left _ (List.mem_of_getElem? (i := 227) rfl))
theorem aoi_1 : Cond.arrayOver (.object RX1) ∈ lw_tbl := List.mem_append_right _ (List.mem_append_left _ (List.mem_of_getElem? (i := 14) rfl))
theorem aoi_0 : Cond.arrayOver (.object RX0) ∈ lw_tbl := List.mem_append_right _ (List.mem_append_left _ (List.mem_of_getElem? (i := 16) rfl))
theorem IV_0 : IV (fun _ _ => 0) := ⟨by decide, by rw [nm0]; omega, fun i hi => absurd hi (by rw [nm0]; omega), fun k _ => ⟨Or.inl rfl, ⟨Or.inl rfl, show ¬ (0 : Int32) < 0 by decide⟩, Or.inl rfl, fun h => absurd rfl h⟩⟩
theorem LI_0 : LI (fun _ _ => 0) true 0 := ⟨IV_0, rfl, 0, Nat.le_refl _, rfl⟩
/-- the tables at the law's start -/
theorem kc_start {p : Program} {s : State} {m : MethodId} {meth : Method} {c : Code} {b L : Nat} {xs : Nat → Int32} (C0 : lw_At p s m meth c b L xs) : ∃ E : gE, KC E s := by
  obtain ⟨-, -, -, -, -, hts0, -, -, -, -⟩ := C0
  have hts : ∀ w ∈ wsL_law, w.before #[Value.ref b] s = true := fun w hw => hts0 w (wsL_law_in w hw)
  obtain ⟨c0, iS0, hKn0⟩ := u_known (C := RX0) (T := TX0) (N := 12) (n := 12) hts inlX0 (hts _ ia_RX0)
  obtain ⟨c1, iS1, hKn1⟩ := u_known (C := RX1) (T := TX1) (N := 6) (n := 6) hts inlX1 (hts _ ia_RX1)
  obtain ⟨c2, iS2, hKn2⟩ := u_known (C := RX2) (T := TX2) (N := 10) (n := 10) hts inlX2 (hts _ ia_RX2)
  obtain ⟨c3, iS3, hKn3⟩ := u_known (C := RX3) (T := TX3) (N := 29) (n := 29) hts inlX3 (hts _ ia_RX3)
  obtain ⟨cI, kI, pI, i1, i2, i3⟩ := Cond.arrayClass_spec (hts _ ac_int)
  obtain ⟨cZ, kZ, pZ, z1, z2, z3⟩ := Cond.arrayClass_spec (hts _ ac_boolean)
  obtain ⟨pM, cM, kM, m1, -, m3, m4, m5⟩ := Cond.arrayOver_spec (hts0 _ aoi_1)
  obtain ⟨pC, cC, kC, n1, -, n3, n4, n5⟩ := Cond.arrayOver_spec (hts0 _ aoi_0)
  refine ⟨((fun k => if k = 0 then c0 else if k = 1 then c1 else if k = 2 then c2 else c3, fun k => if k = 0 then iS0 else if k = 1 then iS1 else if k = 2 then iS2 else iS3), fun k => if k = 0 then cI else if k = 1 then cZ else if k = 2 then cM else cC), ⟨?_, ?_⟩, va_Nw.of rfl (hts0 _ nwi_1), va_Nw.of rfl (hts0 _ nwi_2), va_Nw.of rfl (hts0 _ nwi_3), va_AO.of (hts0 _ aoi_1), va_AO.of (hts0 _ aoi_0)⟩
  · intro k q hq
    match k, hq with
    | 0, hq => cases hq; exact hKn0
    | 1, hq => cases hq; exact hKn1
    | 2, hq => cases hq; exact hKn2
    | 3, hq => cases hq; exact hKn3
    | k + 4, hq => simp [vwCl] at hq
  · intro k q hq
    match k, hq with
    | 0, hq => cases hq; exact ⟨fun n z => ⟨fun k h => (by cases h), kI, i2, pI, i3⟩, i1⟩
    | 1, hq => cases hq; exact ⟨fun n z => ⟨fun k h => (by cases h), kZ, z2, pZ, z3⟩, z1⟩
    | 2, hq => cases hq; exact ⟨fun n z => ⟨fun k h => (by cases h), kM, m3, pM, m4⟩, kM, pM, m3, m4, m1, m5⟩
    | 3, hq => cases hq; exact ⟨fun n z => ⟨fun k h => (by cases h), kC, n3, pC, n4⟩, kC, pC, n3, n4, n1, n5⟩
    | k + 4, hq => simp at hq

set_option maxHeartbeats 4000000 in
set_option maxRecDepth 100000 in
theorem whole_start {p : Program} {e : Env} {s : State} {m : MethodId} {below : List Frame} {meth : Method} {c : Code} (l : Launch) {b L : Nat} {xs : Nat → Int32} (hL : L ≤ 3072) (C0 : lw_At p s m meth c b L xs) : W p l e room_1 s m #[Value.ref b] below meth c s.heap [] 0 0 (lw_Z below #[Value.ref b] s) (entryFrame m ([Value.ref b] : List Value).toArray 4) := by
  obtain ⟨hx, hb, hr, hml, hown, hts0, hX, hbl, hlocks, hgv⟩ := id C0
  have hown : s.vm.findClass RL = some m.cls := hown
  have hts : ∀ w ∈ wsL_law, w.before #[Value.ref b] s = true := fun w hw => hts0 w (wsL_law_in w hw)
  obtain ⟨E, hK⟩ := kc_start C0
  have hW : PW E (fun a : Nat => s.heap.size ≤ a) s.heap s.heap [] (fun _ => none) := ⟨fun a e h => (by cases h), va_S.rf, fun q h => h⟩
  have hl := lv_entry ([.ref b]) (n := 4) (Nat.le_of_ble_eq_true rfl)
  rw [lg_entry_eq]
  generalize (lg_sl ([.ref b]) ++ List.replicate (4 - (lg_sl ([.ref b])).length) Slot.unset).toArray = ls at hl ⊢
  have hl : lv_has ls 4 [(0, .ref b)] := hl
  refine g_new (ci := 2) (fs := [.null, .null, .int (0), .int (0), .int (0), .int (0), .int (0), .int (0), .int (0), .int (0)]) hx hb hts inlX2 rfl tyX2 tyX2_ok hown cl_RL_7 ia_RX2 in_RX2 hK hW (fun j hj => by rcases (show j = 0 ∨ j = 1 ∨ j = 2 ∨ j = 3 ∨ j = 4 ∨ j = 5 ∨ j = 6 ∨ j = 7 ∨ j = 8 ∨ j = 9 by omega) with rfl | rfl | rfl | rfl | rfl | rfl | rfl | rfl | rfl | rfl <;> rfl) (Nat.le_of_ble_eq_true rfl) (Nat.le_of_ble_eq_true rfl) dL_law_0 (fun x H1 f1 hW => ?_)
  refine lv_dup hx hb dL_law_3 rfl ?_
  refine c_init (own := RL) (As := []) (rest := [.ref x]) hx hb hml hown hts hK hW (k_X2_init l (gu_s _ _ _)) ml_RL_9 im_yX2_init in_RX2 cd_yX2_init rfl 0 (by decide +kernel) ⟨Nat.le_of_ble_eq_true rfl, Nat.le_of_ble_eq_true rfl⟩ rfl hl.1 rfl (Nat.le_of_ble_eq_true rfl) dL_law_4 ⟨Nat.le_of_ble_eq_true rfl, Nat.le_of_ble_eq_true rfl⟩ (fun v g2 H2 locs2 hp hW hKT => ?_)
  obtain ⟨rfl, xa, xk, hR⟩ := hp
  refine W.eq (g2 := F0 m 7 ls [.ref x]) rfl ?_
  refine lv_astore_n (lv' := [(1, .ref x), (0, .ref b)]) hx hb dL_law_7 rfl hl (by decide) rfl (fun ls hl => ?_)
  refine g_new (ci := 3) (fs := [.int (0), .null, .null, .null, .null, .null, .null, .null, .null, .null, .null, .null, .null, .null, .null, .null, .null, .null, .int (0), .int (0), .int (0), .int (0), .int (0), .int (0), .int (0), .null, .null, .null, .null]) hx hb hts inlX3 rfl tyX3 tyX3_ok hown cl_RL_10 ia_RX3 in_RX3 hK hW (fun j hj => by rcases (show j = 0 ∨ j = 1 ∨ j = 2 ∨ j = 3 ∨ j = 4 ∨ j = 5 ∨ j = 6 ∨ j = 7 ∨ j = 8 ∨ j = 9 ∨ j = 10 ∨ j = 11 ∨ j = 12 ∨ j = 13 ∨ j = 14 ∨ j = 15 ∨ j = 16 ∨ j = 17 ∨ j = 18 ∨ j = 19 ∨ j = 20 ∨ j = 21 ∨ j = 22 ∨ j = 23 ∨ j = 24 ∨ j = 25 ∨ j = 26 ∨ j = 27 ∨ j = 28 by omega) with rfl | rfl | rfl | rfl | rfl | rfl | rfl | rfl | rfl | rfl | rfl | rfl | rfl | rfl | rfl | rfl | rfl | rfl | rfl | rfl | rfl | rfl | rfl | rfl | rfl | rfl | rfl | rfl | rfl <;> rfl) (Nat.le_of_ble_eq_true rfl) (Nat.le_of_ble_eq_true rfl) dL_law_8 (fun y H3 f2 hW => ?_)
  have hW1 : PW E (fun a : Nat => s.heap.size ≤ a) s.heap H3 locs2 g2 := hW.sub (fun a e h => (gu_n _ _ (ne_none f2 h)).trans h)
  have hW2 : PW E (fun a : Nat => s.heap.size ≤ a) s.heap H3 locs2 (gu (fun _ => none) y (.inr (3, [.int (0), .null, .null, .null, .null, .null, .null, .null, .null, .null, .null, .null, .null, .null, .null, .null, .null, .null, .int (0), .int (0), .int (0), .int (0), .int (0), .int (0), .int (0), .null, .null, .null, .null]))) := hW.sub (fun a e h => by
    by_cases ha : a = y
    · rw [ha, gu_s] at h ⊢
      exact h
    · rw [gu_n _ _ ha] at h
      cases h)
  have hdis : ∀ a, (g2 a).isSome = true → (gu (fun _ => none) y (.inr (3, [.int (0), .null, .null, .null, .null, .null, .null, .null, .null, .null, .null, .null, .null, .null, .null, .null, .null, .null, .int (0), .int (0), .int (0), .int (0), .int (0), .int (0), .int (0), .null, .null, .null, .null])) : gm) a = none := fun a h => by
    by_cases ha : a = y
    · rw [ha, f2] at h
      cases h
    · rw [gu_n _ _ ha]
  refine lv_dup hx hb dL_law_11 rfl ?_
  refine c_init (own := RL) (As := []) (rest := [.ref y]) hx hb hml hown hts hK hW2 (k_X3_init l (gu_s _ _ _)) ml_RL_12 im_yX3_init in_RX3 cd_yX3_init rfl 0 (by decide +kernel) ⟨Nat.le_of_ble_eq_true rfl, Nat.le_of_ble_eq_true rfl⟩ rfl hl.1 rfl (Nat.le_of_ble_eq_true rfl) dL_law_12 ⟨Nat.le_of_ble_eq_true rfl, Nat.le_of_ble_eq_true rfl⟩ (fun v g3 H4 locs4 hp hW2 hKT => ?_)
  obtain ⟨hW1, hdis⟩ := hKT g2 hW1 hdis
  obtain ⟨rfl, ad, t, hM⟩ := hp
  refine W.eq (g2 := F0 m 15 ls [.ref y]) rfl ?_
  refine lv_astore_n (lv' := [(2, .ref y), (1, .ref x), (0, .ref b)]) hx hb dL_law_15 rfl hl (by decide) rfl (fun ls hl => ?_)
  refine lv_iconst (v := 0) hx hb dL_law_16 (by decide) ?_
  refine lv_istore_n (lv' := [(3, .int 0), (2, .ref y), (1, .ref x), (0, .ref b)]) hx hb dL_law_17 rfl hl (by decide) rfl (fun ls hl => ?_)
  refine W.widen (k := 100 + 2 * 0) (n := 2000 + 14 * 0) (Nat.le_of_ble_eq_true rfl) (Nat.le_of_ble_eq_true rfl) ?_
  exact law_loop hL C0 hK (L + 1) 0 _ _ _ _ t true g2 g3 _ _ ls (by omega) (by omega) LI_0 hR hM hW1 hW2 (dis_sym hdis) (lv_sub hl [3, 2, 1, 0] rfl)
