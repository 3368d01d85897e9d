def sendR (r : sg) : sg := s2 (s2 (s2 (s2 (s2 (s2 r 17 1 (r 17 1 + 1)) 17 2 0) 17 3 0) 17 4 0) 17 5 0) 17 6 (-1)
def sendB (r : sg) (m k : Int32) : Bool := isMb r m && (!decide (k < 0) && decide (k < 8))
def Fsend (r : sg) (m k : Int32) : Int32 × sg := if sendB r m k then ((carryF (8 - ix k) (sendR r) (ix m)).2, (carryF (8 - ix k) (sendR r) (ix m)).1) else (-2, r)
theorem nm0 : nm (fun _ _ => 0) = 0 := rfl
theorem sendR_f {r : sg} {f : Nat} (h : f ≠ 17) : sendR r f = r f := by simp [sendR, s2, h]
theorem IV.same {r r' : sg} (h : IV r) (h0 : ∀ f, f = 0 ∨ f = 1 ∨ f = 3 ∨ f = 4 ∨ f = 5 ∨ f = 6 ∨ (7 ≤ f ∧ f ≤ 12) ∨ f = 14 → r' f = r f) (h1 : r' 17 0 = r 17 0) : IV r' := by
  obtain ⟨a1, a2, a3, a4⟩ := h
  have en : nm r' = nm r := by simp only [nm, h1]
  refine ⟨by rw [h1]; exact a1, by rw [en]; exact a2, fun i hi => ?_, fun k hk => ?_⟩
  · have := a3 i (en ▸ hi)
    simp only [IVm, h0 0 (by omega), h0 1 (by omega), h0 3 (by omega), h0 4 (by omega), isMb_c h1]
    exact this
  · have := a4 k hk
    simp only [IVk, h0 5 (by omega), h0 6 (by omega), h0 7 (by omega), h0 10 (by omega), h0 11 (by omega), h0 12 (by omega), h0 14 (by omega), isMb_c h1]
    exact this
theorem IV_send {r : sg} (h : IV r) : IV (sendR r) := h.same (fun f hf => sendR_f (by omega)) (by simp [sendR, s2_a])

set_option maxHeartbeats 4000000 in
set_option maxRecDepth 100000 in
theorem k_X2_send (l : Launch) {E : gE} {x xa xk : Nat} {ma pa ka : Nat → Nat} {z : Bool} {r : sg} {g : gm} (hR : HR E x xa xk ma pa ka z r g) (hIV : IV r) (a b : Int32) : CM l yX2_send cX2_send 4 (some .int) ({ frames := 50, cells := 0, slots := 0, locals := 1300 }) E [.ref (x), .int (a), .int (b)] g (fun vv g' => vv = some (.int (Fsend r a b).1) ∧ HR E x xa xk ma pa ka (if sendB r a b then false else z) (Fsend r a b).2 g') := by
  refine CM.of (by decide) (Nat.le_of_ble_eq_true rfl) ?_
  intro p e s m below meth c ls hM hK hW hl
  obtain ⟨hx, hb, hr, hml, hown, hts, hlk, hnm⟩ := hM
  have hown : s.vm.findClass RX2 = some m.cls := hown
  have hl : lv_has ls 4 [(0, .ref (x)), (1, .int (a)), (2, .int (b))] := hl
  refine lv_aload_n hx hb dX2_send_0 rfl (lv_at hl 0 rfl) ?_
  refine lv_iload_n hx hb dX2_send_1 rfl (lv_at hl 1 rfl) ?_
  refine c_virt (own := RX2) (As := [.int (a)]) (rest := []) hx hb hml hown hts hK hW (k_X2_messageAt l hR (a)) ml_RX2_33 im_yX2_messageAt se_yX2_messageAt in_RX2 cd_yX2_messageAt 1 (by decide +kernel) ⟨Nat.le_of_ble_eq_true rfl, Nat.le_of_ble_eq_true rfl⟩ hR.1 rfl rfl rfl hl.1 rfl (Nat.le_of_ble_eq_true rfl) dX2_send_2 ⟨Nat.le_of_ble_eq_true rfl, Nat.le_of_ble_eq_true rfl⟩ (fun v g2 H1 locs1 hp hW hKT => ?_)
  obtain ⟨hp, hg⟩ := hp
  rw [hg] at hW
  rcases hp with ⟨em_264, rfl⟩ | ⟨em_265, rfl⟩
  · skip
    refine W.eq (g2 := F0 m 5 ls [.null]) rfl ?_
    refine lv_astore_nN (lv' := [(3, .null), (0, .ref (x)), (1, .int (a)), (2, .int (b))]) hx hb dX2_send_5 rfl hl (by decide) rfl (fun ls hl => ?_)
    refine lv_aload_nN hx hb dX2_send_6 rfl (lv_at hl 0 rfl) ?_
    refine lv_ifnullN (tgt := 20) hx hb dX2_send_7 (by decide) ?_
    refine lv_bipush (v := -2) hx hb dX2_send_20 (by decide) ?_
    exact r_int hx hb hr hlk hW (by have e0 : sendB r a b = false := (by simp [sendB, em_264]); rw [e0]; have e1 : Fsend r a b = (-2, r) := (by simp [Fsend, e0]); rw [e1]; exact ⟨rfl, hR⟩) (Nat.le_of_ble_eq_true rfl) (Nat.le_of_ble_eq_true rfl) dX2_send_22
  · skip
    have hi_266 := isMb_lt em_265
    have nhi_266 := isMb_ne em_265
    refine W.eq (g2 := F0 m 5 ls [.ref (ma (ix (a)))]) rfl ?_
    refine lv_astore_n (lv' := [(3, .ref (ma (ix (a)))), (0, .ref (x)), (1, .int (a)), (2, .int (b))]) hx hb dX2_send_5 rfl hl (by decide) rfl (fun ls hl => ?_)
    refine lv_aload_n hx hb dX2_send_6 rfl (lv_at hl 0 rfl) ?_
    refine lv_ifnull hx hb dX2_send_7 ?_
    refine lv_iload_n hx hb dX2_send_10 rfl (lv_at hl 3 rfl) ?_
    refine lv_if_lt (tgt := 20) hx hb dX2_send_11 (by decide) (fun c_267 => ?_) (fun c_267 => ?_)
    · skip
      refine lv_bipush (v := -2) hx hb dX2_send_20 (by decide) ?_
      exact r_int hx hb hr hlk hW (by have e0 : sendB r a b = false := (by simp [sendB, em_265, nhi_266, c_267]); rw [e0]; have e1 : Fsend r a b = (-2, r) := (by simp [Fsend, e0]); rw [e1]; exact ⟨rfl, hR⟩) (Nat.le_of_ble_eq_true rfl) (Nat.le_of_ble_eq_true rfl) dX2_send_22
    · skip
      refine lv_iload_n hx hb dX2_send_14 rfl (lv_at hl 3 rfl) ?_
      refine lv_bipush (v := 8) hx hb dX2_send_15 (by decide) ?_
      refine lv_icmp_lt (tgt := 23) hx hb dX2_send_17 (by decide) (fun c_268 => ?_) (fun c_268 => ?_)
      · skip
        refine lv_aload_n hx hb dX2_send_23 rfl (lv_at hl 1 rfl) ?_
        refine lv_dup hx hb dX2_send_24 rfl ?_
        refine h_get hx hb hts hown hK hW hR 4 (by decide) fl_RX2_105 (v := .int (r 17 1)) rfl dX2_send_25 ?_
        refine lv_iconst (v := 1) hx hb dX2_send_28 (by decide) ?_
        refine lv_iadd hx hb dX2_send_29 ?_
        refine g_put (ci := 2) hx hb hts inlX2 rfl tyX2 tyX2_ok nmX2 hown hK hW hR.1 4 (by decide) fl_RX2_105 rfl rfl rfl (show 4 < 10 by decide) dX2_send_30 (fun H1 locs1 hW => ?_)
        have hW : PW E (fr g s.heap.size) s.heap H1 locs1 (gu g x (.inr (2, [.ref (xa), .ref (xk), .int (r 17 0), .int (nsetN r 8), .int ((r 17 1) + (1)), .int (tal z r 2), .int (tal z r 3), .int (tal z r 4), .int (tal z r 5), .int (tal z r 6)]))) := hW
        refine lv_aload_n hx hb dX2_send_33 rfl (lv_at hl 1 rfl) ?_
        refine lv_iconst (v := 0) hx hb dX2_send_34 (by decide) ?_
        refine g_put (ci := 2) hx hb hts inlX2 rfl tyX2 tyX2_ok nmX2 hown hK hW (gu_s _ _ _) 5 (by decide) fl_RX2_108 rfl rfl rfl (show 5 < 10 by decide) dX2_send_35 (fun H1 locs1 hW => ?_)
        rw [gu_gu] at hW
        have hW : PW E (fr g s.heap.size) s.heap H1 locs1 (gu g x (.inr (2, [.ref (xa), .ref (xk), .int (r 17 0), .int (nsetN r 8), .int ((r 17 1) + (1)), .int (0), .int (tal z r 3), .int (tal z r 4), .int (tal z r 5), .int (tal z r 6)]))) := hW
        refine lv_aload_n hx hb dX2_send_38 rfl (lv_at hl 1 rfl) ?_
        refine lv_iconst (v := 0) hx hb dX2_send_39 (by decide) ?_
        refine g_put (ci := 2) hx hb hts inlX2 rfl tyX2 tyX2_ok nmX2 hown hK hW (gu_s _ _ _) 6 (by decide) fl_RX2_111 rfl rfl rfl (show 6 < 10 by decide) dX2_send_40 (fun H1 locs1 hW => ?_)
        rw [gu_gu] at hW
        have hW : PW E (fr g s.heap.size) s.heap H1 locs1 (gu g x (.inr (2, [.ref (xa), .ref (xk), .int (r 17 0), .int (nsetN r 8), .int ((r 17 1) + (1)), .int (0), .int (0), .int (tal z r 4), .int (tal z r 5), .int (tal z r 6)]))) := hW
        refine lv_aload_n hx hb dX2_send_43 rfl (lv_at hl 1 rfl) ?_
        refine lv_iconst (v := 0) hx hb dX2_send_44 (by decide) ?_
        refine g_put (ci := 2) hx hb hts inlX2 rfl tyX2 tyX2_ok nmX2 hown hK hW (gu_s _ _ _) 7 (by decide) fl_RX2_114 rfl rfl rfl (show 7 < 10 by decide) dX2_send_45 (fun H1 locs1 hW => ?_)
        rw [gu_gu] at hW
        have hW : PW E (fr g s.heap.size) s.heap H1 locs1 (gu g x (.inr (2, [.ref (xa), .ref (xk), .int (r 17 0), .int (nsetN r 8), .int ((r 17 1) + (1)), .int (0), .int (0), .int (0), .int (tal z r 5), .int (tal z r 6)]))) := hW
        refine lv_aload_n hx hb dX2_send_48 rfl (lv_at hl 1 rfl) ?_
        refine lv_iconst (v := 0) hx hb dX2_send_49 (by decide) ?_
        refine g_put (ci := 2) hx hb hts inlX2 rfl tyX2 tyX2_ok nmX2 hown hK hW (gu_s _ _ _) 8 (by decide) fl_RX2_117 rfl rfl rfl (show 8 < 10 by decide) dX2_send_50 (fun H1 locs1 hW => ?_)
        rw [gu_gu] at hW
        have hW : PW E (fr g s.heap.size) s.heap H1 locs1 (gu g x (.inr (2, [.ref (xa), .ref (xk), .int (r 17 0), .int (nsetN r 8), .int ((r 17 1) + (1)), .int (0), .int (0), .int (0), .int (0), .int (tal z r 6)]))) := hW
        refine lv_aload_n hx hb dX2_send_53 rfl (lv_at hl 1 rfl) ?_
        refine lv_iconst (v := -1) hx hb dX2_send_54 (by decide) ?_
        refine g_put (ci := 2) hx hb hts inlX2 rfl tyX2 tyX2_ok nmX2 hown hK hW (gu_s _ _ _) 9 (by decide) fl_RX2_21 rfl rfl rfl (show 9 < 10 by decide) dX2_send_55 (fun H1 locs1 hW => ?_)
        rw [gu_gu] at hW
        have hW : PW E (fr g s.heap.size) s.heap H1 locs1 (gu g x (.inr (2, [.ref (xa), .ref (xk), .int (r 17 0), .int (nsetN r 8), .int ((r 17 1) + (1)), .int (0), .int (0), .int (0), .int (0), .int (-1)]))) := hW
        refine lv_aload_n hx hb dX2_send_58 rfl (lv_at hl 1 rfl) ?_
        refine lv_aload_n hx hb dX2_send_59 rfl (lv_at hl 0 rfl) ?_
        refine lv_iload_n hx hb dX2_send_60 rfl (lv_at hl 3 rfl) ?_
        have hR2 := HR.obj hR (z' := false) (r' := sendR r) (fun f hf => sendR_f (by omega)) (by simp [sendR, s2_a])
        have hfe : hfs xa xk false (sendR r) = [.ref (xa), .ref (xk), .int (r 17 0), .int (nsetN r 8), .int ((r 17 1) + (1)), .int (0), .int (0), .int (0), .int (0), .int (-1)] := by simp [sendR, tal, s2_a, hfs, nset_congr (show s2 (s2 (s2 (s2 (s2 (s2 r 17 1 (r 17 1 + 1)) 17 2 0) 17 3 0) 17 4 0) 17 5 0) 17 6 (-1) 5 = r 5 from sendR_f (r := r) (by decide))]
        rw [hfe] at hR2
        have hb8 : ix b < 8 := (ix_lt (n := 8) (by decide) c_267).mpr c_268
        have hR := hR2
        refine c_virt (own := RX2) (As := [.ref (ma (ix (a))), .int (b)]) (rest := []) hx hb hml hown hts hK hW (k_X2_carry l (8 - ix b) (by omega) (sendR r) _ (ix (a)) _ (by rw [show 8 - (8 - ix b) = ix b from by omega, nI_ix c_267]) hR (IV_send hIV) hi_266) ml_RX2_120 im_yX2_carry se_yX2_carry in_RX2 cd_yX2_carry 2 (by decide +kernel) ⟨show 4 * (8 - ix b) + 6 + 1 ≤ 50 from by omega, show 8 + (6 + 11) + (120 * (8 - ix b) + 200) ≤ 1300 from by omega⟩ hR.1 rfl rfl rfl hl.1 rfl (Nat.le_of_ble_eq_true rfl) dX2_send_61 ⟨Nat.le_of_ble_eq_true rfl, Nat.le_of_ble_eq_true rfl⟩ (fun v g2 H1 locs1 hp hW hKT => ?_)
        obtain ⟨rfl, hR⟩ := hp
        refine W.eq (g2 := F0 m 64 ls [.int ((carryF (8 - ix b) (sendR r) (ix (a))).2)]) rfl ?_
        exact r_int hx hb hr hlk hW (by have e0 : sendB r a b = true := (by simp [sendB, em_265, nhi_266, c_267, c_268]); rw [e0]; have e1 : Fsend r a b = ((carryF (8 - ix b) (sendR r) (ix (a))).2, (carryF (8 - ix b) (sendR r) (ix (a))).1) := (by simp [Fsend, e0]); rw [e1]; exact ⟨rfl, hR⟩) (Nat.le_of_ble_eq_true rfl) (Nat.le_of_ble_eq_true rfl) dX2_send_64
      · skip
        refine lv_bipush (v := -2) hx hb dX2_send_20 (by decide) ?_
        exact r_int hx hb hr hlk hW (by have e0 : sendB r a b = false := (by simp [sendB, em_265, nhi_266, c_267, c_268]); rw [e0]; have e1 : Fsend r a b = (-2, r) := (by simp [Fsend, e0]); rw [e1]; exact ⟨rfl, hR⟩) (Nat.le_of_ble_eq_true rfl) (Nat.le_of_ble_eq_true rfl) dX2_send_22

set_option maxHeartbeats 4000000 in
set_option maxRecDepth 100000 in
theorem k_X2_init (l : Launch) {E : gE} {g : gm} {x : Nat} (hh : g x = some (.inr (2, [.null, .null, .int (0), .int (0), .int (0), .int (0), .int (0), .int (0), .int (0), .int (0)]))) : CM l yX2_init cX2_init 1 none ({ frames := 1, cells := 2, slots := 68, locals := 30 }) E [.ref (x)] g (fun vv g' => vv = none ∧ ∃ xa xk, HR E x xa xk (fun _ => 0) (fun _ => 0) (fun _ => 0) true (fun _ _ => 0) g') := by
  refine CM.of (by decide) (Nat.le_of_ble_eq_true rfl) ?_
  intro p e s m below meth c ls hM hK hW hl
  obtain ⟨hx, hb, hr, hml, hown, hts, hlk, hnm⟩ := hM
  have hown : s.vm.findClass RX2 = some m.cls := hown
  have hl : lv_has ls 1 [(0, .ref (x))] := hl
  refine lv_aload_n hx hb dX2_init_0 rfl (lv_at hl 0 rfl) ?_
  refine W.objInit hx hb hown (hts _ ml_RX2_1) (hts _ im_objectInit) (hts _ cd_objectInit) rfl (by rw [hml]; exact hl.1) rfl dX2_init_1 (Nat.le_of_ble_eq_true rfl) (Nat.le_of_ble_eq_true rfl) ?_
  refine W.eq (g2 := F0 m 4 ls []) rfl ?_
  refine lv_aload_n hx hb dX2_init_4 rfl (lv_at hl 0 rfl) ?_
  refine lv_bipush (v := 60) hx hb dX2_init_5 (by decide) ?_
  refine g_newM (N' := 60) hx hb hown (hts _ cl_RX2_9) hK hW (by decide) rfl (by decide) (Nat.le_of_ble_eq_true rfl) (Nat.le_of_ble_eq_true rfl) dX2_init_7 (fun xa H1 f1 hW => ?_)
  obtain ⟨g_269, ge_270⟩ : ∃ zz, zz = gu g xa (.inl (E.2 2, 60, .inr (.inr (.inr (.inr (fun _ => none)))))) := ⟨_, rfl⟩
  have hW : PW E (fr g s.heap.size) s.heap H1 [] g_269 := by rw [ge_270]; exact hW
  have h_272 : g_269 x = some (.inr (2, [.null, .null, .int (0), .int (0), .int (0), .int (0), .int (0), .int (0), .int (0), .int (0)])) := ((congrFun ge_270 _).trans (gu_n _ _ (ne_none f1 hh))).trans hh
  have h_271 : g_269 xa = some (.inl (E.2 2, 60, .inr (.inr (.inr (.inr (fun _ => none)))))) := (congrFun ge_270 _).trans (gu_s _ _ _)
  refine g_putF hx hb hts inlX2 rfl tyX2 tyX2_ok nmX2 hown hK hW h_272 0 (by decide) fl_RX2_11 rfl hnm rfl rfl rfl (show 0 < 10 by decide) dX2_init_10 (fun H1 locs1 hW => ?_)
  obtain ⟨g_273, ge_274⟩ : ∃ zz, zz = gu g_269 x (.inr (2, [.ref (xa), .null, .int (0), .int (0), .int (0), .int (0), .int (0), .int (0), .int (0), .int (0)])) := ⟨_, rfl⟩
  have hW : PW E (fr g s.heap.size) s.heap H1 locs1 g_273 := by rw [ge_274]; exact hW
  have h_276 : g_273 xa = some (.inl (E.2 2, 60, .inr (.inr (.inr (.inr (fun _ => none)))))) := ((congrFun ge_274 _).trans (gu_n _ _ (ne_kd h_271 h_272 (by simp [kd])))).trans h_271
  have h_275 : g_273 x = some (.inr (2, [.ref (xa), .null, .int (0), .int (0), .int (0), .int (0), .int (0), .int (0), .int (0), .int (0)])) := (congrFun ge_274 _).trans (gu_s _ _ _)
  refine lv_aload_n hx hb dX2_init_13 rfl (lv_at hl 0 rfl) ?_
  refine lv_bipush (v := 8) hx hb dX2_init_14 (by decide) ?_
  refine g_newC (N' := 8) hx hb hown (hts _ cl_RX2_15) hK hW (by decide) rfl (by decide) (Nat.le_of_ble_eq_true rfl) (Nat.le_of_ble_eq_true rfl) dX2_init_16 (fun xk H1 f2 hW => ?_)
  obtain ⟨g_277, ge_278⟩ : ∃ zz, zz = gu g_273 xk (.inl (E.2 3, 8, .inr (.inr (.inr (.inr (fun _ => none)))))) := ⟨_, rfl⟩
  have hW : PW E (fr g s.heap.size) s.heap H1 locs1 g_277 := by rw [ge_278]; exact hW
  have h_280 : g_277 x = some (.inr (2, [.ref (xa), .null, .int (0), .int (0), .int (0), .int (0), .int (0), .int (0), .int (0), .int (0)])) := ((congrFun ge_278 _).trans (gu_n _ _ (ne_none f2 h_275))).trans h_275
  have h_281 : g_277 xa = some (.inl (E.2 2, 60, .inr (.inr (.inr (.inr (fun _ => none)))))) := ((congrFun ge_278 _).trans (gu_n _ _ (ne_none f2 h_276))).trans h_276
  have h_279 : g_277 xk = some (.inl (E.2 3, 8, .inr (.inr (.inr (.inr (fun _ => none)))))) := (congrFun ge_278 _).trans (gu_s _ _ _)
  refine g_putF hx hb hts inlX2 rfl tyX2 tyX2_ok nmX2 hown hK hW h_280 1 (by decide) fl_RX2_17 rfl hnm rfl rfl rfl (show 1 < 10 by decide) dX2_init_19 (fun H1 locs1 hW => ?_)
  obtain ⟨g_282, ge_283⟩ : ∃ zz, zz = gu g_277 x (.inr (2, [.ref (xa), .ref (xk), .int (0), .int (0), .int (0), .int (0), .int (0), .int (0), .int (0), .int (0)])) := ⟨_, rfl⟩
  have hW : PW E (fr g s.heap.size) s.heap H1 locs1 g_282 := by rw [ge_283]; exact hW
  have h_285 : g_282 xa = some (.inl (E.2 2, 60, .inr (.inr (.inr (.inr (fun _ => none)))))) := ((congrFun ge_283 _).trans (gu_n _ _ (ne_kd h_281 h_280 (by simp [kd])))).trans h_281
  have h_286 : g_282 xk = some (.inl (E.2 3, 8, .inr (.inr (.inr (.inr (fun _ => none)))))) := ((congrFun ge_283 _).trans (gu_n _ _ (ne_kd h_279 h_280 (by simp [kd])))).trans h_279
  have h_284 : g_282 x = some (.inr (2, [.ref (xa), .ref (xk), .int (0), .int (0), .int (0), .int (0), .int (0), .int (0), .int (0), .int (0)])) := (congrFun ge_283 _).trans (gu_s _ _ _)
  refine lv_aload_n hx hb dX2_init_22 rfl (lv_at hl 0 rfl) ?_
  refine lv_iconst (v := -1) hx hb dX2_init_23 (by decide) ?_
  refine g_put hx hb hts inlX2 rfl tyX2 tyX2_ok nmX2 hown hK hW h_284 9 (by decide) fl_RX2_21 rfl rfl rfl (show 9 < 10 by decide) dX2_init_24 (fun H1 locs1 hW => ?_)
  obtain ⟨g_287, ge_288⟩ : ∃ zz, zz = gu g_282 x (.inr (2, [.ref (xa), .ref (xk), .int (0), .int (0), .int (0), .int (0), .int (0), .int (0), .int (0), .int (-1)])) := ⟨_, rfl⟩
  have hW : PW E (fr g s.heap.size) s.heap H1 locs1 g_287 := by rw [ge_288]; exact hW
  have h_290 : g_287 xa = some (.inl (E.2 2, 60, .inr (.inr (.inr (.inr (fun _ => none)))))) := ((congrFun ge_288 _).trans (gu_n _ _ (ne_kd h_285 h_284 (by simp [kd])))).trans h_285
  have h_291 : g_287 xk = some (.inl (E.2 3, 8, .inr (.inr (.inr (.inr (fun _ => none)))))) := ((congrFun ge_288 _).trans (gu_n _ _ (ne_kd h_286 h_284 (by simp [kd])))).trans h_286
  have h_289 : g_287 x = some (.inr (2, [.ref (xa), .ref (xk), .int (0), .int (0), .int (0), .int (0), .int (0), .int (0), .int (0), .int (-1)])) := (congrFun ge_288 _).trans (gu_s _ _ _)
  exact r_void hx hb hr hlk hW (by exact ⟨rfl, xa, xk, h_289, by rw [h_290]; congr 6, by rw [h_291]; congr 6, fun i hi => absurd hi (by rw [nm0]; omega), fun k _ hs => absurd rfl hs, fun i j hi => absurd hi (by rw [nm0]; omega), by rw [nm0]; omega⟩) (Nat.le_of_ble_eq_true rfl) (Nat.le_of_ble_eq_true rfl) dX2_init_27
