def Fslip (r : sg) (b st : Int32) : Int32 × sg := if b < 0 ∨ 2 < b then (-2, r) else if r 17 0 < 60 then (r 17 0, entF r b 0 0 st) else (-3, r)
def Fbundle (r : sg) (b d n : Int32) : Int32 × sg := if d < 1 ∨ kindB b d = false ∨ 8 < n then (-2, r) else if r 17 0 < 60 then (if n < 0 then (-6, r) else (r 17 0, entF r b d n 0)) else (-3, r)
theorem slip_fin {P : sg → Prop} {r : sg} {b st : Int32} (hb : ¬ b < 0) (hb2 : ¬ 2 < b) (hp : if r 17 0 < 60 ∧ ¬ (0 : Int32) < 0 then P (entF r b 0 0 st) else P r) : some (Value.int (enterI r 0)) = some (Value.int (Fslip r b st).1) ∧ P (Fslip r b st).2 := by
  have h0 : ¬ (0 : Int32) < 0 := by decide
  by_cases hz : r 17 0 < 60
  · rw [if_pos ⟨hz, h0⟩] at hp
    have e1 : Fslip r b st = (r 17 0, entF r b 0 0 st) := by simp only [Fslip, hb, hb2, or_self, if_false, if_pos hz]
    have e2 : enterI r 0 = r 17 0 := by simp only [enterI, if_pos hz, if_neg h0]
    rw [e1, e2]
    exact ⟨rfl, hp⟩
  · rw [if_neg (fun q => hz q.1)] at hp
    have e1 : Fslip r b st = (-3, r) := by simp only [Fslip, hb, hb2, or_self, if_false, if_neg hz]
    have e2 : enterI r 0 = -3 := by simp only [enterI, if_neg hz]
    rw [e1, e2]
    exact ⟨rfl, hp⟩
theorem bundle_fin {P : sg → Prop} {r : sg} {b d n : Int32} (hb : ¬ d < 1) (hb2 : kindB b d = true) (hb3 : ¬ 8 < n) (hp : if r 17 0 < 60 ∧ ¬ n < 0 then P (entF r b d n 0) else P r) : some (Value.int (enterI r n)) = some (Value.int (Fbundle r b d n).1) ∧ P (Fbundle r b d n).2 := by
  have e0 : ¬ (d < 1 ∨ kindB b d = false ∨ 8 < n) := by simp [hb, hb2, hb3]
  by_cases hz : r 17 0 < 60
  · by_cases hn : n < 0
    · rw [if_neg (fun q => q.2 hn)] at hp
      have e1 : Fbundle r b d n = (-6, r) := by simp only [Fbundle, if_neg e0, if_pos hz, if_pos hn]
      have e2 : enterI r n = -6 := by simp only [enterI, if_pos hz, if_pos hn]
      rw [e1, e2]
      exact ⟨rfl, hp⟩
    · rw [if_pos ⟨hz, hn⟩] at hp
      have e1 : Fbundle r b d n = (r 17 0, entF r b d n 0) := by simp only [Fbundle, if_neg e0, if_pos hz, if_neg hn]
      have e2 : enterI r n = r 17 0 := by simp only [enterI, if_pos hz, if_neg hn]
      rw [e1, e2]
      exact ⟨rfl, hp⟩
  · rw [if_neg (fun q => hz q.1)] at hp
    have e1 : Fbundle r b d n = (-3, r) := by simp only [Fbundle, if_neg e0, if_neg hz]
    have e2 : enterI r n = -3 := by simp only [enterI, if_neg hz]
    rw [e1, e2]
    exact ⟨rfl, hp⟩
theorem ix_le8 {n : Int32} (h : ¬ 8 < n) : ix n ≤ 8 := by
  by_cases h0 : n < 0
  · have h1 : n.toInt < 0 := Int32.lt_iff_toInt_lt.mp h0
    have h2 : ix n = n.toInt.toNat := rfl
    omega
  · rw [Int32.lt_iff_toInt_lt, ix_i h0] at h
    simp at h
    omega
def zrF (r : sg) (k : Nat) : sg := fun f i => if i = k ∧ 5 ≤ f ∧ f ≤ 16 then (if f = 5 then 1 else 0) else r f i
def ctrF (r : sg) (k : Nat) (a b d f : Int32) : sg := s2 (s2 (s2 (s2 (s2 (s2 (s2 (s2 (s2 (s2 (s2 (s2 r 5 k 1) 6 k 0) 7 k 0) 8 k a) 9 k b) 10 k d) 11 k f) 12 k 0) 13 k 0) 14 k (-1)) 15 k 0) 16 k 0
def Fcounter (r : sg) (k a b d f : Int32) : Int32 × sg := if !decide (k < 0) && (decide (k < 8) && (kindB a b && kindB d f)) then (1, ctrF r (ix k) a b d f) else (-2, r)
theorem set_ctr {r : sg} {k : Nat} {a b d f : Int32} (h : r 5 k = 1) : setF r k a b d f = ctrF r k a b d f := by
  funext q i
  by_cases hi : i = k
  · subst hi
    rcases (show q = 5 ∨ q = 6 ∨ q = 7 ∨ q = 8 ∨ q = 9 ∨ q = 10 ∨ q = 11 ∨ q = 12 ∨ q = 13 ∨ q = 14 ∨ q = 15 ∨ q = 16 ∨ (q < 5 ∨ 16 < q) by omega) with rfl | rfl | rfl | rfl | rfl | rfl | rfl | rfl | rfl | rfl | rfl | rfl | hq
    all_goals first | (simp [setF, ctrF, s2_a, h]; done) | skip
    have n5 : q ≠ 5 := by omega
    have n6 : q ≠ 6 := by omega
    have n7 : q ≠ 7 := by omega
    have n8 : q ≠ 8 := by omega
    have n9 : q ≠ 9 := by omega
    have n10 : q ≠ 10 := by omega
    have n11 : q ≠ 11 := by omega
    have n12 : q ≠ 12 := by omega
    have n13 : q ≠ 13 := by omega
    have n14 : q ≠ 14 := by omega
    have n15 : q ≠ 15 := by omega
    have n16 : q ≠ 16 := by omega
    simp [setF, ctrF, s2_a, n5, n6, n7, n8, n9, n10, n11, n12, n13, n14, n15, n16]
  · simp [setF, ctrF, s2_a, hi]
theorem set_zr {r : sg} {k : Nat} {a b d f : Int32} : setF (zrF r k) k a b d f = ctrF r k a b d f := by
  funext q i
  by_cases hi : i = k
  · subst hi
    rcases (show q = 5 ∨ q = 6 ∨ q = 7 ∨ q = 8 ∨ q = 9 ∨ q = 10 ∨ q = 11 ∨ q = 12 ∨ q = 13 ∨ q = 14 ∨ q = 15 ∨ q = 16 ∨ (q < 5 ∨ 16 < q) by omega) with rfl | rfl | rfl | rfl | rfl | rfl | rfl | rfl | rfl | rfl | rfl | rfl | hq
    all_goals first | (simp [setF, ctrF, s2_a, zrF]; done) | skip
    have n5 : q ≠ 5 := by omega
    have n6 : q ≠ 6 := by omega
    have n7 : q ≠ 7 := by omega
    have n8 : q ≠ 8 := by omega
    have n9 : q ≠ 9 := by omega
    have n10 : q ≠ 10 := by omega
    have n11 : q ≠ 11 := by omega
    have n12 : q ≠ 12 := by omega
    have n13 : q ≠ 13 := by omega
    have n14 : q ≠ 14 := by omega
    have n15 : q ≠ 15 := by omega
    have n16 : q ≠ 16 := by omega
    simp [setF, ctrF, s2_a, n5, n6, n7, n8, n9, n10, n11, n12, n13, n14, n15, n16]
    show zrF r i q i = r q i
    simp only [zrF]
    rw [if_neg (by omega)]
  · simp [setF, ctrF, s2_a, hi, zrF]
theorem nset_zr {r : sg} {k : Nat} (h : r 5 k = 0) (n : Nat) : nsetN (zrF r k) n = if k < n then nsetN r n + 1 else nsetN r n := by
  induction n with
  | zero => rfl
  | succ n ih =>
    simp only [nsetN, ih]
    by_cases hk : n = k
    · subst hk
      rw [if_neg (Nat.lt_irrefl _), if_pos (Nat.lt_succ_self _)]
      simp [zrF, h, bI]
    · have e1 : zrF r k 5 n = r 5 n := by simp [zrF, hk]
      rw [e1]
      by_cases h2 : k < n
      · rw [if_pos h2, if_pos (by omega), Int32.add_assoc, Int32.add_comm 1, ← Int32.add_assoc]
      · rw [if_neg h2, if_neg (by omega)]
set_option maxHeartbeats 4000000 in
theorem HR.newc {E : gE} {x xa xk : Nat} {ma pa ka : Nat → Nat} {z : Bool} {r : sg} {g g' : gm} (h : HR E x xa xk ma pa ka z r g) {k : Nat} (hk : k < 8) (hs : r 5 k = 0) {q0 : Nat}
    (e0 : g' q0 = some (.inr (0, [.int (nI k), .int 0, .int 0, .int 0, .int 0, .int 0, .int 0, .int 0, .int 0, .int 0, .int 0, .int 0]))) (e3 : g' xk = some (.inl (E.2 3, 8, .inr (.inr (.inr (.inr (va_up (krw r ka) k (some q0)))))))) (e4 : g' x = some (.inr (2, [.ref xa, .ref xk, .int (r 17 0), .int (nsetN r 8 + 1), .int (r 17 1), .int (tal z r 2), .int (tal z r 3), .int (tal z r 4), .int (tal z r 5), .int (tal z r 6)])))
    (e5 : ∀ a, a ≠ x → a ≠ xk → a ≠ q0 → g' a = g a) (f1 : g q0 = none) : HR E x xa xk ma pa (va_up ka k q0) z (zrF r k) g' := by
  obtain ⟨a1, a2, a3, a4, a5, a6, a7⟩ := h
  have rr : ∀ f, f < 5 ∨ 16 < f → zrF r k f = r f := fun f hf => by
    funext i
    simp only [zrF]
    rw [if_neg (by omega)]
  have rk : ∀ f i, i ≠ k → zrF r k f i = r f i := fun f i hi => by simp [zrF, hi]
  have en : nm (zrF r k) = nm r := by simp [nm, rr 17 (by decide)]
  refine ⟨?_, ?_, ?_, fun i hi => ?_, fun k' hk' hs' => ?_, fun i j hi hj => a6 i j (en ▸ hi) (en ▸ hj), en ▸ a7⟩
  · rw [e4]
    simp [hfs, tal, rr 17 (by decide), nset_zr hs, hk]
  · rw [e5 xa (ne_kd a2 a1 (by simp [kd])) (ne_kd a2 a3 (by simp [kd])) (ne_none f1 a2), a2, mrw_c en]
  · rw [e3]
    have : va_up (krw r ka) k (some q0) = krw (zrF r k) (va_up ka k q0) := by
      funext j
      by_cases hj : j = k
      · subst hj
        simp [krw, va_up, zrF]
      · simp [krw, va_up, hj, rk]
    rw [this]
  · rw [en] at hi
    obtain ⟨b1, ⟨f', b2, b3⟩, b4, b5⟩ := a4 i hi
    rw [e5 _ (ne_kd b1 a1 (by simp [kd])) (ne_kd b1 a3 (by simp [kd])) (ne_none f1 b1), e5 _ (ne_kd b2 a1 (by simp [kd])) (ne_kd b2 a3 (by simp [kd])) (ne_none f1 b2)]
    simp only [mfl, rr 0 (by decide), rr 1 (by decide), rr 2 (by decide), rr 3 (by decide), rr 4 (by decide)]
    exact ⟨b1, ⟨f', b2, b3⟩, b4, b5⟩
  · by_cases hkk : k' = k
    · subst hkk
      rw [va_up_self, e0]
      simp [kfl, zrF]
    · rw [rk 5 k' hkk] at hs'
      have b1 := a5 k' hk' hs'
      rw [va_up_ne _ _ hkk, e5 _ (ne_kd b1 a1 (by simp [kd])) (ne_kd b1 a3 (by simp [kd])) (ne_none f1 b1), b1]
      simp [kfl, rk _ k' hkk]

set_option maxHeartbeats 4000000 in
set_option maxRecDepth 100000 in
theorem k_X2_slip (l : Launch) {E : gE} {x xa xk : Nat} {ma pa ka : Nat → Nat} {z : Bool} {r : sg} {g : gm} (hR : HR E x xa xk ma pa ka z r g) (hn0 : ¬ r 17 0 < 0) (b st : Int32) : CM l yX2_slip cX2_slip 3 (some .int) ({ frames := 4, cells := 2, slots := 14, locals := 125 }) E [.ref (x), .int (b), .int (st)] g (fun vv g' => vv = some (.int (Fslip r b st).1) ∧ ∃ ma' pa', HR E x xa xk ma' pa' ka z (Fslip r b st).2 g') := by
  refine CM.of (by decide) (Nat.le_of_ble_eq_true rfl) ?_
  intro p e s m below meth c ls hM hK hW hl
  obtain ⟨hx, hb, hr, hml, hown, hts, hlk, hnm⟩ := hM
  have hown : s.vm.findClass RX2 = some m.cls := hown
  have hl : lv_has ls 3 [(0, .ref (x)), (1, .int (b)), (2, .int (st))] := hl
  refine lv_iload_n hx hb dX2_slip_0 rfl (lv_at hl 1 rfl) ?_
  refine lv_if_lt (tgt := 9) hx hb dX2_slip_1 (by decide) (fun c_178 => ?_) (fun c_178 => ?_)
  · skip
    refine lv_bipush (v := -2) hx hb dX2_slip_9 (by decide) ?_
    exact r_int hx hb hr hlk hW (by have e1 : Fslip r b st = (-2, r) := (by simp [Fslip, c_178]); rw [e1]; exact ⟨rfl, _, _, hR⟩) (Nat.le_of_ble_eq_true rfl) (Nat.le_of_ble_eq_true rfl) dX2_slip_11
  · skip
    refine lv_iload_n hx hb dX2_slip_4 rfl (lv_at hl 1 rfl) ?_
    refine lv_iconst (v := 2) hx hb dX2_slip_5 (by decide) ?_
    refine lv_icmp_le (tgt := 12) hx hb dX2_slip_6 (by decide) (fun c_179 => ?_) (fun c_179 => ?_)
    · skip
      have c_179 := Int32.not_lt.mpr c_179
      refine lv_aload_n hx hb dX2_slip_12 rfl (lv_at hl 0 rfl) ?_
      refine lv_iload_n hx hb dX2_slip_13 rfl (lv_at hl 1 rfl) ?_
      refine lv_iconst (v := 0) hx hb dX2_slip_14 (by decide) ?_
      refine lv_iconst (v := 0) hx hb dX2_slip_15 (by decide) ?_
      refine lv_iload_n hx hb dX2_slip_16 rfl (lv_at hl 2 rfl) ?_
      refine c_virt (own := RX2) (As := [.int (b), .int (0), .int (0), .int (st)]) (rest := []) hx hb hml hown hts hK hW (k_X2_enter l hR hn0 _ _ (n := 0) (by decide) _) ml_RX2_25 im_yX2_enter se_yX2_enter in_RX2 cd_yX2_enter 4 (by decide +kernel) ⟨Nat.le_of_ble_eq_true rfl, Nat.le_of_ble_eq_true rfl⟩ hR.1 rfl rfl rfl hl.1 rfl (Nat.le_of_ble_eq_true rfl) dX2_slip_17 ⟨Nat.le_of_ble_eq_true rfl, Nat.le_of_ble_eq_true rfl⟩ (fun v g2 H1 locs1 hp hW hKT => ?_)
      obtain ⟨rfl, hp⟩ := hp
      refine W.eq (g2 := F0 m 20 ls [.int (enterI r (0))]) rfl ?_
      exact r_int hx hb hr hlk hW (by exact slip_fin (P := fun r' => ∃ ma' pa', HR E x xa xk ma' pa' ka z r' g2) c_178 c_179 hp) (Nat.le_of_ble_eq_true rfl) (Nat.le_of_ble_eq_true rfl) dX2_slip_20
    · skip
      have c_179 := Int32.not_le.mp c_179
      refine lv_bipush (v := -2) hx hb dX2_slip_9 (by decide) ?_
      exact r_int hx hb hr hlk hW (by have e1 : Fslip r b st = (-2, r) := (by simp [Fslip, c_178, c_179]); rw [e1]; exact ⟨rfl, _, _, hR⟩) (Nat.le_of_ble_eq_true rfl) (Nat.le_of_ble_eq_true rfl) dX2_slip_11

set_option maxHeartbeats 4000000 in
set_option maxRecDepth 100000 in
theorem k_X2_bundle (l : Launch) {E : gE} {x xa xk : Nat} {ma pa ka : Nat → Nat} {z : Bool} {r : sg} {g : gm} (hR : HR E x xa xk ma pa ka z r g) (hn0 : ¬ r 17 0 < 0) (b d n : Int32) : CM l yX2_bundle cX2_bundle 4 (some .int) ({ frames := 4, cells := 2, slots := 14, locals := 125 }) E [.ref (x), .int (b), .int (d), .int (n)] g (fun vv g' => vv = some (.int (Fbundle r b d n).1) ∧ ∃ ma' pa', HR E x xa xk ma' pa' ka z (Fbundle r b d n).2 g') := by
  refine CM.of (by decide) (Nat.le_of_ble_eq_true rfl) ?_
  intro p e s m below meth c ls hM hK hW hl
  obtain ⟨hx, hb, hr, hml, hown, hts, hlk, hnm⟩ := hM
  have hown : s.vm.findClass RX2 = some m.cls := hown
  have hl : lv_has ls 4 [(0, .ref (x)), (1, .int (b)), (2, .int (d)), (3, .int (n))] := hl
  refine lv_iload_n hx hb dX2_bundle_0 rfl (lv_at hl 2 rfl) ?_
  refine lv_iconst (v := 1) hx hb dX2_bundle_1 (by decide) ?_
  refine lv_icmp_lt (tgt := 19) hx hb dX2_bundle_2 (by decide) (fun c_180 => ?_) (fun c_180 => ?_)
  · skip
    refine lv_bipush (v := -2) hx hb dX2_bundle_19 (by decide) ?_
    exact r_int hx hb hr hlk hW (by have e1 : Fbundle r b d n = (-2, r) := (by simp [Fbundle, c_180]); rw [e1]; exact ⟨rfl, _, _, hR⟩) (Nat.le_of_ble_eq_true rfl) (Nat.le_of_ble_eq_true rfl) dX2_bundle_21
  · skip
    refine lv_iload_n hx hb dX2_bundle_5 rfl (lv_at hl 1 rfl) ?_
    refine lv_iload_n hx hb dX2_bundle_6 rfl (lv_at hl 2 rfl) ?_
    refine c_stat (own := RX2) (As := [.int (b), .int (d)]) (rest := []) hx hb hml hown hts hK hW (k_X2_isKind l _ _) ml_RX2_29 st_yX2_isKind in_RX2 cd_yX2_isKind 2 (by decide +kernel) ⟨Nat.le_of_ble_eq_true rfl, Nat.le_of_ble_eq_true rfl⟩ rfl hl.1 rfl (Nat.le_of_ble_eq_true rfl) dX2_bundle_7 ⟨Nat.le_of_ble_eq_true rfl, Nat.le_of_ble_eq_true rfl⟩ (fun v g2 H1 locs1 hp hW hKT => ?_)
    obtain ⟨rfl, hg⟩ := hp
    rw [hg] at hW
    refine W.eq (g2 := F0 m 10 ls [.int (bI (kindB (b) (d)))]) rfl ?_
    refine lv_if_eq (tgt := 19) hx hb dX2_bundle_10 (by decide) (fun c_181 => ?_) (fun c_181 => ?_)
    · skip
      have c_181 := (bI_eq0 _).mp c_181
      refine lv_bipush (v := -2) hx hb dX2_bundle_19 (by decide) ?_
      exact r_int hx hb hr hlk hW (by have e1 : Fbundle r b d n = (-2, r) := (by simp [Fbundle, c_180, c_181]); rw [e1]; exact ⟨rfl, _, _, hR⟩) (Nat.le_of_ble_eq_true rfl) (Nat.le_of_ble_eq_true rfl) dX2_bundle_21
    · skip
      have c_181 := bI_ne0 c_181
      refine lv_iload_n hx hb dX2_bundle_13 rfl (lv_at hl 3 rfl) ?_
      refine lv_bipush (v := 8) hx hb dX2_bundle_14 (by decide) ?_
      refine lv_icmp_le (tgt := 22) hx hb dX2_bundle_16 (by decide) (fun c_182 => ?_) (fun c_182 => ?_)
      · skip
        have c_182 := Int32.not_lt.mpr c_182
        refine lv_aload_n hx hb dX2_bundle_22 rfl (lv_at hl 0 rfl) ?_
        refine lv_iload_n hx hb dX2_bundle_23 rfl (lv_at hl 1 rfl) ?_
        refine lv_iload_n hx hb dX2_bundle_24 rfl (lv_at hl 2 rfl) ?_
        refine lv_iload_n hx hb dX2_bundle_25 rfl (lv_at hl 3 rfl) ?_
        refine lv_iconst (v := 0) hx hb dX2_bundle_26 (by decide) ?_
        refine c_virt (own := RX2) (As := [.int (b), .int (d), .int (n), .int (0)]) (rest := []) hx hb hml hown hts hK hW (k_X2_enter l hR hn0 _ _ (ix_le8 c_182) _) ml_RX2_25 im_yX2_enter se_yX2_enter in_RX2 cd_yX2_enter 4 (by decide +kernel) ⟨Nat.le_of_ble_eq_true rfl, Nat.le_of_ble_eq_true rfl⟩ hR.1 rfl rfl rfl hl.1 rfl (Nat.le_of_ble_eq_true rfl) dX2_bundle_27 ⟨Nat.le_of_ble_eq_true rfl, Nat.le_of_ble_eq_true rfl⟩ (fun v g2 H1 locs1 hp hW hKT => ?_)
        obtain ⟨rfl, hp⟩ := hp
        refine W.eq (g2 := F0 m 30 ls [.int (enterI r (n))]) rfl ?_
        exact r_int hx hb hr hlk hW (by exact bundle_fin (P := fun r' => ∃ ma' pa', HR E x xa xk ma' pa' ka z r' g2) c_180 c_181 c_182 hp) (Nat.le_of_ble_eq_true rfl) (Nat.le_of_ble_eq_true rfl) dX2_bundle_30
      · skip
        have c_182 := Int32.not_le.mp c_182
        refine lv_bipush (v := -2) hx hb dX2_bundle_19 (by decide) ?_
        exact r_int hx hb hr hlk hW (by have e1 : Fbundle r b d n = (-2, r) := (by simp [Fbundle, c_180, c_181, c_182]); rw [e1]; exact ⟨rfl, _, _, hR⟩) (Nat.le_of_ble_eq_true rfl) (Nat.le_of_ble_eq_true rfl) dX2_bundle_21

set_option maxHeartbeats 4000000 in
set_option maxRecDepth 100000 in
theorem k_X2_counter (l : Launch) {E : gE} {x xa xk : Nat} {ma pa ka : Nat → Nat} {z : Bool} {r : sg} {g : gm} (hR : HR E x xa xk ma pa ka z r g) (a : Int32) (h5 : ix a < 8 → r 5 (ix a) = 0 ∨ r 5 (ix a) = 1) (b d f q : Int32) : CM l yX2_counter cX2_counter 7 (some .int) ({ frames := 2, cells := 1, slots := 12, locals := 60 }) E [.ref (x), .int (a), .int (b), .int (d), .int (f), .int (q)] g (fun vv g' => vv = some (.int (Fcounter r a b d f q).1) ∧ ∃ ka', HR E x xa xk ma pa ka' z (Fcounter r a b d f q).2 g') := by
  refine CM.of (by decide) (Nat.le_of_ble_eq_true rfl) ?_
  intro p e s m below meth c ls hM hK hW hl
  obtain ⟨hx, hb, hr, hml, hown, hts, hlk, hnm⟩ := hM
  have hown : s.vm.findClass RX2 = some m.cls := hown
  have hl : lv_has ls 7 [(0, .ref (x)), (1, .int (a)), (2, .int (b)), (3, .int (d)), (4, .int (f)), (5, .int (q))] := hl
  refine lv_iload_n hx hb dX2_counter_0 rfl (lv_at hl 1 rfl) ?_
  refine lv_if_lt (tgt := 28) hx hb dX2_counter_1 (by decide) (fun c_183 => ?_) (fun c_183 => ?_)
  · skip
    refine lv_bipush (v := -2) hx hb dX2_counter_28 (by decide) ?_
    exact r_int hx hb hr hlk hW (by have e1 : Fcounter r a b d f q = (-2, r) := (by simp [Fcounter, c_183]); rw [e1]; exact ⟨rfl, _, hR⟩) (Nat.le_of_ble_eq_true rfl) (Nat.le_of_ble_eq_true rfl) dX2_counter_30
  · skip
    refine lv_iload_n hx hb dX2_counter_4 rfl (lv_at hl 1 rfl) ?_
    refine lv_bipush (v := 8) hx hb dX2_counter_5 (by decide) ?_
    refine lv_icmp_ge (tgt := 28) hx hb dX2_counter_7 (by decide) (fun c_184 => ?_) (fun c_184 => ?_)
    · skip
      have c_184 := Int32.not_lt.mpr c_184
      refine lv_bipush (v := -2) hx hb dX2_counter_28 (by decide) ?_
      exact r_int hx hb hr hlk hW (by have e1 : Fcounter r a b d f q = (-2, r) := (by simp [Fcounter, c_183, c_184]); rw [e1]; exact ⟨rfl, _, hR⟩) (Nat.le_of_ble_eq_true rfl) (Nat.le_of_ble_eq_true rfl) dX2_counter_30
    · skip
      have c_184 := Int32.not_le.mp c_184
      refine lv_iload_n hx hb dX2_counter_10 rfl (lv_at hl 2 rfl) ?_
      refine lv_iload_n hx hb dX2_counter_11 rfl (lv_at hl 3 rfl) ?_
      refine c_stat (own := RX2) (As := [.int (b), .int (d)]) (rest := []) hx hb hml hown hts hK hW (k_X2_isKind l _ _) ml_RX2_29 st_yX2_isKind in_RX2 cd_yX2_isKind 2 (by decide +kernel) ⟨Nat.le_of_ble_eq_true rfl, Nat.le_of_ble_eq_true rfl⟩ rfl hl.1 rfl (Nat.le_of_ble_eq_true rfl) dX2_counter_12 ⟨Nat.le_of_ble_eq_true rfl, Nat.le_of_ble_eq_true rfl⟩ (fun v g2 H1 locs1 hp hW hKT => ?_)
      obtain ⟨rfl, hg⟩ := hp
      rw [hg] at hW
      refine W.eq (g2 := F0 m 15 ls [.int (bI (kindB (b) (d)))]) rfl ?_
      refine lv_if_eq (tgt := 28) hx hb dX2_counter_15 (by decide) (fun c_185 => ?_) (fun c_185 => ?_)
      · skip
        have c_185 := (bI_eq0 _).mp c_185
        refine lv_bipush (v := -2) hx hb dX2_counter_28 (by decide) ?_
        exact r_int hx hb hr hlk hW (by have e1 : Fcounter r a b d f q = (-2, r) := (by simp [Fcounter, c_183, c_184, c_185]); rw [e1]; exact ⟨rfl, _, hR⟩) (Nat.le_of_ble_eq_true rfl) (Nat.le_of_ble_eq_true rfl) dX2_counter_30
      · skip
        have c_185 := bI_ne0 c_185
        refine lv_iload hx hb dX2_counter_18 (lv_at hl 4 rfl) ?_
        refine lv_iload hx hb dX2_counter_20 (lv_at hl 5 rfl) ?_
        refine c_stat (own := RX2) (As := [.int (f), .int (q)]) (rest := []) hx hb hml hown hts hK hW (k_X2_isKind l _ _) ml_RX2_29 st_yX2_isKind in_RX2 cd_yX2_isKind 2 (by decide +kernel) ⟨Nat.le_of_ble_eq_true rfl, Nat.le_of_ble_eq_true rfl⟩ rfl hl.1 rfl (Nat.le_of_ble_eq_true rfl) dX2_counter_22 ⟨Nat.le_of_ble_eq_true rfl, Nat.le_of_ble_eq_true rfl⟩ (fun v g2 H1 locs1 hp hW hKT => ?_)
        obtain ⟨rfl, hg⟩ := hp
        rw [hg] at hW
        refine W.eq (g2 := F0 m 25 ls [.int (bI (kindB (f) (q)))]) rfl ?_
        refine lv_if_ne (tgt := 31) hx hb dX2_counter_25 (by decide) (fun c_186 => ?_) (fun c_186 => ?_)
        · skip
          have c_186 := bI_ne0 c_186
          refine lv_aload_n hx hb dX2_counter_31 rfl (lv_at hl 0 rfl) ?_
          refine g_get hx hb hts inlX2 rfl hown hK hW hR.1 1 (by decide) fl_RX2_17 (v := .ref (xk)) rfl dX2_counter_32 ?_
          refine lv_iload_n hx hb dX2_counter_35 rfl (lv_at hl 1 rfl) ?_
          refine g_aldC hx hb hK hW hR.2.2.1 (vin (n := 8) (by decide) c_183 c_184) dX2_counter_36 ?_
          have hk8 : ix a < 8 := (ix_lt (n := 8) (by decide) c_183).mpr c_184
          rcases h5 hk8 with h5 | h5
          · skip
            rw [show krw r ka (Int32.toNatClampNeg a) = none from if_pos h5]
            refine W.eq (g2 := F0 m 37 ls [.null]) rfl ?_
            refine lv_astoreN (lv' := [(6, .null), (0, .ref (x)), (1, .int (a)), (2, .int (b)), (3, .int (d)), (4, .int (f)), (5, .int (q))]) hx hb dX2_counter_37 hl (by decide) rfl (fun ls hl => ?_)
            refine lv_aloadN hx hb dX2_counter_39 (lv_at hl 0 rfl) ?_
            refine lv_ifnonnullN hx hb dX2_counter_41 ?_
            refine g_new (ci := 0) (fs := [.int 0, .int 0, .int 0, .int 0, .int 0, .int 0, .int 0, .int 0, .int 0, .int 0, .int 0, .int 0]) hx hb hts inlX0 rfl tyX0 tyX0_ok hown cl_RX2_15 ia_RX0 in_RX0 hK hW (fun j hj => by rcases (show j = 0 ∨ j = 1 ∨ j = 2 ∨ j = 3 ∨ j = 4 ∨ j = 5 ∨ j = 6 ∨ j = 7 ∨ j = 8 ∨ j = 9 ∨ j = 10 ∨ j = 11 by omega) with rfl | rfl | rfl | rfl | rfl | rfl | rfl | rfl | rfl | rfl | rfl | rfl <;> rfl) (Nat.le_of_ble_eq_true rfl) (Nat.le_of_ble_eq_true rfl) dX2_counter_44 (fun q0 H1 f1 hW => ?_)
            obtain ⟨g_187, ge_188⟩ : ∃ zz, zz = gu g q0 (.inr (0, [.int 0, .int 0, .int 0, .int 0, .int 0, .int 0, .int 0, .int 0, .int 0, .int 0, .int 0, .int 0])) := ⟨_, rfl⟩
            have hW : PW E (fr g s.heap.size) s.heap H1 locs1 g_187 := by rw [ge_188]; exact hW
            have h_190 : g_187 x = some (.inr (2, [.ref (xa), .ref (xk), .int (r 17 0), .int (nsetN r 8), .int (r 17 1), .int (tal z r 2), .int (tal z r 3), .int (tal z r 4), .int (tal z r 5), .int (tal z r 6)])) := ((congrFun ge_188 _).trans (gu_n _ _ (ne_none f1 hR.1))).trans hR.1
            have h_191 : g_187 xa = some (.inl (E.2 2, 60, .inr (.inr (.inr (.inr (mrw r ma)))))) := ((congrFun ge_188 _).trans (gu_n _ _ (ne_none f1 hR.2.1))).trans hR.2.1
            have h_192 : g_187 xk = some (.inl (E.2 3, 8, .inr (.inr (.inr (.inr (krw r ka)))))) := ((congrFun ge_188 _).trans (gu_n _ _ (ne_none f1 hR.2.2.1))).trans hR.2.2.1
            have h_189 : g_187 q0 = some (.inr (0, [.int 0, .int 0, .int 0, .int 0, .int 0, .int 0, .int 0, .int 0, .int 0, .int 0, .int 0, .int 0])) := (congrFun ge_188 _).trans (gu_s _ _ _)
            refine lv_dup hx hb dX2_counter_47 rfl ?_
            refine lv_iload_n hx hb dX2_counter_48 rfl (lv_at hl 2 rfl) ?_
            refine c_init (own := RX2) (As := [.int (a)]) (rest := [.ref (q0)]) hx hb hml hown hts hK hW (k_X0_init l h_189 _) ml_RX2_72 im_yX0_init in_RX0 cd_yX0_init rfl 1 (by decide +kernel) ⟨Nat.le_of_ble_eq_true rfl, Nat.le_of_ble_eq_true rfl⟩ rfl hl.1 rfl (Nat.le_of_ble_eq_true rfl) dX2_counter_49 ⟨Nat.le_of_ble_eq_true rfl, Nat.le_of_ble_eq_true rfl⟩ (fun v g2 H1 locs1 hp hW hKT => ?_)
            obtain ⟨rfl, hg⟩ := hp
            rw [hg] at hW
            refine W.eq (g2 := F0 m 52 ls [.ref (q0)]) rfl ?_
            obtain ⟨g_193, ge_194⟩ : ∃ zz, zz = gu g_187 q0 (.inr (0, [.int (a), .int (0), .int (0), .int (0), .int (0), .int (0), .int (0), .int (0), .int (0), .int (0), .int (0), .int (0)])) := ⟨_, rfl⟩
            have hW : PW E (fr g s.heap.size) s.heap H1 locs1 g_193 := by rw [ge_194]; exact hW
            have h_196 : g_193 x = some (.inr (2, [.ref (xa), .ref (xk), .int (r 17 0), .int (nsetN r 8), .int (r 17 1), .int (tal z r 2), .int (tal z r 3), .int (tal z r 4), .int (tal z r 5), .int (tal z r 6)])) := ((congrFun ge_194 _).trans (gu_n _ _ (ne_kd h_190 h_189 (by simp [kd])))).trans h_190
            have h_197 : g_193 xa = some (.inl (E.2 2, 60, .inr (.inr (.inr (.inr (mrw r ma)))))) := ((congrFun ge_194 _).trans (gu_n _ _ (ne_kd h_191 h_189 (by simp [kd])))).trans h_191
            have h_198 : g_193 xk = some (.inl (E.2 3, 8, .inr (.inr (.inr (.inr (krw r ka)))))) := ((congrFun ge_194 _).trans (gu_n _ _ (ne_kd h_192 h_189 (by simp [kd])))).trans h_192
            have h_195 : g_193 q0 = some (.inr (0, [.int (a), .int (0), .int (0), .int (0), .int (0), .int (0), .int (0), .int (0), .int (0), .int (0), .int (0), .int (0)])) := (congrFun ge_194 _).trans (gu_s _ _ _)
            refine lv_astore (lv' := [(6, .ref (q0)), (0, .ref (x)), (1, .int (a)), (2, .int (b)), (3, .int (d)), (4, .int (f)), (5, .int (q))]) hx hb dX2_counter_52 hl (by decide) rfl (fun ls hl => ?_)
            refine lv_aload_n hx hb dX2_counter_54 rfl (lv_at hl 1 rfl) ?_
            refine g_get hx hb hts inlX2 rfl hown hK hW h_196 1 (by decide) fl_RX2_17 (v := .ref (xk)) rfl dX2_counter_55 ?_
            refine lv_iload_n hx hb dX2_counter_58 rfl (lv_at hl 2 rfl) ?_
            refine lv_aload hx hb dX2_counter_59 (lv_at hl 0 rfl) ?_
            refine g_astC hx hb hK hW h_198 h_195 (vin (n := 8) (by decide) c_183 c_184) dX2_counter_61 (fun H1 locs1 hW => ?_)
            obtain ⟨g_199, ge_200⟩ : ∃ zz, zz = gu g_193 xk (.inl (E.2 3, 8, .inr (.inr (.inr (.inr (va_up (krw r ka) (ix a) (some q0))))))) := ⟨_, rfl⟩
            have hW : PW E (fr g s.heap.size) s.heap H1 locs1 g_199 := by rw [ge_200]; exact hW
            have h_202 : g_199 x = some (.inr (2, [.ref (xa), .ref (xk), .int (r 17 0), .int (nsetN r 8), .int (r 17 1), .int (tal z r 2), .int (tal z r 3), .int (tal z r 4), .int (tal z r 5), .int (tal z r 6)])) := ((congrFun ge_200 _).trans (gu_n _ _ (ne_kd h_196 h_198 (by simp [kd])))).trans h_196
            have h_203 : g_199 xa = some (.inl (E.2 2, 60, .inr (.inr (.inr (.inr (mrw r ma)))))) := ((congrFun ge_200 _).trans (gu_n _ _ (ne_kd h_197 h_198 (by simp [kd])))).trans h_197
            have h_204 : g_199 q0 = some (.inr (0, [.int (a), .int (0), .int (0), .int (0), .int (0), .int (0), .int (0), .int (0), .int (0), .int (0), .int (0), .int (0)])) := ((congrFun ge_200 _).trans (gu_n _ _ (ne_kd h_195 h_198 (by simp [kd])))).trans h_195
            have h_201 : g_199 xk = some (.inl (E.2 3, 8, .inr (.inr (.inr (.inr (va_up (krw r ka) (ix a) (some q0))))))) := (congrFun ge_200 _).trans (gu_s _ _ _)
            refine lv_aload_n hx hb dX2_counter_62 rfl (lv_at hl 1 rfl) ?_
            refine lv_dup hx hb dX2_counter_63 rfl ?_
            refine g_get hx hb hts inlX2 rfl hown hK hW h_202 3 (by decide) fl_RX2_75 (v := .int (nsetN r 8)) rfl dX2_counter_64 ?_
            refine lv_iconst (v := 1) hx hb dX2_counter_67 (by decide) ?_
            refine lv_iadd hx hb dX2_counter_68 ?_
            refine g_put hx hb hts inlX2 rfl tyX2 tyX2_ok nmX2 hown hK hW h_202 3 (by decide) fl_RX2_75 rfl rfl rfl (show 3 < 10 by decide) dX2_counter_69 (fun H1 locs1 hW => ?_)
            obtain ⟨g_205, ge_206⟩ : ∃ zz, zz = gu g_199 x (.inr (2, [.ref (xa), .ref (xk), .int (r 17 0), .int ((nsetN r 8) + (1)), .int (r 17 1), .int (tal z r 2), .int (tal z r 3), .int (tal z r 4), .int (tal z r 5), .int (tal z r 6)])) := ⟨_, rfl⟩
            have hW : PW E (fr g s.heap.size) s.heap H1 locs1 g_205 := by rw [ge_206]; exact hW
            have h_208 : g_205 xa = some (.inl (E.2 2, 60, .inr (.inr (.inr (.inr (mrw r ma)))))) := ((congrFun ge_206 _).trans (gu_n _ _ (ne_kd h_203 h_202 (by simp [kd])))).trans h_203
            have h_209 : g_205 xk = some (.inl (E.2 3, 8, .inr (.inr (.inr (.inr (va_up (krw r ka) (ix a) (some q0))))))) := ((congrFun ge_206 _).trans (gu_n _ _ (ne_kd h_201 h_202 (by simp [kd])))).trans h_201
            have h_210 : g_205 q0 = some (.inr (0, [.int (a), .int (0), .int (0), .int (0), .int (0), .int (0), .int (0), .int (0), .int (0), .int (0), .int (0), .int (0)])) := ((congrFun ge_206 _).trans (gu_n _ _ (ne_kd h_204 h_202 (by simp [kd])))).trans h_204
            have h_207 : g_205 x = some (.inr (2, [.ref (xa), .ref (xk), .int (r 17 0), .int ((nsetN r 8) + (1)), .int (r 17 1), .int (tal z r 2), .int (tal z r 3), .int (tal z r 4), .int (tal z r 5), .int (tal z r 6)])) := (congrFun ge_206 _).trans (gu_s _ _ _)
            have hR := HR.newc hR hk8 h5 (q0 := q0) (by rw [nI_ix c_183]; exact h_210) h_209 h_207 (fun y ha hb hc => ((congrFun ge_206 y).trans (gu_n _ _ ha)).trans (((congrFun ge_200 y).trans (gu_n _ _ hb)).trans (((congrFun ge_194 y).trans (gu_n _ _ hc)).trans ((congrFun ge_188 y).trans (gu_n _ _ hc))))) f1
            have hs : zrF r (ix a) 5 (ix a) ≠ 0 := by simp [zrF]
            have hl : lv_has ls 7 [(6, .ref (va_up ka (ix a) q0 (ix a))), (0, .ref (x)), (1, .int (a)), (2, .int (b)), (3, .int (d)), (4, .int (f)), (5, .int (q))] := by
              have e9 : va_up ka (ix a) q0 (ix a) = q0 := va_up_self _ _ _
              rw [e9]; exact hl
            refine lv_aload hx hb dX2_counter_72 (lv_at hl 0 rfl) ?_
            refine lv_iload_n hx hb dX2_counter_74 rfl (lv_at hl 3 rfl) ?_
            refine lv_iload_n hx hb dX2_counter_75 rfl (lv_at hl 4 rfl) ?_
            refine lv_iload hx hb dX2_counter_76 (lv_at hl 5 rfl) ?_
            refine lv_iload hx hb dX2_counter_78 (lv_at hl 6 rfl) ?_
            refine c_virt (own := RX2) (As := [.int (b), .int (d), .int (f), .int (q)]) (rest := []) hx hb hml hown hts hK hW (k_X0_setAnew l hR hk8 hs _ _ _ _) ml_RX2_78 im_yX0_setAnew se_yX0_setAnew in_RX0 cd_yX0_setAnew 4 (by decide +kernel) ⟨Nat.le_of_ble_eq_true rfl, Nat.le_of_ble_eq_true rfl⟩ (hR.2.2.2.2.1 _ hk8 hs) rfl rfl rfl hl.1 rfl (Nat.le_of_ble_eq_true rfl) dX2_counter_80 ⟨Nat.le_of_ble_eq_true rfl, Nat.le_of_ble_eq_true rfl⟩ (fun v g2 H1 locs1 hp hW hKT => ?_)
            obtain ⟨rfl, hR⟩ := hp
            refine W.eq (g2 := F0 m 83 ls []) rfl ?_
            refine lv_iconst (v := 1) hx hb dX2_counter_83 (by decide) ?_
            exact r_int hx hb hr hlk hW (by have e1 : Fcounter r a b d f q = (1, ctrF r (ix a) b d f q) := (by simp [Fcounter, c_183, c_184, c_185, c_186]); rw [e1]; exact ⟨rfl, _, by rw [set_zr] at hR; exact hR⟩) (Nat.le_of_ble_eq_true rfl) (Nat.le_of_ble_eq_true rfl) dX2_counter_84
          · skip
            have hs : r 5 (ix a) ≠ 0 := by rw [h5]; decide
            rw [show krw r ka (Int32.toNatClampNeg a) = some (ka (ix a)) from if_neg hs]
            refine W.eq (g2 := F0 m 37 ls [.ref (ka (ix a))]) rfl ?_
            refine lv_astore (lv' := [(6, .ref (ka (ix a))), (0, .ref (x)), (1, .int (a)), (2, .int (b)), (3, .int (d)), (4, .int (f)), (5, .int (q))]) hx hb dX2_counter_37 hl (by decide) rfl (fun ls hl => ?_)
            refine lv_aload hx hb dX2_counter_39 (lv_at hl 0 rfl) ?_
            refine lv_ifnonnull (tgt := 72) hx hb dX2_counter_41 (by decide) ?_
            refine lv_aload hx hb dX2_counter_72 (lv_at hl 0 rfl) ?_
            refine lv_iload_n hx hb dX2_counter_74 rfl (lv_at hl 3 rfl) ?_
            refine lv_iload_n hx hb dX2_counter_75 rfl (lv_at hl 4 rfl) ?_
            refine lv_iload hx hb dX2_counter_76 (lv_at hl 5 rfl) ?_
            refine lv_iload hx hb dX2_counter_78 (lv_at hl 6 rfl) ?_
            refine c_virt (own := RX2) (As := [.int (b), .int (d), .int (f), .int (q)]) (rest := []) hx hb hml hown hts hK hW (k_X0_setAnew l hR hk8 hs _ _ _ _) ml_RX2_78 im_yX0_setAnew se_yX0_setAnew in_RX0 cd_yX0_setAnew 4 (by decide +kernel) ⟨Nat.le_of_ble_eq_true rfl, Nat.le_of_ble_eq_true rfl⟩ (hR.2.2.2.2.1 _ hk8 hs) rfl rfl rfl hl.1 rfl (Nat.le_of_ble_eq_true rfl) dX2_counter_80 ⟨Nat.le_of_ble_eq_true rfl, Nat.le_of_ble_eq_true rfl⟩ (fun v g2 H1 locs1 hp hW hKT => ?_)
            obtain ⟨rfl, hR⟩ := hp
            refine W.eq (g2 := F0 m 83 ls []) rfl ?_
            refine lv_iconst (v := 1) hx hb dX2_counter_83 (by decide) ?_
            exact r_int hx hb hr hlk hW (by have e1 : Fcounter r a b d f q = (1, ctrF r (ix a) b d f q) := (by simp [Fcounter, c_183, c_184, c_185, c_186]); rw [e1]; exact ⟨rfl, _, by rw [set_ctr h5] at hR; exact hR⟩) (Nat.le_of_ble_eq_true rfl) (Nat.le_of_ble_eq_true rfl) dX2_counter_84
        · skip
          have c_186 := (bI_eq0 _).mp c_186
          refine lv_bipush (v := -2) hx hb dX2_counter_28 (by decide) ?_
          exact r_int hx hb hr hlk hW (by have e1 : Fcounter r a b d f q = (-2, r) := (by simp [Fcounter, c_183, c_184, c_185, c_186]); rw [e1]; exact ⟨rfl, _, hR⟩) (Nat.le_of_ble_eq_true rfl) (Nat.le_of_ble_eq_true rfl) dX2_counter_30
