theorem asks_s {r : sg} {c i : Nat} (h : asksB r c i = true) : r 5 c ≠ 0 := by
  simp only [asksB, Bool.and_eq_true, bne_iff_ne] at h
  exact h.1
theorem item_ok {r : sg} (h : IV r) {i j : Nat} (hi : i < nm r) (hf : figB (r 0 i) (r 1 i) = false) (hj : j < ix (r 3 i)) (h1 : ¬ r 4 (8 * i + j) = -1) : isMb r (r 4 (8 * i + j)) = true := ((h.2.2.1 i hi).2.2.2.2 hf j hj).resolve_left h1
set_option maxHeartbeats 4000000 in
/-- the stack machine of the model, from a fresh frame on, comes to carryF's answer -/
theorem sim {Q : Int32 → sg → sg → Prop} (hS : QS Q) (hB : QB Q) : ∀ (n : Nat) (r t : sg) (lv i k : Nat), n + k = 8 → IV r → MT r → FRM r t lv i k → (∀ t', SB t t' lv → t' 4 0 = nI (lv + 1) → Q (carryF n r i).2 (carryF n r i).1 t') → Q (-100) r t := by
  intro n
  induction n using Nat.strongRecOn with
  | _ n ih =>
  intro r t lv i k hnk hIV hMT hF hQ
  obtain ⟨f1, f2, f3, f4, f5, f6⟩ := id hF
  have hk8 : 8 - k = n := by omega
  by_cases hm : meetN r i n = -1
  · refine hS r t lv i k 0 hIV hF (fun q => absurd (by rw [hk8]; exact hm) q) ?_
    have e1 : stepF r t lv i (-1) 0 = (-4, tinc r 4, t) := if_pos rfl
    rw [hk8, hm, e1]
    have := hQ t (fun _ _ _ _ => rfl) f1
    rw [carry_none n (by omega) hm] at this
    exact this
  · obtain ⟨c, hc8, hge, hmc, has⟩ := meetN_c n (by omega) hm
    have hs : r 5 c ≠ 0 := asks_s has
    obtain ⟨n', hn'⟩ : ∃ n', n' = 7 - c := ⟨_, rfl⟩
    have hcar : carryF n r i = carryF (n' + 1) r i := by rw [carry_some hc8 n (by omega) hmc, show 8 - c = n' + 1 by omega]
    rw [hcar] at hQ
    have eC : carryF (n' + 1) r i = (if (meetF (carryF n') r c i).2 = 0 then (tinc (meetF (carryF n') r c i).1 3, nI c) else if (meetF (carryF n') r c i).2 = 5 ∨ (meetF (carryF n') r c i).1 7 c = 0 then ((meetF (carryF n') r c i).1, -10 - (meetF (carryF n') r c i).2) else carryF n' (meetF (carryF n') r c i).1 i) := by
      have e7 : 7 - n' = c := by omega
      conv => lhs; unfold carryF
      rw [e7, if_pos has]
    rw [eC] at hQ
    refine hS r t lv i k c hIV hF (fun _ => ⟨by rw [hk8]; exact hmc, hc8, hs⟩) ?_
    rw [hk8, hmc]
    by_cases h16 : r 17 2 = 16
    · have e1 : stepF r t lv i (nI c) c = (-15, r, t) := by
        unfold stepF
        rw [if_neg (nI_m1 hc8), if_pos h16]
      have e2 : meetF (carryF n') r c i = (r, 5) := if_neg (by rw [h16]; decide)
      have h9 := hQ t (fun _ _ _ _ => rfl) f1
      rw [e2, if_neg (show ¬ ((r, (5 : Int32)).2 = 0) by show ¬ (5 : Int32) = 0; decide), if_pos (Or.inl rfl)] at h9
      rw [e1]
      have e5 : (-10 - (5 : Int32)) = -15 := by decide
      dsimp only at h9 ⊢
      rw [e5] at h9
      exact h9
    · have h16' := hMT.lt h16
      have hOK1 : OK r (tinc r 2) := OK.in hIV (by omega) _
      have hMT1 := hMT.inc h16'
      obtain ⟨r1, hr1⟩ : ∃ z, z = tinc r 2 := ⟨_, rfl⟩
      obtain ⟨t1, ht1⟩ : ∃ z, z = s2 (s2 t 1 lv (nI c + 1)) 2 lv (nI c) := ⟨_, rfl⟩
      have hmeet : meetF (carryF n') r c i = overF (jobF (carryF n') r1 c i) c := by rw [hr1]; exact if_pos h16'
      rw [← hr1] at hOK1 hMT1
      have hIV1 := hOK1.1
      have hi1 : i < nm r1 := by rw [hOK1.cnt]; exact f4
      have hs1 : r1 5 c ≠ 0 := by rw [hOK1.2.1 5 (by omega)]; exact hs
      have hOKq : OK r1 (jobF (carryF n') r1 c i).1 := job_ok (carry_ok n') hIV1 hc8 hs1 hi1
      have hMTq : MT (jobF (carryF n') r1 c i).1 := job_mt (carry_mt n') hMT1
      rw [hmeet] at hQ
      -- what the frame's row is
      have u4 : t1 4 0 = nI (lv + 1) := by rw [ht1]; exact f1
      have u0 : t1 0 lv = nI i := by rw [ht1]; exact f2
      have u1 : t1 1 lv = nI (c + 1) := by rw [ht1, s2_f _ _ _ (by decide), s2_s, nI_1]
      have u2 : t1 2 lv = nI c := by rw [ht1, s2_s]
      have uB : SB t t1 lv := fun f j hf hj => by rw [ht1, s2_a, if_neg (by omega), s2_a, if_neg (by omega)]
      -- behind the job
      have after : ∀ (q : sg × Int32), jobF (carryF n') r1 c i = q → ∀ t'', SB t t'' lv → t'' 4 0 = nI (lv + 1) → t'' 0 lv = nI i → t'' 1 lv = nI (c + 1) → Q (overV q.1 c q.2) (overR q.1 c q.2) t'' := by
        intro q hq t'' s1 s4 s0 s3
        rw [hq] at hQ hOKq hMTq
        by_cases hq0 : q.2 = 0
        · have e1 : overF q c = (metF q.1 c, 0) := if_pos hq0
          have h9 := hQ t'' s1 s4
          rw [e1, if_pos (show ((metF q.1 c, (0 : Int32)).2 = 0) from rfl)] at h9
          rw [show overV q.1 c q.2 = nI c from if_pos hq0, show overR q.1 c q.2 = tinc (metF q.1 c) 3 from if_pos hq0]
          exact h9
        · have e1 : overF q c = (fallF (metF q.1 c) c, q.2) := if_neg hq0
          rw [e1, if_neg (show ¬ ((fallF (metF q.1 c) c, q.2).2 = 0) from hq0)] at hQ
          rw [show overR q.1 c q.2 = fallF (metF q.1 c) c from if_neg hq0]
          have hOK2 : OK r1 (metF q.1 c) := hOKq.tr (OK.in hOKq.1 (by omega) _)
          have hOK3 : OK r1 (fallF (metF q.1 c) c) := hOK2.tr (fall_ok hOK2.1)
          by_cases hp : q.2 = 5 ∨ fallF (metF q.1 c) c 7 c = 0
          · have h9 := hQ t'' s1 s4
            rw [if_pos hp] at h9
            have e2 : overV q.1 c q.2 = -10 - q.2 := by
              unfold overV
              rw [if_neg hq0, if_pos hp.symm]
            rw [e2]
            exact h9
          · have e2 : overV q.1 c q.2 = -100 := by
              unfold overV
              rw [if_neg hq0, if_neg (fun z => hp z.symm)]
            rw [e2]
            rw [if_neg hp] at hQ
            refine ih n' (by omega) _ t'' lv i (c + 1) (by omega) hOK3.1 ((MT.of (r' := metF q.1 c) rfl hMTq).of fall_mt) ⟨s4, s0, s3, by rw [hOK3.cnt]; exact hi1, by omega, by omega⟩ (fun t3 s5 s6 => ?_)
            exact hQ t3 (fun f j hf hj => (s5 f j hf hj).trans (s1 f j hf hj)) s6
      -- a message that the job sends on, and what comes back
      have push : ∀ (r2 t2 : sg) (x : Int32) (n2 j2 : Nat), OK r1 r2 → MT r2 → SB t t2 lv → t2 4 0 = nI (lv + 1) → t2 0 lv = nI i → t2 1 lv = nI (c + 1) → t2 2 lv = nI c → isMb r2 x = true → (r1 12 c = 4 → t2 3 lv = nI j2 ∧ j2 + n2 = ix (r1 3 i)) →
          (∀ t4, SB t t4 lv → t4 4 0 = nI (lv + 1) → t4 0 lv = nI i → t4 1 lv = nI (c + 1) → t4 2 lv = nI c → t4 3 lv = t2 3 lv → Q (backF (carryF n' r2 (ix x)).1 t4 lv i c n2 j2 (carryF n' r2 (ix x)).2).1 (backF (carryF n' r2 (ix x)).1 t4 lv i c n2 j2 (carryF n' r2 (ix x)).2).2.1 (backF (carryF n' r2 (ix x)).1 t4 lv i c n2 j2 (carryF n' r2 (ix x)).2).2.2) → Q (-100) r2 (begT t2 (ix (t2 4 0)) x (t2 2 lv + 1)) := by
        intro r2 t2 x n2 j2 o1 o2 p1 p4 p0 p3 p2 hx hsp hk
        have hix : ix (t2 4 0) = lv + 1 := by rw [p4]; exact nI_clamp (by omega)
        rw [hix]
        have hx2 := isMb_lt hx
        refine ih n' (by omega) r2 _ (lv + 1) (ix x) (c + 1) (by omega) o1.1 o2 ⟨by rw [begT_4, p4, nI_1], by rw [begT_0]; exact (nI_ix (isMb_nn hx)).symm, by rw [begT_1, p2, nI_1], hx2, by omega, by omega⟩ (fun t3 s5 s6 => ?_)
        have lo : ∀ f, f < 4 → t3 f lv = t2 f lv := fun f hf => (s5 f lv hf (by omega)).trans (begT_lo hf (by omega))
        have hOK' := o1.tr (carry_ok n' r2 (ix x) o1.1 hx2)
        refine hB _ t3 lv i c n2 j2 _ hOK'.1 s6 (by omega) ((lo 0 (by decide)).trans p0) (by rw [hOK'.cnt]; exact hi1) ((lo 2 (by decide)).trans p2) hc8 (fun q9 => ?_) (rv_ne (carry_rv n' r2 (ix x))) ?_
        · rw [hOK'.2.1 12 (by omega)] at q9
          rw [lo 3 (by decide), hOK'.2.1 3 (by omega)]
          exact hsp q9
        · refine hk _ (fun f j hf hj => ?_) (s2_s _ _ _ _) ?_ ?_ ?_ ?_
          · rw [s2_f _ _ _ (by omega), s5 f j hf (by omega), begT_lo hf (by omega)]
            exact p1 f j hf hj
          · rw [s2_f _ _ _ (by decide), lo 0 (by decide)]; exact p0
          · rw [s2_f _ _ _ (by decide), lo 1 (by decide)]; exact p3
          · rw [s2_f _ _ _ (by decide), lo 2 (by decide)]; exact p2
          · rw [s2_f _ _ _ (by decide), lo 3 (by decide)]
      have est : ∀ w : Int32 × sg × sg, worksF r1 t1 lv i c = w → stepF r t lv i (nI c) c = (if w.1 = -100 then (-100, w.2.1, w.2.2) else (overV w.2.1 c w.1, overR w.2.1 c w.1, w.2.2)) := fun w hw => by
        unfold stepF
        rw [if_neg (nI_m1 hc8), if_neg h16, ← ht1, ← hr1, hw]
      by_cases himm : fitB r1 i (r1 10 c) (r1 11 c) = false ∨ (¬ r1 12 c = 3 ∧ ¬ r1 12 c = 4)
      · obtain ⟨g1, g2, g3⟩ := works_imm (C := carryF n') (t := t1) (lv := lv) himm
        rw [est _ rfl, if_neg g1, g3]
        exact after _ g2 t1 uB u4 u0 u1
      · have hfit : fitB r1 i (r1 10 c) (r1 11 c) = true := by
          cases hq : fitB r1 i (r1 10 c) (r1 11 c) with
          | false => exact absurd (Or.inl hq) himm
          | true => rfl
        have hjob : r1 12 c = 3 ∨ r1 12 c = 4 := by
          by_cases h3 : r1 12 c = 3
          · exact Or.inl h3
          · by_cases h4 : r1 12 c = 4
            · exact Or.inr h4
            · exact absurd (Or.inr ⟨h3, h4⟩) himm
        have hfig := w_fig hIV1 hc8 hs1 hfit (Or.inr hjob)
        have hnf : ¬ fitB r1 i (r1 10 c) (r1 11 c) = false := by rw [hfit]; decide
        have hsz := (hIV1.2.2.1 i hi1)
        have ejob : jobF (carryF n') r1 c i = workF (carryF n') r1 c i := if_pos hfit
        rcases hjob with h3 | h4
        · have n0 : ¬ r1 12 c = 0 := by rw [h3]; decide
          have n1 : ¬ r1 12 c = 1 := by rw [h3]; decide
          have n2 : ¬ r1 12 c = 2 := by rw [h3]; decide
          have eW : workF (carryF n') r1 c i = openF (carryF n') r1 c i := by
            unfold workF
            rw [if_neg n0, if_neg n1, if_neg n2, if_pos h3]
          by_cases hb : inB (r1 13 c) (r1 3 i) = false
          · have ew : worksF r1 t1 lv i c = (2, r1, t1) := by
              unfold worksF
              rw [if_neg hnf, if_neg n0, if_neg n1, if_neg n2, if_pos h3, if_pos hb]
            rw [est _ ew, if_neg (show ¬ (2 : Int32) = -100 by decide)]
            exact after (r1, 2) (by rw [ejob, eW]; exact if_pos hb) t1 uB u4 u0 u1
          · by_cases hit : r1 4 (8 * i + ix (r1 13 c)) = -1
            · have ew : worksF r1 t1 lv i c = (4, r1, t1) := by
                unfold worksF
                rw [if_neg hnf, if_neg n0, if_neg n1, if_neg n2, if_pos h3, if_neg hb, if_pos hit]
              rw [est _ ew, if_neg (show ¬ (4 : Int32) = -100 by decide)]
              exact after (r1, 4) (by rw [ejob, eW]; unfold openF; rw [if_neg hb, if_pos hit]) t1 uB u4 u0 u1
            · have ew : worksF r1 t1 lv i c = (-100, r1, begT t1 (ix (t1 4 0)) (r1 4 (8 * i + ix (r1 13 c))) (t1 2 lv + 1)) := by
                unfold worksF
                rw [if_neg hnf, if_neg n0, if_neg n1, if_neg n2, if_pos h3, if_neg hb, if_neg hit]
              rw [est _ ew, if_pos rfl]
              have hb' : inB (r1 13 c) (r1 3 i) = true := by simpa using hb
              have hx := item_ok hIV1 hi1 hfig (inB_lt hb' hsz.2.2.1).2 hit
              have eq : jobF (carryF n') r1 c i = ((carryF n' r1 (ix (r1 4 (8 * i + ix (r1 13 c))))).1, failI (carryF n' r1 (ix (r1 4 (8 * i + ix (r1 13 c))))).2) := by
                rw [ejob, eW]
                unfold openF
                rw [if_neg hb, if_neg hit]
              refine push r1 t1 _ 0 0 (OK.rf hIV1) hMT1 uB u4 u0 u1 u2 hx (fun q9 => absurd (h3.symm.trans q9) (by decide)) (fun t4 b1 b4 b0 b3 b2 _ => ?_)
              have h9 := after _ eq t4 b1 b4 b0 b3
              have hOK' := carry_ok n' r1 (ix (r1 4 (8 * i + ix (r1 13 c)))) hIV1 (isMb_lt hx)
              have hj' : ¬ (carryF n' r1 (ix (r1 4 (8 * i + ix (r1 13 c))))).1 12 c = 4 := by rw [hOK'.2.1 12 (by omega), h3]; decide
              generalize carryF n' r1 (ix (r1 4 (8 * i + ix (r1 13 c)))) = cv at h9 hj' ⊢
              by_cases ho : cv.2 < -10
              · have eb : backF cv.1 t4 lv i c 0 0 cv.2 = (overV cv.1 c (-10 - cv.2), overR cv.1 c (-10 - cv.2), t4) := by
                  unfold backF
                  rw [if_pos ho]
                rw [eb]
                dsimp only at h9 ⊢
                rw [fail1 ho] at h9
                exact h9
              · have eb : backF cv.1 t4 lv i c 0 0 cv.2 = (overV cv.1 c 0, overR cv.1 c 0, t4) := by
                  unfold backF
                  rw [if_neg ho, if_neg hj']
                rw [eb]
                dsimp only at h9
                rw [fail0 ho] at h9
                exact h9
        · have n0 : ¬ r1 12 c = 0 := by rw [h4]; decide
          have n1 : ¬ r1 12 c = 1 := by rw [h4]; decide
          have n2 : ¬ r1 12 c = 2 := by rw [h4]; decide
          have n3 : ¬ r1 12 c = 3 := by rw [h4]; decide
          have eW : workF (carryF n') r1 c i = spreadF (carryF n') i (ix (r1 3 i)) 0 r1 := by
            unfold workF
            rw [if_neg n0, if_neg n1, if_neg n2, if_neg n3, if_pos h4]
          have sp : ∀ (m2 j : Nat) (r2 t2 : sg), OK r1 r2 → MT r2 → SB t t2 lv → t2 4 0 = nI (lv + 1) → t2 0 lv = nI i → t2 1 lv = nI (c + 1) → t2 2 lv = nI c → j + m2 = ix (r1 3 i) → (∀ t'', SB t t'' lv → t'' 4 0 = nI (lv + 1) → t'' 0 lv = nI i → t'' 1 lv = nI (c + 1) → Q (overV (spreadF (carryF n') i m2 j r2).1 c (spreadF (carryF n') i m2 j r2).2) (overR (spreadF (carryF n') i m2 j r2).1 c (spreadF (carryF n') i m2 j r2).2) t'') →
              (if (spF r2 t2 lv i m2 j).1 = 0 then Q (overV r2 c 0) (overR r2 c 0) t2 else Q (-100) r2 (spF r2 t2 lv i m2 j).2) := by
            intro m2
            induction m2 with
            | zero =>
              intro j r2 t2 o1 o2 p1 p4 p0 p3 p2 hj hk
              rw [if_pos (show (spF r2 t2 lv i 0 j).1 = 0 from rfl)]
              exact hk t2 p1 p4 p0 p3
            | succ m2 ihm =>
              intro j r2 t2 o1 o2 p1 p4 p0 p3 p2 hj hk
              by_cases hit : r2 4 (8 * i + j) = -1
              · have e1 : spF r2 t2 lv i (m2 + 1) j = spF r2 t2 lv i m2 (j + 1) := by
                  conv => lhs; unfold spF
                  rw [if_pos hit]
                have e2 : spreadF (carryF n') i (m2 + 1) j r2 = spreadF (carryF n') i m2 (j + 1) r2 := by
                  conv => lhs; unfold spreadF
                  rw [if_pos hit]
                rw [e1]
                rw [e2] at hk
                exact ihm (j + 1) r2 t2 o1 o2 p1 p4 p0 p3 p2 (by omega) hk
              · have e1 : spF r2 t2 lv i (m2 + 1) j = (1, begT (s2 t2 3 lv (nI j + 1)) (ix (t2 4 0)) (r2 4 (8 * i + j)) (t2 2 lv + 1)) := by
                  unfold spF
                  rw [if_neg hit]
                rw [e1, if_neg (show ¬ (1 : Int32) = 0 by decide)]
                have hfig2 : figB (r2 0 i) (r2 1 i) = false := by rw [o1.2.1 0 (by omega), o1.2.1 1 (by omega)]; exact hfig
                have hi2 : i < nm r2 := by rw [o1.cnt]; exact hi1
                have hx := item_ok o1.1 hi2 hfig2 (show j < ix (r2 3 i) by rw [o1.2.1 3 (by omega)]; omega) hit
                have w1 : SB t (s2 t2 3 lv (nI j + 1)) lv := fun f q hf hq => by rw [s2_a, if_neg (by omega)]; exact p1 f q hf hq
                refine push r2 (s2 t2 3 lv (nI j + 1)) _ m2 (j + 1) o1 o2 w1 p4 p0 p3 p2 hx (fun _ => ⟨by rw [s2_s, nI_1], by omega⟩) (fun t4 b1 b4 b0 b3 b2 b5 => ?_)
                have hOK' := o1.tr (carry_ok n' r2 (ix (r2 4 (8 * i + j))) o1.1 (isMb_lt hx))
                have hMT' := carry_mt n' r2 (ix (r2 4 (8 * i + j))) o2
                have hj' : (carryF n' r2 (ix (r2 4 (8 * i + j)))).1 12 c = 4 := by rw [hOK'.2.1 12 (by omega), h4]
                have e2 : spreadF (carryF n') i (m2 + 1) j r2 = (if failI (carryF n' r2 (ix (r2 4 (8 * i + j)))).2 = 0 then spreadF (carryF n') i m2 (j + 1) (carryF n' r2 (ix (r2 4 (8 * i + j)))).1 else ((carryF n' r2 (ix (r2 4 (8 * i + j)))).1, failI (carryF n' r2 (ix (r2 4 (8 * i + j)))).2)) := by
                  conv => lhs; unfold spreadF
                  rw [if_neg hit]
                rw [e2] at hk
                generalize carryF n' r2 (ix (r2 4 (8 * i + j))) = cv at hk hj' hOK' hMT' ⊢
                by_cases ho : cv.2 < -10
                · have eb : backF cv.1 t4 lv i c m2 (j + 1) cv.2 = (overV cv.1 c (-10 - cv.2), overR cv.1 c (-10 - cv.2), t4) := by
                    unfold backF
                    rw [if_pos ho]
                  rw [eb]
                  have h9 := hk t4 b1 b4 b0 b3
                  rw [if_neg (by rw [fail1 ho]; exact fail1n ho)] at h9
                  dsimp only at h9 ⊢
                  rw [fail1 ho] at h9
                  exact h9
                · rw [if_pos (fail0 ho)] at hk
                  have h9 := ihm (j + 1) cv.1 t4 hOK' hMT' b1 b4 b0 b3 b2 (by omega) hk
                  by_cases hz : (spF cv.1 t4 lv i m2 (j + 1)).1 = 0
                  · rw [if_pos hz] at h9
                    have eb : backF cv.1 t4 lv i c m2 (j + 1) cv.2 = (overV cv.1 c 0, overR cv.1 c 0, t4) := by
                      unfold backF
                      rw [if_neg ho, if_pos hj', if_pos hz]
                    rw [eb]
                    exact h9
                  · rw [if_neg hz] at h9
                    have eb : backF cv.1 t4 lv i c m2 (j + 1) cv.2 = (-100, cv.1, (spF cv.1 t4 lv i m2 (j + 1)).2) := by
                      unfold backF
                      rw [if_neg ho, if_pos hj', if_neg hz]
                    rw [eb]
                    exact h9
          have w1 : SB t (s2 t1 3 lv 0) lv := fun f q hf hq => by rw [s2_a, if_neg (by omega)]; exact uB f q hf hq
          have hsp := sp (ix (r1 3 i)) 0 r1 (s2 t1 3 lv 0) (OK.rf hIV1) hMT1 w1 u4 u0 u1 u2 (by omega) (after _ (by rw [ejob, eW]))
          have ew : worksF r1 t1 lv i c = (if (spF r1 (s2 t1 3 lv 0) lv i (ix (r1 3 i)) 0).1 = 0 then 0 else -100, r1, (spF r1 (s2 t1 3 lv 0) lv i (ix (r1 3 i)) 0).2) := by
            unfold worksF
            rw [if_neg hnf, if_neg n0, if_neg n1, if_neg n2, if_neg n3, if_pos h4]
          rw [est _ ew]
          by_cases hz : (spF r1 (s2 t1 3 lv 0) lv i (ix (r1 3 i)) 0).1 = 0
          · rw [if_pos hz] at hsp
            rw [if_pos hz, if_neg (show ¬ (0 : Int32) = -100 by decide)]
            rw [spF_0 _ _ hz]
            exact hsp
          · rw [if_neg hz] at hsp
            rw [if_neg hz, if_pos (show (-100 : Int32) = -100 from rfl)]
            exact hsp
