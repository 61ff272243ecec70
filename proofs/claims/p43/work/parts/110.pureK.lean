-- ===== whether all is as by hand =====
def z_ws (W : Nat → Int32) : Nat → Nat
  | 0 => 0
  | m + 1 => z_ws W m + (W m).toNatClampNeg
def z_wc (W : Nat → Int32) : Nat → Nat
  | 0 => 0
  | m + 1 => z_wc W m + (if W m = -1 then 0 else 1)
theorem z_wc.le (W : Nat → Int32) : ∀ m, z_wc W m ≤ m
  | 0 => Nat.le_refl 0
  | m + 1 => by
    have := z_wc.le W m
    unfold z_wc
    by_cases e : W m = -1
    · rw [if_pos e]; omega
    · rw [if_neg e]; omega
theorem z_ws.le {n : Nat} {W : Nat → Int32} (h : ∀ i, i < n → W i = -1 ∨ ∃ a, a ≤ 29 ∧ W i = nI a) : ∀ m, m ≤ n → z_ws W m ≤ 29 * m
  | 0, _ => Nat.le_refl 0
  | m + 1, hm => by
    have := z_ws.le h m (by omega)
    unfold z_ws
    rcases h m (by omega) with e | ⟨a, a1, e⟩
    · rw [e, show (-1 : Int32).toNatClampNeg = 0 by decide]; omega
    · rw [e, q_cl (by omega)]; omega
theorem c_mean6 {n k : Nat} {h T : z_H} (S : z_St n k h) (D : z_Dy n k h) : ∀ (m i fu : Nat), i + m = n → m < fu → f_X4_meanWait_L6 (h, T) fu (nI (z_ws (h.2.1 5) i)) (nI (z_wc (h.2.1 5) i)) (nI i) = some (nI (z_ws (h.2.1 5) n), nI (z_wc (h.2.1 5) n))
  | 0, i, fu + 1, hm, _ => by
    have hn := S.1
    rw [f_X4_meanWait_L6]
    show (if h.1 1 ≤ nI i then _ else _) = _
    rw [S.2.2.1, if_pos (by rw [q_le (by omega) (by omega)]; omega), show i = n by omega]
  | m + 1, i, fu + 1, hm, hf => by
    have hn := S.1
    have ih := c_mean6 S D (T := T) m (i + 1) fu (by omega) (by omega)
    rw [z_ws, z_wc] at ih
    rw [f_X4_meanWait_L6]
    show (if h.1 1 ≤ nI i then _ else if (if z_rg (h.2.1 5) (nI i) = -1 then (0 : Int32) else 1) = 0 then _ else f_X4_meanWait_L6 (h, T) fu (_ + z_rg (h.2.1 5) (nI i)) _ _) = _
    rw [S.2.2.1, if_neg (by rw [q_le (by omega) (by omega)]; omega), q_rg (by omega)]
    rcases D.2.1 i (by omega) with e | ⟨a, a1, e⟩
    · rw [e, if_pos rfl, if_pos rfl, q_s]
      rw [e, show (-1 : Int32).toNatClampNeg = 0 by decide, if_pos rfl] at ih
      exact ih
    · rw [e, if_neg (q_m1 (by omega)), if_neg (by decide), nI_add, q_s, q_s]
      rw [e, q_cl (by omega), if_neg (q_m1 (by omega))] at ih
      exact ih
theorem c_mean {n k : Nat} {h T : z_H} (S : z_St n k h) (D : z_Dy n k h) : ∃ x, f_X4_meanWait (h, T) = some x ∧ (if nI (z_wc (h.2.1 5) n) = 0 then some FP.dconst0 else (z_dd (FP.i2d (nI (z_ws (h.2.1 5) n))) (FP.i2d (nI (z_wc (h.2.1 5) n)))).bind (fun x552 => some x552)) = some x ∧ Op.cmpValue (FP.dcmp x x) .l = 0 := by
  have hn := S.1
  have b1 := z_wc.le (h.2.1 5) n
  have b2 := z_ws.le D.2.1 n (Nat.le_refl _)
  have e : f_X4_meanWait (h, T) = (if nI (z_wc (h.2.1 5) n) = 0 then some FP.dconst0 else (z_dd (FP.i2d (nI (z_ws (h.2.1 5) n))) (FP.i2d (nI (z_wc (h.2.1 5) n)))).bind (fun x552 => some x552)) := by
    unfold f_X4_meanWait
    show (f_X4_meanWait_L6 (h, T) z_FU (nI (z_ws (h.2.1 5) 0)) (nI (z_wc (h.2.1 5) 0)) (nI 0)).bind _ = _
    rw [c_mean6 S D n 0 z_FU (by omega) (by unfold z_FU; omega)]
    rfl
  rw [e]
  by_cases q : z_wc (h.2.1 5) n = 0
  · rw [q, if_pos (show nI 0 = 0 from rfl)]
    exact ⟨_, rfl, rfl, q_mean0⟩
  · rw [if_neg (by rw [show (0 : Int32) = nI 0 from rfl, q_eq (by omega) (by omega)]; exact q)]
    obtain ⟨x, x1, x2⟩ := q_mean (s := z_ws (h.2.1 5) n) (c := z_wc (h.2.1 5) n) (by omega) (by omega) (by omega)
    exact ⟨x, by rw [x1]; rfl, by rw [x1]; rfl, x2⟩
theorem q_plF {q : Nat → Int32} {v : Int32} {c : Nat} (h : c ≤ 12) : (z_pl q v c 0 = -1) ∨ ∃ j, j < c ∧ q j = v ∧ z_pl q v c 0 = nI j := by
  rcases z_pl_or (q := q) (v := v) c 0 (by omega) with ⟨a, -⟩ | ⟨j, -, b, d, e⟩
  · exact Or.inl a
  · exact Or.inr ⟨j, by omega, d, e⟩
theorem p_same13s {n k : Nat} {h T : z_H} {s : Nat → Int32} {R V : Nat → Nat → Int32} {c : Nat} {L : Nat → Int32} (H : z_I n k h (s, (n, R), (k, V), (c, L))) (hQ : z_QR n k h s R V c L) {r : Nat} (hr : r < n) {fu : Nat} {u2 u3 u4 u5 y1 y2 y3 : Int32} (hW : (if (R r 3) < 0 then some (u3, u4, u5) else (if u3 < 0 then some (nI r, (u4 + (R r 3)), (u5 + 1)) else (z_ai u3 n).bind (fun x81 => (if (R r 3) ≤ (R x81 3) then some (u3, (u4 + (R r 3)), (u5 + 1)) else some (nI r, (u4 + (R r 3)), (u5 + 1)))))) = some (y1, y2, y3)) : f_X5_isSame_L13 (fu + 1) u2 u3 u4 u5 (nI r) (s, (n, R), (k, V), (c, L)) (h, T) = f_X5_isSame_L13 fu (u2 + (if z_wi h r = r then 0 else 1)) y1 y2 y3 (nI (r + 1)) (s, (n, R), (k, V), (c, L)) (h, T) := by
  obtain ⟨hSt, hDy, hF, -⟩ := id H
  obtain ⟨⟨q0, q1, q2, q3, q4, q5⟩, qr, qv, qc, ql, qL⟩ := id hQ
  have hn := hSt.1
  obtain ⟨a, ha, hfl⟩ := hSt.2.2.2.2.1 r hr
  obtain ⟨⟨ch, hch, hce⟩, -⟩ := id hDy
  obtain ⟨r0, r1, r2, r3, r4, r5⟩ := qr r hr
  have ew := z_wi.e hSt hr
  have e4 := r4.trans ew.1
  have hdrop := c_drop (T := T) hSt hr
  have hroom := c_room (T := T) hSt hr rfl
  have hwait := c_wait (T := T) hSt hr
  rw [← r3] at hwait
  have hpl := c_place (T := T) hSt ql qc hr
  have hhas := c_has (T := T) hSt ql qc hr
  have hplQ : f_X5_place (s, (n, R), (k, V), (c, L)) (nI r) = some (z_pl h.2.2.1.2 (nI r) c 0) := by
    rw [p_place qc]
    exact congrArg some (z_pl_cg c 0 (fun j _ h2 => qL j (by omega)))
  obtain ⟨hrg, -, hdv⟩ := c_rings (T := T) hSt hch hce hr ha hfl
  rw [q_s] at hdv
  obtain ⟨x, hnc, hnq, -⟩ := c_near H hr ha hfl
  have hnc := hnc T
  have hnr : (nI n ≤ nI r) = False := eq_false (by rw [q_le (by omega) (by omega)]; omega)
  have e0 := r0.trans hfl
  have e1 := q1.trans hce
  generalize hpp : z_pl h.2.2.1.2 (nI r) c 0 = pl at hpl hhas hplQ
  have hwr : (if nI (z_wi h r) = nI r then some (0 : Int32) else some 1) = some (if z_wi h r = r then 0 else 1) := by
    by_cases e : z_wi h r = r
    · rw [if_pos (by rw [e]), if_pos e]
    · rw [if_neg (by rw [q_eq (by omega) (by omega)]; exact e), if_neg e]
  have hpz : pl = -1 ∨ ∃ j, j < 12 ∧ pl = nI j := by
    rw [← hpp]
    rcases q_plF (q := h.2.2.1.2) (v := nI r) qc with q | ⟨j, j1, -, j2⟩
    · exact Or.inl q
    · exact Or.inr ⟨j, by omega, j2⟩
  rcases c_cut (T := T) hSt hr with ⟨hcut, ec⟩ | ⟨hcut, ec⟩
  · have e5 := r5.trans ec
    rw [if_pos ec] at hrg
    rcases hpz with e | ⟨j, hj, e⟩
    · subst e
      rw [if_pos rfl] at hhas
      rw [f_X5_isSame_L13]
      simp (disch := omega) only [hnr, if_false, q_ai, Option.bind_some, e4, hwr, hW, hdrop, if_true, hroom, hcut, e5, hwait, hpl, hplQ, hhas, q_mlt, hrg, hnc, hnq, q_s]
    · subst e
      rw [if_neg (q_m1 (by omega))] at hhas
      rw [f_X5_isSame_L13]
      simp (disch := omega) only [hnr, if_false, q_ai, Option.bind_some, e4, hwr, hW, hdrop, if_true, hroom, hcut, e5, hwait, hpl, hplQ, hhas, q_n0F, hrg, hnc, hnq, q_s]
  · have e5 := r5.trans ec
    rw [if_neg (by rw [ec]; decide)] at hrg
    rcases hpz with e | ⟨j, hj, e⟩
    · subst e
      rw [if_pos rfl] at hhas
      rw [f_X5_isSame_L13]
      simp (disch := omega) only [hnr, if_false, q_ai, Option.bind_some, e4, hwr, hW, hdrop, if_true, hroom, hcut, e5, q_01, hwait, hpl, hplQ, hhas, q_mlt, hrg, e0, e1, hdv, hnc, hnq, q_s]
    · subst e
      rw [if_neg (q_m1 (by omega))] at hhas
      rw [f_X5_isSame_L13]
      simp (disch := omega) only [hnr, if_false, q_ai, Option.bind_some, e4, hwr, hW, hdrop, if_true, hroom, hcut, e5, q_01, hwait, hpl, hplQ, hhas, q_n0F, hrg, e0, e1, hdv, hnc, hnq, q_s]
theorem q_addI {a b : Nat} : nI a + (if b = a then (0 : Int32) else 1) = nI a + (if b = a then 0 else 1) := rfl
theorem p_same13 {n k : Nat} {h T : z_H} {s : Nat → Int32} {R V : Nat → Nat → Int32} {c : Nat} {L : Nat → Int32} (H : z_I n k h (s, (n, R), (k, V), (c, L))) (hQ : z_QR n k h s R V c L) : ∀ (m r fu : Nat) (u3 : Int32), r + m = n → m < fu → z_lg r (h.2.1 5) u3 → ∃ x, z_lg n (h.2.1 5) x ∧ f_X5_isSame_L13 fu (nI (z_cr (z_wi h) r)) u3 (nI (z_ws (h.2.1 5) r)) (nI (z_wc (h.2.1 5) r)) (nI r) (s, (n, R), (k, V), (c, L)) (h, T) = some (nI (z_cr (z_wi h) n), x, nI (z_ws (h.2.1 5) n), nI (z_wc (h.2.1 5) n))
  | 0, r, fu + 1, u3, hm, _, hu => by
    have hn := H.1.1
    have e : r = n := by omega
    subst e
    refine ⟨u3, hu, ?_⟩
    rw [f_X5_isSame_L13]; (try dsimp only); rw [if_pos (by rw [q_le (by omega) (by omega)]; omega)]
  | m + 1, r, fu + 1, u3, hm, hf, hu => by
    have hn := H.1.1
    have r3 := (hQ.2.1 r (by omega)).2.2.2.1
    have hc : nI (z_cr (z_wi h) r) + (if z_wi h r = r then 0 else 1) = nI (z_cr (z_wi h) (r + 1)) := by
      rw [z_cr]
      by_cases e : z_wi h r = r
      · rw [if_pos e, if_pos e, q_ad0]; rfl
      · rw [if_neg e, if_neg e, q_s]
    rcases H.2.1.2.1 r (by omega) with hw | ⟨a, a1, hw⟩
    · obtain ⟨x, x1, x2⟩ := p_same13 H hQ (T := T) m (r + 1) fu u3 (by omega) (by omega) (by
        rcases hu with ⟨e, e2⟩ | ⟨b, b1, b2, b3, b4⟩
        · refine Or.inl ⟨e, fun i hi => ?_⟩
          by_cases ee : i = r
          · rw [ee]; exact hw
          · exact e2 i (by omega)
        · refine Or.inr ⟨b, by omega, b2, b3, fun i hi => ?_⟩
          by_cases ee : i = r
          · rw [ee, hw]
            rcases H.2.1.2.1 b (by omega) with q | ⟨q, q1, q2⟩
            · exact absurd q b3
            · rw [q2]; exact ⟨q_m1le (by omega), fun z => absurd z.symm (q_m1 (by omega))⟩
          · exact b4 i (by omega))
      refine ⟨x, x1, ?_⟩
      rw [p_same13s H hQ (by omega) (y1 := u3) (y2 := nI (z_ws (h.2.1 5) r)) (y3 := nI (z_wc (h.2.1 5) r)) (by rw [r3, hw, if_pos (by decide)]), hc]
      rw [z_ws, z_wc, hw, if_pos rfl, show (-1 : Int32).toNatClampNeg = 0 by decide] at x2
      exact x2
    · have e1 : nI (z_ws (h.2.1 5) r) + nI a = nI (z_ws (h.2.1 5) (r + 1)) := by rw [nI_add, z_ws, hw, q_cl (by omega)]
      have e2 : nI (z_wc (h.2.1 5) r) + 1 = nI (z_wc (h.2.1 5) (r + 1)) := by rw [q_s, z_wc, hw, if_neg (q_m1 (by omega))]
      have up : z_lg (r + 1) (h.2.1 5) (nI r) → (if (R r 3) < 0 then some (u3, nI (z_ws (h.2.1 5) r), nI (z_wc (h.2.1 5) r)) else (if u3 < 0 then some (nI r, (nI (z_ws (h.2.1 5) r) + (R r 3)), (nI (z_wc (h.2.1 5) r) + 1)) else (z_ai u3 n).bind (fun x81 => (if (R r 3) ≤ (R x81 3) then some (u3, (nI (z_ws (h.2.1 5) r) + (R r 3)), (nI (z_wc (h.2.1 5) r) + 1)) else some (nI r, (nI (z_ws (h.2.1 5) r) + (R r 3)), (nI (z_wc (h.2.1 5) r) + 1)))))) = some (nI r, nI (z_ws (h.2.1 5) (r + 1)), nI (z_wc (h.2.1 5) (r + 1))) → ∃ x, z_lg n (h.2.1 5) x ∧ f_X5_isSame_L13 (fu + 1) (nI (z_cr (z_wi h) r)) u3 (nI (z_ws (h.2.1 5) r)) (nI (z_wc (h.2.1 5) r)) (nI r) (s, (n, R), (k, V), (c, L)) (h, T) = some (nI (z_cr (z_wi h) n), x, nI (z_ws (h.2.1 5) n), nI (z_wc (h.2.1 5) n)) := fun hl hW => by
        obtain ⟨x, x1, x2⟩ := p_same13 H hQ (T := T) m (r + 1) fu (nI r) (by omega) (by omega) hl
        exact ⟨x, x1, by rw [p_same13s H hQ (by omega) hW, hc]; exact x2⟩
      have n0 : ¬ (nI a < 0) := q_n0 (by omega)
      rcases hu with ⟨e, e3⟩ | ⟨b, b1, b2, b3, b4⟩
      · refine up (Or.inr ⟨r, by omega, rfl, by rw [hw]; exact q_m1 (by omega), fun i hi => ?_⟩) ?_
        · by_cases ee : i = r
          · rw [ee]; exact ⟨q_irf, fun _ => Nat.le_refl _⟩
          · rw [e3 i (by omega), hw]; exact ⟨q_m1le (by omega), fun z => absurd z.symm (q_m1 (by omega))⟩
        · rw [r3, hw, if_neg n0, if_pos (by rw [e]; decide), e1, e2]
      · have rb := (hQ.2.1 b (by omega)).2.2.2.1
        by_cases hle : h.2.1 5 r ≤ h.2.1 5 b
        · obtain ⟨x, x1, x2⟩ := p_same13 H hQ (T := T) m (r + 1) fu u3 (by omega) (by omega) (Or.inr ⟨b, by omega, b2, b3, fun i hi => by
            by_cases ee : i = r
            · rw [ee]; exact ⟨hle, fun _ => by omega⟩
            · exact b4 i (by omega)⟩)
          refine ⟨x, x1, ?_⟩
          rw [p_same13s H hQ (by omega) (y1 := u3) (y2 := nI (z_ws (h.2.1 5) (r + 1))) (y3 := nI (z_wc (h.2.1 5) (r + 1))) (by rw [r3, b2, if_neg (by rw [hw]; exact n0), if_neg (q_n0 (by omega)), q_ai (by omega) (by omega), Option.bind_some, rb, if_pos hle, hw, e1, e2]), hc]
          exact x2
        · refine up (Or.inr ⟨r, by omega, rfl, by rw [hw]; exact q_m1 (by omega), fun i hi => ?_⟩) ?_
          · by_cases ee : i = r
            · rw [ee]; exact ⟨q_irf, fun _ => Nat.le_refl _⟩
            · have y := b4 i (by omega)
              refine ⟨q_ile y.1 (q_nle hle).1, fun z => ?_⟩
              rw [z] at y
              exact absurd y.1 hle
          · rw [r3, b2, if_neg (by rw [hw]; exact n0), if_neg (q_n0 (by omega)), q_ai (by omega) (by omega), Option.bind_some, rb, if_neg hle, hw, e1, e2]
theorem p_same336 {n k : Nat} {h T : z_H} {s : Nat → Int32} {R V : Nat → Nat → Int32} {c : Nat} {L : Nat → Int32} (H : z_I n k h (s, (n, R), (k, V), (c, L))) {j : Nat} (hj : j < k) {u2 u3 u4 u5 : Int32} : ∀ (m r fu : Nat), r + m = n → m < fu → f_X5_isSame_L336 fu u2 u3 u4 u5 (nI j) (nI r) (s, (n, R), (k, V), (c, L)) (h, T) = some (u2, u3, u4, u5, nI j)
  | 0, r, fu + 1, hm, _ => by
    have hn := H.1.1
    rw [f_X5_isSame_L336]; (try dsimp only); rw [if_pos (by rw [q_le (by omega) (by omega)]; omega)]
  | m + 1, r, fu + 1, hm, hf => by
    have hn := H.1.1
    obtain ⟨a, ha, hfl⟩ := H.1.2.2.2.2.1 r (by omega)
    obtain ⟨w1, w2, -⟩ := c_way (T := T) H hj (r := r) (by omega) ha hfl
    have hnr : (nI n ≤ nI r) = False := eq_false (by rw [q_le (by omega) (by omega)]; omega)
    rw [f_X5_isSame_L336]
    simp only [hnr, if_false, w1, w2, Option.bind_some, if_true, q_s, p_same336 H hj m (r + 1) fu (by omega) (by omega)]
theorem p_same247 {n k : Nat} {h T : z_H} {s : Nat → Int32} {R V : Nat → Nat → Int32} {c : Nat} {L : Nat → Int32} (H : z_I n k h (s, (n, R), (k, V), (c, L))) (hQ : z_QR n k h s R V c L) {u2 u3 u4 u5 : Int32} : ∀ (m j fu : Nat), j + m = k → m < fu → f_X5_isSame_L247 fu u2 u3 u4 u5 (nI j) (s, (n, R), (k, V), (c, L)) (h, T) = some (u2, u3, u4, u5)
  | 0, j, fu + 1, hm, _ => by
    have hk := H.1.2.1
    rw [f_X5_isSame_L247]; (try dsimp only); rw [if_pos (by rw [q_le (by omega) (by omega)]; omega)]
  | m + 1, j, fu + 1, hm, hf => by
    have hn := H.1.1
    have hk := H.1.2.1
    have hj : j < k := by omega
    obtain ⟨v0, v1, v2, v3, v4⟩ := hQ.2.2.1 j hj
    have hnk : (nI k ≤ nI j) = False := eq_false (by rw [q_le (by omega) (by omega)]; omega)
    have h1 := c_floor (T := T) H.1 hj
    have h2 := c_goes (T := T) H.1 hj
    have h3 := c_serves (T := T) H.1 hj
    have h4 := c_left (T := T) H.1 hj
    rw [← v1] at h1
    rw [← v2] at h2
    rw [← v3] at h3
    have h5 : f_X5_isSame_L336 z_F14 u2 u3 u4 u5 (nI j) 0 (s, (n, R), (k, V), (c, L)) (h, T) = some (u2, u3, u4, u5, nI j) := p_same336 H hj n 0 z_F14 (by omega) (by unfold z_F14; omega)
    rw [f_X5_isSame_L247]
    by_cases hi : z_id h j
    · have hp := p_id1 H.1 hQ hj hi
      have hz : h.2.2.2.2 4 j = 0 := by
        rcases (H.2.1.2.2.2.1 j hj).2 with ⟨x, y, z⟩ | ⟨r, b, x1, x2, x3, x4, x5, x6⟩ | ⟨r, b, x1, x2, x3, x4, x5, x6⟩
        · exact z
        · rw [hi.1] at x4; exact absurd x4 (q_m1e (by omega))
        · rw [hi.2] at x5; exact absurd x5 (q_m1e (by omega))
      rw [hz] at h4
      simp (disch := omega) only [hnk, if_false, q_ai, Option.bind_some, h1, h2, h3, h4, hp, q_10, if_true, h5, q_s, p_same247 H hQ m (j + 1) fu (by omega) (by omega)]
    · have hp := p_id0 H.1 H.2.1 hQ hj hi
      rw [← v4 hi] at h4
      simp (disch := omega) only [hnk, if_false, q_ai, Option.bind_some, h1, h2, h3, h4, hp, if_true, h5, q_s, p_same247 H hQ m (j + 1) fu (by omega) (by omega)]
theorem p_same {n k : Nat} {h T : z_H} {Q : z_Q} (H : z_I n k h Q) : f_X5_isSame (h, T) Q = some 1 := by
  obtain ⟨hSt, hDy, hF, s, R, V, c, L, rfl, hQ⟩ := id H
  obtain ⟨⟨q0, q1, q2, q3, q4, q5⟩, qr, qv, qc, ql, qL⟩ := id hQ
  have hn := hSt.1
  have hk := hSt.2.1
  obtain ⟨x, x1, x2⟩ := p_same13 H hQ (T := T) n 0 z_F14 (-1) (by omega) (by unfold z_F14; omega) (Or.inl ⟨rfl, fun i hi => by omega⟩)
  have x2 : f_X5_isSame_L13 z_F14 0 (-1) 0 0 0 (s, (n, R), (k, V), (c, L)) (h, T) = some (nI (z_cr (z_wi h) n), x, nI (z_ws (h.2.1 5) n), nI (z_wc (h.2.1 5) n)) := x2
  have y2 : f_X5_isSame_L247 z_F14 (nI (z_cr (z_wi h) n)) x (nI (z_ws (h.2.1 5) n)) (nI (z_wc (h.2.1 5) n)) 0 (s, (n, R), (k, V), (c, L)) (h, T) = some (nI (z_cr (z_wi h) n), x, nI (z_ws (h.2.1 5) n), nI (z_wc (h.2.1 5) n)) := p_same247 H hQ k 0 z_F14 (by omega) (by unfold z_F14; omega)
  obtain ⟨l, l1, l2⟩ := c_long hSt hDy
  have l1 := l1 T
  rw [l2.u x1] at l1
  obtain ⟨mw, m1, m2, m3⟩ := c_mean (T := T) hSt hDy
  have cr := c_crossed (T := T) hSt
  have nd := c_needed (T := T) hSt
  have pc := p_crossings H
  have nx := c_next (T := T) hSt ql qc
  have hd : (if nI c = 0 then some (-1) else (z_at L 0 c).bind (fun x529 => some x529)) = some (if c = 0 then (-1 : Int32) else h.2.2.1.2 0) := by
    by_cases e : c = 0
    · rw [if_pos (by rw [e]; rfl), if_pos e]
    · rw [if_neg (by rw [show (0 : Int32) = nI 0 from rfl, q_eq (by omega) (by omega)]; exact e), if_neg e, q_at0 (by omega) (by omega), qL 0 (by omega)]
      rfl
  unfold f_X5_isSame
  unfold f_X4_minute f_X4_rooms f_X4_servants f_X4_charge f_X4_served f_X4_inVain f_X4_gaveUp f_X4_unheard f_X4_fallen
  simp only [x2, y2, Option.bind_some, q0, q1, q2, q3, q4, q5, hSt.2.2.1, hSt.2.2.2.1, if_true, l1, cr, nd, pc, ql, nx, hd, m1, m2, m3, q_bo1]
