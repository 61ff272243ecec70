-- ===== the rooms of a minute =====
theorem q_hR2 {h : z_H} {r : Nat} {x y : Int32} : z_hR (z_hR h 5 (upd (h.2.1 5) r x)) 5 (upd ((z_hR h 5 (upd (h.2.1 5) r x)).2.1 5) r y) = z_hR h 5 (upd (h.2.1 5) r y) := by
  unfold z_hR
  refine Prod.ext rfl (Prod.ext ?_ rfl)
  show z_ur (z_ur h.2.1 5 (upd (h.2.1 5) r x)) 5 (upd (z_ur h.2.1 5 (upd (h.2.1 5) r x) 5) r y) = z_ur h.2.1 5 (upd (h.2.1 5) r y)
  rw [q_uu, q_u2, q_ur2]
def z_wq (n r : Nat) (h h2 : z_H) : Prop := ∀ i, i < n → (i < r → h2.2.1 5 i = h.2.1 5 i) ∧ (r ≤ i → h2.2.1 5 i = -1 ∨ ∃ a, a + 1 ≤ 29 ∧ h.2.1 5 i = nI a ∧ h2.2.1 5 i = nI (a + 1))
/-- a room that waits, in one minute -/
theorem p_hold {n k : Nat} {h : z_H} {s : Nat → Int32} {R V : Nat → Nat → Int32} {c : Nat} {L : Nat → Int32} (hSt : z_St n k h) (hDy : z_Dy n k h) (hQ : z_QR n k h s R V c L) {r a : Nat} (hr : r < n) (ha : a ≤ 29) (hw : h.2.1 5 r = nI a) : ∃ (h2 : z_H) (s2 : Nat → Int32) (R2 : Nat → Nat → Int32) (c2 : Nat) (L2 : Nat → Int32), (∀ fu, f_X0_letRoomsWait_L2 (fu + 1) (nI r) h = f_X0_letRoomsWait_L2 fu (nI (r + 1)) h2) ∧ (∀ fu u1, f_X5_pass_L7 (fu + 1) u1 (nI r) (s, (n, R), (k, V), (c, L)) = f_X5_pass_L7 fu u1 (nI (r + 1)) (s2, (n, R2), (k, V), (c2, L2))) ∧ z_QR n k h2 s2 R2 V c2 L2 ∧ z_Dy n k h2 ∧ z_ST h h2 ∧ z_KP n k h h2 ∧ z_mP1 h h2 ∧ (∀ i, i ≠ r → h2.2.1 5 i = h.2.1 5 i) ∧ (h2.2.1 5 r = -1 ∨ (a + 1 ≤ 29 ∧ h2.2.1 5 r = nI (a + 1))) := by
  obtain ⟨s1, s2, s3, s4, s5, s6, s7, s8, s9, s10, s11⟩ := id hSt
  obtain ⟨⟨q0, q1, q2, q3, q4, q5⟩, qr, qv, qc, ql, qL⟩ := id hQ
  have hr12 : r < 12 := by omega
  obtain ⟨r0, r1, r2, r3, r4, r5⟩ := qr r hr
  have e3 := r3.trans hw
  obtain ⟨p, p1, p9, hp⟩ := s6 r hr
  have mp := r1.trans hp
  have hnr : ¬ (h.1 1 ≤ nI r) := by rw [s3, q_le (by omega) (by omega)]; omega
  have hnq : (nI n ≤ nI r) = False := eq_false (by rw [q_le (by omega) (by omega)]; omega)
  by_cases h30 : a + 1 = 30
  · have e30 : nI a + 1 = nI 30 := by rw [q_s, h30]
    refine ⟨z_hR (z_hS h 5 (h.1 5 + 1)) 5 (upd (h.2.1 5) r (-1)), upd s 4 (s 4 + 1), z_ur R r (upd (R r) 3 (-1)), c, L, fun fu => ?_, fun fu u1 => ?_, ?_, z_Dy.wt (h := z_hS h 5 (h.1 5 + 1)) (Or.inl rfl) (hDy.sc 5 (by decide) _), (z_ST.sc 5 (by decide) _).tr (z_ST.wt _), ?_, ⟨rfl, rfl, rfl, q_irf⟩, fun i hi => ?_, Or.inl ?_⟩
    · rw [f_X0_letRoomsWait_L2, if_neg hnr]
      have e30' : ¬ (nI (a + 1) < 30) := by rw [show (30 : Int32) = nI 30 from rfl, q_lt (by omega) (by omega)]; omega
      simp (disch := omega) only [q_rg, hw, q_m1n, if_false, q_s, e30', q_rs]
    · rw [f_X5_pass_L7]
      simp (disch := omega) only [hnq, if_false, q_ai, Option.bind_some, e3, q_0le, if_true, q_w26, e30, q_uu, q_us, show ((nI 30 : Int32) = 30) = True from eq_true rfl, q_u2, z_qS, z_qR, q_ur2, q_s]
    · have x := (hQ.rw r (-1)).1.st (v := h.1 5 + 1)
      rw [q4]
      exact x.2.2.2.2.1
    · refine z_KP.w (fun i hi z => ?_) rfl rfl
      show upd (h.2.1 5) r (-1) i = -1
      by_cases e : i = r
      · rw [e, q_us]
      · rw [q_un e]; exact z
    · show upd (h.2.1 5) r (-1) i = _
      rw [q_un hi]
    · show upd (h.2.1 5) r (-1) r = _
      rw [q_us]
  · have hD1 : z_Dy n k (z_hR h 5 (upd (h.2.1 5) r (nI (a + 1)))) := hDy.wt (Or.inr ⟨a + 1, by omega, rfl⟩)
    have hN1 := (hQ.rw r (nI (a + 1))).1
    have hS1 : z_ST h (z_hR h 5 (upd (h.2.1 5) r (nI (a + 1)))) := z_ST.wt _
    have hK1 : ∀ i, i < n → h.2.1 5 i = -1 → (z_hR h 5 (upd (h.2.1 5) r (nI (a + 1)))).2.1 5 i = -1 := fun i hi z => by
      show upd (h.2.1 5) r (nI (a + 1)) i = -1
      by_cases e : i = r
      · rw [e, hw] at z; exact absurd z (q_m1 (by omega))
      · rw [q_un e]; exact z
    have e30 : nI (a + 1) < 30 := by rw [show (30 : Int32) = nI 30 from rfl, q_lt (by omega) (by omega)]; omega
    have n30 : ¬ nI (a + 1) = 30 := by rw [show (30 : Int32) = nI 30 from rfl, q_eq (by omega) (by omega)]; omega
    have p0 : ¬ nI p ≤ 0 := by rw [show (0 : Int32) = nI 0 from rfl, q_le (by omega) (by omega)]; omega
    have w1 : ∀ i, i ≠ r → (z_hR h 5 (upd (h.2.1 5) r (nI (a + 1)))).2.1 5 i = h.2.1 5 i := fun i hi => by
      show upd (h.2.1 5) r _ i = _
      rw [q_un hi]
    have w2 : (z_hR h 5 (upd (h.2.1 5) r (nI (a + 1)))).2.1 5 r = nI (a + 1) := by
      show upd (h.2.1 5) r _ r = _
      rw [q_us]
    by_cases hz : nI (a + 1) - nI (a + 1) / nI p * nI p = 0
    · obtain ⟨b, h2, s2', c2, L2, x1, x2, x3, x4, x5, x6, x7, x8⟩ := p_rings (hSt.mv hS1) hD1 hN1 hr
      refine ⟨h2, s2', _, c2, L2, fun fu => ?_, fun fu u1 => ?_, x4, x5, hS1.tr x6, z_KP.w (fun i hi z => by rw [x7]; exact hK1 i hi z) x8.1 x8.2.1, x8, fun i hi => by rw [x7]; exact w1 i hi, Or.inr ⟨by omega, by rw [x7]; exact w2⟩⟩
      · rw [f_X0_letRoomsWait_L2, if_neg hnr]
        unfold f_X0_isMultiple
        simp (disch := omega) only [q_rg, hw, q_m1n, if_false, q_s, e30, if_true, hp, p0, q_rm, Option.bind_some, hz, q_10, q_rs, x1]
      · rw [f_X5_pass_L7]
        simp (disch := omega) only [hnq, if_false, q_ai, Option.bind_some, e3, q_0le, if_true, q_w26, q_s, q_uu, q_us, n30, q_un, mp, q_rm, hz, z_qR, x2]
    · refine ⟨_, s, _, c, L, fun fu => ?_, fun fu u1 => ?_, hN1, hD1, hS1, z_KP.w hK1 rfl rfl, ⟨rfl, rfl, rfl, q_irf⟩, w1, Or.inr ⟨by omega, w2⟩⟩
      · rw [f_X0_letRoomsWait_L2, if_neg hnr]
        unfold f_X0_isMultiple
        simp (disch := omega) only [q_rg, hw, q_m1n, if_false, q_s, e30, if_true, hp, p0, q_rm, Option.bind_some, hz, q_rs]
      · rw [f_X5_pass_L7]
        simp (disch := omega) only [hnq, if_false, q_ai, Option.bind_some, e3, q_0le, if_true, q_w26, q_s, q_uu, q_us, n30, q_un, mp, q_rm, hz, z_qR]
theorem p_rooms {n k : Nat} {V : Nat → Nat → Int32} : ∀ (m r fu fv : Nat) (u1 : Int32) (h : z_H) (s : Nat → Int32) (R : Nat → Nat → Int32) (c : Nat) (L : Nat → Int32), r + m = n → m < fu → m < fv → z_St n k h → z_Dy n k h → z_QR n k h s R V c L → ∃ (h2 : z_H) (s2 : Nat → Int32) (R2 : Nat → Nat → Int32) (c2 : Nat) (L2 : Nat → Int32), f_X0_letRoomsWait_L2 fu (nI r) h = some h2 ∧ f_X5_pass_L7 fv u1 (nI r) (s, (n, R), (k, V), (c, L)) = some (u1, (s2, (n, R2), (k, V), (c2, L2))) ∧ z_QR n k h2 s2 R2 V c2 L2 ∧ z_Dy n k h2 ∧ z_ST h h2 ∧ z_KP n k h h2 ∧ z_mP1 h h2 ∧ z_wq n r h h2
  | 0, r, fu + 1, fv + 1, u1, h, s, R, c, L, hm, _, _, hSt, hDy, hQ => by
    have hn := hSt.1
    have s3 := hSt.2.2.1
    refine ⟨h, s, R, c, L, ?_, ?_, hQ, hDy, z_ST.rf h, z_KP.rf n k h, z_mP1.rf h, fun i hi => ⟨fun _ => rfl, fun z => by omega⟩⟩
    · rw [f_X0_letRoomsWait_L2, if_pos (by rw [s3, q_le (by omega) (by omega)]; omega)]
    · rw [f_X5_pass_L7]; (try dsimp only); rw [if_pos (by rw [q_le (by omega) (by omega)]; omega)]
  | m + 1, r, fu + 1, fv + 1, u1, h, s, R, c, L, hm, h1, h2, hSt, hDy, hQ => by
    have hn := hSt.1
    have s3 := hSt.2.2.1
    have hr : r < n := by omega
    have r3 := (hQ.2.1 r hr).2.2.2.1
    have hnr : ¬ (h.1 1 ≤ nI r) := by rw [s3, q_le (by omega) (by omega)]; omega
    have hnq : (nI n ≤ nI r) = False := eq_false (by rw [q_le (by omega) (by omega)]; omega)
    rcases hDy.2.1 r hr with hw | ⟨a, ha, hw⟩
    · obtain ⟨h2, s2, R2, c2, L2, a1, a2, a3, a4, a5, a6, a7, a8⟩ := p_rooms m (r + 1) fu fv u1 h s R c L (by omega) (by omega) (by omega) hSt hDy hQ
      refine ⟨h2, s2, R2, c2, L2, ?_, ?_, a3, a4, a5, a6, a7, fun i hi => ⟨fun z => (a8 i hi).1 (by omega), fun z => ?_⟩⟩
      · rw [f_X0_letRoomsWait_L2, if_neg hnr, q_rg (by omega), if_pos hw, q_s]; exact a1
      · rw [f_X5_pass_L7]
        simp (disch := omega) only [hnq, if_false, q_ai, Option.bind_some, r3.trans hw, q_0lm, q_s, a2]
      · by_cases e : i = r
        · rw [e]; exact Or.inl (((a8 r hr).1 (by omega)).trans hw)
        · exact (a8 i hi).2 (by omega)
    · obtain ⟨h3, s3', R3, c3, L3, b1, b2, b3, b4, b5, b6, b7, b8, b9⟩ := p_hold hSt hDy hQ hr ha hw
      obtain ⟨h2, s2, R2, c2, L2, a1, a2, a3, a4, a5, a6, a7, a8⟩ := p_rooms m (r + 1) fu fv u1 h3 s3' R3 c3 L3 (by omega) (by omega) (by omega) (hSt.mv b5) b4 b3
      refine ⟨h2, s2, R2, c2, L2, by rw [b1]; exact a1, by rw [b2]; exact a2, a3, a4, b5.tr a5, b6.tr a6, b7.tr a7, fun i hi => ⟨fun z => ((a8 i hi).1 (by omega)).trans (b8 i (by omega)), fun z => ?_⟩⟩
      by_cases e : i = r
      · rw [e, (a8 r hr).1 (by omega)]
        exact b9.elim Or.inl (fun y => Or.inr ⟨a, y.1, hw, y.2⟩)
      · rcases (a8 i hi).2 (by omega) with y | ⟨x, y1, y2, y3⟩
        · exact Or.inl y
        · exact Or.inr ⟨x, y1, (b8 i e).symm.trans y2, y3⟩
