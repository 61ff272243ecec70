-- ===== sending; a minute =====
theorem q_at0 {f : Nat → Int32} {n : Nat} (h : 0 < n) (hn : n < 1000) : z_at f 0 n = some (f 0) := q_at (i := 0) h hn
def z_mP3 (h h2 : z_H) : Prop := h2.1 = h.1 ∧ h2.2.1 = h.2.1 ∧ h2.2.2.2.2 1 = h.2.2.2.2 1 ∧ h2.2.2.2.2 3 = h.2.2.2.2 3
theorem z_mP3.rf (h : z_H) : z_mP3 h h := ⟨rfl, rfl, rfl, rfl⟩
theorem z_mP3.tr {h h2 h3 : z_H} (a : z_mP3 h h2) (b : z_mP3 h2 h3) : z_mP3 h h3 := ⟨b.1.trans a.1, b.2.1.trans a.2.1, b.2.2.1.trans a.2.2.1, b.2.2.2.trans a.2.2.2⟩
theorem p_send {n k : Nat} {h : z_H} {s : Nat → Int32} {R V : Nat → Nat → Int32} {c : Nat} {L : Nat → Int32} (hSt : z_St n k h) (hDy : z_Dy n k h) (hQ : z_QR n k h s R V c L) : ((∀ fv u1, f_X5_pass_L255 (fv + 1) u1 (s, (n, R), (k, V), (c, L)) = some (u1, (s, (n, R), (k, V), (c, L)))) ∧ (∀ fu t, f_X0_sendIdleServants_L2 (fu + 1) (nI t) h = some h) ∧ (h.2.2.1.1 = 0 ∨ ∀ i, i < k → ¬ z_id h i)) ∨ (∃ (h2 : z_H) (V2 : Nat → Nat → Int32) (L2 : Nat → Int32), (∀ fv u1, f_X5_pass_L255 (fv + 1) u1 (s, (n, R), (k, V), (c, L)) = f_X5_pass_L255 fv u1 (s, (n, R), (k, V2), (c - 1, L2))) ∧ (∀ fu t, t < k → f_X0_sendIdleServants_L2 (fu + 1) (nI t) h = f_X0_sendIdleServants_L2 fu (nI (t + 1)) h2) ∧ z_QR n k h2 s R V2 (c - 1) L2 ∧ z_Dy n k h2 ∧ z_ST h h2 ∧ z_KP n k h h2 ∧ z_mP3 h h2 ∧ z_ic h2 k + 1 = z_ic h k) := by
  obtain ⟨s1, s2, s3, s4, s5, s6, s7, s8, s9, s10, s11⟩ := id hSt
  obtain ⟨⟨q0, q1, q2, q3, q4, q5⟩, qr, qv, qc, ql, qL⟩ := id hQ
  obtain ⟨d1, d2, ⟨c', l1, l2, l3, l4⟩, d4, d5⟩ := id hDy
  have hcc : c' = c := by
    have e := l2.symm.trans ql
    rw [q_eq (by omega) (by omega)] at e
    exact e
  subst hcc
  by_cases hc : c' = 0
  · refine Or.inl ⟨fun fv u1 => ?_, fun fu t => ?_, Or.inl (by rw [l2, hc]; rfl)⟩
    · rw [f_X5_pass_L255]; (try dsimp only); rw [hc, if_pos (show nI 0 ≤ 0 from by decide)]
    · rw [f_X0_sendIdleServants_L2, l2, hc]
      by_cases e : h.2.2.2.1 ≤ nI t
      · rw [if_pos e]
      · rw [if_neg e, if_pos (by decide)]
  · obtain ⟨d, dn, hd⟩ := l3 0 (by omega)
    obtain ⟨fl, f5, hfl⟩ := s5 d dn
    have c0 : ¬ (nI c' ≤ 0) := by rw [show (0 : Int32) = nI 0 from rfl, q_le (by omega) (by omega)]; omega
    have L0 : L 0 = nI d := (qL 0 (by omega)).trans hd
    have hfi : f_X1_first h.2.2.1 = some (nI d) := by rw [q_first l2 (by omega) (by omega), hd]
    obtain ⟨x, x1, x2, x3⟩ := p_nearest hSt hDy hQ dn f5 hfl
    rcases x3 with ⟨y1, y2⟩ | ⟨b, bk, bi, hb, -⟩
    · refine Or.inl ⟨fun fv u1 => ?_, fun fu t => ?_, Or.inr y2⟩
      · rw [f_X5_pass_L255]
        simp (disch := omega) only [c0, if_false, q_at0, Option.bind_some, L0, x2, y1, q_mlt, if_true]
      · rw [f_X0_sendIdleServants_L2]
        by_cases e : h.2.2.2.1 ≤ nI t
        · rw [if_pos e]
        · rw [if_neg e, l2, if_neg c0, hfi, Option.bind_some, q_rg (by omega), hfl, x1, Option.bind_some, if_pos y1]
    · subst hb
      have bn1 : ¬ (nI b = -1) := q_m1 (by omega)
      have hrm : f_X1_remove h.2.2.1 (nI d) = some (nI (c' - 1), z_sh h.2.2.1.2 0 (c' - 1)) := q_remove (by omega) l2 (by omega) hd (fun j hj hj0 e => hj0 (l4 j 0 hj (by omega) (e.trans hd.symm)))
      obtain ⟨⟨w1, w5⟩, w2, w3⟩ := p_W hSt hDy hQ bk dn f5 hfl
      generalize hWd : z_Wy h fl b = W at w1 w5 w2 w3
      obtain ⟨v0, v1, v2, v3, v4⟩ := qv b bk
      obtain ⟨L2, u1, u2⟩ := p_up (n := n) (k := k) (s := s) (R := R) (V := z_ur V b (upd (upd (V b) 4 (nI W)) 2 (nI d))) (p := 0) qc (by omega) L0 (fun j hj hj0 e => hj0 (l4 j 0 hj (by omega) ((qL j hj).symm.trans (e.trans hd.symm))))
      have hN1 : z_QR n k (z_hL h (nI (c' - 1), z_sh h.2.2.1.2 0 (c' - 1))) s R V (c' - 1) L2 := hQ.ln (by omega) rfl (fun p hp => (u2 p hp).trans (z_sh_cg qL p hp))
      have hD1 : z_Dy n k (z_hL h (nI (c' - 1), z_sh h.2.2.1.2 0 (c' - 1))) := ⟨d1, d2, z_Li.rm l1 l3 l4, d4, d5⟩
      have hk : ∀ r i, i ≠ b → (z_gR (z_gR h.2.2.2 2 (upd (h.2.2.2.2 2) b (nI d))) 4 (upd (h.2.2.2.2 4) b (nI W))).2 r i = h.2.2.2.2 r i := fun r i hi => (q_gk (z_gR h.2.2.2 2 (upd (h.2.2.2.2 2) b (nI d))) 4 b (nI W) r i hi).trans (q_gk h.2.2.2 2 b (nI d) r i hi)
      refine Or.inr ⟨z_hG (z_hL h (nI (c' - 1), z_sh h.2.2.1.2 0 (c' - 1))) (z_gR (z_gR h.2.2.2 2 (upd (h.2.2.2.2 2) b (nI d))) 4 (upd (h.2.2.2.2 4) b (nI W))), z_ur V b (upd (upd (V b) 4 (nI W)) 2 (nI d)), L2, fun fv u1' => ?_, fun fu t htk => ?_, hN1.sv hk ?_ ?_ ?_ ?_ ?_, hD1.sv bk ?_ ?_ (fun q _ _ => hk q), ⟨rfl, fun _ _ => rfl, rfl, rfl⟩, z_KP.sv (fun _ _ z => z) (fun _ _ _ _ _ => Or.inl rfl) (fun _ => rfl), ⟨rfl, rfl, rfl, rfl⟩, z_ic.dn bi (fun z => ?_) (fun i hi => ?_) k bk⟩
      · rw [f_X5_pass_L255]
        simp (disch := omega) only [c0, if_false, q_at0, Option.bind_some, L0, x2, q_n0F, q_ai, w3, q_w45, q_uu, q_w25, z_qV, q_ur2, u1]
      · rw [f_X0_sendIdleServants_L2, if_neg (by rw [s4, q_le (by omega) (by omega)]; omega), l2, if_neg c0, hfi, Option.bind_some, q_rg (f := h.2.1 0) (by omega), hfl, x1, Option.bind_some, if_neg bn1, hrm, Option.bind_some]
        unfold f_X3_wayToFloor
        rw [w2, Option.bind_some, Option.bind_some, q_rs (f := h.2.2.2.2 2) (by omega), q_rs (f := h.2.2.2.2 4) (by omega), q_s]
      · simp (disch := omega) only [q_un, z_gR, q_uo, v0]
      · simp (disch := omega) only [q_un, z_gR, q_uo, v1]
      · simp (disch := omega) only [q_us, q_un, z_gR, q_uu, q_uo]
      · simp (disch := omega) only [q_un, z_gR, q_uo, v3]
      · intro _
        simp (disch := omega) only [q_us, q_un, z_gR, q_uu, q_uo]
      · exact (d4 b bk).1
      · show z_Se n (upd _ b (nI d) b) (h.2.2.2.2 3 b) (upd _ b (nI W) b)
        rw [q_us, q_us]
        exact Or.inr (Or.inl ⟨d, W, dn, w1, by omega, rfl, bi.2, rfl⟩)
      · have z1 : upd (h.2.2.2.2 2) b (nI d) b = -1 := z.1
        rw [q_us] at z1
        exact q_m1 (by omega) z1
      · show (upd (h.2.2.2.2 2) b (nI d) i = -1 ∧ h.2.2.2.2 3 i = -1) ↔ (h.2.2.2.2 2 i = -1 ∧ h.2.2.2.2 3 i = -1)
        rw [q_un hi]
theorem p_sends {n k : Nat} {s : Nat → Int32} {R : Nat → Nat → Int32} : ∀ (m t fu fv : Nat) (u1 : Int32) (h : z_H) (V : Nat → Nat → Int32) (c : Nat) (L : Nat → Int32), t + m = k → m < fu → m < fv → z_ic h k ≤ m → z_St n k h → z_Dy n k h → z_QR n k h s R V c L → ∃ (h2 : z_H) (V2 : Nat → Nat → Int32) (c2 : Nat) (L2 : Nat → Int32), f_X0_sendIdleServants_L2 fu (nI t) h = some h2 ∧ f_X5_pass_L255 fv u1 (s, (n, R), (k, V), (c, L)) = some (u1, (s, (n, R), (k, V2), (c2, L2))) ∧ z_QR n k h2 s R V2 c2 L2 ∧ z_Dy n k h2 ∧ z_ST h h2 ∧ z_KP n k h h2 ∧ z_mP3 h h2 ∧ (h2.2.2.1.1 = 0 ∨ ∀ i, i < k → ¬ z_id h2 i)
  | 0, t, fu + 1, fv + 1, u1, h, V, c, L, hm, _, _, hi, hSt, hDy, hQ => by
    rcases p_send hSt hDy hQ with ⟨a, b, d⟩ | ⟨h2, V2, L2, a1, a2, a3, a4, a5, a6, a7, a8⟩
    · exact ⟨h, V, c, L, b fu t, a fv u1, hQ, hDy, z_ST.rf h, z_KP.rf n k h, z_mP3.rf h, d⟩
    · omega
  | m + 1, t, fu + 1, fv + 1, u1, h, V, c, L, hm, h1, h2, hi, hSt, hDy, hQ => by
    rcases p_send hSt hDy hQ with ⟨a, b, d⟩ | ⟨h3, V3, L3, a1, a2, a3, a4, a5, a6, a7, a8⟩
    · exact ⟨h, V, c, L, b fu t, a fv u1, hQ, hDy, z_ST.rf h, z_KP.rf n k h, z_mP3.rf h, d⟩
    · obtain ⟨x2, V2, c2, L2, b1, b2, b3, b4, b5, b6, b7, b8⟩ := p_sends m (t + 1) fu fv u1 h3 V3 (c - 1) L3 (by omega) (by omega) (by omega) (by omega) (hSt.mv a5) a4 a3
      refine ⟨x2, V2, c2, L2, ?_, ?_, b3, b4, a5.tr b5, a6.tr b6, a7.tr b7, b8⟩
      · rw [a2 fu t (by omega)]; exact b1
      · rw [a1]; exact b2
/-- the house, and the one by hand -/
def z_I (n k : Nat) (h : z_H) (Q : z_Q) : Prop := z_St n k h ∧ z_Dy n k h ∧ z_FL n k h ∧ ∃ (s : Nat → Int32) (R V : Nat → Nat → Int32) (c : Nat) (L : Nat → Int32), Q = (s, (n, R), (k, V), (c, L)) ∧ z_QR n k h s R V c L
/-- what a minute does -/
def z_MN (n k : Nat) (h h2 : z_H) (x : Int32) : Prop := h2.1 2 ≤ h.1 2 ∧ (∃ a b, a + b ≤ k ∧ x = nI a ∧ h2.1 3 = h.1 3 + nI a ∧ h2.1 4 = h.1 4 + nI b) ∧ (∀ i, i < n → h2.2.1 5 i = -1 ∨ ∃ a, a + 1 ≤ 29 ∧ h.2.1 5 i = nI a ∧ h2.2.1 5 i = nI (a + 1)) ∧ (h2.2.2.1.1 = 0 ∨ ∀ i, i < k → ¬ z_id h2 i)
theorem p_minute {n k : Nat} {h : z_H} {Q : z_Q} (H : z_I n k h Q) : ∃ (x : Int32) (h2 : z_H) (Q2 : z_Q), f_X0_letMinuteGoBy h = some (x, h2) ∧ f_X5_pass Q = some (x, Q2) ∧ z_I n k h2 Q2 ∧ z_ST h h2 ∧ z_KP n k h h2 ∧ z_MN n k h h2 x := by
  obtain ⟨hSt, hDy, hF, s, R, V, c, L, rfl, hQ⟩ := H
  have hn := hSt.1
  have hk := hSt.2.1
  obtain ⟨ha, sa, Ra, ca, La, a1, a2, a3, a4, a5, a6, a7, a8⟩ := p_rooms n 0 z_FU z_F14 (s 2) h s R c L (by omega) (by unfold z_FU; omega) (by unfold z_F14; omega) hSt hDy hQ
  obtain ⟨hb, sb, Rb, Vb, b1, b2, b3, b4, b5, b6, b7, b8⟩ := p_moves k 0 z_FU z_F14 (s 2) ha sa Ra V (by omega) (by unfold z_FU; omega) (by unfold z_F14; omega) (hSt.mv a5) a4 a3
  obtain ⟨hc, Vc, cc, Lc, c1, c2, c3, c4, c5, c6, c7, c8⟩ := p_sends k 0 z_FU z_F14 (s 2) hb Vb ca La (by omega) (by unfold z_FU; omega) (by unfold z_F14; omega) (z_ic.le hb k) ((hSt.mv a5).mv b5) b4 b3
  have a1 : f_X0_letRoomsWait_L2 z_FU 0 h = some ha := a1
  have b1 : f_X0_letServantsMove_L2 z_FU 0 ha = some hb := b1
  have c1 : f_X0_sendIdleServants_L2 z_FU 0 hb = some hc := c1
  have a2 : f_X5_pass_L7 z_F14 (s 2) 0 (s, (n, R), (k, V), (c, L)) = some (s 2, (sa, (n, Ra), (k, V), (ca, La))) := a2
  have b2 : f_X5_pass_L111 z_F14 (s 2) 0 (sa, (n, Ra), (k, V), (ca, La)) = some (s 2, (sb, (n, Rb), (k, Vb), (ca, La))) := b2
  have hFa : z_FL n k ha := fun j hj r hr e => by
    rw [a7.1] at e ⊢
    rw [a5.2.1 0 (by decide)]
    exact hF j hj r hr e
  have hFb := b8 hFa
  have hFc : z_FL n k hc := fun j hj r hr e => by
    rw [c7.2.2.2] at e
    rw [c7.2.2.1, c7.2.1]
    exact hFb j hj r hr e
  have e3 : hc.1 3 = hb.1 3 := congrFun c7.1 3
  have e4 : hc.1 4 = hb.1 4 := congrFun c7.1 4
  have e2 : hc.1 2 = hb.1 2 := congrFun c7.1 2
  obtain ⟨x1, ⟨x, y, x2, x3, x4⟩, x5, x6⟩ := b7
  have q2 := hQ.1.2.2.1
  have q2c := c3.1.2.2.1
  have q0c := c3.1.1
  refine ⟨hc.1 3 - h.1 3, z_hS hc 0 (hc.1 0 + 1), (upd sb 0 (sb 0 + 1), (n, Rb), (k, Vc), (cc, Lc)), ?_, ?_, ⟨((hSt.mv a5).mv b5).mv (c5.tr (z_ST.sc 0 (by decide) _)), c4.sc 0 (by decide) _, hFc, _, _, _, _, _, rfl, ?_⟩, (a5.tr b5).tr (c5.tr (z_ST.sc 0 (by decide) _)), (a6.tr b6).tr (c6.tr ?_), ?_, ⟨x, y, x2, ?_, ?_, ?_⟩, fun i hi => ?_, c8⟩
  · unfold f_X0_letMinuteGoBy f_X0_letRoomsWait f_X0_letServantsMove f_X0_sendIdleServants
    simp only [a1, b1, c1, Option.bind_some]
  · unfold f_X5_pass
    simp only [a2, b2, c2, Option.bind_some, z_qS]
    rw [q2c, q2]
  · rw [q0c]
    exact c3.st.1
  · exact ⟨fun _ _ z => z, fun _ _ _ z => z, fun _ => rfl⟩
  · show hc.1 2 ≤ h.1 2
    rw [e2, x1]
    exact a7.2.2.2
  · rw [e3, x3, a7.2.1]
    grind
  · show hc.1 3 = _
    rw [e3, x3, a7.2.1]
  · show hc.1 4 = _
    rw [e4, x4, a7.2.2.1]
  · show hc.2.1 5 i = -1 ∨ ∃ a, a + 1 ≤ 29 ∧ h.2.1 5 i = nI a ∧ hc.2.1 5 i = nI (a + 1)
    rw [c7.2.1]
    rcases x5 i with e | e
    · rw [e]; exact (a8 i hi).2 (by omega)
    · exact Or.inl e
