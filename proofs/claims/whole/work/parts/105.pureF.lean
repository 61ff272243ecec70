-- ===== sending idle servants; a minute; minutes =====
def z_ic (h : z_H) : Nat → Nat
  | 0 => 0
  | m + 1 => z_ic h m + (if h.2.2.2.2 2 m = -1 ∧ h.2.2.2.2 3 m = -1 then 1 else 0)
theorem z_ic.le (h : z_H) : ∀ m, z_ic h m ≤ m
  | 0 => Nat.le_refl 0
  | m + 1 => by
    have i := z_ic.le h m
    unfold z_ic
    by_cases e : h.2.2.2.2 2 m = -1 ∧ h.2.2.2.2 3 m = -1
    · rw [if_pos e]; omega
    · rw [if_neg e]; omega
theorem z_ic.eq {h h2 : z_H} : ∀ m, (∀ i, i < m → (z_id h2 i ↔ z_id h i)) → z_ic h2 m = z_ic h m
  | 0, _ => rfl
  | m + 1, H => by
    have i := z_ic.eq (h := h) (h2 := h2) m (fun i hi => H i (by omega))
    unfold z_ic
    rw [i]
    by_cases e : z_id h m
    · have e2 := (H m (by omega)).2 e
      unfold z_id at e e2
      rw [if_pos e, if_pos e2]
    · have e2 := fun z => e ((H m (by omega)).1 z)
      unfold z_id at e e2
      rw [if_neg e, if_neg e2]
theorem z_ic.dn {h h2 : z_H} {b : Nat} (hb : z_id h b) (hb2 : ¬ z_id h2 b) (ho : ∀ i, i ≠ b → (z_id h2 i ↔ z_id h i)) : ∀ m, b < m → z_ic h2 m + 1 = z_ic h m
  | 0, H => by omega
  | m + 1, H => by
    by_cases e : m = b
    · have i := z_ic.eq (h := h) (h2 := h2) m (fun i hi => ho i (by omega))
      unfold z_ic
      rw [i]
      unfold z_id at hb hb2
      rw [e, if_pos hb, if_neg hb2]
    · have i := z_ic.dn hb hb2 ho m (by omega)
      unfold z_ic
      rw [← i]
      by_cases e3 : z_id h m
      · have e2 := (ho m e).2 e3
        unfold z_id at e3 e2
        rw [if_pos e3, if_pos e2]
        all_goals omega
      · have e2 := fun z => e3 ((ho m e).1 z)
        unfold z_id at e3 e2
        rw [if_neg e3, if_neg e2]
        all_goals omega
theorem q_first {L : z_L} {c : Nat} (hc : L.1 = nI c) (h1 : 1 ≤ c) (h2 : c ≤ 12) : f_X1_first L = some (L.2 0) := by
  unfold f_X1_first
  rw [hc, if_neg (by rw [show (0 : Int32) = nI 0 from rfl, q_le (by omega) (by omega)]; omega), if_neg (by decide)]
  rfl
theorem q_69 {M : z_M} {fv : Nat} (e : f_X5_sends M = some (0, M)) : f_X5_minuteOn_L69 (fv + 2) 1 M = some M := by
  rw [f_X5_minuteOn_L69, if_neg (by decide), e, Option.bind_some, f_X5_minuteOn_L69, if_pos rfl]
/-- one sending -/
theorem s_send {n k : Nat} {h : z_H} {M : z_M} {g : Nat → Int32} (hSt : z_St n k h) (hSE : z_SE M h) (hDy : z_Dy n k h) (hNE : z_NE k g h) : (f_X5_sends (z_mR M 6 g) = some (0, z_mR M 6 g) ∧ (∀ fu t, f_X0_sendIdleServants_L2 (fu + 1) (nI t) h = some h)) ∨ (∃ (h2 : z_H) (g2 : Nat → Int32), f_X5_sends (z_mR M 6 g) = some (1, z_mR M 6 g2) ∧ (∀ fu t, t < k → f_X0_sendIdleServants_L2 (fu + 1) (nI t) h = f_X0_sendIdleServants_L2 fu (nI (t + 1)) h2) ∧ z_NE k g2 h2 ∧ z_Dy n k h2 ∧ z_ST h h2 ∧ z_KP n k h h2 ∧ z_ic h2 k + 1 = z_ic h k) := by
  obtain ⟨s1, s2, s3, s4, s5, s6, s7, s8, s9, s10, s11⟩ := id hSt
  obtain ⟨n0, n1, n2, n3, n4, n5, n6, nw, nl, no, nd, nt, nL, nf⟩ := id hNE
  obtain ⟨d1, d2, ⟨c, l1, l2, l3, l4⟩, d4, d5⟩ := id hDy
  have g6 : g 6 = nI c := n6.trans l2
  by_cases hc : c = 0
  · refine Or.inl ⟨?_, fun fu t => ?_⟩
    · unfold f_X5_sends
      rw [q_m6, q_at6, Option.bind_some, g6, hc, if_pos (show nI 0 = 0 from rfl)]
    · rw [f_X0_sendIdleServants_L2, l2, hc]
      by_cases e : h.2.2.2.1 ≤ nI t
      · rw [if_pos e]
      · rw [if_neg e, if_pos (by decide)]
  · obtain ⟨d, dn, hd⟩ := l3 0 (by omega)
    obtain ⟨fl, f5, hfl⟩ := s5 d dn
    have c0 : ¬ (nI c ≤ 0) := by rw [show (0 : Int32) = nI 0 from rfl, q_le (by omega) (by omega)]; omega
    have c1 : ¬ (nI c = 0) := by rw [show (0 : Int32) = nI 0 from rfl, q_eq (by omega) (by omega)]; omega
    have g19 : g 19 = nI d := (nl 0 (by omega)).trans hd
    have hfi : f_X1_first h.2.2.1 = some (nI d) := by rw [q_first l2 (by omega) (by omega), hd]
    obtain ⟨x, x1, x2, x3⟩ := s_nearest hSt hSE hDy hNE dn f5 hfl
    rcases x3 with ⟨y1, y2⟩ | ⟨b, bk, bi, hb⟩
    · refine Or.inl ⟨?_, fun fu t => ?_⟩
      · unfold f_X5_sends
        rw [q_m6, q_at6, Option.bind_some, g6, if_neg c1, q_at19, Option.bind_some, g19, x2, Option.bind_some, if_pos y1]
      · rw [f_X0_sendIdleServants_L2]
        by_cases e : h.2.2.2.1 ≤ nI t
        · rw [if_pos e]
        · rw [if_neg e, l2, if_neg c0, hfi, Option.bind_some, q_rg (by omega), hfl, x1, Option.bind_some, if_pos y1]
    · subst hb
      have b6 : b < 6 := by omega
      have bn1 : ¬ (nI b = -1) := q_m1 (by omega)
      have hN1 := hNE.rm (c := c) (p := 0) s2 (by omega)
      have hD1 : z_Dy n k (z_hL h (nI (c - 1), z_sh h.2.2.1.2 0 (c - 1))) := ⟨d1, d2, z_Li.rm l1 l3 l4, d4, d5⟩
      have hT1 : z_ST h (z_hL h (nI (c - 1), z_sh h.2.2.1.2 0 (c - 1))) := ⟨rfl, fun _ _ => rfl, rfl, rfl⟩
      have ht : f_X5_takeOut (z_mR M 6 g) 0 = some (z_mR M 6 (z_so (upd g 6 (nI (c - 1))) 0 (c - 1))) := q_takeOut (p := 0) (by omega) (by omega) g6
      obtain ⟨⟨w1, w9⟩, w2, w3⟩ := q_W (hSt.mv hT1) (hSE.mv hT1) hD1 hN1 bk dn f5 hfl
      have hrm : f_X1_remove h.2.2.1 (nI d) = some (nI (c - 1), z_sh h.2.2.1.2 0 (c - 1)) := q_remove (by omega) l2 (by omega) hd (fun j hj hj0 e => hj0 (l4 j 0 hj (by omega) (e.trans hd.symm)))
      generalize hWd : z_W (z_hL h (nI (c - 1), z_sh h.2.2.1.2 0 (c - 1))) fl b = W at w1 w9 w2 w3
      have w2' : f_X3_minutesOfWay (z_rg (h.2.2.2.2 1) (nI b)) (nI fl) (z_rg (h.2.2.2.2 0) (nI b)) = some (nI W) := w2
      generalize hgd : z_so (upd g 6 (nI (c - 1))) 0 (c - 1) = g1 at hN1 ht w3
      have hk : ∀ r, 1 ≤ r → r < 5 → ∀ i, i ≠ b → (z_gR (z_gR h.2.2.2 2 (upd (h.2.2.2.2 2) b (nI d))) 4 (upd (h.2.2.2.2 4) b (nI W))).2 r i = h.2.2.2.2 r i := fun r _ _ i hi => (q_gk (z_gR h.2.2.2 2 (upd (h.2.2.2.2 2) b (nI d))) 4 b (nI W) r i hi).trans (q_gk h.2.2.2 2 b (nI d) r i hi)
      have dz : z_do (nI d) (h.2.2.2.2 3 b) = 1 := by unfold z_do; rw [if_neg (q_m1 (by omega))]
      have hrow2 : ∀ i, i ≠ b → upd (h.2.2.2.2 2) b (nI d) i = h.2.2.2.2 2 i := fun i hi => q_un hi
      refine Or.inr ⟨z_hG (z_hL h (nI (c - 1), z_sh h.2.2.1.2 0 (c - 1))) (z_gR (z_gR h.2.2.2 2 (upd (h.2.2.2.2 2) b (nI d))) 4 (upd (h.2.2.2.2 4) b (nI W))), upd (upd (upd g1 (37 + b) 1) (43 + b) (nI d)) (49 + b) (nI W), ?_, fun fu t htk => ?_, hN1.sv s2 bk ?_ ?_ ?_ ?_ ?_ hk, hD1.sv bk ?_ ?_ hk, ⟨rfl, fun _ _ => rfl, rfl, rfl⟩, z_KP.sv (fun _ _ z => z) (fun _ _ _ _ _ => Or.inl rfl) (fun _ => rfl), z_ic.dn bi (fun z => ?_) (fun i hi => ?_) k bk⟩
      · unfold f_X5_sends f_X5_give
        rw [q_m6, q_at6, Option.bind_some, g6, if_neg c1, q_at19, Option.bind_some, g19, x2, Option.bind_some, if_neg bn1, ht, Option.bind_some, w3, Option.bind_some]
        simp (disch := omega) only [q_m6, q_w37, q_w43, q_w49, Option.bind_some, q_mm]
      · rw [f_X0_sendIdleServants_L2, if_neg (by rw [s4, q_le (by omega) (by omega)]; omega), l2, if_neg c0, hfi, Option.bind_some, q_rg (f := h.2.1 0) (by omega), hfl, x1, Option.bind_some, if_neg bn1, hrm, Option.bind_some]
        unfold f_X3_wayToFloor
        rw [w2', Option.bind_some, Option.bind_some, q_rs (f := h.2.2.2.2 2) (by omega), q_rs (f := h.2.2.2.2 4) (by omega), q_s]
      · show upd _ (49 + b) _ (31 + b) = h.2.2.2.2 1 b
        rw [q_un (by omega), q_un (by omega), q_un (by omega)]
        exact hN1.2.2.2.2.2.2.2.2.2.1 b b6
      · show upd _ (49 + b) _ (37 + b) = z_do (upd _ b (nI d) b) (h.2.2.2.2 3 b)
        rw [q_un (by omega), q_un (by omega), q_us, q_us, dz]
      · intro _
        show upd _ (49 + b) _ (43 + b) = z_to (upd _ b (nI d) b) (h.2.2.2.2 3 b)
        rw [q_un (by omega), q_us, q_us]
        unfold z_to
        rw [if_neg (q_m1 (by omega))]
      · show upd _ (49 + b) _ (49 + b) = upd _ b (nI W) b
        rw [q_us, q_us]
      · intro q q1 q2 q3 q4
        rw [q_un q4, q_un q3, q_un q2]
      · exact (d4 b bk).1
      · show z_Se n (upd _ b (nI d) b) (h.2.2.2.2 3 b) (upd _ b (nI W) b)
        rw [q_us, q_us]
        exact Or.inr (Or.inl ⟨d, W, dn, w1, w9, rfl, bi.2, rfl⟩)
      · have z1 : upd (h.2.2.2.2 2) b (nI d) b = -1 := z.1
        rw [q_us] at z1
        exact q_m1 (by omega) z1
      · show (upd (h.2.2.2.2 2) b (nI d) i = -1 ∧ h.2.2.2.2 3 i = -1) ↔ (h.2.2.2.2 2 i = -1 ∧ h.2.2.2.2 3 i = -1)
        rw [q_un hi]
theorem s_sends {n k : Nat} {M : z_M} : ∀ (m t fu fv : Nat) (h : z_H) (g : Nat → Int32), t + m = k → m < fu → m + 1 < fv → z_ic h k ≤ m → z_St n k h → z_SE M h → z_Dy n k h → z_NE k g h → ∃ (h2 : z_H) (g2 : Nat → Int32), f_X0_sendIdleServants_L2 fu (nI t) h = some h2 ∧ f_X5_minuteOn_L69 fv 1 (z_mR M 6 g) = some (z_mR M 6 g2) ∧ z_NE k g2 h2 ∧ z_Dy n k h2 ∧ z_ST h h2 ∧ z_KP n k h h2
  | 0, t, fu + 1, fv + 2, h, g, hm, _, _, hi, hSt, hSE, hDy, hNE => by
    rcases s_send hSt hSE hDy hNE with ⟨a, b⟩ | ⟨h2, g2, a1, a2, a3, a4, a5, a6, a7⟩
    · exact ⟨h, g, b fu t, q_69 a, hNE, hDy, z_ST.rf h, z_KP.rf n k h⟩
    · omega
  | m + 1, t, fu + 1, fv + 2, h, g, hm, h1, h2, hi, hSt, hSE, hDy, hNE => by
    rcases s_send hSt hSE hDy hNE with ⟨a, b⟩ | ⟨h3, g3, a1, a2, a3, a4, a5, a6, a7⟩
    · exact ⟨h, g, b fu t, q_69 a, hNE, hDy, z_ST.rf h, z_KP.rf n k h⟩
    · obtain ⟨x2, y2, b1, b2, b3, b4, b5, b6⟩ := s_sends m (t + 1) fu (fv + 1) h3 g3 (by omega) (by omega) (by omega) (by omega) (hSt.mv a5) (hSE.mv a5) a4 a3
      refine ⟨x2, y2, ?_, ?_, b3, b4, a5.tr b5, a6.tr b6⟩
      · rw [a2 fu t (by omega)]; exact b1
      · rw [f_X5_minuteOn_L69, if_neg (by decide), a1, Option.bind_some]; exact b2
/-- a minute -/
theorem s_minute {n k : Nat} {h : z_H} {M : z_M} {g : Nat → Int32} (hSt : z_St n k h) (hSE : z_SE M h) (hDy : z_Dy n k h) (hNE : z_NE k g h) : ∃ (h2 : z_H) (g2 : Nat → Int32), f_X0_letMinuteGoBy h = some (h2.1 3 - h.1 3, h2) ∧ f_X5_minuteOn (z_mR M 6 g) = some (z_mR M 6 g2) ∧ z_NE k g2 h2 ∧ z_Dy n k h2 ∧ z_ST h h2 ∧ z_KP n k h h2 := by
  have s1 := hSt.1
  have s2 := hSt.2.1
  obtain ⟨h1, g1, a1, a2, a3, a4, a5, a6⟩ := s_rooms (M := M) n 0 z_FU z_FU h g (by omega) (by unfold z_FU; omega) (by unfold z_FU; omega) hSt hSE hDy hNE
  obtain ⟨h2, g2, b1, b2, b3, b4, b5, b6⟩ := s_moves (M := M) k 0 z_FU z_FU h1 g1 (by omega) (by unfold z_FU; omega) (by unfold z_FU; omega) (hSt.mv a5) (hSE.mv a5) a4 a3
  have hSt2 := (hSt.mv a5).mv b5
  have hSE2 := (hSE.mv a5).mv b5
  obtain ⟨h3, g3, c1, c2, c3, c4, c5, c6⟩ := s_sends (M := M) k 0 z_FU z_FU h2 g2 (by omega) (by unfold z_FU; omega) (by unfold z_FU; omega) (z_ic.le h2 k) hSt2 hSE2 b4 b3
  have a1' : f_X0_letRoomsWait_L2 z_FU 0 h = some h1 := a1
  have b1' : f_X0_letServantsMove_L2 z_FU 0 h1 = some h2 := b1
  have c1' : f_X0_sendIdleServants_L2 z_FU 0 h2 = some h3 := c1
  have a2' : f_X5_minuteOn_L2 z_FU 0 (z_mR M 6 g) = some (z_mR M 6 g1) := a2
  have b2' : f_X5_minuteOn_L36 z_FU 0 (z_mR M 6 g1) = some (z_mR M 6 g2) := b2
  refine ⟨z_hS h3 0 (h3.1 0 + 1), upd g3 0 (g3 0 + 1), ?_, ?_, by rw [c3.1]; exact c3.st.1, c4.sc 0 (by decide) _, ((a5.tr b5).tr c5).tr (z_ST.sc 0 (by decide) _), ((a6.tr b6).tr c6).tr ⟨fun _ _ z => z, fun _ _ _ u => u, fun _ => rfl⟩⟩
  · unfold f_X0_letMinuteGoBy f_X0_letRoomsWait f_X0_letServantsMove f_X0_sendIdleServants
    rw [a1', Option.bind_some, Option.bind_some, b1', Option.bind_some, Option.bind_some, c1', Option.bind_some]
    rfl
  · unfold f_X5_minuteOn
    rw [a2', Option.bind_some, b2', Option.bind_some, c2, Option.bind_some, q_m6, q_at0, Option.bind_some, q_wr0, Option.bind_some, q_mm]
theorem q_tel0 (x a : Int32) : x + (a - a) = x := by grind
theorem q_tel (x a b c : Int32) : x + (b - a) + (c - b) = x + (c - a) := by grind
theorem s_pass {n k v : Nat} {M : z_M} {T : z_H} (hv : v ≤ 60) : ∀ (m i fu fv : Nat) (h : z_H) (g : Nat → Int32) (acc : Int32), i + m = v → m < fu → m < fv → z_St n k h → z_SE M h → z_Dy n k h → z_NE k g h → ∃ (h2 : z_H) (g2 : Nat → Int32), f_X4_pass_L8 fu (nI v) acc (nI i) (h, T) = some (acc + (h2.1 3 - h.1 3), (h2, T)) ∧ f_X5_minutesOn_L2 fv (nI v) (nI i) (z_mR M 6 g) = some (z_mR M 6 g2) ∧ z_NE k g2 h2 ∧ z_Dy n k h2 ∧ z_ST h h2 ∧ z_KP n k h h2
  | 0, i, fu + 1, fv + 1, h, g, acc, hm, _, _, hSt, hSE, hDy, hNE => by
    have hle : nI v ≤ nI i := by rw [q_le (by omega) (by omega)]; omega
    refine ⟨h, g, ?_, ?_, hNE, hDy, z_ST.rf h, z_KP.rf n k h⟩
    · rw [f_X4_pass_L8, if_pos hle, q_tel0]
    · rw [f_X5_minutesOn_L2, if_pos hle]
  | m + 1, i, fu + 1, fv + 1, h, g, acc, hm, h1, h2, hSt, hSE, hDy, hNE => by
    have hle : ¬ (nI v ≤ nI i) := by rw [q_le (by omega) (by omega)]; omega
    obtain ⟨h3, g3, b1, b2, b3, b4, b5, b6⟩ := s_minute hSt hSE hDy hNE
    obtain ⟨x2, y2, a1, a2, a3, a4, a5, a6⟩ := s_pass (T := T) hv m (i + 1) fu fv h3 g3 (acc + (h3.1 3 - h.1 3)) (by omega) (by omega) (by omega) (hSt.mv b5) (hSE.mv b5) b4 b3
    refine ⟨x2, y2, ?_, ?_, a3, a4, b5.tr a5, b6.tr a6⟩
    · rw [f_X4_pass_L8, if_neg hle]
      show (f_X0_letMinuteGoBy h).bind _ = _
      rw [b1, Option.bind_some, q_s, ← q_tel acc (h.1 3) (h3.1 3) (x2.1 3)]
      exact a1
    · rw [f_X5_minutesOn_L2, if_neg hle, b2, Option.bind_some, q_s]; exact a2
