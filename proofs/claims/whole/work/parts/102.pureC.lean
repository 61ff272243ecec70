-- ===== the rooms of a minute =====
theorem z_ST.wt {h : z_H} (f : Nat → Int32) : z_ST h (z_hR h 5 f) := ⟨rfl, fun r hr => by show z_ur h.2.1 5 f r = h.2.1 r; exact if_neg hr, rfl, rfl⟩
theorem z_Dy.wt {n k : Nat} {h : z_H} {i : Nat} {v : Int32} (hv : v = -1 ∨ ∃ a, a ≤ 29 ∧ v = nI a) (a : z_Dy n k h) : z_Dy n k (z_hR h 5 (upd (h.2.1 5) i v)) := by
  obtain ⟨d1, d2, d3, d4, d5⟩ := a
  refine ⟨d1, fun j hj => ?_, d3, d4, d5⟩
  show upd (h.2.1 5) i v j = -1 ∨ ∃ a, a ≤ 29 ∧ upd (h.2.1 5) i v j = nI a
  by_cases e : j = i
  · rw [e, q_us]; exact hv
  · rw [q_un e]; exact d2 j hj
theorem z_KP.w {n k : Nat} {h h2 : z_H} (a : ∀ i, i < n → h.2.1 5 i = -1 → h2.2.1 5 i = -1) (b : h2.2.2.2 = h.2.2.2) (c : h2.1 3 = h.1 3) : z_KP n k h h2 := ⟨a, fun r hr w u j hj => by rw [b]; exact u j hj, fun _ => c⟩
theorem q_rm {x p : Nat} (hp : 1 ≤ p) (hp9 : p < 1000) : z_rm (nI x) (nI p) = some (nI x - nI x / nI p * nI p) := by
  unfold z_rm
  rw [if_neg (by rw [show (0 : Int32) = nI 0 from rfl, q_eq hp9 (by decide)]; omega)]
/-- a room that waits, in one minute -/
theorem s_hold {n k : Nat} {h : z_H} {M : z_M} {g : Nat → Int32} (hSt : z_St n k h) (hSE : z_SE M h) (hDy : z_Dy n k h) (hNE : z_NE k g h) {r a : Nat} (hr : r < n) (ha : a ≤ 29) (hw : h.2.1 5 r = nI a) : ∃ (h2 : z_H) (g2 : Nat → Int32), (∀ fu, f_X0_letRoomsWait_L2 (fu + 1) (nI r) h = f_X0_letRoomsWait_L2 fu (nI (r + 1)) h2) ∧ f_X5_hold (z_mR M 6 g) (nI r) = some (z_mR M 6 g2) ∧ z_NE k g2 h2 ∧ z_Dy n k h2 ∧ z_ST h h2 ∧ z_KP n k h h2 := by
  obtain ⟨s1, s2, s3, s4, s5, s6, s7, s8, s9, s10, s11⟩ := id hSt
  obtain ⟨m1, m2, m3, m4, m5, m6, m7, m8⟩ := id hSE
  obtain ⟨n0, n1, n2, n3, n4, n5, n6, nw, nl, no, nd, nt, nL, nf⟩ := id hNE
  have hr12 : r < 12 := by omega
  have gw : g (7 + r) = nI a := (nw r hr12).trans hw
  obtain ⟨p, p1, p9, hp⟩ := s6 r hr
  have mp : M.2 1 r = nI p := (m4 r hr12).trans hp
  have hnr : ¬ (h.1 1 ≤ nI r) := by rw [s3, q_le (by omega) (by omega)]; omega
  by_cases h30 : a + 1 = 30
  · have hN : z_NE k (upd (upd (upd g (7 + r) (nI 30)) (7 + r) (-1)) 4 (g 4 + 1)) (z_hR (z_hS h 5 (h.1 5 + 1)) 5 (upd (h.2.1 5) r (-1))) := by
      have x1 := (hNE.wt hr12 s2 (v := nI 30)).wt hr12 s2 (v := -1)
      have x2 := (x1.st (v := g 4 + 1)).2.2.2.2.1
      have e : z_hR (z_hR h 5 (upd (h.2.1 5) r (nI 30))) 5 (upd ((z_hR h 5 (upd (h.2.1 5) r (nI 30))).2.1 5) r (-1)) = z_hR h 5 (upd (h.2.1 5) r (-1)) := by
        unfold z_hR z_ur
        refine Prod.ext rfl (Prod.ext (funext fun j => ?_) rfl)
        show (if j = 5 then upd (if (5 : Nat) = 5 then upd (h.2.1 5) r (nI 30) else h.2.1 5) r (-1) else if j = 5 then _ else h.2.1 j) = if j = 5 then upd (h.2.1 5) r (-1) else h.2.1 j
        by_cases e : j = 5
        · rw [if_pos e, if_pos e, if_pos rfl]
          refine funext fun i => ?_
          by_cases e2 : i = r
          · rw [e2, q_us, q_us]
          · rw [q_un e2, q_un e2, q_un e2]
        · rw [if_neg e, if_neg e, if_neg e]
      rw [e] at x2
      rw [n4] at x2 ⊢
      exact x2
    refine ⟨z_hR (z_hS h 5 (h.1 5 + 1)) 5 (upd (h.2.1 5) r (-1)), upd (upd (upd g (7 + r) (nI 30)) (7 + r) (-1)) 4 (g 4 + 1), fun fu => ?_, ?_, hN, z_Dy.wt (h := z_hS h 5 (h.1 5 + 1)) (Or.inl rfl) (hDy.sc 5 (by decide) _), (z_ST.sc 5 (by decide) _).tr (z_ST.wt _), ?_⟩
    · rw [f_X0_letRoomsWait_L2, if_neg hnr]
      have e30 : ¬ (nI (a + 1) < 30) := by rw [show (30 : Int32) = nI 30 from rfl, q_lt (by omega) (by omega)]; omega
      simp (disch := omega) only [q_rg, hw, q_m1n, if_false, q_s, e30, q_rs]
    · unfold f_X5_hold
      have e : nI a + 1 = nI 30 := by rw [q_s, h30]
      have e2 : ∀ (x y : Int32), upd (upd g (7 + r) x) (7 + r) y 4 = g 4 := fun x y => (q_un (by omega)).trans (q_un (by omega))
      simp (disch := omega) only [q_m6, q_a7, gw, Option.bind_some, q_w7, e, q_us, show ((nI 30 : Int32) = 30) = True from eq_true rfl, if_true, q_at4, e2, q_wr4, q_mm]
    · refine z_KP.w (fun i hi z => ?_) rfl rfl
      show upd (h.2.1 5) r (-1) i = -1
      by_cases e : i = r
      · rw [e, q_us]
      · rw [q_un e]; exact z
  · have hD1 : z_Dy n k (z_hR h 5 (upd (h.2.1 5) r (nI (a + 1)))) := hDy.wt (Or.inr ⟨a + 1, by omega, rfl⟩)
    have hN1 : z_NE k (upd g (7 + r) (nI (a + 1))) (z_hR h 5 (upd (h.2.1 5) r (nI (a + 1)))) := hNE.wt hr12 s2
    have hS1 : z_ST h (z_hR h 5 (upd (h.2.1 5) r (nI (a + 1)))) := z_ST.wt _
    have hK1 : ∀ i, i < n → h.2.1 5 i = -1 → (z_hR h 5 (upd (h.2.1 5) r (nI (a + 1)))).2.1 5 i = -1 := fun i hi z => by
      show upd (h.2.1 5) r (nI (a + 1)) i = -1
      by_cases e : i = r
      · rw [e, hw] at z; exact absurd z (q_m1 (by omega))
      · rw [q_un e]; exact z
    have e30 : nI (a + 1) < 30 := by rw [show (30 : Int32) = nI 30 from rfl, q_lt (by omega) (by omega)]; omega
    have n30 : ¬ nI (a + 1) = 30 := by rw [show (30 : Int32) = nI 30 from rfl, q_eq (by omega) (by omega)]; omega
    have p0 : ¬ nI p ≤ 0 := by rw [show (0 : Int32) = nI 0 from rfl, q_le (by omega) (by omega)]; omega
    have eh : f_X5_hold (z_mR M 6 g) (nI r) = (if nI (a + 1) - nI (a + 1) / nI p * nI p = 0 then (f_X5_rings (z_mR M 6 (upd g (7 + r) (nI (a + 1)))) (nI r)).bind (fun x71 => some x71.2) else some (z_mR M 6 (upd g (7 + r) (nI (a + 1))))) := by
      unfold f_X5_hold
      simp (disch := omega) only [q_m6, q_a7, gw, Option.bind_some, q_w7, q_s, q_us, n30, if_false, q_mr, q_at, mp, q_rm, q_mm]
    by_cases hz : nI (a + 1) - nI (a + 1) / nI p * nI p = 0
    · obtain ⟨b, h2, g2, x1, x2, x3, x4, x5, x6, x7, x8, x9⟩ := s_rings (hSt.mv hS1) (hSE.mv hS1) hD1 hN1 hr
      refine ⟨h2, g2, fun fu => ?_, ?_, x4, x5, hS1.tr x6, z_KP.w (fun i hi z => by rw [x7]; exact hK1 i hi z) x8 x9⟩
      · rw [f_X0_letRoomsWait_L2, if_neg hnr]
        unfold f_X0_isMultiple
        simp (disch := omega) only [q_rg, hw, q_m1n, if_false, q_s, e30, if_true, hp, p0, q_rm, Option.bind_some, hz, q_10, q_rs, x1]
      · rw [eh, if_pos hz, x2]; rfl
    · refine ⟨_, _, fun fu => ?_, ?_, hN1, hD1, hS1, z_KP.w hK1 rfl rfl⟩
      · rw [f_X0_letRoomsWait_L2, if_neg hnr]
        unfold f_X0_isMultiple
        simp (disch := omega) only [q_rg, hw, q_m1n, if_false, q_s, e30, if_true, hp, p0, q_rm, Option.bind_some, hz, q_rs]
      · rw [eh, if_neg hz]
theorem s_rooms {n k : Nat} {M : z_M} : ∀ (m r fu fv : Nat) (h : z_H) (g : Nat → Int32), r + m = n → m < fu → m < fv → z_St n k h → z_SE M h → z_Dy n k h → z_NE k g h → ∃ (h2 : z_H) (g2 : Nat → Int32), f_X0_letRoomsWait_L2 fu (nI r) h = some h2 ∧ f_X5_minuteOn_L2 fv (nI r) (z_mR M 6 g) = some (z_mR M 6 g2) ∧ z_NE k g2 h2 ∧ z_Dy n k h2 ∧ z_ST h h2 ∧ z_KP n k h h2
  | 0, r, fu + 1, fv + 1, h, g, hm, _, _, hSt, hSE, hDy, hNE => by
    have hn := hSt.1
    have s3 := hSt.2.2.1
    refine ⟨h, g, ?_, ?_, hNE, hDy, z_ST.rf h, z_KP.rf n k h⟩
    · rw [f_X0_letRoomsWait_L2, if_pos (by rw [s3, q_le (by omega) (by omega)]; omega)]
    · rw [f_X5_minuteOn_L2, if_pos (by rw [q_m1r, hSE.1, s3, q_le (by omega) (by omega)]; omega)]
  | m + 1, r, fu + 1, fv + 1, h, g, hm, h1, h2, hSt, hSE, hDy, hNE => by
    have hn := hSt.1
    have s3 := hSt.2.2.1
    have hr : r < n := by omega
    have nw := hNE.2.2.2.2.2.2.2.1 r (by omega)
    have hnr : ¬ (h.1 1 ≤ nI r) := by rw [s3, q_le (by omega) (by omega)]; omega
    rcases hDy.2.1 r hr with hw | ⟨a, ha, hw⟩
    · obtain ⟨x2, y2, a1, a2, a3⟩ := s_rooms m (r + 1) fu fv h g (by omega) (by omega) (by omega) hSt hSE hDy hNE
      refine ⟨x2, y2, ?_, ?_, a3⟩
      · rw [f_X0_letRoomsWait_L2, if_neg hnr, q_rg (by omega), if_pos hw, q_s]; exact a1
      · rw [f_X5_minuteOn_L2, q_m1r, hSE.1, if_neg hnr, q_m6, q_a7 (by omega)]
        show (if g (7 + r) = -1 then _ else _) = _
        rw [if_pos (nw.trans hw), q_s]; exact a2
    · obtain ⟨h3, g3, b1, b2, b3, b4, b5, b6⟩ := s_hold hSt hSE hDy hNE hr ha hw
      obtain ⟨x2, y2, a1, a2, a3, a4, a5, a6⟩ := s_rooms m (r + 1) fu fv h3 g3 (by omega) (by omega) (by omega) (hSt.mv b5) (hSE.mv b5) b4 b3
      refine ⟨x2, y2, ?_, ?_, a3, a4, b5.tr a5, b6.tr a6⟩
      · rw [b1]; exact a1
      · rw [f_X5_minuteOn_L2, q_m1r, hSE.1, if_neg hnr, q_m6, q_a7 (by omega)]
        show (if g (7 + r) = -1 then _ else _) = _
        rw [if_neg (by rw [nw, hw]; exact q_m1 (by omega)), b2, q_s]; exact a2
