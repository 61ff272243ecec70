-- ===== what a number chooses, in all =====
theorem q_iF {a b : Nat} (h : a < 1000) (hb : b < 1000) (e : a ≠ b) : (nI a = nI b) = False := eq_false (by rw [q_eq h hb]; exact e)
theorem p_passC {n k M : Nat} (hM : M ≤ 60) : ∀ (m i fu fv A : Nat) (h : z_H) (Q : z_Q), i + m = M → m < fu → m < fv → z_I n k h Q → ∃ (X : Nat) (h2 : z_H) (Q2 : z_Q), (∀ T : z_H, f_X4_pass_L8 fu (nI M) (nI A) (nI i) (h, T) = some (nI X, (h2, T))) ∧ f_X5_pass__L4 fv (nI M) (nI A) (nI i) Q = some (nI X, Q2) ∧ z_I n k h2 Q2
  | 0, i, fu + 1, fv + 1, A, h, Q, hm, _, _, H => ⟨A, h, Q, fun T => by
    rw [f_X4_pass_L8, if_pos (by rw [q_le (by omega) (by omega)]; omega)], by
    rw [f_X5_pass__L4]; (try dsimp only); rw [if_pos (by rw [q_le (by omega) (by omega)]; omega)], H⟩
  | m + 1, i, fu + 1, fv + 1, A, h, Q, hm, hf, hv, H => by
    obtain ⟨x, h2, Q2, a1, a2, a3, a4, a5, a6⟩ := p_minute H
    obtain ⟨y, z, b1, b2, b3, -⟩ := a6.2.1
    obtain ⟨X, h3, Q3, c1, c2, c3⟩ := p_passC hM m (i + 1) fu fv (A + y) h2 Q2 (by omega) (by omega) (by omega) a3
    refine ⟨X, h3, Q3, fun T => ?_, ?_, c3⟩
    · rw [f_X4_pass_L8, if_neg (by rw [q_le (by omega) (by omega)]; omega)]
      show (f_X0_letMinuteGoBy h).bind _ = _
      rw [a1, Option.bind_some]
      show f_X4_pass_L8 fu (nI M) (nI A + x) (nI i + 1) (h2, T) = _
      rw [b2, nI_add, q_s]; exact c1 T
    · rw [f_X5_pass__L4]; (try dsimp only); rw [if_neg (by rw [q_le (by omega) (by omega)]; omega), a2, Option.bind_some]
      show f_X5_pass__L4 fv (nI M) (nI A + x) (nI i + 1) Q2 = _
      rw [b2, nI_add, q_s]; exact c2
theorem a_pass {n k M : Nat} (h1 : 1 ≤ M) (hM : M ≤ 60) {h : z_H} {Q : z_Q} (H : z_I n k h Q) : ∃ (x : Int32) (h2 : z_H) (Q2 : z_Q), (∀ T : z_H, f_X4_pass (h, T) (nI M) = some (x, (h2, T))) ∧ f_X5_pass_ Q (nI M) = some (x, Q2) ∧ z_I n k h2 Q2 := by
  obtain ⟨X, h2, Q2, a1, a2, a3⟩ := p_passC hM M 0 z_FU z_FU 0 h Q (by omega) (by unfold z_FU; omega) (by unfold z_FU; omega) H
  have a2 : f_X5_pass__L4 z_FU (nI M) 0 0 Q = some (nI X, Q2) := a2
  refine ⟨nI X, h2, Q2, fun T => ?_, ?_, a3⟩
  · have a1 : f_X4_pass_L8 z_FU (nI M) 0 0 (h, T) = some (nI X, (h2, T)) := a1 T
    unfold f_X4_pass
    rw [q_rqM h1 hM, Option.bind_some, a1]; rfl
  · unfold f_X5_pass_
    rw [a2]; rfl
theorem a_putUp {n k r : Nat} {h : z_H} {s : Nat → Int32} {R V : Nat → Nat → Int32} {c : Nat} {L : Nat → Int32} (H : z_I n k h (s, (n, R), (k, V), (c, L))) (hQ : z_QR n k h s R V c L) (hr : r < n) : (f_X5_place (s, (n, R), (k, V), (c, L)) (nI r) = some (-1) ∧ ∀ T : z_H, x_X4_putUp (h, T) (nI r) = some 1) ∨ ∃ (j : Nat) (h2 : z_H) (L2 : Nat → Int32), j < c ∧ f_X5_place (s, (n, R), (k, V), (c, L)) (nI r) = some (nI j) ∧ (∀ T : z_H, x_X4_putUp (h, T) (nI r) = none ∧ f_X4_putUp (h, T) (nI r) = some (nI (c - 1), (h2, T))) ∧ f_X5_up (s, (n, R), (k, V), (c, L)) (nI r) = some (s, (n, R), (k, V), (c - 1, L2)) ∧ z_I n k h2 (s, (n, R), (k, V), (c - 1, L2)) := by
  obtain ⟨hSt, hDy, hF, -⟩ := id H
  obtain ⟨d1, d2, ⟨c', l1, l2, l3, l4⟩, d4, d5⟩ := id hDy
  obtain ⟨⟨q0, q1, q2, q3, q4, q5⟩, qr, qv, qc, ql, qL⟩ := id hQ
  have hn := hSt.1
  have hcc : c' = c := by
    have e := l2.symm.trans ql
    rw [q_eq (by omega) (by omega)] at e
    exact e
  subst hcc
  have rq := fun T : z_H => q_rqR hr hn hSt.2.2.1 (T := T)
  have xq : ∀ T : z_H, x_X4_requireRoom (h, T) (nI r) = none := fun T => by
    unfold x_X4_requireRoom
    rw [if_neg (q_n0 (by omega))]
    show (if nI r < h.1 1 then none else some 2) = _
    rw [hSt.2.2.1, if_pos (by rw [q_lt (by omega) (by omega)]; exact hr)]
  have hplQ : f_X5_place (s, (n, R), (k, V), (c', L)) (nI r) = some (z_pl h.2.2.1.2 (nI r) c' 0) := by
    rw [p_place qc]
    exact congrArg some (z_pl_cg c' 0 (fun j _ h2 => qL j (by omega)))
  have hpo : f_X1_placeOf h.2.2.1 (nI r) = some (z_pl h.2.2.1.2 (nI r) c' 0) := q_placeOf l2 (by omega)
  have xe : ∀ T : z_H, x_X4_putUp (h, T) (nI r) = if z_pl h.2.2.1.2 (nI r) c' 0 = -1 then some 1 else none := fun T => by
    unfold x_X4_putUp
    rw [xq, rq, Option.bind_some]
    show z_or none ((f_X1_placeOf h.2.2.1 (nI r)).bind (fun x13 => (if x13 = (-1) then some 1 else none))) = _
    rw [hpo, Option.bind_some]; rfl
  rcases q_plF (q := h.2.2.1.2) (v := nI r) qc with q | ⟨j, j1, j2, j3⟩
  · exact Or.inl ⟨by rw [hplQ, q], fun T => by rw [xe, if_pos q]⟩
  · have hrm : f_X1_remove h.2.2.1 (nI r) = some (nI (c' - 1), z_sh h.2.2.1.2 j (c' - 1)) := q_remove (by omega) l2 j1 j2 (fun i hi hij e => hij (l4 i j hi j1 (e.trans j2.symm)))
    obtain ⟨L2, u1, u2⟩ := p_up (n := n) (k := k) (s := s) (R := R) (V := V) (p := j) qc j1 ((qL j j1).trans j2) (fun i hi hij e => hij (l4 i j hi j1 ((qL i hi).symm.trans (e.trans j2.symm))))
    refine Or.inr ⟨j, z_hL h (nI (c' - 1), z_sh h.2.2.1.2 j (c' - 1)), L2, j1, by rw [hplQ, j3], fun T => ⟨by rw [xe, if_neg (by rw [j3]; exact q_m1 (by omega))], ?_⟩, u1, hSt, ⟨d1, d2, z_Li.rm l1 l3 l4, d4, d5⟩, hF, _, _, _, _, _, rfl, hQ.ln (by omega) rfl (fun p hp => (u2 p hp).trans (z_sh_cg qL p hp))⟩
    unfold f_X4_putUp
    rw [rq, Option.bind_some]
    show (f_X1_placeOf h.2.2.1 (nI r)).bind (fun x13 => (if x13 = (-1) then none else (f_X1_remove h.2.2.1 (nI r)).bind (fun x38 => some (x38.1, ((z_hL h x38), T))))) = _
    rw [hpo, Option.bind_some, if_neg (by rw [j3]; exact q_m1 (by omega)), hrm]; rfl
theorem q_rech {v c : Nat} (hv : v ≤ 500) {h T : z_H} (hc : h.1 2 = nI c) : f_X4_recharge (h, T) (nI v) = some (nI c, (z_hS h 2 (nI v), T)) := by
  have w : f_X4_isWithin (nI v) 0 500 = 1 := q_wi1 (lo := 0) (hi := 500) (by omega) hv (by omega)
  unfold f_X4_recharge
  rw [w, if_neg (by decide)]
  show some (h.1 2, _) = _
  rw [hc]
theorem p_act {n k : Nat} {h : z_H} {Q : z_Q} (H : z_I n k h Q) (v : Int32) : ∃ (n2 k2 : Nat) (h2 : z_H) (Q2 : z_Q), n ≤ n2 ∧ 1 ≤ n2 ∧ k ≤ k2 ∧ z_I n2 k2 h2 Q2 ∧ ∀ T : z_H, f_L_act (h, T) Q v = some (1, (h2, T), Q2) := by
  obtain ⟨hSt, hDy, hF, s, R, V, c, L, rfl, hQ⟩ := id H
  have hn := hSt.1
  have hk := hSt.2.1
  obtain ⟨b, hb, eb⟩ : ∃ a, a < 16 ∧ f_L_below v 16 = some (nI a) := p_below v (d := 16) (by omega) (by omega)
  by_cases hadd : n = 0 ∨ b = 0
  · obtain ⟨x, hx, ex⟩ : ∃ a, a < 6 ∧ f_L_below (v >>> (4 &&& 31)) 6 = some (nI a) := p_below _ (d := 6) (by omega) (by omega)
    obtain ⟨y, hy, ey⟩ : ∃ a, a < 9 ∧ f_L_below (v >>> (6 &&& 31)) 9 = some (nI a) := p_below _ (d := 9) (by omega) (by omega)
    obtain ⟨z, hz, ez⟩ : ∃ a, a < 9 ∧ f_L_below (v >>> (8 &&& 31)) 9 = some (nI a) := p_below _ (d := 9) (by omega) (by omega)
    by_cases h12 : n < 12
    · have f12 : ((12 : Int32) ≤ nI n) = False := eq_false (by rw [show (12 : Int32) = nI 12 from rfl, q_le (by omega) (by omega)]; omega)
      have f12b : (12 < n) = False := eq_false (by omega)
      obtain ⟨h2, a1, a2⟩ := a_room H h12 (a := x) (b := y + 1) (c := z + 1) (by omega) ⟨by omega, by omega⟩ ⟨by omega, by omega⟩ (g := upd (upd (upd (upd (upd (upd (fun _ => 0) 0 (nI x)) 1 (nI (y + 1))) 2 (nI (z + 1))) 3 (-1)) 4 (nI n)) 5 0) (by simp (disch := omega) only [q_un, q_us]) (by simp (disch := omega) only [q_un, q_us]) (by simp (disch := omega) only [q_un, q_us]) (by simp (disch := omega) only [q_un, q_us]) (by simp (disch := omega) only [q_un, q_us]) (by simp (disch := omega) only [q_un, q_us])
      refine ⟨n + 1, k, h2, _, by omega, by omega, Nat.le_refl _, a2, fun T => ?_⟩
      obtain ⟨t1, t2⟩ := a1 T
      unfold f_L_act
      dsimp only
      by_cases hn0 : n = 0
      · rw [eb, Option.bind_some, if_pos (show nI n = 0 by rw [hn0]; rfl)]
        simp (disch := omega) only [Option.bind_some, if_true, ex, ey, ez, q_v06, q_v16, q_v26, q_w26, q_w46, q_w56, q_1p, f12, f12b, if_false, q_10, q_un, q_us, t1, t2, reduceCtorEq, q_bo1]
      · have e : b = 0 := by omega
        rw [eb, Option.bind_some, if_neg (show ¬ nI n = 0 by rw [show (0 : Int32) = nI 0 from rfl, q_eq (by omega) (by omega)]; exact hn0), if_pos (show nI b = 0 by rw [e]; rfl)]
        simp (disch := omega) only [Option.bind_some, if_true, ex, ey, ez, q_v06, q_v16, q_v26, q_w26, q_w46, q_w56, q_1p, f12, f12b, if_false, q_10, q_un, q_us, t1, t2, reduceCtorEq, q_bo1]
    · have en : n = 12 := by omega
      subst en
      have f12 : ((12 : Int32) ≤ nI 12) = True := eq_true (by decide)
      have fz : (nI 12 = 0) = False := eq_false (by decide)
      refine ⟨12, k, h, _, by omega, by omega, Nat.le_refl _, H, fun T => ?_⟩
      have t2 := a_room12 (T := T) H (a := x) (b := y + 1) (c := z + 1) (by omega) ⟨by omega, by omega⟩ ⟨by omega, by omega⟩
      unfold f_L_act
      have e : b = 0 := by omega
      dsimp only
      rw [eb, Option.bind_some, if_neg (show ¬ nI 12 = 0 by decide), if_pos (show nI b = 0 by rw [e]; rfl)]
      simp (disch := omega) only [Option.bind_some, if_true, ex, ey, ez, q_v06, q_v16, q_v26, q_w26, q_w46, q_w56, q_1p, f12, if_false, q_un, q_us, t2, q_bo1]
  · have hn1 : 1 ≤ n := by omega
    have fn : ¬ (nI n = 0) := by rw [show (0 : Int32) = nI 0 from rfl, q_eq (by omega) (by omega)]; omega
    obtain ⟨r, hr, er⟩ := p_below (v >>> (4 &&& 31)) (d := n) (by omega) (by omega)
    have hcases : b = 1 ∨ (b = 2 ∨ b = 3 ∨ b = 4 ∨ b = 5) ∨ (b = 6 ∨ b = 7) ∨ b = 8 ∨ b = 9 ∨ b = 10 ∨ b = 11 ∨ (b = 12 ∨ b = 13 ∨ b = 14 ∨ b = 15) := by omega
    rcases hcases with e | e | e | e | e | e | e | e
    · subst e
      obtain ⟨y, hy, ey⟩ : ∃ a, a < 4 ∧ f_L_below (v >>> (5 &&& 31)) 4 = some (nI a) := p_below _ (d := 4) (by omega) (by omega)
      by_cases h6 : k < 6
      · have f6 : ((6 : Int32) ≤ nI k) = False := eq_false (by rw [show (6 : Int32) = nI 6 from rfl, q_le (by omega) (by omega)]; omega)
        have f12b : (12 < k) = False := eq_false (by omega)
        obtain ⟨h2, a1, a2⟩ := a_serv H h6 (a := y + 1) ⟨by omega, by omega⟩ (g := upd (upd (upd (upd (upd (fun _ => 0) 0 (nI (y + 1))) 1 0) 2 (-1)) 3 (-1)) 4 0) (by simp (disch := omega) only [q_un, q_us]) (by simp (disch := omega) only [q_un, q_us]) (by simp (disch := omega) only [q_un, q_us]) (by simp (disch := omega) only [q_un, q_us])
        refine ⟨n, k + 1, h2, _, Nat.le_refl _, hn1, by omega, a2, fun T => ?_⟩
        obtain ⟨t1, t2⟩ := a1 T
        unfold f_L_act
        dsimp only
        rw [eb, Option.bind_some, if_neg fn, if_neg (show ¬ (nI 1 : Int32) = 0 by decide), er, Option.bind_some, if_pos (show (nI 1 : Int32) = 1 from rfl)]
        simp (disch := omega) only [Option.bind_some, ey, q_v05, q_w15, q_w25, q_w35, q_w45, q_1p, f6, f12b, if_false, if_true, q_10, t1, t2, reduceCtorEq, q_bo1]
      · have ek : k = 6 := by omega
        subst ek
        have f6 : ((6 : Int32) ≤ nI 6) = True := eq_true (by decide)
        refine ⟨n, 6, h, _, Nat.le_refl _, hn1, Nat.le_refl _, H, fun T => ?_⟩
        have t2 := a_serv6 (T := T) H (a := y + 1) ⟨by omega, by omega⟩
        unfold f_L_act
        dsimp only
        rw [eb, Option.bind_some, if_neg fn, if_neg (show ¬ (nI 1 : Int32) = 0 by decide), er, Option.bind_some, if_pos (show (nI 1 : Int32) = 1 from rfl)]
        simp (disch := omega) only [Option.bind_some, ey, q_1p, f6, if_true, t2, q_bo1]
    · obtain ⟨b', h2, Q2, a1, a2, a3, a4⟩ := a_ring H hr
      refine ⟨n, k, h2, Q2, Nat.le_refl _, hn1, Nat.le_refl _, a4, fun T => ?_⟩
      unfold f_L_act
      dsimp only
      rcases e with e | e | e | e
      · subst e
        rw [eb, Option.bind_some, if_neg fn, if_neg (show ¬ (nI 2 : Int32) = 0 by decide), er, Option.bind_some, if_neg (show ¬ (nI 2 : Int32) = 1 by decide), if_pos (show (nI 2 : Int32) = 2 from rfl)]
        simp only [a2 T, a3, Option.bind_some, if_true, q_bo1]
      · subst e
        rw [eb, Option.bind_some, if_neg fn, if_neg (show ¬ (nI 3 : Int32) = 0 by decide), er, Option.bind_some, if_neg (show ¬ (nI 3 : Int32) = 1 by decide), if_neg (show ¬ (nI 3 : Int32) = 2 by decide), if_pos (show (nI 3 : Int32) = 3 from rfl)]
        simp only [a2 T, a3, Option.bind_some, if_true, q_bo1]
      · subst e
        rw [eb, Option.bind_some, if_neg fn, if_neg (show ¬ (nI 4 : Int32) = 0 by decide), er, Option.bind_some, if_neg (show ¬ (nI 4 : Int32) = 1 by decide), if_neg (show ¬ (nI 4 : Int32) = 2 by decide), if_neg (show ¬ (nI 4 : Int32) = 3 by decide), if_pos (show (nI 4 : Int32) = 4 from rfl)]
        simp only [a2 T, a3, Option.bind_some, if_true, q_bo1]
      · subst e
        rw [eb, Option.bind_some, if_neg fn, if_neg (show ¬ (nI 5 : Int32) = 0 by decide), er, Option.bind_some, if_neg (show ¬ (nI 5 : Int32) = 1 by decide), if_neg (show ¬ (nI 5 : Int32) = 2 by decide), if_neg (show ¬ (nI 5 : Int32) = 3 by decide), if_neg (show ¬ (nI 5 : Int32) = 4 by decide), if_pos (show (nI 5 : Int32) = 5 from rfl)]
        simp only [a2 T, a3, Option.bind_some, if_true, q_bo1]
    · obtain ⟨y, hy, ey⟩ := p_below (v >>> (7 &&& 31)) (d := n) (by omega) (by omega)
      by_cases hry : r = y
      · refine ⟨n, k, h, _, Nat.le_refl _, hn1, Nat.le_refl _, H, fun T => ?_⟩
        unfold f_L_act
        dsimp only
        rcases e with e | e
        · subst e
          rw [eb, Option.bind_some, if_neg fn, if_neg (show ¬ (nI 6 : Int32) = 0 by decide), er, Option.bind_some, if_neg (show ¬ (nI 6 : Int32) = 1 by decide), if_neg (show ¬ (nI 6 : Int32) = 2 by decide), if_neg (show ¬ (nI 6 : Int32) = 3 by decide), if_neg (show ¬ (nI 6 : Int32) = 4 by decide), if_neg (show ¬ (nI 6 : Int32) = 5 by decide), if_pos (show (nI 6 : Int32) = 6 from rfl)]
          simp only [ey, hry, Option.bind_some, if_true]
        · subst e
          rw [eb, Option.bind_some, if_neg fn, if_neg (show ¬ (nI 7 : Int32) = 0 by decide), er, Option.bind_some, if_neg (show ¬ (nI 7 : Int32) = 1 by decide), if_neg (show ¬ (nI 7 : Int32) = 2 by decide), if_neg (show ¬ (nI 7 : Int32) = 3 by decide), if_neg (show ¬ (nI 7 : Int32) = 4 by decide), if_neg (show ¬ (nI 7 : Int32) = 5 by decide), if_neg (show ¬ (nI 7 : Int32) = 6 by decide), if_pos (show (nI 7 : Int32) = 7 from rfl)]
          simp only [ey, hry, Option.bind_some, if_true]
      · have H2 := H.sw hr hy
        have ec := p_crossQ (Q := (s, (n, R), (k, V), (c, L))) hn rfl hr hy
        have fr : (nI r = nI y) = False := q_iF (by omega) (by omega) hry
        have fg : (g_sw (s, (n, R), (k, V), (c, L)) r y).2.1.1 = n := rfl
        have fc : ∀ T : z_H, f_X4_cross (h, T) (nI r) (nI y) = some ((g_sw (s, (n, R), (k, V), (c, L)) r y).2.1.2 r 4, (z_hR h 3 (z_sw (h.2.1 3) r y), T)) := fun T => by
          unfold f_X4_cross
          rw [q_rqR hr hn hSt.2.2.1, Option.bind_some, q_rqR hy hn hSt.2.2.1, Option.bind_some, if_neg (by rw [fr]; exact id)]
          show some (z_rg ((f_X0_swapWires h (nI r) (nI y)).2.1 3) (nI r), (f_X0_swapWires h (nI r) (nI y), T)) = _
          rw [q_swapC (by omega) (by omega), q_rg (by omega)]
          have e1 : (z_hR h 3 (z_sw (h.2.1 3) r y)).2.1 3 r = (g_sw (s, (n, R), (k, V), (c, L)) r y).2.1.2 r 4 := by
            obtain ⟨-, -, -, s', R', V', c', L', e2, hQ2⟩ := H2
            rw [e2]
            exact (hQ2.2.1 r hr).2.2.2.2.1.symm
          rw [e1]
        refine ⟨n, k, _, _, Nat.le_refl _, hn1, Nat.le_refl _, H2, fun T => ?_⟩
        unfold f_L_act
        dsimp only
        rcases e with e | e
        · subst e
          rw [eb, Option.bind_some, if_neg fn, if_neg (show ¬ (nI 6 : Int32) = 0 by decide), er, Option.bind_some, if_neg (show ¬ (nI 6 : Int32) = 1 by decide), if_neg (show ¬ (nI 6 : Int32) = 2 by decide), if_neg (show ¬ (nI 6 : Int32) = 3 by decide), if_neg (show ¬ (nI 6 : Int32) = 4 by decide), if_neg (show ¬ (nI 6 : Int32) = 5 by decide), if_pos (show (nI 6 : Int32) = 6 from rfl)]
          simp (disch := omega) only [ey, fr, if_false, ec, fc T, fg, q_ai, Option.bind_some, if_true, q_bo1]
        · subst e
          rw [eb, Option.bind_some, if_neg fn, if_neg (show ¬ (nI 7 : Int32) = 0 by decide), er, Option.bind_some, if_neg (show ¬ (nI 7 : Int32) = 1 by decide), if_neg (show ¬ (nI 7 : Int32) = 2 by decide), if_neg (show ¬ (nI 7 : Int32) = 3 by decide), if_neg (show ¬ (nI 7 : Int32) = 4 by decide), if_neg (show ¬ (nI 7 : Int32) = 5 by decide), if_neg (show ¬ (nI 7 : Int32) = 6 by decide), if_pos (show (nI 7 : Int32) = 7 from rfl)]
          simp (disch := omega) only [ey, fr, if_false, ec, fc T, fg, q_ai, Option.bind_some, if_true, q_bo1]
    · subst e
      have r5 := (hQ.2.1 r hr).2.2.2.2.2
      rcases hSt.2.2.2.2.2.2.2.2.2.1 r hr with q | q
      · have H2 := H.ct hr (v := 1) (Or.inr rfl)
        obtain ⟨x, x1, x2⟩ := a_cutN H2
        refine ⟨n, k, _, _, Nat.le_refl _, hn1, Nat.le_refl _, H2, fun T => ?_⟩
        obtain ⟨t1, t2, t3⟩ := (a_cut0 (T := T) H hr).1 q
        rw [x1, Option.bind_some] at t3
        unfold f_L_act
        dsimp only
        rw [eb, Option.bind_some, if_neg fn, if_neg (show ¬ (nI 8 : Int32) = 0 by decide), er, Option.bind_some, if_neg (show ¬ (nI 8 : Int32) = 1 by decide), if_neg (show ¬ (nI 8 : Int32) = 2 by decide), if_neg (show ¬ (nI 8 : Int32) = 3 by decide), if_neg (show ¬ (nI 8 : Int32) = 4 by decide), if_neg (show ¬ (nI 8 : Int32) = 5 by decide), if_neg (show ¬ (nI 8 : Int32) = 6 by decide), if_neg (show ¬ (nI 8 : Int32) = 7 by decide), if_pos (show (nI 8 : Int32) = 8 from rfl)]
        simp (disch := omega) only [q_ai, Option.bind_some, r5.trans q, if_true, q_w56, t1, reduceCtorEq, if_false, t3, z_qR, x2, q_10, q_bo1]
      · refine ⟨n, k, h, _, Nat.le_refl _, hn1, Nat.le_refl _, H, fun T => ?_⟩
        obtain ⟨t1, -, -⟩ := (a_cut0 (T := T) H hr).2 q
        have e5 := r5.trans q
        have eu : z_ur R r (upd (R r) 5 1) = R := by
          have x := q_uself (R r) 5
          rw [e5] at x
          rw [x, q_urs]
        unfold f_L_act
        dsimp only
        rw [eb, Option.bind_some, if_neg fn, if_neg (show ¬ (nI 8 : Int32) = 0 by decide), er, Option.bind_some, if_neg (show ¬ (nI 8 : Int32) = 1 by decide), if_neg (show ¬ (nI 8 : Int32) = 2 by decide), if_neg (show ¬ (nI 8 : Int32) = 3 by decide), if_neg (show ¬ (nI 8 : Int32) = 4 by decide), if_neg (show ¬ (nI 8 : Int32) = 5 by decide), if_neg (show ¬ (nI 8 : Int32) = 6 by decide), if_neg (show ¬ (nI 8 : Int32) = 7 by decide), if_pos (show (nI 8 : Int32) = 8 from rfl)]
        simp (disch := omega) only [q_ai, Option.bind_some, e5, q_10, if_false, q_w56, t1, if_true, z_qR, eu, q_bo1]
    · subst e
      have r5 := (hQ.2.1 r hr).2.2.2.2.2
      rcases hSt.2.2.2.2.2.2.2.2.2.1 r hr with q | q
      · refine ⟨n, k, h, _, Nat.le_refl _, hn1, Nat.le_refl _, H, fun T => ?_⟩
        obtain ⟨-, t1, -⟩ := (a_cut0 (T := T) H hr).1 q
        have e5 := r5.trans q
        have eu : z_ur R r (upd (R r) 5 0) = R := by
          have x := q_uself (R r) 5
          rw [e5] at x
          rw [x, q_urs]
        unfold f_L_act
        dsimp only
        rw [eb, Option.bind_some, if_neg fn, if_neg (show ¬ (nI 9 : Int32) = 0 by decide), er, Option.bind_some, if_neg (show ¬ (nI 9 : Int32) = 1 by decide), if_neg (show ¬ (nI 9 : Int32) = 2 by decide), if_neg (show ¬ (nI 9 : Int32) = 3 by decide), if_neg (show ¬ (nI 9 : Int32) = 4 by decide), if_neg (show ¬ (nI 9 : Int32) = 5 by decide), if_neg (show ¬ (nI 9 : Int32) = 6 by decide), if_neg (show ¬ (nI 9 : Int32) = 7 by decide), if_neg (show ¬ (nI 9 : Int32) = 8 by decide), if_pos (show (nI 9 : Int32) = 9 from rfl)]
        simp (disch := omega) only [q_ai, Option.bind_some, e5, q_01, if_false, q_w56, t1, if_true, z_qR, eu, q_bo1]
      · have H2 := H.ct hr (v := 0) (Or.inl rfl)
        obtain ⟨x, x1, x2⟩ := a_cutN H2
        refine ⟨n, k, _, _, Nat.le_refl _, hn1, Nat.le_refl _, H2, fun T => ?_⟩
        obtain ⟨t1, t2, t3⟩ := (a_cut0 (T := T) H hr).2 q
        rw [x1, Option.bind_some] at t3
        unfold f_L_act
        dsimp only
        rw [eb, Option.bind_some, if_neg fn, if_neg (show ¬ (nI 9 : Int32) = 0 by decide), er, Option.bind_some, if_neg (show ¬ (nI 9 : Int32) = 1 by decide), if_neg (show ¬ (nI 9 : Int32) = 2 by decide), if_neg (show ¬ (nI 9 : Int32) = 3 by decide), if_neg (show ¬ (nI 9 : Int32) = 4 by decide), if_neg (show ¬ (nI 9 : Int32) = 5 by decide), if_neg (show ¬ (nI 9 : Int32) = 6 by decide), if_neg (show ¬ (nI 9 : Int32) = 7 by decide), if_neg (show ¬ (nI 9 : Int32) = 8 by decide), if_pos (show (nI 9 : Int32) = 9 from rfl)]
        simp (disch := omega) only [q_ai, Option.bind_some, r5.trans q, if_true, q_w56, t2, reduceCtorEq, if_false, t3, z_qR, x2, q_10, q_bo1]
    · subst e
      obtain ⟨x, hx, ex⟩ : ∃ a, a < 2 ∧ f_L_below (v >>> (9 &&& 31)) 2 = some (nI a) := p_below _ (d := 2) (by omega) (by omega)
      have ey : ∃ y, y ≤ 500 ∧ (if nI x = 0 then some (501 : Int32) else some 30).bind (fun y506 => f_L_below (v >>> (5 &&& 31)) y506) = some (nI y) := by
        by_cases q : nI x = 0
        · obtain ⟨y, hy, ey⟩ : ∃ a, a < 501 ∧ f_L_below (v >>> (5 &&& 31)) 501 = some (nI a) := p_below _ (d := 501) (by omega) (by omega)
          exact ⟨y, by omega, by rw [if_pos q]; exact ey⟩
        · obtain ⟨y, hy, ey⟩ : ∃ a, a < 30 ∧ f_L_below (v >>> (5 &&& 31)) 30 = some (nI a) := p_below _ (d := 30) (by omega) (by omega)
          exact ⟨y, by omega, by rw [if_neg q]; exact ey⟩
      obtain ⟨y, hy, ey⟩ := ey
      obtain ⟨⟨ch, hch, hce⟩, d2⟩ := id hDy
      have hs1 := hQ.1.2.1.trans hce
      refine ⟨n, k, z_hS h 2 (nI y), (upd s 1 (nI y), (n, R), (k, V), (c, L)), Nat.le_refl _, hn1, Nat.le_refl _, ⟨hSt, ⟨⟨y, hy, rfl⟩, d2⟩, hF, _, _, _, _, _, rfl, hQ.st.2.1⟩, fun T => ?_⟩
      have t1 := q_rech hy (T := T) hce
      unfold f_L_act
      dsimp only
      rw [eb, Option.bind_some, if_neg fn, if_neg (show ¬ (nI 10 : Int32) = 0 by decide), er, Option.bind_some, if_neg (show ¬ (nI 10 : Int32) = 1 by decide), if_neg (show ¬ (nI 10 : Int32) = 2 by decide), if_neg (show ¬ (nI 10 : Int32) = 3 by decide), if_neg (show ¬ (nI 10 : Int32) = 4 by decide), if_neg (show ¬ (nI 10 : Int32) = 5 by decide), if_neg (show ¬ (nI 10 : Int32) = 6 by decide), if_neg (show ¬ (nI 10 : Int32) = 7 by decide), if_neg (show ¬ (nI 10 : Int32) = 8 by decide), if_neg (show ¬ (nI 10 : Int32) = 9 by decide), if_pos (show (nI 10 : Int32) = 10 from rfl)]
      rw [ex, Option.bind_some]
      by_cases q : nI x = 0
      · rw [if_pos q] at ey
        have ey : f_L_below (v >>> (5 &&& 31)) 501 = some (nI y) := ey
        simp only [q, if_true, Option.bind_some, ey, t1, hs1, z_qS, q_bo1]
      · rw [if_neg q] at ey
        have ey : f_L_below (v >>> (5 &&& 31)) 30 = some (nI y) := ey
        simp only [q, if_false, if_true, Option.bind_some, ey, t1, hs1, z_qS, q_bo1]
    · subst e
      rcases a_putUp H hQ hr with ⟨t1, t2⟩ | ⟨j, h2, L2, j1, t1, t2, t4, t5⟩
      · refine ⟨n, k, h, _, Nat.le_refl _, hn1, Nat.le_refl _, H, fun T => ?_⟩
        unfold f_L_act
        dsimp only
        rw [eb, Option.bind_some, if_neg fn, if_neg (show ¬ (nI 11 : Int32) = 0 by decide), er, Option.bind_some, if_neg (show ¬ (nI 11 : Int32) = 1 by decide), if_neg (show ¬ (nI 11 : Int32) = 2 by decide), if_neg (show ¬ (nI 11 : Int32) = 3 by decide), if_neg (show ¬ (nI 11 : Int32) = 4 by decide), if_neg (show ¬ (nI 11 : Int32) = 5 by decide), if_neg (show ¬ (nI 11 : Int32) = 6 by decide), if_neg (show ¬ (nI 11 : Int32) = 7 by decide), if_neg (show ¬ (nI 11 : Int32) = 8 by decide), if_neg (show ¬ (nI 11 : Int32) = 9 by decide), if_neg (show ¬ (nI 11 : Int32) = 10 by decide), if_pos (show (nI 11 : Int32) = 11 from rfl)]
        simp only [t1, Option.bind_some, q_mlt, if_true, t2 T, q_bo1]
      · have c12 := hQ.2.2.2.1
        refine ⟨n, k, h2, _, Nat.le_refl _, hn1, Nat.le_refl _, t5, fun T => ?_⟩
        obtain ⟨t2, t3⟩ := t2 T
        unfold f_L_act
        dsimp only
        rw [eb, Option.bind_some, if_neg fn, if_neg (show ¬ (nI 11 : Int32) = 0 by decide), er, Option.bind_some, if_neg (show ¬ (nI 11 : Int32) = 1 by decide), if_neg (show ¬ (nI 11 : Int32) = 2 by decide), if_neg (show ¬ (nI 11 : Int32) = 3 by decide), if_neg (show ¬ (nI 11 : Int32) = 4 by decide), if_neg (show ¬ (nI 11 : Int32) = 5 by decide), if_neg (show ¬ (nI 11 : Int32) = 6 by decide), if_neg (show ¬ (nI 11 : Int32) = 7 by decide), if_neg (show ¬ (nI 11 : Int32) = 8 by decide), if_neg (show ¬ (nI 11 : Int32) = 9 by decide), if_neg (show ¬ (nI 11 : Int32) = 10 by decide), if_pos (show (nI 11 : Int32) = 11 from rfl)]
        simp (disch := omega) only [t1, Option.bind_some, q_n0F, if_false, q_10, t4, t2, reduceCtorEq, t3, if_true, q_bo1]
    · obtain ⟨x, hx, ex⟩ : ∃ a, a < 8 ∧ f_L_below (v >>> (8 &&& 31)) 8 = some (nI a) := p_below _ (d := 8) (by omega) (by omega)
      have ey : ∃ y, y < 60 ∧ (if nI x = 0 then some (60 : Int32) else some 5).bind (fun y506 => f_L_below (v >>> (4 &&& 31)) y506) = some (nI y) := by
        by_cases q : nI x = 0
        · obtain ⟨y, hy, ey⟩ : ∃ a, a < 60 ∧ f_L_below (v >>> (4 &&& 31)) 60 = some (nI a) := p_below _ (d := 60) (by omega) (by omega)
          exact ⟨y, by omega, by rw [if_pos q]; exact ey⟩
        · obtain ⟨y, hy, ey⟩ : ∃ a, a < 5 ∧ f_L_below (v >>> (4 &&& 31)) 5 = some (nI a) := p_below _ (d := 5) (by omega) (by omega)
          exact ⟨y, by omega, by rw [if_neg q]; exact ey⟩
      obtain ⟨y, hy, ey⟩ := ey
      obtain ⟨w, h2, Q2, a1T, a2, a3⟩ := a_pass (M := y + 1) (by omega) (by omega) H
      refine ⟨n, k, h2, Q2, Nat.le_refl _, hn1, Nat.le_refl _, a3, fun T => ?_⟩
      unfold f_L_act
      dsimp only
      rcases e with e | e | e | e
      · subst e
        rw [eb, Option.bind_some, if_neg fn, if_neg (show ¬ (nI 12 : Int32) = 0 by decide), er, Option.bind_some, if_neg (show ¬ (nI 12 : Int32) = 1 by decide), if_neg (show ¬ (nI 12 : Int32) = 2 by decide), if_neg (show ¬ (nI 12 : Int32) = 3 by decide), if_neg (show ¬ (nI 12 : Int32) = 4 by decide), if_neg (show ¬ (nI 12 : Int32) = 5 by decide), if_neg (show ¬ (nI 12 : Int32) = 6 by decide), if_neg (show ¬ (nI 12 : Int32) = 7 by decide), if_neg (show ¬ (nI 12 : Int32) = 8 by decide), if_neg (show ¬ (nI 12 : Int32) = 9 by decide), if_neg (show ¬ (nI 12 : Int32) = 10 by decide), if_neg (show ¬ (nI 12 : Int32) = 11 by decide)]
        rw [ex, Option.bind_some]
        by_cases q : nI x = 0
        · rw [if_pos q] at ey
          have ey : f_L_below (v >>> (4 &&& 31)) 60 = some (nI y) := ey
          simp only [q, if_true, Option.bind_some, ey, q_1p, a1T T, a2, q_bo1]
        · rw [if_neg q] at ey
          have ey : f_L_below (v >>> (4 &&& 31)) 5 = some (nI y) := ey
          simp only [q, if_false, if_true, Option.bind_some, ey, q_1p, a1T T, a2, q_bo1]
      · subst e
        rw [eb, Option.bind_some, if_neg fn, if_neg (show ¬ (nI 13 : Int32) = 0 by decide), er, Option.bind_some, if_neg (show ¬ (nI 13 : Int32) = 1 by decide), if_neg (show ¬ (nI 13 : Int32) = 2 by decide), if_neg (show ¬ (nI 13 : Int32) = 3 by decide), if_neg (show ¬ (nI 13 : Int32) = 4 by decide), if_neg (show ¬ (nI 13 : Int32) = 5 by decide), if_neg (show ¬ (nI 13 : Int32) = 6 by decide), if_neg (show ¬ (nI 13 : Int32) = 7 by decide), if_neg (show ¬ (nI 13 : Int32) = 8 by decide), if_neg (show ¬ (nI 13 : Int32) = 9 by decide), if_neg (show ¬ (nI 13 : Int32) = 10 by decide), if_neg (show ¬ (nI 13 : Int32) = 11 by decide)]
        rw [ex, Option.bind_some]
        by_cases q : nI x = 0
        · rw [if_pos q] at ey
          have ey : f_L_below (v >>> (4 &&& 31)) 60 = some (nI y) := ey
          simp only [q, if_true, Option.bind_some, ey, q_1p, a1T T, a2, q_bo1]
        · rw [if_neg q] at ey
          have ey : f_L_below (v >>> (4 &&& 31)) 5 = some (nI y) := ey
          simp only [q, if_false, if_true, Option.bind_some, ey, q_1p, a1T T, a2, q_bo1]
      · subst e
        rw [eb, Option.bind_some, if_neg fn, if_neg (show ¬ (nI 14 : Int32) = 0 by decide), er, Option.bind_some, if_neg (show ¬ (nI 14 : Int32) = 1 by decide), if_neg (show ¬ (nI 14 : Int32) = 2 by decide), if_neg (show ¬ (nI 14 : Int32) = 3 by decide), if_neg (show ¬ (nI 14 : Int32) = 4 by decide), if_neg (show ¬ (nI 14 : Int32) = 5 by decide), if_neg (show ¬ (nI 14 : Int32) = 6 by decide), if_neg (show ¬ (nI 14 : Int32) = 7 by decide), if_neg (show ¬ (nI 14 : Int32) = 8 by decide), if_neg (show ¬ (nI 14 : Int32) = 9 by decide), if_neg (show ¬ (nI 14 : Int32) = 10 by decide), if_neg (show ¬ (nI 14 : Int32) = 11 by decide)]
        rw [ex, Option.bind_some]
        by_cases q : nI x = 0
        · rw [if_pos q] at ey
          have ey : f_L_below (v >>> (4 &&& 31)) 60 = some (nI y) := ey
          simp only [q, if_true, Option.bind_some, ey, q_1p, a1T T, a2, q_bo1]
        · rw [if_neg q] at ey
          have ey : f_L_below (v >>> (4 &&& 31)) 5 = some (nI y) := ey
          simp only [q, if_false, if_true, Option.bind_some, ey, q_1p, a1T T, a2, q_bo1]
      · subst e
        rw [eb, Option.bind_some, if_neg fn, if_neg (show ¬ (nI 15 : Int32) = 0 by decide), er, Option.bind_some, if_neg (show ¬ (nI 15 : Int32) = 1 by decide), if_neg (show ¬ (nI 15 : Int32) = 2 by decide), if_neg (show ¬ (nI 15 : Int32) = 3 by decide), if_neg (show ¬ (nI 15 : Int32) = 4 by decide), if_neg (show ¬ (nI 15 : Int32) = 5 by decide), if_neg (show ¬ (nI 15 : Int32) = 6 by decide), if_neg (show ¬ (nI 15 : Int32) = 7 by decide), if_neg (show ¬ (nI 15 : Int32) = 8 by decide), if_neg (show ¬ (nI 15 : Int32) = 9 by decide), if_neg (show ¬ (nI 15 : Int32) = 10 by decide), if_neg (show ¬ (nI 15 : Int32) = 11 by decide)]
        rw [ex, Option.bind_some]
        by_cases q : nI x = 0
        · rw [if_pos q] at ey
          have ey : f_L_below (v >>> (4 &&& 31)) 60 = some (nI y) := ey
          simp only [q, if_true, Option.bind_some, ey, q_1p, a1T T, a2, q_bo1]
        · rw [if_neg q] at ey
          have ey : f_L_below (v >>> (4 &&& 31)) 5 = some (nI y) := ey
          simp only [q, if_false, if_true, Option.bind_some, ey, q_1p, a1T T, a2, q_bo1]
