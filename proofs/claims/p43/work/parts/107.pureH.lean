-- ===== wires crossed; the best to cross with =====
def g_sw (Q : z_Q) (a b : Nat) : z_Q := z_qR (z_qR Q a (upd (Q.2.1.2 a) 4 (Q.2.1.2 b 4))) b (upd ((z_ur Q.2.1.2 a (upd (Q.2.1.2 a) 4 (Q.2.1.2 b 4))) b) 4 (Q.2.1.2 a 4))
theorem p_crossQ {n a b : Nat} {Q : z_Q} (hn : n ≤ 12) (e : Q.2.1.1 = n) (ha : a < n) (hb : b < n) : f_X5_cross Q (nI a) (nI b) = some (g_sw Q a b) := by
  unfold f_X5_cross g_sw
  simp (disch := omega) only [e, q_ai, Option.bind_some, q_w46]
theorem q_hR3 {h : z_H} {a b : Nat} {x y : Int32} : z_hR (z_hR h 3 (upd (h.2.1 3) a x)) 3 (upd ((z_hR h 3 (upd (h.2.1 3) a x)).2.1 3) b y) = z_hR h 3 (upd (upd (h.2.1 3) a x) b y) := by
  unfold z_hR
  refine Prod.ext rfl (Prod.ext ?_ rfl)
  show z_ur (z_ur h.2.1 3 (upd (h.2.1 3) a x)) 3 (upd (z_ur h.2.1 3 (upd (h.2.1 3) a x) 3) b y) = z_ur h.2.1 3 (upd (upd (h.2.1 3) a x) b y)
  rw [q_uu, q_ur2]
theorem z_I.sw {n k a b : Nat} {h : z_H} {Q : z_Q} (H : z_I n k h Q) (ha : a < n) (hb : b < n) : z_I n k (z_hR h 3 (z_sw (h.2.1 3) a b)) (g_sw Q a b) := by
  obtain ⟨hSt, hDy, hF, s, R, V, c, L, rfl, hQ⟩ := H
  refine ⟨hSt.sw ha hb, hDy, hF, _, _, _, _, _, rfl, ?_⟩
  have x1 := (hQ.rw a (h.2.1 3 b)).2.1
  have x2 := (x1.rw b (h.2.1 3 a)).2.1
  rw [q_hR3] at x2
  have ea : R a 4 = h.2.1 3 a := (hQ.2.1 a ha).2.2.2.2.1
  have eb : R b 4 = h.2.1 3 b := (hQ.2.1 b hb).2.2.2.2.1
  show z_QR n k (z_hR h 3 (upd (upd (h.2.1 3) a (h.2.1 3 b)) b (h.2.1 3 a))) s (z_ur (z_ur R a (upd (R a) 4 (R b 4))) b (upd (z_ur R a (upd (R a) 4 (R b 4)) b) 4 (R a 4))) V c L
  rw [ea, eb]
  exact x2
theorem z_sw2 (w : Nat → Int32) (a b : Nat) : z_sw (z_sw w a b) a b = w := funext fun i => by
  rw [z_sw.at, z_sw.at]
  congr 1
  by_cases e1 : i = b
  · rw [if_pos e1]
    by_cases e2 : a = b
    · rw [if_pos e2]; omega
    · rw [if_neg e2, if_pos rfl, e1]
  · rw [if_neg e1]
    by_cases e2 : i = a
    · rw [if_pos e2, if_pos rfl, e2]
    · rw [if_neg e2, if_neg e1, if_neg e2]
theorem q_hRid {h : z_H} {g : Nat → Int32} (e : g = h.2.1 3) : ∀ g0, z_hR (z_hR h 3 g0) 3 g = h := fun g0 => by
  unfold z_hR
  refine Prod.ext rfl (Prod.ext ?_ rfl)
  show z_ur (z_ur h.2.1 3 g0) 3 g = h.2.1
  rw [q_ur2, e]
  refine funext fun j => ?_
  by_cases ee : j = 3
  · rw [ee, q_uu]
  · rw [q_uo ee]
theorem q_sw2 (h : z_H) (a b : Nat) : z_hR (z_hR h 3 (z_sw (h.2.1 3) a b)) 3 (z_sw ((z_hR h 3 (z_sw (h.2.1 3) a b)).2.1 3) a b) = h := by
  refine q_hRid ?_ _
  show z_sw (z_ur h.2.1 3 (z_sw (h.2.1 3) a b) 3) a b = _
  rw [q_uu]
  exact z_sw2 _ a b
def z_gd (n r X0 : Nat) (Q : z_Q) (x : Int32) : Prop := ∃ b, b < n ∧ b ≠ r ∧ x = nI b ∧ ∃ (Y : Nat) (Q2 : z_Q), X0 < Y ∧ Y ≤ 240 ∧ g_sum 40 0 (g_sw Q r b) = some (nI Y, Q2)
theorem p_bestL {n k r X0 : Nat} (hr : r < n) {h : z_H} {Q : z_Q} (H : z_I n k h Q) : ∀ (m o fu X : Nat) (u3 : Int32), o + m = n → m < fu → X0 ≤ X → X ≤ 240 → (u3 = -1 ∨ z_gd n r X0 Q u3) → ∃ x, (x = -1 ∨ z_gd n r X0 Q x) ∧ ∀ T : z_H, ∃ T2 : z_H, f_X4_bestToCross_L28 fu (nI r) (nI X) u3 (nI o) (h, T) = some (x, (h, T2))
  | 0, o, fu + 1, X, u3, hm, _, _, _, hu => by
    have hn := H.1.1
    have s3 := H.1.2.2.1
    refine ⟨u3, hu, fun T => ⟨T, ?_⟩⟩
    rw [f_X4_bestToCross_L28]
    show (if h.1 1 ≤ nI o then _ else _) = _
    rw [if_pos (by rw [s3, q_le (by omega) (by omega)]; omega)]
  | m + 1, o, fu + 1, X, u3, hm, hf, hX0, hX, hu => by
    have hn := H.1.1
    have s3 := H.1.2.2.1
    have hno : ¬ h.1 1 ≤ nI o := by rw [s3, q_le (by omega) (by omega)]; omega
    by_cases e : o = r
    · obtain ⟨x, x1, x2⟩ := p_bestL (X0 := X0) hr H m (o + 1) fu X u3 (by omega) (by omega) hX0 hX hu
      refine ⟨x, x1, fun T => ?_⟩
      obtain ⟨T2, x3⟩ := x2 T
      refine ⟨T2, ?_⟩
      rw [f_X4_bestToCross_L28]
      show (if h.1 1 ≤ nI o then _ else if nI o = nI r then _ else _) = _
      rw [if_neg hno, if_pos (by rw [e]), q_s]
      exact x3
    · obtain ⟨Y, Q2, y1, y2, y3⟩ := p_serveT (M := 40) (by omega) (H.sw hr (show o < n by omega))
      have st : ∀ T : z_H, ∃ T2 : z_H, f_X4_bestToCross_L28 (fu + 1) (nI r) (nI X) u3 (nI o) (h, T) = (if (nI Y : Int32) ≤ nI X then f_X4_bestToCross_L28 fu (nI r) (nI X) u3 (nI (o + 1)) (h, T2) else f_X4_bestToCross_L28 fu (nI r) (nI Y) (nI o) (nI (o + 1)) (h, T2)) := fun T => by
        obtain ⟨t, t1, t2⟩ := q_copyH T h
        obtain ⟨T2, d⟩ := y3 h (z_hR t 3 (z_sw (t.2.1 3) r o)) ((H.eq t2).sw hr (by omega))
        refine ⟨T2, ?_⟩
        rw [f_X4_bestToCross_L28]
        show (if h.1 1 ≤ nI o then _ else if nI o = nI r then _ else (f_X0_copyFrom T h).bind _) = _
        rw [if_neg hno, if_neg (by rw [q_eq (by omega) (by omega)]; exact e), t1, Option.bind_some, q_swapC (by omega) (by omega)]
        show (f_X4_serveInTrial (h, z_hR t 3 (z_sw (t.2.1 3) r o)) (nI 40)).bind _ = _
        rw [d, Option.bind_some, q_s]
      by_cases hle : Y ≤ X
      · obtain ⟨x, x1, x2⟩ := p_bestL (X0 := X0) hr H m (o + 1) fu X u3 (by omega) (by omega) hX0 hX hu
        refine ⟨x, x1, fun T => ?_⟩
        obtain ⟨T2, d⟩ := st T
        obtain ⟨T3, x3⟩ := x2 T2
        refine ⟨T3, ?_⟩
        rw [d, if_pos (by rw [q_le (by omega) (by omega)]; exact hle)]
        exact x3
      · obtain ⟨x, x1, x2⟩ := p_bestL (X0 := X0) hr H m (o + 1) fu Y (nI o) (by omega) (by omega) (by omega) (by omega) (Or.inr ⟨o, by omega, e, rfl, Y, Q2, by omega, by omega, y1⟩)
        refine ⟨x, x1, fun T => ?_⟩
        obtain ⟨T2, d⟩ := st T
        obtain ⟨T3, x3⟩ := x2 T2
        refine ⟨T3, ?_⟩
        rw [d, if_neg (by rw [q_le (by omega) (by omega)]; exact hle)]
        exact x3
theorem p_best {n k r : Nat} (hr : r < n) {h : z_H} {Q : z_Q} (H : z_I n k h Q) : ∃ (X0 : Nat) (Q1 : z_Q) (x : Int32), X0 ≤ 240 ∧ g_sum 40 0 Q = some (nI X0, Q1) ∧ (x = -1 ∨ z_gd n r X0 Q x) ∧ ∀ T : z_H, ∃ T2 : z_H, f_X4_bestToCross (h, T) (nI r) = some (x, (h, T2)) := by
  obtain ⟨X0, Q1, a, b, c⟩ := p_serveT (M := 40) (by omega) H
  have hn := H.1.1
  obtain ⟨x, x1, x2⟩ := p_bestL (X0 := X0) hr H n 0 z_FU X0 (-1) (by omega) (by unfold z_FU; omega) (Nat.le_refl _) (by omega) (Or.inl rfl)
  refine ⟨X0, Q1, x, by omega, a, x1, fun T => ?_⟩
  obtain ⟨t, t1, t2⟩ := q_copyH T h
  obtain ⟨T2, d⟩ := c h t (H.eq t2)
  obtain ⟨T3, x3⟩ := x2 T2
  refine ⟨T3, ?_⟩
  unfold f_X4_bestToCross
  rw [q_rqR hr hn H.1.2.2.1, Option.bind_some]
  show (f_X0_copyFrom T h).bind _ = _
  rw [t1, Option.bind_some]
  show (f_X4_serveInTrial (h, t) (nI 40)).bind _ = _
  rw [d, Option.bind_some]
  show (f_X4_bestToCross_L28 z_FU (nI r) (nI X0) (-1) (nI 0) (h, T2)).bind _ = _
  rw [x3]; rfl
