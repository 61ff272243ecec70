-- ===== minutes; the trial =====
def g_sum : Nat → Int32 → z_Q → Option (Int32 × z_Q)
  | 0, a, Q => some (a, Q)
  | m + 1, a, Q => (f_X5_pass Q).bind (fun x => g_sum m (a + x.1) x.2)
def g_it : Nat → z_Q → Option z_Q
  | 0, Q => some Q
  | m + 1, Q => (f_X5_pass Q).bind (fun x => g_it m x.2)
theorem z_I.eq {n k : Nat} {h t : z_H} {Q : z_Q} (E : z_EQ h t) (H : z_I n k h Q) : z_I n k t Q := by
  obtain ⟨hSt, hDy, hF, s, R, V, c, L, rfl, hQ⟩ := H
  have hn := hSt.1
  have hk := hSt.2.1
  refine ⟨hSt.eq E, hDy.eq hn hk E, fun j hj r hr e => ?_, s, R, V, c, L, rfl, ?_⟩
  · obtain ⟨e1, e2, e3, e4, e5, e6⟩ := E
    rw [e6 3 (by omega) j (by omega)] at e
    rw [e6 1 (by omega) j (by omega), e2 0 (by omega) r (by omega)]
    exact hF j hj r hr e
  · obtain ⟨e1, e2, e3, e4, e5, e6⟩ := E
    obtain ⟨⟨q0, q1, q2, q3, q4, q5⟩, qr, qv, qc, ql, qL⟩ := hQ
    refine ⟨⟨q0.trans (e1 0 (by omega)).symm, q1.trans (e1 2 (by omega)).symm, q2.trans (e1 3 (by omega)).symm, q3.trans (e1 4 (by omega)).symm, q4.trans (e1 5 (by omega)).symm, q5.trans (e1 6 (by omega)).symm⟩, fun i hi => ?_, fun j hj => ?_, qc, e3.trans ql, fun p hp => (qL p hp).trans (e4 p (by omega)).symm⟩
    · obtain ⟨r0, r1, r2, r3, r4, r5⟩ := qr i hi
      exact ⟨r0.trans (e2 0 (by omega) i (by omega)).symm, r1.trans (e2 1 (by omega) i (by omega)).symm, r2.trans (e2 2 (by omega) i (by omega)).symm, r3.trans (e2 5 (by omega) i (by omega)).symm, r4.trans (e2 3 (by omega) i (by omega)).symm, r5.trans (e2 4 (by omega) i (by omega)).symm⟩
    · obtain ⟨v0, v1, v2, v3, v4⟩ := qv j hj
      refine ⟨v0.trans (e6 0 (by omega) j (by omega)).symm, v1.trans (e6 1 (by omega) j (by omega)).symm, v2.trans (e6 2 (by omega) j (by omega)).symm, v3.trans (e6 3 (by omega) j (by omega)).symm, fun z => (v4 fun w => z ?_).trans (e6 4 (by omega) j (by omega)).symm⟩
      exact ⟨(e6 2 (by omega) j (by omega)).trans w.1, (e6 3 (by omega) j (by omega)).trans w.2⟩
theorem q_ad0 (x : Int32) : x + 0 = x := by grind
theorem q_self {x y : Int32} (h : x = x + y) : y = 0 := by grind
/-- with nobody waiting nobody more is served -/
theorem p_none {n k : Nat} : ∀ (m : Nat) (a : Int32) (h : z_H) (Q : z_Q), z_I n k h Q → (∀ i, i < n → h.2.1 5 i = -1) → ∃ Q2, g_sum m a Q = some (a, Q2)
  | 0, a, h, Q, _, _ => ⟨Q, rfl⟩
  | m + 1, a, h, Q, H, hw => by
    obtain ⟨x, h2, Q2, a1, a2, a3, a4, a5, a6⟩ := p_minute H
    obtain ⟨y, z, -, b2, b3, -⟩ := a6.2.1
    have hx : x = 0 := by
      rw [b2]
      refine q_self (x := h.1 3) ?_
      rw [← b3]
      exact (a5.2.2 hw).symm
    obtain ⟨Q3, c⟩ := p_none m a h2 Q2 a3 (fun i hi => a5.1 i hi (hw i hi))
    refine ⟨Q3, ?_⟩
    rw [g_sum, a2, Option.bind_some]
    show g_sum m (a + x) Q2 = _
    rw [hx, q_ad0]
    exact c
/-- the same minutes of a trial -/
theorem p_serve {n k M : Nat} (hM : M ≤ 60) : ∀ (m i fu A : Nat) (T0 : z_H) (Q : z_Q), i + m = M → m < fu → z_I n k T0 Q → ∃ (X : Nat) (Q2 : z_Q), g_sum m (nI A) Q = some (nI X, Q2) ∧ A ≤ X ∧ X ≤ A + 6 * m ∧ ∀ (h T : z_H), z_I n k T Q → ∃ T2 : z_H, f_X4_serveInTrial_L4 fu (nI M) (nI A) (nI i) (h, T) = some (nI X, (h, T2))
  | 0, i, fu + 1, A, T0, Q, hm, _, H0 => ⟨A, Q, rfl, Nat.le_refl _, by omega, fun h T H => ⟨T, by
    rw [f_X4_serveInTrial_L4, if_pos (by rw [q_le (by omega) (by omega)]; omega)]⟩⟩
  | m + 1, i, fu + 1, A, T0, Q, hm, hf, H0 => by
    obtain ⟨x, h2, Q2, a1, a2, a3, a4, a5, a6⟩ := p_minute H0
    obtain ⟨y, z, b1, b2, b3, -⟩ := a6.2.1
    have hk := H0.1.2.1
    obtain ⟨X, Q3, c1, c2, c3, c4⟩ := p_serve hM m (i + 1) fu (A + y) h2 Q2 (by omega) (by omega) a3
    have hg : g_sum (m + 1) (nI A) Q = some (nI X, Q3) := by
      rw [g_sum, a2, Option.bind_some]
      show g_sum m (nI A + x) Q2 = _
      rw [b2, nI_add]
      exact c1
    refine ⟨X, Q3, hg, by omega, by omega, fun h T H => ?_⟩
    have s1 := H.1.1
    have s3 := H.1.2.2.1
    obtain ⟨w, w1, w2⟩ := q_any s1 s3 n 0 z_FU (by omega) (by unfold z_FU; omega)
    have w1 : f_X0_isAnyoneWaiting T = some w := w1
    have hni : ¬ nI M ≤ nI i := by rw [q_le (by omega) (by omega)]; omega
    rcases w2 with ⟨e, e2⟩ | e
    · obtain ⟨Q4, d⟩ := p_none (m + 1) (nI A) T Q H (fun i hi => e2 i (by omega) hi)
      rw [hg] at d
      have d := congrArg Prod.fst (Option.some.inj d)
      refine ⟨T, ?_⟩
      rw [f_X4_serveInTrial_L4, if_neg hni, w1, Option.bind_some, if_pos e]
      exact congrArg (fun v => some (v, (h, T))) d.symm
    · obtain ⟨x', t2, Q2', a1', a2', a3', -, -, -⟩ := p_minute H
      rw [a2] at a2'
      have e3 := congrArg Prod.fst (Option.some.inj a2')
      have e4 := congrArg Prod.snd (Option.some.inj a2')
      have e3 : x = x' := e3
      have e4 : Q2 = Q2' := e4
      obtain ⟨T2, d⟩ := c4 h t2 (by rw [e4]; exact a3')
      refine ⟨T2, ?_⟩
      rw [f_X4_serveInTrial_L4, if_neg hni, w1, Option.bind_some, if_neg (by rw [e]; decide), a1', Option.bind_some]
      show f_X4_serveInTrial_L4 fu (nI M) (nI A + x') (nI i + 1) (h, t2) = _
      rw [← e3, b2, nI_add, q_s]
      exact d
theorem p_serveT {n k M : Nat} (hM : M ≤ 60) {T0 : z_H} {Q : z_Q} (H0 : z_I n k T0 Q) : ∃ (X : Nat) (Q2 : z_Q), g_sum M 0 Q = some (nI X, Q2) ∧ X ≤ 6 * M ∧ ∀ (h T : z_H), z_I n k T Q → ∃ T2 : z_H, f_X4_serveInTrial (h, T) (nI M) = some (nI X, (h, T2)) := by
  obtain ⟨X, Q2, a, b, c, d⟩ := p_serve hM M 0 z_FU 0 T0 Q (by omega) (by unfold z_FU; omega) H0
  refine ⟨X, Q2, a, by omega, fun h T H => ?_⟩
  obtain ⟨T2, e⟩ := d h T H
  have e : f_X4_serveInTrial_L4 z_FU (nI M) 0 0 (h, T) = some (nI X, (h, T2)) := e
  refine ⟨T2, ?_⟩
  unfold f_X4_serveInTrial
  rw [e]; rfl
theorem q_rqM {M : Nat} (h1 : 1 ≤ M) (h2 : M ≤ 60) : f_X4_requireMinutes (nI M) = some () := by
  unfold f_X4_requireMinutes f_X4_isWithin
  rw [if_neg (show ¬ nI M < 1 by rw [show (1 : Int32) = nI 1 from rfl, q_lt (by omega) (by omega)]; omega), if_neg (show ¬ (60 : Int32) < nI M by rw [q_i60 (by omega)]; omega), if_neg (by decide)]
theorem p_servedIn {n k M : Nat} (h1 : 1 ≤ M) (hM : M ≤ 60) {h : z_H} {Q : z_Q} (H : z_I n k h Q) : ∃ (X : Nat) (Q2 : z_Q), g_sum M 0 Q = some (nI X, Q2) ∧ X ≤ 6 * M ∧ ∀ T : z_H, ∃ T2 : z_H, f_X4_servedIn (h, T) (nI M) = some (nI X, (h, T2)) := by
  obtain ⟨X, Q2, a, b, c⟩ := p_serveT hM H
  refine ⟨X, Q2, a, b, fun T => ?_⟩
  obtain ⟨t, t1, t2⟩ := q_copyH T h
  obtain ⟨T2, d⟩ := c h t (H.eq t2)
  refine ⟨T2, ?_⟩
  unfold f_X4_servedIn
  rw [q_rqM h1 hM, Option.bind_some]
  show (f_X0_copyFrom T h).bind _ = _
  rw [t1, Option.bind_some]
  show (f_X4_serveInTrial (h, t) (nI M)).bind _ = _
  rw [d]; rfl
-- until a room is served
def g_sv (Q : z_Q) (r : Nat) : Prop := ∃ j, j < Q.2.2.1.1 ∧ Q.2.2.1.2 j 3 = nI r
theorem g_sv.i {n k : Nat} {h : z_H} {Q : z_Q} (H : z_I n k h Q) (r : Nat) : g_sv Q r ↔ ∃ j, j < k ∧ h.2.2.2.2 3 j = nI r := by
  obtain ⟨hSt, hDy, hF, s, R, V, c, L, rfl, hQ⟩ := H
  constructor
  · rintro ⟨j, hj, e⟩
    have hj : j < k := hj
    exact ⟨j, hj, (hQ.2.2.1 j hj).2.2.2.1.symm.trans e⟩
  · rintro ⟨j, hj, e⟩
    exact ⟨j, hj, (hQ.2.2.1 j hj).2.2.2.1.trans e⟩
def z_un (r t : Nat) (Q : z_Q) (u : Int32) : Prop := (u = -1 ∧ ∀ d, t + d ≤ 60 → ∀ Q', g_it d Q = some Q' → ¬ g_sv Q' r) ∨ (∃ e, t + e ≤ 60 ∧ u = nI (t + e) ∧ (∀ Q', g_it e Q = some Q' → g_sv Q' r) ∧ ∀ d, d < e → ∀ Q', g_it d Q = some Q' → ¬ g_sv Q' r)
theorem p_nosv {n k r : Nat} (hr : r < n) : ∀ (d : Nat) (h : z_H) (Q : z_Q), z_I n k h Q → h.2.1 5 r = -1 → ¬ g_sv Q r → ∀ Q', g_it d Q = some Q' → ¬ g_sv Q' r
  | 0, h, Q, H, hw, hs, Q', e => by
    have e : some Q = some Q' := e
    rw [← Option.some.inj e]
    exact hs
  | d + 1, h, Q, H, hw, hs, Q', e => by
    obtain ⟨x, h2, Q2, a1, a2, a3, a4, a5, a6⟩ := p_minute H
    rw [g_it, a2, Option.bind_some] at e
    refine p_nosv hr d h2 Q2 a3 (a5.1 r hr hw) (fun z => ?_) Q' e
    rw [g_sv.i a3] at z
    rw [g_sv.i H] at hs
    obtain ⟨j, hj, ej⟩ := z
    exact a5.2.1 r hr hw (fun i hi ei => hs ⟨i, hi, ei⟩) j hj ej
theorem q_svg {k : Nat} {G : z_G} (hk : k ≤ 6) (hg : G.1 = nI k) {v : Int32} : ∀ (m i fu : Nat), i + m = k → m < fu → ∃ x, f_X3_isServing_L2 G fu v (nI i) = some x ∧ ((x = 0 ∧ ∀ j, i ≤ j → j < k → G.2 3 j ≠ v) ∨ (x = 1 ∧ ∃ j, j < k ∧ G.2 3 j = v))
  | 0, i, fu + 1, hm, _ => ⟨0, by rw [f_X3_isServing_L2, hg, if_pos (by rw [q_le (by omega) (by omega)]; omega)], Or.inl ⟨rfl, fun j h1 h2 => by omega⟩⟩
  | m + 1, i, fu + 1, hm, hf => by
    have hno : ¬ nI k ≤ nI i := by rw [q_le (by omega) (by omega)]; omega
    by_cases e : G.2 3 i = v
    · exact ⟨1, by rw [f_X3_isServing_L2, hg, if_neg hno, q_rg (by omega), if_pos e], Or.inr ⟨rfl, i, by omega, e⟩⟩
    · obtain ⟨x, x1, x2⟩ := q_svg hk hg (v := v) m (i + 1) fu (by omega) (by omega)
      refine ⟨x, by rw [f_X3_isServing_L2, hg, if_neg hno, q_rg (by omega), if_neg e, q_s]; exact x1, ?_⟩
      rcases x2 with ⟨y1, y2⟩ | y
      · refine Or.inl ⟨y1, fun j h1 h2 => ?_⟩
        by_cases e2 : j = i
        · rw [e2]; exact e
        · exact y2 j (by omega) h2
      · exact Or.inr y
theorem p_until {n k r : Nat} (hr : r < n) : ∀ (m t fu : Nat) (T0 : z_H) (Q : z_Q), t + m = 61 → m < fu → z_I n k T0 Q → ∃ u, z_un r t Q u ∧ ∀ (h T : z_H), z_I n k T Q → ∃ T2 : z_H, f_X4_minutesUntilServed_L18 fu (nI r) (nI t) (h, T) = some (u, (h, T2))
  | 0, t, fu + 1, T0, Q, hm, _, H0 => ⟨-1, Or.inl ⟨rfl, fun d hd => by omega⟩, fun h T H => ⟨T, by
    rw [f_X4_minutesUntilServed_L18, if_pos (by rw [q_i60 (by omega)]; omega)]⟩⟩
  | m + 1, t, fu + 1, T0, Q, hm, hf, H0 => by
    have ht : ¬ (60 : Int32) < nI t := by rw [q_i60 (by omega)]; omega
    have sv : ∀ T : z_H, z_I n k T Q → ∃ x, f_X3_isServing T.2.2.2 (nI r) = some x ∧ ((x = 0 ∧ ¬ g_sv Q r) ∨ (x = 1 ∧ g_sv Q r)) := fun T H => by
      obtain ⟨x, x1, x2⟩ := q_svg H.1.2.1 H.1.2.2.2.1 (v := nI r) k 0 z_FU (by omega) (by unfold z_FU; have := H.1.2.1; omega)
      refine ⟨x, x1, ?_⟩
      rw [g_sv.i H]
      rcases x2 with ⟨y1, y2⟩ | y
      · exact Or.inl ⟨y1, fun ⟨j, hj, e⟩ => y2 j (by omega) hj e⟩
      · exact Or.inr y
    by_cases hs : g_sv Q r
    · refine ⟨nI t, Or.inr ⟨0, by omega, rfl, fun Q' e => ?_, fun d hd => by omega⟩, fun h T H => ⟨T, ?_⟩⟩
      · have e : some Q = some Q' := e
        rw [← Option.some.inj e]; exact hs
      · obtain ⟨x, x1, x2⟩ := sv T H
        rcases x2 with y | y
        · exact absurd hs y.2
        · rw [f_X4_minutesUntilServed_L18, if_neg ht]
          show (f_X3_isServing T.2.2.2 (nI r)).bind _ = _
          rw [x1, Option.bind_some, if_neg (by rw [y.1]; decide)]
    · have wq : ∀ T T' : z_H, z_I n k T Q → z_I n k T' Q → T.2.1 5 r = T'.2.1 5 r := fun T T' H H' => by
        obtain ⟨-, -, -, s, R, V, c, L, e, hQ⟩ := H
        obtain ⟨-, -, -, s', R', V', c', L', e', hQ'⟩ := H'
        have e2 := e.symm.trans e'
        have e3 : R = R' := congrArg (fun q : z_Q => q.2.1.2) e2
        rw [← e3] at hQ'
        exact (hQ.2.1 r hr).2.2.2.1.symm.trans (hQ'.2.1 r hr).2.2.2.1
      by_cases hw : T0.2.1 5 r = -1
      · refine ⟨-1, Or.inl ⟨rfl, fun d _ => p_nosv hr d T0 Q H0 hw hs⟩, fun h T H => ⟨T, ?_⟩⟩
        obtain ⟨x, x1, x2⟩ := sv T H
        rcases x2 with y | y
        · have hn := H.1.1
          rw [f_X4_minutesUntilServed_L18, if_neg ht]
          show (f_X3_isServing T.2.2.2 (nI r)).bind _ = _
          rw [x1, Option.bind_some, if_pos y.1]
          unfold f_X0_isWaiting
          rw [q_rg (by omega)]
          show (if (if T.2.1 5 r = -1 then (0 : Int32) else 1) = 0 then _ else _) = _
          rw [wq T T0 H H0, if_pos hw, if_pos rfl]
        · exact absurd y.2 hs
      · obtain ⟨x, h2, Q2, a1, a2, a3, a4, a5, a6⟩ := p_minute H0
        obtain ⟨u, c1, c2⟩ := p_until hr m (t + 1) fu h2 Q2 (by omega) (by omega) a3
        have st : ∀ d Q', g_it (d + 1) Q = some Q' → g_it d Q2 = some Q' := fun d Q' e => by
          rw [g_it, a2, Option.bind_some] at e
          exact e
        have z0 : ∀ Q', g_it 0 Q = some Q' → ¬ g_sv Q' r := fun Q' e => by
          have e : some Q = some Q' := e
          rw [← Option.some.inj e]; exact hs
        refine ⟨u, ?_, fun h T H => ?_⟩
        · rcases c1 with ⟨d1, d2⟩ | ⟨e, d1, d2, d3, d4⟩
          · refine Or.inl ⟨d1, fun d hd Q' e => ?_⟩
            cases d with
            | zero => exact z0 Q' e
            | succ d => exact d2 d (by omega) Q' (st d Q' e)
          · refine Or.inr ⟨e + 1, by omega, by rw [d2]; congr 1; omega, fun Q' q => d3 Q' (st e Q' q), fun d hd Q' q => ?_⟩
            cases d with
            | zero => exact z0 Q' q
            | succ d => exact d4 d (by omega) Q' (st d Q' q)
        · obtain ⟨x', t2, Q2', a1', a2', a3', -, -, -⟩ := p_minute H
          rw [a2] at a2'
          have e4 : Q2 = Q2' := congrArg Prod.snd (Option.some.inj a2')
          obtain ⟨T2, d⟩ := c2 h t2 (by rw [e4]; exact a3')
          refine ⟨T2, ?_⟩
          obtain ⟨x0, x1, x2⟩ := sv T H
          rcases x2 with y | y
          · have hn := H.1.1
            rw [f_X4_minutesUntilServed_L18, if_neg ht]
            show (f_X3_isServing T.2.2.2 (nI r)).bind _ = _
            rw [x1, Option.bind_some, if_pos y.1]
            unfold f_X0_isWaiting
            rw [q_rg (by omega)]
            show (if (if T.2.1 5 r = -1 then (0 : Int32) else 1) = 0 then _ else (f_X0_letMinuteGoBy T).bind _) = _
            rw [wq T T0 H H0, if_neg hw, if_neg (by decide), a1', Option.bind_some, q_s]
            exact d
          · exact absurd y.2 hs
theorem q_rqR {n r : Nat} (hr : r < n) (hn : n ≤ 12) {h T : z_H} (e : h.1 1 = nI n) : f_X4_requireRoom (h, T) (nI r) = some () := by
  unfold f_X4_requireRoom
  rw [if_neg (q_n0 (by omega))]
  show (if nI r < h.1 1 then some () else none) = _
  rw [e, if_pos (by rw [q_lt (by omega) (by omega)]; exact hr)]
theorem p_untilT {n k r : Nat} (hr : r < n) {h : z_H} {Q : z_Q} (H : z_I n k h Q) : ∃ u, z_un r 0 Q u ∧ ∀ T : z_H, ∃ T2 : z_H, f_X4_minutesUntilServed (h, T) (nI r) = some (u, (h, T2)) := by
  obtain ⟨u, a, b⟩ := p_until hr 61 0 z_FU h Q (by omega) (by unfold z_FU; omega) H
  refine ⟨u, a, fun T => ?_⟩
  obtain ⟨t, t1, t2⟩ := q_copyH T h
  obtain ⟨T2, d⟩ := b h t (H.eq t2)
  refine ⟨T2, ?_⟩
  unfold f_X4_minutesUntilServed
  rw [q_rqR hr H.1.1 H.1.2.2.1, Option.bind_some]
  show (f_X0_copyFrom T h).bind _ = _
  rw [t1, Option.bind_some]
  exact d
