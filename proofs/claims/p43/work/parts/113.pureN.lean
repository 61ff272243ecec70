-- ===== the digest: what it is doesn't depend on the trial =====
theorem d_R {n k : Nat} {h : z_H} {Q : z_Q} (H : z_I n k h Q) : ∀ (m i fu : Nat) (u : Int64), i + m = n → m < fu → ∃ x : Int64, ∀ T : z_H, ∃ T2 : z_H, f_X4_digest_L134 fu u (nI i) (h, T) = some (x, (h, T2))
  | 0, i, fu + 1, u, hm, _ => by
    have hn := H.1.1
    refine ⟨u, fun T => ⟨T, ?_⟩⟩
    rw [f_X4_digest_L134]
    show (if h.1 1 ≤ nI i then _ else _) = _
    rw [H.1.2.2.1, if_pos (by rw [q_le (by omega) (by omega)]; omega)]
  | m + 1, i, fu + 1, u, hm, hf => by
    have hn := H.1.1
    have hi : i < n := by omega
    have hle : ¬ nI n ≤ nI i := by rw [q_le (by omega) (by omega)]; omega
    obtain ⟨ro, hro, ero⟩ := z_wi.on H.1 hi
    obtain ⟨a, ha, hfl⟩ := H.1.2.2.2.2.1 i hi
    obtain ⟨⟨ch, hch, hce⟩, -, ⟨c, l1, l2, -⟩, -⟩ := id H.2.1
    obtain ⟨ne, n1, -⟩ := c_near H hi ha hfl
    obtain ⟨un, -, u1⟩ := p_untilT hi H
    obtain ⟨-, -, be, -, -, -, b1⟩ := p_best hi H
    have a1 := fun T : z_H => c_drop (T := T) H.1 hi
    have r1 := fun T : z_H => c_room (T := T) H.1 hro ero
    have a4 := fun T : z_H => c_wait (T := T) H.1 hi
    have p3 := fun T : z_H => c_place (T := T) H.1 l2 (by omega) hi
    have l3 := fun T : z_H => (c_rings (T := T) H.1 hch hce hi ha hfl).1
    rcases H.1.2.2.2.2.2.2.2.2.2.1 i hi with e | e
    · have a3 : ∀ T : z_H, f_X4_isCut (h, T) (nI i) = some 0 := fun T => by
        rcases c_cut (T := T) H.1 hi with ⟨q, q2⟩ | ⟨q, q2⟩
        · rw [e] at q2; exact absurd q2 (by decide)
        · exact q
      obtain ⟨x, x1⟩ := d_R H m (i + 1) fu (f_X4_mix (f_X4_mix (f_X4_mix (f_X4_mix (f_X4_mix (f_X4_mix (f_X4_mix (f_X4_mix (f_X4_mix u (nI (z_wi h i))) (nI ro)) 0) (h.2.1 5 i)) (z_pl h.2.2.1.2 (nI i) c 0)) (if h.2.1 4 i = 1 then 0 else nI ch / nI (a + 1))) ne) un) be) (by omega) (by omega)
      refine ⟨x, fun T => ?_⟩
      obtain ⟨T2, u2⟩ := u1 T
      obtain ⟨T3, b2⟩ := b1 T2
      obtain ⟨T4, x2⟩ := x1 T3
      refine ⟨T4, ?_⟩
      rw [f_X4_digest_L134]
      show (if h.1 1 ≤ nI i then _ else _) = _
      rw [H.1.2.2.1, if_neg hle]
      simp only [a1, r1, a3, a4, p3, l3, n1, u2, b2, Option.bind_some, q_00, if_true, q_s]
      exact x2
    · have a3 : ∀ T : z_H, f_X4_isCut (h, T) (nI i) = some 1 := fun T => by
        rcases c_cut (T := T) H.1 hi with ⟨q, q2⟩ | ⟨q, q2⟩
        · exact q
        · rw [e] at q2; exact absurd q2 (by decide)
      obtain ⟨x, x1⟩ := d_R H m (i + 1) fu (f_X4_mix (f_X4_mix (f_X4_mix (f_X4_mix (f_X4_mix (f_X4_mix (f_X4_mix (f_X4_mix (f_X4_mix u (nI (z_wi h i))) (nI ro)) 1) (h.2.1 5 i)) (z_pl h.2.2.1.2 (nI i) c 0)) (if h.2.1 4 i = 1 then 0 else nI ch / nI (a + 1))) ne) un) be) (by omega) (by omega)
      refine ⟨x, fun T => ?_⟩
      obtain ⟨T2, u2⟩ := u1 T
      obtain ⟨T3, b2⟩ := b1 T2
      obtain ⟨T4, x2⟩ := x1 T3
      refine ⟨T4, ?_⟩
      rw [f_X4_digest_L134]
      show (if h.1 1 ≤ nI i then _ else _) = _
      rw [H.1.2.2.1, if_neg hle]
      simp only [a1, r1, a3, a4, p3, l3, n1, u2, b2, Option.bind_some, q_10, if_false, q_s]
      exact x2
theorem d_S {n k : Nat} {h : z_H} {Q : z_Q} (H : z_I n k h Q) : ∀ (m j fu : Nat) (u : Int64), j + m = k → m < fu → ∃ x : Int64, ∀ T : z_H, f_X4_digest_L251 fu u (nI j) (h, T) = some (x, (h, T))
  | 0, j, fu + 1, u, hm, _ => by
    have hk := H.1.2.1
    refine ⟨u, fun T => ?_⟩
    rw [f_X4_digest_L251]
    show (if h.2.2.2.1 ≤ nI j then _ else _) = _
    rw [H.1.2.2.2.1, if_pos (by rw [q_le (by omega) (by omega)]; omega)]
  | m + 1, j, fu + 1, u, hm, hf => by
    have hk := H.1.2.1
    have hj : j < k := by omega
    have hle : ¬ nI k ≤ nI j := by rw [q_le (by omega) (by omega)]; omega
    obtain ⟨x, x1⟩ := d_S H m (j + 1) fu (f_X4_mix (f_X4_mix (f_X4_mix (f_X4_mix u (h.2.2.2.2 1 j)) (h.2.2.2.2 2 j)) (h.2.2.2.2 3 j)) (h.2.2.2.2 4 j)) (by omega) (by omega)
    refine ⟨x, fun T => ?_⟩
    rw [f_X4_digest_L251]
    show (if h.2.2.2.1 ≤ nI j then _ else _) = _
    rw [H.1.2.2.2.1, if_neg hle]
    simp only [c_floor (T := T) H.1 hj, c_goes (T := T) H.1 hj, c_serves (T := T) H.1 hj, c_left (T := T) H.1 hj, Option.bind_some, q_s]
    exact x1 T
theorem p_digest {n k : Nat} {h : z_H} {Q : z_Q} (H : z_I n k h Q) : ∃ d : Int64, ∀ T : z_H, ∃ T2 : z_H, f_X4_digest (h, T) = some (d, (h, T2)) := by
  have hn := H.1.1
  have hk := H.1.2.1
  obtain ⟨-, -, ⟨c, l1, l2, -⟩, -⟩ := id H.2.1
  obtain ⟨lo, lo1, -⟩ := c_long H.1 H.2.1
  obtain ⟨sv, -, -, -, sv1⟩ := p_servedIn (M := 20) (by omega) (by omega) H
  have cr := fun T : z_H => c_crossed (T := T) H.1
  have cn := fun T : z_H => c_needed (T := T) H.1
  have nx := fun T : z_H => c_next (T := T) H.1 l2 (by omega)
  obtain ⟨x, x1⟩ := d_R H n 0 z_FU (f_X4_mix (f_X4_mix (f_X4_mix (f_X4_mix (f_X4_mix (f_X4_mix (f_X4_mix (f_X4_mix (f_X4_mix (f_X4_mix (f_X4_mix (f_X4_mix (f_X4_mix (f_X4_mix 2377 (h.1 0)) (h.1 1)) h.2.2.2.1) (h.1 2)) (h.1 3)) (h.1 4)) (h.1 5)) (h.1 6)) lo) (nI (z_cr (z_wi h) n))) (nI (z_cn (fun r => ¬ z_mi (z_wi h) r) n))) h.2.2.1.1) (if c = 0 then -1 else h.2.2.1.2 0)) (nI sv)) (by omega) (by unfold z_FU; omega)
  obtain ⟨y, y1⟩ := d_S H k 0 z_FU x (by omega) (by unfold z_FU; omega)
  refine ⟨y, fun T => ?_⟩
  obtain ⟨T1, sv2⟩ := sv1 T
  have sv2 : f_X4_servedIn (h, T) 20 = some (nI sv, (h, T1)) := sv2
  obtain ⟨T2, x2⟩ := x1 T1
  refine ⟨T2, ?_⟩
  unfold f_X4_digest
  rw [lo1, Option.bind_some, cr, Option.bind_some, cn, Option.bind_some, nx, Option.bind_some, sv2, Option.bind_some]
  show (f_X4_digest_L134 z_FU (f_X4_mix (f_X4_mix (f_X4_mix (f_X4_mix (f_X4_mix (f_X4_mix (f_X4_mix (f_X4_mix (f_X4_mix (f_X4_mix (f_X4_mix (f_X4_mix (f_X4_mix (f_X4_mix 2377 (h.1 0)) (h.1 1)) h.2.2.2.1) (h.1 2)) (h.1 3)) (h.1 4)) (h.1 5)) (h.1 6)) lo) (nI (z_cr (z_wi h) n))) (nI (z_cn (fun r => ¬ z_mi (z_wi h) r) n))) h.2.2.1.1) (if c = 0 then -1 else h.2.2.1.2 0)) (nI sv)) (nI 0) (h, T1)).bind _ = _
  rw [x2, Option.bind_some]
  show (f_X4_digest_L251 z_FU x (nI 0) (h, T2)).bind _ = _
  rw [y1]
  rfl
-- ===== the house that cells choose =====
theorem p_cell {L : Nat} {xs : Nat → Int32} (hL : L ≤ 260) {i : Nat} (hi : i < 1000) : ∃ x, f_L_cell L xs (nI i) = some x := by
  unfold f_L_cell
  by_cases e : nI L ≤ nI i
  · exact ⟨_, by rw [if_pos e]⟩
  · rw [if_neg e]
    rw [q_le (by omega) (by omega)] at e
    exact ⟨_, q_at (by omega) (by omega)⟩
theorem p_b35 {L : Nat} {xs : Nat → Int32} (hL : L ≤ 260) {M : Nat} (hM : M < 100) {u4 : Int32} : ∀ (m i fu n k : Nat) (h : z_H) (Q : z_Q), i + m = M → m < fu → z_I n k h Q → (1 ≤ m ∨ 1 ≤ n) → ∃ (n2 k2 : Nat) (h2 : z_H) (Q2 : z_Q), 1 ≤ n2 ∧ z_I n2 k2 h2 Q2 ∧ ∀ T : z_H, f_L_build_L35 L xs fu (nI M) u4 (nI i) Q (h, T) = some (u4, Q2, (h2, T))
  | 0, i, fu + 1, n, k, h, Q, hm, _, H, h1 => ⟨n, k, h, Q, by omega, H, fun T => by
    rw [f_L_build_L35, if_pos (by rw [q_le (by omega) (by omega)]; omega)]⟩
  | m + 1, i, fu + 1, n, k, h, Q, hm, hf, H, h1 => by
    obtain ⟨x, ex⟩ := p_cell (xs := xs) hL (i := 2 + i) (by omega)
    have ex : f_L_cell L xs (2 + nI i) = some x := by rw [show (2 : Int32) = nI 2 from rfl, nI_add]; exact ex
    obtain ⟨n2, k2, h2, Q2, a1, a2, a3, a4, a5⟩ := p_act H ((16 : Int32) * ((x >>> (5 &&& 31)) &&& 16777215))
    obtain ⟨n3, k3, h3, Q3, b1, b2, b3⟩ := p_b35 hL hM (u4 := u4) m (i + 1) fu n2 k2 h2 Q2 (by omega) (by omega) a4 (Or.inr a2)
    refine ⟨n3, k3, h3, Q3, b1, b2, fun T => ?_⟩
    rw [f_L_build_L35, if_neg (by rw [q_le (by omega) (by omega)]; omega), ex, Option.bind_some, a5 T, Option.bind_some]
    show (if (1 : Int32) = 0 then none else _) = _
    rw [if_neg (by decide), q_s]
    exact b3 T
theorem p_b76 {L : Nat} {xs : Nat → Int32} (hL : L ≤ 260) {M : Nat} (hM : M < 100) : ∀ (m i fu n k : Nat) (h : z_H) (Q : z_Q), i + m = M → m < fu → z_I n k h Q → 1 ≤ n → ∃ (n2 k2 : Nat) (h2 : z_H) (Q2 : z_Q), 1 ≤ n2 ∧ z_I n2 k2 h2 Q2 ∧ ∀ T : z_H, f_L_build_L76 L xs fu (nI M) (nI i) Q (h, T) = some (Q2, (h2, T))
  | 0, i, fu + 1, n, k, h, Q, hm, _, H, h1 => ⟨n, k, h, Q, h1, H, fun T => by
    rw [f_L_build_L76, if_pos (by rw [q_le (by omega) (by omega)]; omega)]⟩
  | m + 1, i, fu + 1, n, k, h, Q, hm, hf, H, h1 => by
    obtain ⟨x, ex⟩ := p_cell (xs := xs) hL (i := 3 + i) (by omega)
    have ex : f_L_cell L xs (3 + nI i) = some x := by rw [show (3 : Int32) = nI 3 from rfl, nI_add]; exact ex
    obtain ⟨n2, k2, h2, Q2, a1, a2, a3, a4, a5⟩ := p_act H (((16 : Int32) * ((x >>> (3 &&& 31)) &&& 16777215)) + 1)
    obtain ⟨n3, k3, h3, Q3, b1, b2, b3⟩ := p_b76 hL hM m (i + 1) fu n2 k2 h2 Q2 (by omega) (by omega) a4 a2
    refine ⟨n3, k3, h3, Q3, b1, b2, fun T => ?_⟩
    rw [f_L_build_L76, if_neg (by rw [q_le (by omega) (by omega)]; omega), ex, Option.bind_some, a5 T, Option.bind_some]
    show (if (1 : Int32) = 0 then none else _) = _
    rw [if_neg (by decide), q_s]
    exact b3 T
theorem p_b120 {L : Nat} {xs : Nat → Int32} (hL : L ≤ 260) : ∀ (m i fu n k : Nat) (h : z_H) (Q : z_Q), i + m = 10 → m < fu → z_I n k h Q → 1 ≤ n → ∃ (n2 k2 : Nat) (h2 : z_H) (Q2 : z_Q), 1 ≤ n2 ∧ z_I n2 k2 h2 Q2 ∧ ∀ T : z_H, f_L_build_L120 L xs fu (nI i) Q (h, T) = some (Q2, (h2, T))
  | 0, i, fu + 1, n, k, h, Q, hm, _, H, h1 => ⟨n, k, h, Q, h1, H, fun T => by
    rw [f_L_build_L120, if_pos (by rw [show (10 : Int32) = nI 10 from rfl, q_le (by omega) (by omega)]; omega)]⟩
  | m + 1, i, fu + 1, n, k, h, Q, hm, hf, H, h1 => by
    obtain ⟨x, ex⟩ := p_cell (xs := xs) hL (i := i) (by omega)
    obtain ⟨n2, k2, h2, Q2, a1, a2, a3, a4, a5⟩ := p_act H ((x >>> (2 &&& 31)) + (41 * nI i))
    obtain ⟨n3, k3, h3, Q3, b1, b2, b3⟩ := p_b120 hL m (i + 1) fu n2 k2 h2 Q2 (by omega) (by omega) a4 a2
    refine ⟨n3, k3, h3, Q3, b1, b2, fun T => ?_⟩
    rw [f_L_build_L120, if_neg (by rw [show (10 : Int32) = nI 10 from rfl, q_le (by omega) (by omega)]; omega), ex, Option.bind_some, a5 T, Option.bind_some]
    show (if (1 : Int32) = 0 then none else _) = _
    rw [if_neg (by decide), q_s]
    exact b3 T
theorem z_I.h0 : z_I 0 0 z_h0 z_q0 := ⟨⟨by omega, by omega, rfl, rfl, fun i hi => by omega, fun i hi => by omega, fun i hi => by omega, fun i hi => by omega, fun i j hi => by omega, fun i hi => by omega, fun i hi => by omega⟩, ⟨⟨200, by omega, rfl⟩, fun i hi => by omega, ⟨0, Nat.le_refl _, rfl, fun j hj => by omega, fun i j hi => by omega⟩, fun j hj => by omega, fun j _ _ => ⟨rfl, rfl⟩⟩, fun j hj => by omega, _, _, _, _, _, rfl, ⟨rfl, rfl, rfl, rfl, rfl, rfl⟩, fun i hi => by omega, fun i hi => by omega, by omega, rfl, fun p hp => by omega⟩
theorem p_build {L : Nat} {xs : Nat → Int32} (hL : L ≤ 260) (T : z_H) : ∃ (n k : Nat) (h : z_H) (Q : z_Q), 1 ≤ n ∧ z_I n k h Q ∧ f_L_build L xs (z_h0, T) = some ((h, T), Q) := by
  obtain ⟨c0, e0⟩ : ∃ x, f_L_cell L xs 0 = some x := p_cell (xs := xs) hL (i := 0) (by omega)
  obtain ⟨c1, e1⟩ : ∃ x, f_L_cell L xs 1 = some x := p_cell (xs := xs) hL (i := 1) (by omega)
  obtain ⟨a, ha, ea⟩ : ∃ a, a < 9 ∧ f_L_below c0 9 = some (nI a) := p_below c0 (d := 9) (by omega) (by omega)
  obtain ⟨b, hb, eb⟩ : ∃ a, a < 4 ∧ f_L_below c1 4 = some (nI a) := p_below c1 (d := 4) (by omega) (by omega)
  obtain ⟨n1, k1, h1, Q1, x1, x2, x3⟩ := p_b35 (xs := xs) hL (M := a + 1) (by omega) (u4 := nI b) (a + 1) 0 z_F14 0 0 z_h0 z_q0 (by omega) (by unfold z_F14; omega) z_I.h0 (by omega)
  obtain ⟨n2, k2, h2, Q2, y1, y2, y3⟩ := p_b76 (xs := xs) hL (M := b) (by omega) b 0 z_F14 n1 k1 h1 Q1 (by omega) (by unfold z_F14; omega) x2 x1
  obtain ⟨n3, k3, h3, Q3, z1, z2, z3⟩ := p_b120 (xs := xs) hL 10 0 z_F14 n2 k2 h2 Q2 (by omega) (by unfold z_F14; omega) y2 y1
  have x3 := x3 T
  have y3 := y3 T
  have z3 := z3 T
  rw [show nI 0 = (0 : Int32) from rfl] at x3 y3 z3
  refine ⟨n3, k3, h3, Q3, z1, z2, ?_⟩
  unfold f_L_build
  rw [e0, Option.bind_some, ea, Option.bind_some, e1, Option.bind_some, eb, Option.bind_some, q_1p, x3, Option.bind_some]
  show (f_L_build_L76 L xs z_F14 (nI b) 0 Q1 (h1, T)).bind _ = _
  rw [y3, Option.bind_some]
  show (f_L_build_L120 L xs z_F14 0 Q2 (h2, T)).bind _ = _
  rw [z3]
  rfl
