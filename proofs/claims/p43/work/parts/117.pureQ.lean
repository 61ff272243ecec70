theorem c_cross {n k r y : Nat} {h T : z_H} (S : z_St n k h) (hr : r < n) (hy : y < n) (hry : r ≠ y) : ∃ v : Int32, f_X4_cross (h, T) (nI r) (nI y) = some (v, (z_hR h 3 (z_sw (h.2.1 3) r y), T)) := by
  have hn := S.1
  refine ⟨z_rg ((f_X0_swapWires h (nI r) (nI y)).2.1 3) (nI r), ?_⟩
  unfold f_X4_cross
  rw [q_rqR hr hn S.2.2.1, Option.bind_some, q_rqR hy hn S.2.2.1, Option.bind_some, if_neg (by rw [q_eq (by omega) (by omega)]; exact hry)]
  show some (z_rg ((f_X0_swapWires h (nI r) (nI y)).2.1 3) (nI r), (f_X0_swapWires h (nI r) (nI y), T)) = _
  rw [q_swapC (by omega) (by omega)]
theorem z_I.len {n k : Nat} {h : z_H} {Q : z_Q} (H : z_I n k h Q) : ∃ c, c ≤ n ∧ h.2.2.1.1 = nI c := by
  obtain ⟨c, l1, l2, -⟩ := H.2.1.2.2.1
  exact ⟨c, l1, l2⟩
theorem l_860 {LL : Nat} {xs : Nat → Int32} {n k one M D : Nat} (hM : M ≤ 20) (hone : one < n) {Q0 Qf : z_Q} {u : Int32} (hu : z_un one 0 Q0 u) {u3 : Int32} : ∀ (m t fu A : Nat) (h T : z_H) (Q : z_Q), t + m = M → m < fu → z_I n k h Q → (∀ d Q', g_it d Q = some Q' → g_it (t + d) Q0 = some Q') → g_sum m (nI A) Q = some (nI D, Qf) → ∃ (h2 : z_H) (Q2 : z_Q), z_I n k h2 Q2 ∧ f_L_law_L860 LL xs fu u3 (nI n) (nI k) (nI one) u (nI M) (nI D) (nI A) (nI (t + 1)) Q (h, T) = some (u3, nI D, nI D, Q2, (h2, T))
  | 0, t, fu + 1, A, h, T, Q, hm, _, H, _, hs => by
    refine ⟨h, Q, H, ?_⟩
    have hs : some (nI A, Q) = some (nI D, Qf) := hs
    have e : nI A = nI D := congrArg Prod.fst (Option.some.inj hs)
    rw [f_L_law_L860, if_pos (by rw [q_lt (by omega) (by omega)]; omega), e]
  | m + 1, t, fu + 1, A, h, T, Q, hm, hf, H, hit, hs => by
    have hn := H.1.1
    have hk := H.1.2.1
    obtain ⟨b, b1, b2, b3, b4⟩ := l_873 (LL := LL) (xs := xs) (one := one) (T := T) H (u3 := u3) (u7 := nI n) (u14 := u) (u16 := nI M) (u17 := nI D) (u18 := nI A) (u19 := nI (t + 1)) k 0 z_F14 0 (by omega) (by unfold z_F14; omega) (Or.inl rfl)
    rw [show nI 0 = (0 : Int32) from rfl] at b1
    have hsv : g_it t Q0 = some Q := hit 0 Q rfl
    have bz : b = 0 ↔ ¬ g_sv Q one := by
      rw [g_sv.i H]
      constructor
      · intro e
        obtain ⟨-, z⟩ := b3 e
        exact fun ⟨j, hj, ej⟩ => z j (by omega) hj ej
      · intro z
        rcases b2 with e | e
        · exact e
        · rcases b4 e with w | w
          · exact absurd w (by decide)
          · exact absurd w z
    have e909 : (if u < 0 then some () else (if u < nI (t + 1) then some () else (if b = 0 then some () else none))) = some () := by
      rcases hu with ⟨x1, x2⟩ | ⟨e, x1, x2, x3, x4⟩
      · rw [x1, if_pos (by decide)]
      · rw [Nat.zero_add] at x1 x2
        rw [x2, if_neg (q_n0 (by omega))]
        by_cases q : nI e < nI (t + 1)
        · rw [if_pos q]
        · rw [if_neg q, if_pos (bz.2 (x4 t (by rw [q_lt (by omega) (by omega)] at q; omega) Q hsv))]
    have e930 : (if u = nI (t + 1) - 1 then (if b = 0 then none else some ()) else some ()) = some () := by
      rw [q_d1 (by omega), show t + 1 - 1 = t by omega]
      by_cases q : u = nI t
      · rw [if_pos q]
        rcases hu with ⟨x1, x2⟩ | ⟨e, x1, x2, x3, x4⟩
        · rw [x1] at q; exact absurd q (q_m1e (by omega))
        · rw [Nat.zero_add] at x1 x2
          rw [x2, q_eq (by omega) (by omega)] at q
          rw [if_neg (fun z => (bz.1 z) (x3 Q (by rw [q]; exact hsv)))]
      · rw [if_neg q]
    have e940 : (if 0 ≤ u then some () else (if b = 0 then some () else none)) = some () := by
      rcases hu with ⟨x1, x2⟩ | ⟨e, x1, x2, x3, x4⟩
      · rw [x1, if_neg (by decide), if_pos (bz.2 (x2 t (by omega) Q hsv))]
      · rw [Nat.zero_add] at x1 x2
        rw [x2, if_pos (by rw [q_0le (by omega)]; trivial)]
    obtain ⟨g2, g3, g4⟩ := l_982 (LL := LL) (xs := xs) (T := T) H (u3 := u3) (u8 := nI k) (u13 := nI one) (u14 := u) (u16 := nI M) (u17 := nI D) (u18 := nI A) (u19 := nI (t + 1)) (u21 := f_X4_charge (h, T)) (u22 := f_X4_served (h, T)) (u23 := (f_X4_inVain (h, T)) + (f_X4_served (h, T))) n 0 z_F14 (fun _ => 0) (by omega) (by unfold z_F14; omega) (fun i hi => by omega)
    rw [show nI 0 = (0 : Int32) from rfl] at g3
    obtain ⟨x, h2, Q2, p1, p2, p3, p4, ⟨y, z, p5, p6, p7, p8⟩, p9, p10⟩ := c_pass1 H
    have p1 := p1 T
    have c1 : ¬ (x < 0) := by rw [p6]; exact q_n0 (by omega)
    have c2 : ¬ (nI k < x) := by rw [p6, q_lt (by omega) (by omega)]; omega
    have c3 : f_X4_served (h2, T) = f_X4_served (h, T) + x := by rw [p6]; exact p7
    have c4 : ¬ (f_X4_charge (h, T) < f_X4_charge (h2, T)) := by
      have q : h2.1 2 ≤ h.1 2 := p4
      intro w
      have w : h.1 2 < h2.1 2 := w
      rw [Int32.le_iff_toInt_le] at q
      rw [Int32.lt_iff_toInt_lt] at w
      omega
    have c5 : ((f_X4_inVain (h2, T)) + (f_X4_served (h2, T))) - ((f_X4_inVain (h, T)) + (f_X4_served (h, T))) ≤ nI k := by
      show (h2.1 4 + h2.1 3) - (h.1 4 + h.1 3) ≤ nI k
      rw [p7, p8]
      have e : (h.1 4 + nI z + (h.1 3 + nI y)) - (h.1 4 + h.1 3) = nI z + nI y := by grind
      rw [e, nI_add, q_le (by omega) (by omega)]
      omega
    obtain ⟨b', d1, d2, d3⟩ := l_1087 (LL := LL) (xs := xs) (T := T) p3 (u3 := u3) (u7 := nI n) (u13 := nI one) (u14 := u) (u16 := nI M) (u17 := nI D) (u18 := nI A + x) (u19 := nI (t + 1)) (N0 := n) (g0 := g2) k 0 z_F14 0 (by omega) (by unfold z_F14; omega) (Or.inl rfl)
    rw [show nI 0 = (0 : Int32) from rfl] at d1
    have e1130 : (if b' = 0 then some () else (if f_X4_fallen (h2, T) ≤ 0 then some () else none)) = some () := by
      by_cases q : b' = 0
      · rw [if_pos q]
      · rw [if_neg q]
        rcases d2 with w | w
        · exact absurd w q
        · rcases d3 w with v | ⟨i, i1, i2⟩
          · exact absurd v (by decide)
          · rcases p10 with v | v
            · rw [if_pos (show f_X4_fallen (h2, T) ≤ 0 by show h2.2.2.1.1 ≤ 0; rw [v]; decide)]
            · exact absurd i2 (v i i1)
    have h1145 := l_1145 (LL := LL) (xs := xs) (T := T) p3 H.2.1.2.1 p9 (u3 := u3) (u8 := nI k) (u13 := nI one) (u14 := u) (u16 := nI M) (u17 := nI D) (u18 := nI A + x) (u19 := nI (t + 1)) g4 n 0 z_F14 (by omega) (by unfold z_F14; omega)
    rw [show nI 0 = (0 : Int32) from rfl] at h1145
    have hs2 : g_sum m (nI (A + y)) Q2 = some (nI D, Qf) := by
      rw [g_sum, p2, Option.bind_some] at hs
      have hs : g_sum m (nI A + x) Q2 = some (nI D, Qf) := hs
      rw [p6, nI_add] at hs
      exact hs
    obtain ⟨h3, Q3, r1, r2⟩ := l_860 (LL := LL) (xs := xs) hM hone hu (u3 := u3) m (t + 1) fu (A + y) h2 T Q2 (by omega) (by omega) p3 (fun d Q' e => by
      have := hit (d + 1) Q' (by rw [g_it, p2, Option.bind_some]; exact e)
      rw [show t + 1 + d = t + (d + 1) by omega]
      exact this) hs2
    refine ⟨h3, Q3, r1, ?_⟩
    rw [f_L_law_L860, if_neg (by rw [q_lt (by omega) (by omega)]; omega), b1, Option.bind_some]
    dsimp only
    rw [e909, Option.bind_some, e930, Option.bind_some, e940, Option.bind_some, q_ln (by omega), Option.bind_some, g3, Option.bind_some, p1, Option.bind_some, p2, Option.bind_some]
    dsimp only
    rw [if_pos rfl, if_neg c1, if_neg c2, if_pos c3, if_neg c4, if_pos c5, d1, Option.bind_some]
    dsimp only
    rw [e1130, Option.bind_some, h1145, Option.bind_some]
    dsimp only
    rw [p6, nI_add, q_s]
    exact r2
theorem l_47 {LL : Nat} {xs : Nat → Int32} {u3 u4 : Int32} : ∀ (m i fu n k : Nat) (h : z_H) (Q : z_Q), i + m = 3 → m < fu → z_I n k h Q → 1 ≤ n → ∃ (n2 k2 : Nat) (h2 : z_H) (Q2 : z_Q), 1 ≤ n2 ∧ z_I n2 k2 h2 Q2 ∧ ∀ T : z_H, f_L_law_L47 LL xs fu u3 u4 (nI i) Q (h, T) = some (u3, u4, Q2, (h2, T))
  | 0, i, fu + 1, n, k, h, Q, hm, _, H, h1 => ⟨n, k, h, Q, h1, H, fun T => by
    rw [f_L_law_L47, if_pos (by rw [show (3 : Int32) = nI 3 from rfl, q_le (by omega) (by omega)]; omega)]⟩
  | m + 1, i, fu + 1, n, k, h, Q, hm, hf, H, h1 => by
    obtain ⟨n2, k2, h2, Q2, a1, a2, a3, a4, a5⟩ := p_act H ((u4 >>> ((3 * nI i) &&& 31)) + (29 * nI i))
    obtain ⟨n3, k3, h3, Q3, b1, b2, b3⟩ := l_47 (LL := LL) (xs := xs) (u3 := u3) (u4 := u4) m (i + 1) fu n2 k2 h2 Q2 (by omega) (by omega) a4 a2
    refine ⟨n3, k3, h3, Q3, b1, b2, fun T => ?_⟩
    rw [f_L_law_L47, if_neg (by rw [show (3 : Int32) = nI 3 from rfl, q_le (by omega) (by omega)]; omega), a5 T, Option.bind_some]
    show (if (1 : Int32) = 0 then none else _) = _
    rw [if_neg (by decide), q_s]
    exact b3 T
