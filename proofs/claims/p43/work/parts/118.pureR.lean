-- ===== the law, in all =====
theorem q_lgc (d : Int64) : lg_cmp d d = 0 := (lg_cmp_eq d d).2 rfl
theorem l_22s {LL : Nat} {xs : Nat → Int32} (hL : LL ≤ 260) {n k : Nat} {h : z_H} {Q : z_Q} (H : z_I n k h Q) (h1 : 1 ≤ n) {t fu : Nat} (ht : t < 6) (T : z_H) : ∃ (n2 k2 : Nat) (h2 T2 : z_H) (Q2 : z_Q), 1 ≤ n2 ∧ z_I n2 k2 h2 Q2 ∧ f_L_lawb_L22 LL xs (fu + 1) (nI t) Q (h, T) = f_L_lawb_L22 LL xs fu (nI (t + 1)) Q2 (h2, T2) := by
  obtain ⟨x32, e32⟩ := p_cell (xs := xs) hL (i := t + 1) (by omega)
  generalize hw : (x32 >>> (2 &&& 31)) + (53 * nI t) = w
  obtain ⟨n1, k1, h1', Q1, a1, a2, a3⟩ := l_47 (LL := LL) (xs := xs) (u3 := nI t) (u4 := w) 3 0 z_F8 n k h Q (by omega) (by unfold z_F8; omega) H h1
  have a3 := a3 T
  rw [show nI 0 = (0 : Int32) from rfl] at a3
  obtain ⟨d, d1⟩ := p_digest a2
  obtain ⟨T1, d2⟩ := d1 T
  have hn := a2.1.1
  have hk := a2.1.2.1
  obtain ⟨s, R, V, c, L, rfl, hQ⟩ := id a2.2.2.2
  have qc := hQ.2.2.2.1
  have ql := hQ.2.2.2.2.1
  obtain ⟨⟨ch, hch, hce⟩, -, ⟨c', l1, l2, -⟩, -⟩ := id a2.2.1
  have b1 := l_115 (LL := LL) (xs := xs) (T := T1) a2 hQ (u3 := nI t) (u4 := w) (u5 := d) n1 0 z_F14 (fun _ => 0) (by omega) (by unfold z_F14; omega) (fun p _ => rfl)
  rw [z_dn.all a2.1 a2.2.1 ql qc] at b1
  have b1 : f_L_law_L115 LL xs z_F14 (nI t) w d (nI n1) (nI k1) 0 0 0 (s, (n1, R), (k1, V), (c, L)) (h1', T1) n1 (fun _ => 0) = some (nI t, w, d, nI n1, nI k1, nI (z_cr (z_wi h1') n1), nI c) := b1
  have nd := c_needed (T := T1) a2.1
  have cr := c_crossed (T := T1) a2.1
  obtain ⟨m1, m2, m3⟩ := z_need (z_wi.pm a2.1)
  have crl := z_cr.le (z_wi h1') n1
  generalize hcr : z_cr (z_wi h1') n1 = CR at b1 cr m1 m2 m3 crl
  generalize hnd : z_cn (fun r => ¬ z_mi (z_wi h1') r) n1 = ND at nd m1 m2 m3
  obtain ⟨one, o1, o2⟩ := p_below (w >>> (4 &&& 31)) (d := n1) (by omega) (by omega)
  obtain ⟨u, u1, u2⟩ := p_untilT o1 a2
  obtain ⟨T2, u2⟩ := u2 T1
  obtain ⟨X0, QX, x, x1, x2, x3, x4⟩ := p_best o1 a2
  obtain ⟨T3, x4⟩ := x4 T2
  obtain ⟨y, y1, y2⟩ : ∃ a, a < 20 ∧ f_L_below (w >>> (6 &&& 31)) 20 = some (nI a) := p_below (w >>> (6 &&& 31)) (d := 20) (by omega) (by omega)
  obtain ⟨D, Qf, g1, g2, g3⟩ := p_servedIn (M := y + 1) (by omega) (by omega) a2
  obtain ⟨T4, g3⟩ := g3 T3
  have best : ∃ T5 : z_H, (if x < 0 then some ((h1', T4) : z_B) else (f_X4_servedIn (h1', T4) 40).bind (fun x802 => (f_X4_cross x802.2 (nI one) x).bind (fun x812 => (f_X4_servedIn x812.2 40).bind (fun x819 => (f_X4_cross x819.2 (nI one) x).bind (fun x829 => (if x802.1 < x819.1 then some x829.2 else none)))))) = some (h1', T5) := by
    rcases x3 with e | ⟨b, e1, e2, e3, Y, QY, e4, e5, e6⟩
    · exact ⟨T4, by rw [e, if_pos (by decide)]⟩
    · obtain ⟨X', QX', z1, z2, z3⟩ := p_servedIn (M := 40) (by omega) (by omega) a2
      obtain ⟨T5, z3⟩ := z3 T4
      have zX : nI X' = nI X0 := congrArg Prod.fst (Option.some.inj (z1.symm.trans x2))
      have hsw := a2.sw o1 e1
      obtain ⟨Y', QY', v1, v2, v3⟩ := p_servedIn (M := 40) (by omega) (by omega) hsw
      obtain ⟨T6, v3⟩ := v3 T5
      have vY : nI Y' = nI Y := congrArg Prod.fst (Option.some.inj (v1.symm.trans e6))
      obtain ⟨q1, c1⟩ := c_cross (T := T5) a2.1 o1 e1 (fun z => e2 z.symm)
      obtain ⟨q2, c2⟩ := c_cross (T := T6) hsw.1 o1 e1 (fun z => e2 z.symm)
      rw [q_sw2] at c2
      have z3 : f_X4_servedIn (h1', T4) 40 = some (nI X', (h1', T5)) := z3
      have v3 : f_X4_servedIn (z_hR h1' 3 (z_sw (h1'.2.1 3) one b), T5) 40 = some (nI Y', (z_hR h1' 3 (z_sw (h1'.2.1 3) one b), T6)) := v3
      refine ⟨T6, ?_⟩
      rw [e3, if_neg (q_n0 (by omega)), z3, Option.bind_some]
      dsimp only
      rw [c1, Option.bind_some]
      dsimp only
      rw [v3, Option.bind_some]
      dsimp only
      rw [c2, Option.bind_some]
      dsimp only
      rw [zX, vY, if_pos (by rw [q_lt (by omega) (by omega)]; exact e4)]
  obtain ⟨T5, best⟩ := best
  obtain ⟨T6, d3⟩ := d1 T5
  obtain ⟨h2, Q2, r1, r2⟩ := l_860 (LL := LL) (xs := xs) (M := y + 1) (D := D) (by omega) o1 u1 (u3 := nI t) (y + 1) 0 z_FU 0 h1' T6 _ (by omega) (by unfold z_FU; omega) a2 (fun d Q' e => by rw [Nat.zero_add]; exact e) g1
  have r2 : f_L_law_L860 LL xs z_FU (nI t) (nI n1) (nI k1) (nI one) u (nI (y + 1)) (nI D) 0 1 (s, (n1, R), (k1, V), (c, L)) (h1', T6) = some (nI t, nI D, nI D, Q2, (h2, T6)) := r2
  have c1 : f_X4_charge (h1', T1) = nI ch := hce
  have rm : f_X4_rooms (h1', T1) = nI n1 := a2.1.2.2.1
  have sr : f_X4_servants (h1', T1) = nI k1 := a2.1.2.2.2.1
  have fa : f_X4_fallen (h1', T1) = nI c := ql
  have t1 : ¬ (nI CR < nI ND) := by rw [q_lt (by omega) (by omega)]; omega
  have t2 : (if nI CR ≤ 0 then some () else (if nI CR ≤ nI ND then none else some ())) = some () := by
    by_cases e : nI CR ≤ 0
    · rw [if_pos e]
    · rw [if_neg e]
      rw [show (0 : Int32) = nI 0 from rfl, q_le (by omega) (by omega)] at e
      have := m2 (by omega)
      rw [if_neg (by rw [q_le (by omega) (by omega)]; omega)]
  have t3 : ¬ ((2 * nI ND) < nI CR) := by
    rw [show (2 : Int32) = nI 2 from rfl, pk_mul, q_lt (by omega) (by omega)]
    omega
  have t4 : ¬ (nI ch < 0) := q_n0 (by omega)
  have t5 : nI ch ≤ 500 := by rw [show (500 : Int32) = nI 500 from rfl, q_le (by omega) (by omega)]; exact hch
  have t6 : ¬ (x = nI one) := fun e => by
    rcases x3 with z | ⟨b, e1, e2, e3, -⟩
    · rw [z] at e; exact q_m1e (by omega) e
    · rw [e3, q_eq (by omega) (by omega)] at e; exact e2 e
  have t7 : ¬ (nI n1 ≤ x) := fun e => by
    rcases x3 with z | ⟨b, e1, e2, e3, -⟩
    · rw [z] at e; exact q_nlem1 (by omega) e
    · rw [e3, q_le (by omega) (by omega)] at e; omega
  have t8 : ¬ (u < -1) ∧ ¬ (60 < u) := by
    rcases u1 with ⟨e, -⟩ | ⟨e, e1, e2, -⟩
    · rw [e]; decide
    · rw [e2]
      refine ⟨fun z => ?_, by rw [q_i60 (by omega)]; omega⟩
      rw [Int32.lt_iff_toInt_lt, nI_toInt (q_b (by omega)), q_mI] at z
      omega
  have t9 : (0 : Int32) ≤ nI D := by rw [q_0le (by omega)]; trivial
  refine ⟨n1, k1, h2, T6, Q2, a1, r1, ?_⟩
  have ht6 : ¬ ((6 : Int32) ≤ nI t) := by rw [show (6 : Int32) = nI 6 from rfl, q_le (by omega) (by omega)]; omega
  rw [f_L_lawb_L22, if_neg ht6, q_s, e32, Option.bind_some, hw, a3, Option.bind_some]
  dsimp only
  rw [d2, Option.bind_some]
  dsimp only
  rw [rm, sr, q_ln (by omega), Option.bind_some, b1, Option.bind_some, nd, Option.bind_some]
  dsimp only
  rw [fa, if_pos rfl, cr, Option.bind_some, if_pos rfl, if_neg t1, t2, Option.bind_some, if_neg t3, c1, if_neg t4, if_pos t5, o2, Option.bind_some, u2, Option.bind_some]
  dsimp only
  rw [x4, Option.bind_some]
  dsimp only
  rw [y2, Option.bind_some, q_1p, g3, Option.bind_some]
  dsimp only
  rw [if_neg t6, if_neg t7, if_neg t8.1, if_neg t8.2, if_pos t9, best, Option.bind_some, d3, Option.bind_some]
  dsimp only
  rw [q_lgc, if_pos rfl, r2, Option.bind_some]
  dsimp only
  rw [if_pos rfl, q_s]
theorem l_22 {LL : Nat} {xs : Nat → Int32} (hL : LL ≤ 260) : ∀ (m t fu n k : Nat) (h T : z_H) (Q : z_Q), t + m = 6 → m < fu → z_I n k h Q → 1 ≤ n → ∃ (n2 k2 : Nat) (h2 T2 : z_H) (Q2 : z_Q), z_I n2 k2 h2 Q2 ∧ f_L_lawb_L22 LL xs fu (nI t) Q (h, T) = some (Q2, (h2, T2))
  | 0, t, fu + 1, n, k, h, T, Q, hm, _, H, _ => ⟨n, k, h, T, Q, H, by
    rw [f_L_lawb_L22, if_pos (by rw [show (6 : Int32) = nI 6 from rfl, q_le (by omega) (by omega)]; omega)]⟩
  | m + 1, t, fu + 1, n, k, h, T, Q, hm, hf, H, h1 => by
    obtain ⟨n2, k2, h2, T2, Q2, a1, a2, a3⟩ := l_22s (xs := xs) hL H h1 (t := t) (fu := fu) (by omega) T
    obtain ⟨n3, k3, h3, T3, Q3, b1, b2⟩ := l_22 (xs := xs) hL m (t + 1) fu n2 k2 h2 T2 Q2 (by omega) (by omega) a2 a1
    exact ⟨n3, k3, h3, T3, Q3, b1, by rw [a3]; exact b2⟩
theorem p_law {LL : Nat} {xs : Nat → Int32} (hL : LL ≤ 260) {n k : Nat} {h T : z_H} {Q : z_Q} (H : z_I n k h Q) (h1 : 1 ≤ n) : f_L_lawb LL xs (h, T) Q = some 1 := by
  obtain ⟨n2, k2, h2, T2, Q2, a1, a2⟩ := l_22 (xs := xs) hL 6 0 z_F8 n k h T Q (by omega) (by unfold z_F8; omega) H h1
  rw [show nI 0 = (0 : Int32) from rfl] at a2
  unfold f_L_lawb
  rw [a2, Option.bind_some]
  dsimp only
  rw [p_same a1]
  rfl
/-- the house is built, and the law holds of it -/
theorem p_all {LL : Nat} (xs : Nat → Int32) (hL : LL ≤ 260) (T : z_H) : ∃ (B : z_B) (Q : z_Q), f_L_build LL xs (z_h0, T) = some (B, Q) ∧ f_L_lawb LL xs B Q = some 1 := by
  obtain ⟨n, k, h, Q, a1, a2, a3⟩ := p_build (xs := xs) hL T
  exact ⟨(h, T), Q, a3, p_law hL a2 a1⟩
