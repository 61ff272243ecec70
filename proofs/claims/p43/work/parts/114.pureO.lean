-- ===== the law: servants beside a room =====
theorem l_389s {LL : Nat} {xs : Nat → Int32} {n k : Nat} {h T : z_H} {s : Nat → Int32} {R V : Nat → Nat → Int32} {c : Nat} {L : Nat → Int32} (H : z_I n k h (s, (n, R), (k, V), (c, L))) (hQ : z_QR n k h s R V c L) {r fl : Nat} (hr : r < n) (hf5 : fl ≤ 5) (hfl : h.2.1 0 r = nI fl) {x : Int32} (hx : z_nr k h fl x) {j : Nat} (hj : j < k) {fu : Nat} {u3 u4 : Int32} {u5 : Int64} {u7 u9 u10 : Int32} {N0 : Nat} {g0 : Nat → Int32} : f_L_law_L389 LL xs (fu + 1) u3 u4 u5 u7 (nI k) u9 u10 (nI r) x (nI j) (s, (n, R), (k, V), (c, L)) (h, T) N0 g0 = f_L_law_L389 LL xs fu u3 u4 u5 u7 (nI k) u9 u10 (nI r) x (nI (j + 1)) (s, (n, R), (k, V), (c, L)) (h, T) N0 g0 := by
  obtain ⟨hSt, hDy, hF, -⟩ := id H
  have hn := hSt.1
  have hk := hSt.2.1
  obtain ⟨a, ha, hfa⟩ := (hDy.2.2.2.1 j hj).1
  obtain ⟨p, p1, p4, hp⟩ := hSt.2.2.2.2.2.2.2.2.2.2 j hj
  obtain ⟨v0, v1, v2, v3, v4⟩ := hQ.2.2.1 j hj
  have r0 := (hQ.2.1 r hr).1.trans hfl
  have v0 := v0.trans hp
  have hnk : (nI k ≤ nI j) = False := eq_false (by rw [q_le (by omega) (by omega)]; omega)
  obtain ⟨w1, -, w2, w3⟩ := c_way (T := T) H hj hr hf5 hfl
  have hfo := c_floor (T := T) hSt hj
  rw [hfa] at hfo
  have hgo := c_goes (T := T) hSt hj
  have hse := c_serves (T := T) hSt hj
  have hle := c_left (T := T) hSt hj
  have eW : z_Wy h fl j = z_w a fl p := by unfold z_Wy; rw [hfa, hp, q_cl (by omega), q_cl (by omega)]
  obtain ⟨-, -, g3, g4⟩ := g_wayE ha hf5 p1 p4
  rw [← eW] at g3 g4
  generalize hWd : z_Wy h fl j = W at w1 w2 w3 g3 g4
  have c1 : (nI W < 1) = False := eq_false (by rw [show (1 : Int32) = nI 1 from rfl, q_lt (by omega) (by omega)]; omega)
  have c2 : ((5 : Int32) < nI W) = False := eq_false (by rw [show (5 : Int32) = nI 5 from rfl, q_lt (by omega) (by omega)]; omega)
  have c3 := eq_false g3
  have c4 : (if nI W ≤ 1 then some () else (if (if 0 ≤ nI a - nI fl then nI a - nI fl else 0 - (nI a - nI fl)) ≤ ((nI W - 1) * nI p) then none else some ())) = some () := by
    rcases g4 with q | q
    · rw [if_pos (by rw [show (1 : Int32) = nI 1 from rfl, q_le (by omega) (by omega)]; omega)]
    · by_cases q2 : nI W ≤ 1
      · rw [if_pos q2]
      · rw [if_neg q2, if_neg q]
  rcases (hDy.2.2.2.1 j hj).2 with ⟨y1, y2, y3⟩ | ⟨q, b, x1, x2, x3, x4, x5, x6⟩ | ⟨q, b, x1, x2, x3, x4, x5, x6⟩
  · rw [y1] at hgo
    rw [y2] at hse
    rw [y3] at hle
    rcases hx with ⟨e1, e2⟩ | ⟨b, b1, b2, b3, b4⟩
    · exact absurd ⟨y1, y2⟩ (e2 j hj)
    · subst b3
      have bj := b4 j hj ⟨y1, y2⟩
      rw [hWd] at bj
      obtain ⟨z1, -, z2, z3⟩ := c_way (T := T) H b1 hr hf5 hfl
      have c5 : (nI W < nI (z_Wy h fl b)) = False := eq_false (by rw [q_lt (by omega) (by omega)]; omega)
      rw [f_L_law_L389]
      by_cases ew : W = z_Wy h fl b
      · have c6 : (nI j < nI b) = False := eq_false (by
          have := bj.2 ew
          rw [q_lt (by omega) (by omega)]; omega)
        rw [← ew] at z1
        have c5' : (nI W < nI W) = False := eq_false (by rw [q_lt (by omega) (by omega)]; omega)
        simp (disch := omega) only [hnk, if_false, hgo, hse, Option.bind_some, q_0lm, hfo, q_ai, w1, c1, c2, v0, r0, c3, c4, q_10, q_n0F, z1, c5', if_true, c6, ite_self, hle, q_mlt, q_s]
      · have c6 : (nI (z_Wy h fl b) = nI W) = False := q_iF (by omega) (by omega) (fun e => ew e.symm)
        simp (disch := omega) only [hnk, if_false, hgo, hse, Option.bind_some, q_0lm, hfo, q_ai, w1, c1, c2, v0, r0, c3, c4, q_10, q_n0F, z1, c5, if_true, c6, ite_self, hle, q_mlt, q_s]
  · have hni : ¬ z_id h j := fun z => by
      have := z.1
      rw [x4] at this
      exact q_m1 (by omega) this
    have hxj : (x = nI j) = False := eq_false (fun e => by
      rcases hx with ⟨e1, e2⟩ | ⟨b', b1, b2, b3, b4⟩
      · rw [e1] at e; exact q_m1e (by omega) e
      · rw [b3, q_eq (by omega) (by omega)] at e
        rw [e] at b2
        exact hni b2)
    rw [x4] at hgo
    rw [x5] at hse
    rw [x6] at hle
    have c7 : (nI b = 0) = False := q_iF (b := 0) (by omega) (by omega) (by omega)
    rw [f_L_law_L389]
    simp (disch := omega) only [hnk, if_false, hgo, hse, Option.bind_some, q_0le, q_0lm, if_true, hfo, q_ai, w1, c1, c2, v0, r0, c3, c4, hxj, hle, c7, q_n0F, q_mlt, q_s]
  · have hni : ¬ z_id h j := fun z => by
      have := z.2
      rw [x5] at this
      exact q_m1 (by omega) this
    have hxj : (x = nI j) = False := eq_false (fun e => by
      rcases hx with ⟨e1, e2⟩ | ⟨b', b1, b2, b3, b4⟩
      · rw [e1] at e; exact q_m1e (by omega) e
      · rw [b3, q_eq (by omega) (by omega)] at e
        rw [e] at b2
        exact hni b2)
    have hfq := hF j hj q x1 x5
    rw [hfa] at hfq
    have rq := (hQ.2.1 q x1).1.trans hfq.symm
    rw [x4] at hgo
    rw [x5] at hse
    rw [x6] at hle
    have c7 : (nI b = 0) = False := q_iF (b := 0) (by omega) (by omega) (by omega)
    rw [f_L_law_L389]
    simp (disch := omega) only [hnk, if_false, hgo, hse, Option.bind_some, q_0le, q_0lm, if_true, hfo, q_ai, w1, c1, c2, v0, r0, c3, c4, hxj, hle, c7, q_n0F, q_mlt, rq, q_s]
theorem l_389 {LL : Nat} {xs : Nat → Int32} {n k : Nat} {h T : z_H} {s : Nat → Int32} {R V : Nat → Nat → Int32} {c : Nat} {L : Nat → Int32} (H : z_I n k h (s, (n, R), (k, V), (c, L))) (hQ : z_QR n k h s R V c L) {r fl : Nat} (hr : r < n) (hf5 : fl ≤ 5) (hfl : h.2.1 0 r = nI fl) {x : Int32} (hx : z_nr k h fl x) {u3 u4 : Int32} {u5 : Int64} {u7 u9 u10 : Int32} {N0 : Nat} {g0 : Nat → Int32} : ∀ (m j fu : Nat), j + m = k → m < fu → f_L_law_L389 LL xs fu u3 u4 u5 u7 (nI k) u9 u10 (nI r) x (nI j) (s, (n, R), (k, V), (c, L)) (h, T) N0 g0 = some (u3, u4, u5, u7, nI k, u9, u10, nI r)
  | 0, j, fu + 1, hm, _ => by
    have hk := H.1.2.1
    rw [f_L_law_L389, if_pos (by rw [q_le (by omega) (by omega)]; omega)]
  | m + 1, j, fu + 1, hm, hf => by
    rw [l_389s H hQ hr hf5 hfl hx (by omega)]
    exact l_389 H hQ hr hf5 hfl hx m (j + 1) fu (by omega) (by omega)
-- ===== the law: rooms =====
theorem q_nar1' : vp_nar .boolean 1 = 1 := by decide
/-- the place of a drop -/
def z_pc (h : z_H) (c i : Nat) : Int32 := z_pl h.2.2.1.2 (nI i) c 0
theorem z_pc.or (h : z_H) {c i : Nat} (hc : c ≤ 12) : (z_pc h c i = -1 ∧ ∀ p, p < c → h.2.2.1.2 p ≠ nI i) ∨ ∃ p, p < c ∧ h.2.2.1.2 p = nI i ∧ z_pc h c i = nI p := by
  rcases z_pl_or (q := h.2.2.1.2) (v := nI i) c 0 (by omega) with ⟨a, b⟩ | ⟨j, -, b, d, e⟩
  · exact Or.inl ⟨a, fun p hp => b p (by omega) (by omega)⟩
  · exact Or.inr ⟨j, by omega, d, e⟩
def z_dn (h : z_H) (c : Nat) : Nat → Nat
  | 0 => 0
  | m + 1 => z_dn h c m + (if z_pc h c m = -1 then 0 else 1)
theorem z_dn.le (h : z_H) (c : Nat) : ∀ m, z_dn h c m ≤ m
  | 0 => Nat.le_refl 0
  | m + 1 => by
    have := z_dn.le h c m
    unfold z_dn
    by_cases e : z_pc h c m = -1
    · rw [if_pos e]; omega
    · rw [if_neg e]; omega
theorem z_dn.cn (h : z_H) (c : Nat) : ∀ m, z_dn h c m = z_cn (fun i => z_pc h c i ≠ -1) m
  | 0 => rfl
  | m + 1 => by
    rw [z_dn, z_cn, z_dn.cn h c m]
    by_cases e : z_pc h c m = -1
    · rw [if_pos e, z_k1.f (fun z => z e)]
    · rw [if_neg e, z_k1.t e]
theorem z_cn.tt : ∀ m, z_cn (fun _ => True) m = m
  | 0 => rfl
  | m + 1 => by rw [z_cn, z_cn.tt m, z_k1.t trivial]
/-- as many drops as are in the line -/
theorem z_dn.all {n k c : Nat} {h : z_H} (S : z_St n k h) (D : z_Dy n k h) (hc : h.2.2.1.1 = nI c) (h12 : c ≤ 12) : z_dn h c n = c := by
  have hn := S.1
  obtain ⟨-, -, ⟨c', l1, l2, l3, l4⟩, -⟩ := D
  have hcc : c' = c := by
    have e := l2.symm.trans hc
    rw [q_eq (by omega) (by omega)] at e
    exact e
  subst hcc
  rw [z_dn.cn]
  have a : z_cn (fun i => z_pc h c' i ≠ -1) n ≤ z_cn (fun _ => True) c' := z_cn.inj n c' _ _ (fun i => (z_pc h c' i).toNatClampNeg) (fun i hi hp => by
    rcases z_pc.or h (i := i) h12 with ⟨q, -⟩ | ⟨p, p1, p2, p3⟩
    · exact absurd q hp
    · show (z_pc h c' i).toNatClampNeg < c' ∧ True
      rw [p3, q_cl (by omega)]; exact ⟨p1, trivial⟩) (fun i j hi hj pi pj e => by
    have e : (z_pc h c' i).toNatClampNeg = (z_pc h c' j).toNatClampNeg := e
    rcases z_pc.or h (i := i) h12 with ⟨q, -⟩ | ⟨p, p1, p2, p3⟩
    · exact absurd q pi
    · rcases z_pc.or h (i := j) h12 with ⟨q, -⟩ | ⟨p', p1', p2', p3'⟩
      · exact absurd q pj
      · rw [p3, p3', q_cl (by omega), q_cl (by omega)] at e
        rw [e, p2', q_eq (by omega) (by omega)] at p2
        exact p2.symm)
  have b : z_cn (fun _ => True) c' ≤ z_cn (fun i => z_pc h c' i ≠ -1) n := z_cn.inj c' n _ _ (fun p => (h.2.2.1.2 p).toNatClampNeg) (fun p hp _ => by
    obtain ⟨i, i1, i2⟩ := l3 p hp
    show (h.2.2.1.2 p).toNatClampNeg < n ∧ z_pc h c' (h.2.2.1.2 p).toNatClampNeg ≠ -1
    rw [i2, q_cl (by omega)]
    refine ⟨i1, fun e => ?_⟩
    rcases z_pc.or h (i := i) h12 with ⟨-, q⟩ | ⟨p', p1', p2', p3'⟩
    · exact q p hp i2
    · rw [p3'] at e
      exact q_m1 (by omega) e) (fun p q hp hq _ _ e => by
    have e : (h.2.2.1.2 p).toNatClampNeg = (h.2.2.1.2 q).toNatClampNeg := e
    obtain ⟨i, i1, i2⟩ := l3 p hp
    obtain ⟨i', i1', i2'⟩ := l3 q hq
    rw [i2, i2', q_cl (by omega), q_cl (by omega)] at e
    exact l4 p q hp hq (by rw [i2, i2', e]))
  rw [z_cn.tt] at a b
  omega
theorem l_115s {LL : Nat} {xs : Nat → Int32} {n k : Nat} {h T : z_H} {s : Nat → Int32} {R V : Nat → Nat → Int32} {c : Nat} {L : Nat → Int32} (H : z_I n k h (s, (n, R), (k, V), (c, L))) (hQ : z_QR n k h s R V c L) {r : Nat} (hr : r < n) {fu : Nat} {u3 u4 : Int32} {u5 : Int64} {g0 : Nat → Int32} (hg : ∀ p, p < 12 → z_pc h c r = nI p → g0 p = 0) : f_L_law_L115 LL xs (fu + 1) u3 u4 u5 (nI n) (nI k) (nI (z_cr (z_wi h) r)) (nI (z_dn h c r)) (nI r) (s, (n, R), (k, V), (c, L)) (h, T) n g0 = f_L_law_L115 LL xs fu u3 u4 u5 (nI n) (nI k) (nI (z_cr (z_wi h) (r + 1))) (nI (z_dn h c (r + 1))) (nI (r + 1)) (s, (n, R), (k, V), (c, L)) (h, T) n (if z_pc h c r = -1 then g0 else upd g0 (z_pc h c r).toNatClampNeg 1) := by
  obtain ⟨hSt, hDy, hF, -⟩ := id H
  obtain ⟨⟨q0, q1, q2, q3, q4, q5⟩, qr, qv, qc, ql, qL⟩ := id hQ
  have hn := hSt.1
  have hk := hSt.2.1
  obtain ⟨⟨ch, hch, hce⟩, -, ⟨c', l1, l2, l3, l4⟩, -⟩ := id hDy
  have hcc : c' = c := by
    have e := l2.symm.trans ql
    rw [q_eq (by omega) (by omega)] at e
    exact e
  subst hcc
  obtain ⟨a, ha, hfl⟩ := hSt.2.2.2.2.1 r hr
  have ew := z_wi.e hSt hr
  have hdrop := c_drop (T := T) hSt hr
  have hroom := c_room (T := T) hSt hr rfl
  obtain ⟨ro, hro, ero⟩ := z_wi.on hSt hr
  have hroom2 := c_room (T := T) hSt hro ero
  have hdrop2 := c_drop (T := T) hSt hro
  rw [ero] at hdrop2
  have hwait := c_wait (T := T) hSt hr
  have hpl : f_X4_placeInLine (h, T) (nI r) = some (z_pc h c' r) := c_place (T := T) hSt ql qc hr
  have hhas : f_X4_hasFallen (h, T) (nI r) = some (if z_pc h c' r = -1 then 0 else 1) := c_has (T := T) hSt ql qc hr
  obtain ⟨hrg, hrle, -⟩ := c_rings (T := T) hSt hch hce hr ha hfl
  obtain ⟨x, hnc, -, hxn⟩ := c_near H hr ha hfl
  have hnc := hnc T
  obtain ⟨lo, lo1, lo2⟩ := c_long hSt hDy
  have lo1 := lo1 T
  have hnx := c_next (T := T) hSt ql qc
  have hnr : (nI n ≤ nI r) = False := eq_false (by rw [q_le (by omega) (by omega)]; omega)
  have c1 : (nI n ≤ nI (z_wi h r)) = False := eq_false (by rw [q_le (by omega) (by omega)]; omega)
  have l389 := fun (u9 u10 : Int32) (g : Nat → Int32) => l_389 (LL := LL) (xs := xs) (T := T) H hQ hr ha hfl hxn (u3 := u3) (u4 := u4) (u5 := u5) (u7 := nI n) (u9 := u9) (u10 := u10) (N0 := n) (g0 := g) k 0 z_F14 (by omega) (by unfold z_F14; omega)
  rw [show nI 0 = (0 : Int32) from rfl] at l389
  have e1 : (if nI (z_wi h r) = nI r then some (0 : Int32) else some 1) = some (if z_wi h r = r then 0 else 1) := by
    by_cases e : z_wi h r = r
    · rw [if_pos (by rw [e]), if_pos e]
    · rw [if_neg (by rw [q_eq (by omega) (by omega)]; exact e), if_neg e]
  have e2 : nI (z_cr (z_wi h) r) + (if z_wi h r = r then 0 else 1) = nI (z_cr (z_wi h) (r + 1)) := by
    rw [z_cr]
    by_cases e : z_wi h r = r
    · rw [if_pos e, if_pos e, q_ad0]; rfl
    · rw [if_neg e, if_neg e, q_s]
  have hfa : f_X4_fallen (h, T) = nI c' := ql
  have hchg : f_X4_charge (h, T) = nI ch := hce
  -- who waits
  have w1 : (h.2.1 5 r < -1) = False := eq_false (by
    rcases hDy.2.1 r hr with e | ⟨w, w1, e⟩
    · rw [e]; decide
    · rw [e]
      intro z
      rw [Int32.lt_iff_toInt_lt, nI_toInt (q_b (by omega)), q_mI] at z
      omega)
  have w2 : ((29 : Int32) < h.2.1 5 r) = False := eq_false (by
    rcases hDy.2.1 r hr with e | ⟨w, w1, e⟩
    · rw [e]; decide
    · rw [e, show (29 : Int32) = nI 29 from rfl, q_lt (by omega) (by omega)]; omega)
  have w3 : (if h.2.1 5 r ≤ 0 then some () else (if lo < 0 then none else some ())) = some () := by
    by_cases e : h.2.1 5 r ≤ 0
    · rw [if_pos e]
    · rw [if_neg e]
      rcases lo2 with ⟨y1, y2⟩ | ⟨b, b1, b2, b3, b4⟩
      · rw [y2 r hr] at e; exact absurd (by decide) e
      · rw [b2, if_neg (q_n0 (by omega))]
  have w4 : (if lo < 0 then some () else (f_X4_waitedFor (h, T) lo).bind (fun x370 => (if h.2.1 5 r ≤ x370 then some () else none))) = some () := by
    rcases lo2 with ⟨y1, y2⟩ | ⟨b, b1, b2, b3, b4⟩
    · rw [y1, if_pos (by decide)]
    · rw [b2, if_neg (q_n0 (by omega)), c_wait (T := T) hSt b1, Option.bind_some, if_pos (b4 r hr).1]
  have hcut : ∃ y, f_X4_isCut (h, T) (nI r) = some y ∧ (if y = 0 then some () else (f_X4_ringsLeft (h, T) (nI r)).bind (fun x320 => (if x320 = 0 then some () else none))) = some () := by
    rcases c_cut (T := T) hSt hr with ⟨y, y2⟩ | ⟨y, y2⟩
    · exact ⟨1, y, by rw [if_neg (by decide), hrg, if_pos y2, Option.bind_some, if_pos rfl]⟩
    · exact ⟨0, y, if_pos rfl⟩
  obtain ⟨cu, cu1, cu2⟩ := hcut
  have hrl : ∃ y, f_X4_ringsLeft (h, T) (nI r) = some y ∧ y ≤ nI ch := by
    refine ⟨_, hrg, ?_⟩
    by_cases e : h.2.1 4 r = 1
    · rw [if_pos e, q_0le (by omega)]; trivial
    · rw [if_neg e]; exact hrle
  obtain ⟨rl, rl1, rl2⟩ := hrl
  rw [rl1, Option.bind_some] at cu2
  rcases z_pc.or h (i := r) qc with ⟨p1, p2⟩ | ⟨p, p1, p2, p3⟩
  · have d2 : nI (z_dn h c' r) + 0 = nI (z_dn h c' (r + 1)) := by rw [z_dn, if_pos p1, q_ad0]; rfl
    rw [if_pos p1] at hhas ⊢
    rw [p1] at hpl
    have c9 : (nI c' ≤ -1) = False := eq_false (q_nlem1 (by omega))
    have c10 : ((-1 : Int32) = 0) = False := q_m10
    rw [f_L_law_L115]
    simp (disch := omega) only [hnr, if_false, hpl, Option.bind_some, hdrop, e1, q_0lm, q_n0F, c1, hroom, if_true, hroom2, hdrop2, hhas, q_mlt, hfa, c9, c10, hwait, w1, w2, lo1, w3, cu1, cu2, rl1, hchg, eq_true rl2, w4, hnc, l389, e2, d2, q_s]
  · have hpz := hg p (by omega) p3
    have d2 : nI (z_dn h c' r) + 1 = nI (z_dn h c' (r + 1)) := by rw [z_dn, p3, if_neg (q_m1 (by omega)), q_s]
    rw [p3] at hhas hpl ⊢
    rw [if_neg (q_m1 (by omega))] at hhas ⊢
    rw [q_cl (by omega)]
    have c9 : (nI c' ≤ nI p) = False := eq_false (by rw [q_le (by omega) (by omega)]; omega)
    have hcn : c' ≤ n := l1
    have c11 : (if nI p = 0 then (f_X4_nextDrop (h, T)).bind (fun x263 => (if x263 = nI r then some () else none)) else some ()) = some () := by
      by_cases e : nI p = 0
      · rw [if_pos e, hnx, Option.bind_some]
        have e : nI p = nI 0 := e
        rw [q_eq (by omega) (by omega)] at e
        rw [if_neg (show ¬ c' = 0 by omega), if_pos (by rw [← e]; exact p2)]
      · rw [if_neg e]
    rw [f_L_law_L115]
    simp (disch := omega) only [hnr, if_false, hpl, Option.bind_some, hdrop, e1, q_0le, q_n0F, c1, hroom, if_true, hroom2, hdrop2, hhas, hfa, c9, q_at, hpz, c11, hwait, w1, w2, lo1, w3, cu1, cu2, rl1, hchg, eq_true rl2, q_wr, q_nar1', w4, hnc, l389, e2, d2, q_s]
theorem l_115 {LL : Nat} {xs : Nat → Int32} {n k : Nat} {h T : z_H} {s : Nat → Int32} {R V : Nat → Nat → Int32} {c : Nat} {L : Nat → Int32} (H : z_I n k h (s, (n, R), (k, V), (c, L))) (hQ : z_QR n k h s R V c L) {u3 u4 : Int32} {u5 : Int64} : ∀ (m r fu : Nat) (g0 : Nat → Int32), r + m = n → m < fu → (∀ p, (∀ i, i < r → z_pc h c i ≠ nI p) → g0 p = 0) → f_L_law_L115 LL xs fu u3 u4 u5 (nI n) (nI k) (nI (z_cr (z_wi h) r)) (nI (z_dn h c r)) (nI r) (s, (n, R), (k, V), (c, L)) (h, T) n g0 = some (u3, u4, u5, nI n, nI k, nI (z_cr (z_wi h) n), nI (z_dn h c n))
  | 0, r, fu + 1, g0, hm, _, hg => by
    have hn := H.1.1
    rw [f_L_law_L115, if_pos (by rw [q_le (by omega) (by omega)]; omega), show r = n by omega]
  | m + 1, r, fu + 1, g0, hm, hf, hg => by
    have hn := H.1.1
    have qc := hQ.2.2.2.1
    have pq : ∀ p, p < 12 → z_pc h c r = nI p → ∀ i, i < r → z_pc h c i ≠ nI p := fun p hp e i hi e2 => by
      rcases z_pc.or h (i := r) qc with ⟨a, -⟩ | ⟨x, x1, x2, x3⟩
      · rw [a] at e; exact q_m1e (by omega) e
      · rcases z_pc.or h (i := i) qc with ⟨b, -⟩ | ⟨y, y1, y2, y3⟩
        · rw [b] at e2; exact q_m1e (by omega) e2
        · rw [x3, q_eq (by omega) (by omega)] at e
          rw [y3, q_eq (by omega) (by omega)] at e2
          rw [e, ← e2, y2, q_eq (by omega) (by omega)] at x2
          omega
    rw [l_115s H hQ (by omega) (fun p hp e => hg p (pq p hp e))]
    refine l_115 H hQ m (r + 1) fu _ (by omega) (by omega) (fun p hp => ?_)
    by_cases e : z_pc h c r = -1
    · rw [if_pos e]
      exact hg p (fun i hi => hp i (by omega))
    · rw [if_neg e]
      rcases z_pc.or h (i := r) qc with ⟨a, -⟩ | ⟨x, x1, x2, x3⟩
      · exact absurd a e
      · rw [x3, q_cl (by omega)]
        have : p ≠ x := fun e2 => hp r (by omega) (by rw [e2]; exact x3)
        rw [q_un this]
        exact hg p (fun i hi => hp i (by omega))
