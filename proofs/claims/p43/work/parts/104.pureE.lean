-- ===== a drop put up, by hand =====
theorem q_nf {a b : Nat} (h : a < 1000) (h2 : b < 1000) (hh : b < a) : (nI a ≤ nI b) = False := eq_false (by rw [q_le h h2]; omega)
theorem p_up2 {n k : Nat} {s : Nat → Int32} {R V : Nat → Nat → Int32} {c p : Nat} {L : Nat → Int32} {v : Int32} (hc12 : c ≤ 12) (hpc : p < c) (hne : ∀ j, j < c → j ≠ p → L j ≠ v) : ∀ (m i fu : Nat) (g : Nat → Int32), i + 1 + m = c → m < fu → p ≤ i → (∀ j, j < i → g j = z_sh L p (c - 1) j) → ∃ g2, f_X5_up_L26 fu v (nI i) (nI c) (nI (i + 1)) (s, (n, R), (k, V), (c, L)) (c - 1) g = some g2 ∧ ∀ j, j < c - 1 → g2 j = z_sh L p (c - 1) j
  | 0, i, fu + 1, g, hm, _, hp, hg => by
    refine ⟨g, ?_, fun j hj => hg j (by omega)⟩
    rw [f_X5_up_L26]; (try dsimp only); rw [if_pos (by rw [q_le (by omega) (by omega)]; omega)]
  | m + 1, i, fu + 1, g, hm, hf, hp, hg => by
    obtain ⟨g2, a, b⟩ := p_up2 (n := n) (k := k) (s := s) (R := R) (V := V) hc12 hpc hne m (i + 1) fu (upd g i (L (i + 1))) (by omega) (by omega) (by omega) (fun j hj => by
      by_cases e : j = i
      · rw [e, q_us]; exact (if_pos (by omega) : z_sh L p (c - 1) i = L (i + 1)).symm
      · rw [q_un e]; exact hg j (by omega))
    refine ⟨g2, ?_, b⟩
    rw [f_X5_up_L26]; (try dsimp only); rw [if_neg (by rw [q_le (by omega) (by omega)]; omega)]
    simp (disch := omega) only [if_false, q_at, Option.bind_some, eq_false (hne (i + 1) (by omega) (by omega)), q_wr, q_s]
    exact a
theorem p_up1 {n k : Nat} {s : Nat → Int32} {R V : Nat → Nat → Int32} {c p : Nat} {L : Nat → Int32} {v : Int32} (hc12 : c ≤ 12) (hpc : p < c) (hv : L p = v) (hne : ∀ j, j < c → j ≠ p → L j ≠ v) : ∀ (m i fu : Nat) (g : Nat → Int32), i + m = p → c - i < fu → (∀ j, j < i → g j = z_sh L p (c - 1) j) → ∃ g2, f_X5_up_L26 fu v (nI i) (nI c) (nI i) (s, (n, R), (k, V), (c, L)) (c - 1) g = some g2 ∧ ∀ j, j < c - 1 → g2 j = z_sh L p (c - 1) j
  | 0, i, fu + 1, g, hm, hf, hg => by
    have hi : i = p := by omega
    obtain ⟨g2, a, b⟩ := p_up2 (n := n) (k := k) (s := s) (R := R) (V := V) hc12 hpc hne (c - p - 1) p fu g (by omega) (by omega) (Nat.le_refl p) (fun j hj => hg j (by omega))
    refine ⟨g2, ?_, b⟩
    rw [f_X5_up_L26]; (try dsimp only); rw [if_neg (by rw [q_le (by omega) (by omega)]; omega), hi]
    simp (disch := omega) only [if_false, q_at, Option.bind_some, eq_true hv, if_true, q_s]
    exact a
  | m + 1, i, fu + 1, g, hm, hf, hg => by
    obtain ⟨g2, a, b⟩ := p_up1 (n := n) (k := k) (s := s) (R := R) (V := V) hc12 hpc hv hne m (i + 1) fu (upd g i (L i)) (by omega) (by omega) (fun j hj => by
      by_cases e : j = i
      · rw [e, q_us]; exact (if_neg (by omega) : z_sh L p (c - 1) i = L i).symm
      · rw [q_un e]; exact hg j (by omega))
    refine ⟨g2, ?_, b⟩
    rw [f_X5_up_L26]; (try dsimp only); rw [if_neg (by rw [q_le (by omega) (by omega)]; omega)]
    simp (disch := omega) only [if_false, q_at, Option.bind_some, eq_false (hne i (by omega) (by omega)), q_wr, q_s]
    exact a
theorem p_up {n k : Nat} {s : Nat → Int32} {R V : Nat → Nat → Int32} {c p : Nat} {L : Nat → Int32} {v : Int32} (hc12 : c ≤ 12) (hpc : p < c) (hv : L p = v) (hne : ∀ j, j < c → j ≠ p → L j ≠ v) : ∃ g2, f_X5_up (s, (n, R), (k, V), (c, L)) v = some (s, (n, R), (k, V), (c - 1, g2)) ∧ ∀ j, j < c - 1 → g2 j = z_sh L p (c - 1) j := by
  obtain ⟨g2, a, b⟩ := p_up1 (n := n) (k := k) (s := s) (R := R) (V := V) hc12 hpc hv hne p 0 z_F14 (fun _ => 0) (by omega) (by unfold z_F14; omega) (fun j hj => by omega)
  have a : f_X5_up_L26 z_F14 v 0 (nI c) 0 (s, (n, R), (k, V), (c, L)) (c - 1) (fun _ => 0) = some g2 := a
  refine ⟨g2, ?_, b⟩
  unfold f_X5_up
  simp (disch := omega) only [q_d1, q_ln, Option.bind_some, a, z_qL]
theorem z_sh_cg {L L2 : Nat → Int32} {c p : Nat} (h : ∀ j, j < c → L j = L2 j) : ∀ j, j < c - 1 → z_sh L p (c - 1) j = z_sh L2 p (c - 1) j := fun j hj => by
  unfold z_sh
  by_cases e : p ≤ j ∧ j < c - 1
  · rw [if_pos e, if_pos e]; exact h _ (by omega)
  · rw [if_neg e, if_neg e]; exact h _ (by omega)
-- ===== the nearest idle servant =====
def g_way (p far : Int32) : Nat → Int32 → Option Int32
  | 0, _ => none
  | n + 1, u4 => if far ≤ u4 * p then some u4 else g_way p far n (u4 + 1)
theorem p_way24 {n k : Nat} {s : Nat → Int32} {R V : Nat → Nat → Int32} {c : Nat} {L : Nat → Int32} {j : Nat} (hj : j < k) (hk : k ≤ 6) {far : Int32} : ∀ (fu : Nat) (u4 : Int32), f_X5_way_L24 (s, (n, R), (k, V), (c, L)) fu (nI j) far u4 = g_way (V j 0) far fu u4
  | 0, u4 => rfl
  | fu + 1, u4 => by
    rw [f_X5_way_L24]; (try dsimp only); rw [g_way]
    simp (disch := omega) only [q_ai, Option.bind_some, p_way24 hj hk fu (u4 + 1)]
theorem g_wayAll : ∀ a : Fin 6, ∀ b : Fin 6, ∀ p : Fin 4, g_way (nI (p.val + 1)) (if 0 ≤ (nI a.val - nI b.val) then (nI a.val - nI b.val) else 0 - (nI a.val - nI b.val)) 14 1 = some (nI (z_w a.val b.val (p.val + 1))) ∧ z_w a.val b.val (p.val + 1) ≤ 5 ∧ ¬ ((nI (z_w a.val b.val (p.val + 1)) * nI (p.val + 1)) < (if 0 ≤ (nI a.val - nI b.val) then (nI a.val - nI b.val) else 0 - (nI a.val - nI b.val))) ∧ (z_w a.val b.val (p.val + 1) ≤ 1 ∨ ¬ ((if 0 ≤ (nI a.val - nI b.val) then (nI a.val - nI b.val) else 0 - (nI a.val - nI b.val)) ≤ ((nI (z_w a.val b.val (p.val + 1)) - 1) * nI (p.val + 1)))) := by decide +kernel
theorem g_wayE {a b p : Nat} (ha : a ≤ 5) (hb : b ≤ 5) (hp : 1 ≤ p) (hp4 : p ≤ 4) : g_way (nI p) (if 0 ≤ (nI a - nI b) then (nI a - nI b) else 0 - (nI a - nI b)) 14 1 = some (nI (z_w a b p)) ∧ z_w a b p ≤ 5 ∧ ¬ ((nI (z_w a b p) * nI p) < (if 0 ≤ (nI a - nI b) then (nI a - nI b) else 0 - (nI a - nI b))) ∧ (z_w a b p ≤ 1 ∨ ¬ ((if 0 ≤ (nI a - nI b) then (nI a - nI b) else 0 - (nI a - nI b)) ≤ ((nI (z_w a b p) - 1) * nI p))) := by
  obtain ⟨q, rfl⟩ : ∃ q, p = q + 1 := ⟨p - 1, by omega⟩
  exact g_wayAll ⟨a, by omega⟩ ⟨b, by omega⟩ ⟨q, by omega⟩
theorem p_W {n k : Nat} {h : z_H} {s : Nat → Int32} {R V : Nat → Nat → Int32} {c : Nat} {L : Nat → Int32} (hSt : z_St n k h) (hDy : z_Dy n k h) (hQ : z_QR n k h s R V c L) {j r fl : Nat} (hj : j < k) (hr : r < n) (hf5 : fl ≤ 5) (hfl : h.2.1 0 r = nI fl) : (1 ≤ z_Wy h fl j ∧ z_Wy h fl j ≤ 5) ∧ f_X3_minutesOfWay (z_rg (h.2.2.2.2 1) (nI j)) (nI fl) (z_rg (h.2.2.2.2 0) (nI j)) = some (nI (z_Wy h fl j)) ∧ f_X5_way (s, (n, R), (k, V), (c, L)) (nI j) (nI r) = some (nI (z_Wy h fl j)) := by
  obtain ⟨s1, s2, s3, s4, s5, s6, s7, s8, s9, s10, s11⟩ := id hSt
  obtain ⟨a, a5, ha⟩ := (hDy.2.2.2.1 j hj).1
  obtain ⟨p, p1, p4, hp⟩ := s11 j hj
  obtain ⟨v0, v1, v2, v3, v4⟩ := hQ.2.2.1 j hj
  obtain ⟨r0, r1, r2, r3, r4, r5⟩ := hQ.2.1 r hr
  have e : z_Wy h fl j = z_w a fl p := by unfold z_Wy; rw [ha, hp, q_cl (by omega), q_cl (by omega)]
  obtain ⟨w1, w2, w3⟩ := q_way a5 hf5 p1 p4
  obtain ⟨x1, x2, x3⟩ := g_wayE a5 hf5 p1 p4
  rw [e]
  refine ⟨⟨w1.1, x2⟩, ?_, ?_⟩
  · rw [q_rg (by omega), q_rg (by omega), ha, hp]; exact w2
  · unfold f_X5_way
    simp (disch := omega) only [q_ai, Option.bind_some, v1.trans ha, r0.trans hfl, p_way24 hj s2, v0.trans hp, show z_F14 = 14 from rfl, x1]
/-- what the nearest idle one is -/
def z_nr (k : Nat) (h : z_H) (fl : Nat) (x : Int32) : Prop := (x = -1 ∧ ∀ i, i < k → ¬ z_id h i) ∨ ∃ b, b < k ∧ z_id h b ∧ x = nI b ∧ ∀ i, i < k → z_id h i → z_Wy h fl b ≤ z_Wy h fl i ∧ (z_Wy h fl i = z_Wy h fl b → b ≤ i)
theorem z_nr.u {k : Nat} {h : z_H} {fl : Nat} {x y : Int32} (a : z_nr k h fl x) (b : z_nr k h fl y) : x = y := by
  rcases a with ⟨a1, a2⟩ | ⟨a, a1, a2, a3, a4⟩
  · rcases b with ⟨b1, b2⟩ | ⟨b, b1, b2, b3, b4⟩
    · rw [a1, b1]
    · exact absurd b2 (a2 b b1)
  · rcases b with ⟨b1, b2⟩ | ⟨b, b1, b2, b3, b4⟩
    · exact absurd a2 (b2 a a1)
    · have x1 := a4 b b1 b2
      have x2 := b4 a a1 a2
      have : a = b := by omega
      rw [a3, b3, this]
/-- up from j on: of those below j the best is known -/
theorem p_near {n k : Nat} {h : z_H} (hSt : z_St n k h) {fl : Nat} (hW : ∀ j, j < k → (1 ≤ z_Wy h fl j ∧ z_Wy h fl j ≤ 5) ∧ f_X3_minutesOfWay (z_rg (h.2.2.2.2 1) (nI j)) (nI fl) (z_rg (h.2.2.2.2 0) (nI j)) = some (nI (z_Wy h fl j))) : ∀ (m j fu : Nat) (u2 u3 : Int32), j + m = k → m < fu → ((u2 = -1 ∧ ∀ i, i < j → ¬ z_id h i) ∨ ∃ b, b < j ∧ z_id h b ∧ u2 = nI b ∧ u3 = nI (z_Wy h fl b) ∧ ∀ i, i < j → z_id h i → z_Wy h fl b ≤ z_Wy h fl i ∧ (z_Wy h fl i = z_Wy h fl b → b ≤ i)) → ∃ x, f_X3_nearestTo_L7 h.2.2.2 fu (nI fl) u2 u3 (nI j) = some x ∧ z_nr k h fl x
  | 0, j, fu + 1, u2, u3, hm, _, hu => by
    have hk6 := hSt.2.1
    have s4 := hSt.2.2.2.1
    refine ⟨u2, ?_, ?_⟩
    · rw [f_X3_nearestTo_L7, if_pos (by rw [s4, q_le (by omega) (by omega)]; omega)]
    · rcases hu with ⟨e, e2⟩ | ⟨b, b1, b2, b3, b4, b5⟩
      · exact Or.inl ⟨e, fun i hi => e2 i (by omega)⟩
      · exact Or.inr ⟨b, by omega, b2, b3, fun i hi => b5 i (by omega)⟩
  | m + 1, j, fu + 1, u2, u3, hm, hf, hu => by
    have hk6 := hSt.2.1
    have s4 := hSt.2.2.2.1
    have hj : j < k := by omega
    have hnk : ¬ (h.2.2.2.1 ≤ nI j) := by rw [s4, q_le (by omega) (by omega)]; omega
    obtain ⟨w1, w2⟩ := hW j hj
    by_cases hi : z_id h j
    · rcases hu with ⟨e, e2⟩ | ⟨b, b1, b2, b3, b4, b5⟩
      · obtain ⟨x, x1, x3⟩ := p_near hSt hW m (j + 1) fu (nI j) (nI (z_Wy h fl j)) (by omega) (by omega) (Or.inr ⟨j, by omega, hi, rfl, rfl, fun i i1 i2 => by
          by_cases ee : i = j
          · rw [ee]; exact ⟨Nat.le_refl _, fun _ => Nat.le_refl _⟩
          · exact absurd i2 (e2 i (by omega))⟩)
        refine ⟨x, ?_, x3⟩
        rw [f_X3_nearestTo_L7, if_neg hnk, q_rg (f := h.2.2.2.2 2) (by omega), if_pos hi.1, q_rg (f := h.2.2.2.2 3) (by omega), if_pos hi.2, w2]
        show (if u2 = -1 then _ else _) = _
        rw [if_pos e, q_s]; exact x1
      · have hub : ¬ u2 = -1 := by rw [b3]; exact q_m1 (by omega)
        obtain ⟨v1, v2⟩ := hW b (by omega)
        by_cases hle : z_Wy h fl b ≤ z_Wy h fl j
        · obtain ⟨x, x1, x3⟩ := p_near hSt hW m (j + 1) fu u2 u3 (by omega) (by omega) (Or.inr ⟨b, by omega, b2, b3, b4, fun i i1 i2 => by
            by_cases ee : i = j
            · rw [ee]; exact ⟨hle, fun _ => by omega⟩
            · exact b5 i (by omega) i2⟩)
          refine ⟨x, ?_, x3⟩
          rw [f_X3_nearestTo_L7, if_neg hnk, q_rg (f := h.2.2.2.2 2) (by omega), if_pos hi.1, q_rg (f := h.2.2.2.2 3) (by omega), if_pos hi.2, w2]
          show (if u2 = -1 then _ else if u3 ≤ nI (z_Wy h fl j) then _ else _) = _
          rw [if_neg hub, if_pos (by rw [b4, q_le (by omega) (by omega)]; exact hle), q_s]; exact x1
        · obtain ⟨x, x1, x3⟩ := p_near hSt hW m (j + 1) fu (nI j) (nI (z_Wy h fl j)) (by omega) (by omega) (Or.inr ⟨j, by omega, hi, rfl, rfl, fun i i1 i2 => by
            by_cases ee : i = j
            · rw [ee]; exact ⟨Nat.le_refl _, fun _ => Nat.le_refl _⟩
            · have := b5 i (by omega) i2
              exact ⟨by omega, fun _ => by omega⟩⟩)
          refine ⟨x, ?_, x3⟩
          rw [f_X3_nearestTo_L7, if_neg hnk, q_rg (f := h.2.2.2.2 2) (by omega), if_pos hi.1, q_rg (f := h.2.2.2.2 3) (by omega), if_pos hi.2, w2]
          show (if u2 = -1 then _ else if u3 ≤ nI (z_Wy h fl j) then _ else _) = _
          rw [if_neg hub, if_neg (by rw [b4, q_le (by omega) (by omega)]; exact hle), q_s]; exact x1
    · obtain ⟨x, x1, x3⟩ := p_near hSt hW m (j + 1) fu u2 u3 (by omega) (by omega) (hu.elim (fun y => Or.inl ⟨y.1, fun i i1 => by
        by_cases ee : i = j
        · rw [ee]; exact hi
        · exact y.2 i (by omega)⟩) (fun ⟨b, b1, b2, b3, b4, b5⟩ => Or.inr ⟨b, by omega, b2, b3, b4, fun i i1 i2 => by
          by_cases ee : i = j
          · rw [ee] at i2; exact absurd i2 hi
          · exact b5 i (by omega) i2⟩))
      refine ⟨x, ?_, x3⟩
      rw [f_X3_nearestTo_L7, if_neg hnk, q_rg (f := h.2.2.2.2 2) (by omega)]
      by_cases e : h.2.2.2.2 2 j = -1
      · rw [if_pos e, q_rg (f := h.2.2.2.2 3) (by omega), if_neg (fun z => hi ⟨e, z⟩), q_s]; exact x1
      · rw [if_neg e, q_s]; exact x1
theorem p_nearestC {n k : Nat} {h : z_H} (hSt : z_St n k h) {fl : Nat} (hW : ∀ j, j < k → (1 ≤ z_Wy h fl j ∧ z_Wy h fl j ≤ 5) ∧ f_X3_minutesOfWay (z_rg (h.2.2.2.2 1) (nI j)) (nI fl) (z_rg (h.2.2.2.2 0) (nI j)) = some (nI (z_Wy h fl j))) : ∃ x, f_X3_nearestTo h.2.2.2 (nI fl) = some x ∧ z_nr k h fl x := by
  have hk6 := hSt.2.1
  obtain ⟨x, x1, x3⟩ := p_near hSt hW k 0 z_FU (-1) 0 (by omega) (by unfold z_FU; omega) (Or.inl ⟨rfl, fun i hi => by omega⟩)
  refine ⟨x, ?_, x3⟩
  unfold f_X3_nearestTo
  show (f_X3_nearestTo_L7 h.2.2.2 z_FU (nI fl) (-1) 0 (nI 0)).bind _ = _
  rw [x1]; rfl
theorem q_nlt {a b : Nat} (h : a < 1000) (h2 : b < 1000) : (nI a < nI b) = (a < b) := propext (q_lt h h2)
theorem q_pm1 {a : Nat} (h : 1 ≤ a) : nI a + (-1) = nI (a - 1) := by
  rw [← q_d1 h]; grind
/-- down from j: of those from j on the best is known -/
theorem p_nearS {n k : Nat} {h : z_H} {s : Nat → Int32} {R V : Nat → Nat → Int32} {c : Nat} {L : Nat → Int32} (hSt : z_St n k h) (hDy : z_Dy n k h) (hQ : z_QR n k h s R V c L) {r fl : Nat} (hW : ∀ j, j < k → (1 ≤ z_Wy h fl j ∧ z_Wy h fl j ≤ 5) ∧ f_X5_way (s, (n, R), (k, V), (c, L)) (nI j) (nI r) = some (nI (z_Wy h fl j))) : ∀ (j fu : Nat) (u2 u3 : Int32), j ≤ k → j < fu → u3 = nI j - 1 → ((u2 = -1 ∧ ∀ i, j ≤ i → i < k → ¬ z_id h i) ∨ ∃ b, b < k ∧ z_id h b ∧ u2 = nI b ∧ ∀ i, j ≤ i → i < k → z_id h i → z_Wy h fl b ≤ z_Wy h fl i ∧ (z_Wy h fl i = z_Wy h fl b → b ≤ i)) → ∃ x, f_X5_nearest_L10 (s, (n, R), (k, V), (c, L)) fu (nI r) u2 u3 = some x ∧ z_nr k h fl x
  | 0, fu + 1, u2, u3, hm, _, h3, hu => by
    refine ⟨u2, ?_, ?_⟩
    · rw [f_X5_nearest_L10]; (try dsimp only); rw [h3, if_pos (by decide)]
    · rcases hu with ⟨e, e2⟩ | ⟨b, b1, b2, b3, b4⟩
      · exact Or.inl ⟨e, fun i hi => e2 i (by omega) hi⟩
      · exact Or.inr ⟨b, b1, b2, b3, fun i hi => b4 i (by omega) hi⟩
  | j + 1, fu + 1, u2, u3, hm, hf, h3, hu => by
    have hk6 := hSt.2.1
    have hj : j < k := by omega
    have e3 : u3 = nI j := by rw [h3, q_d1 (by omega)]; rfl
    have en : nI j + (-1) = nI j - 1 := by grind
    obtain ⟨w1, w2⟩ := hW j hj
    have go : ∀ (y : Int32), ((y = -1 ∧ ∀ i, j ≤ i → i < k → ¬ z_id h i) ∨ ∃ b, b < k ∧ z_id h b ∧ y = nI b ∧ ∀ i, j ≤ i → i < k → z_id h i → z_Wy h fl b ≤ z_Wy h fl i ∧ (z_Wy h fl i = z_Wy h fl b → b ≤ i)) → ∃ x, f_X5_nearest_L10 (s, (n, R), (k, V), (c, L)) fu (nI r) y (nI j + (-1)) = some x ∧ z_nr k h fl x := fun y hy => p_nearS hSt hDy hQ hW j fu y _ (by omega) (by omega) en hy
    by_cases hi : z_id h j
    · have pid := p_id1 hSt hQ hj hi
      rcases hu with ⟨e, e2⟩ | ⟨b, b1, b2, b3, b4⟩
      · obtain ⟨x, x1, x2⟩ := go (nI j) (Or.inr ⟨j, hj, hi, rfl, fun i i1 i3 i2 => by
          by_cases ee : i = j
          · rw [ee]; exact ⟨Nat.le_refl _, fun _ => Nat.le_refl _⟩
          · exact absurd i2 (e2 i (by omega) i3)⟩)
        refine ⟨x, ?_, x2⟩
        rw [f_X5_nearest_L10]; (try dsimp only); rw [e3]
        simp (disch := omega) only [q_n0F, if_false, pid, Option.bind_some, q_10, e, q_mlt, if_true, x1]
      · obtain ⟨v1, v2⟩ := hW b b1
        by_cases hlt : z_Wy h fl b < z_Wy h fl j
        · obtain ⟨x, x1, x2⟩ := go (nI b) (Or.inr ⟨b, b1, b2, rfl, fun i i1 i3 i2 => by
            by_cases ee : i = j
            · rw [ee]; exact ⟨by omega, fun _ => by omega⟩
            · exact b4 i (by omega) i3 i2⟩)
          refine ⟨x, ?_, x2⟩
          rw [f_X5_nearest_L10]; (try dsimp only); rw [e3]
          simp (disch := omega) only [q_n0F, if_false, pid, Option.bind_some, q_10, b3, w2, v2, q_nlt, hlt, if_true, x1]
        · obtain ⟨x, x1, x2⟩ := go (nI j) (Or.inr ⟨j, hj, hi, rfl, fun i i1 i3 i2 => by
            by_cases ee : i = j
            · rw [ee]; exact ⟨Nat.le_refl _, fun _ => Nat.le_refl _⟩
            · have := b4 i (by omega) i3 i2
              exact ⟨by omega, fun _ => i1⟩⟩)
          refine ⟨x, ?_, x2⟩
          rw [f_X5_nearest_L10]; (try dsimp only); rw [e3]
          simp (disch := omega) only [q_n0F, if_false, pid, Option.bind_some, q_10, b3, w2, v2, q_nlt, hlt, x1]
    · obtain ⟨x, x1, x2⟩ := go u2 (hu.elim (fun y => Or.inl ⟨y.1, fun i i1 i3 => by
        by_cases ee : i = j
        · rw [ee]; exact hi
        · exact y.2 i (by omega) i3⟩) (fun ⟨b, b1, b2, b3, b4⟩ => Or.inr ⟨b, b1, b2, b3, fun i i1 i3 i2 => by
          by_cases ee : i = j
          · rw [ee] at i2; exact absurd i2 hi
          · exact b4 i (by omega) i3 i2⟩))
      refine ⟨x, ?_, x2⟩
      rw [f_X5_nearest_L10]; (try dsimp only); rw [e3]
      simp (disch := omega) only [q_n0F, if_false, p_id0 hSt hDy hQ hj hi, Option.bind_some, if_true, x1]
theorem p_nearest {n k : Nat} {h : z_H} {s : Nat → Int32} {R V : Nat → Nat → Int32} {c : Nat} {L : Nat → Int32} (hSt : z_St n k h) (hDy : z_Dy n k h) (hQ : z_QR n k h s R V c L) {r fl : Nat} (hr : r < n) (hf5 : fl ≤ 5) (hfl : h.2.1 0 r = nI fl) : ∃ x, f_X3_nearestTo h.2.2.2 (nI fl) = some x ∧ f_X5_nearest (s, (n, R), (k, V), (c, L)) (nI r) = some x ∧ z_nr k h fl x := by
  have hk6 := hSt.2.1
  obtain ⟨x, x1, x2⟩ := p_nearestC hSt (fun j hj => ⟨(p_W hSt hDy hQ hj hr hf5 hfl).1, (p_W hSt hDy hQ hj hr hf5 hfl).2.1⟩)
  obtain ⟨y, y1, y2⟩ := p_nearS hSt hDy hQ (fun j hj => ⟨(p_W hSt hDy hQ hj hr hf5 hfl).1, (p_W hSt hDy hQ hj hr hf5 hfl).2.2⟩) k z_F14 (-1) (nI k - 1) (Nat.le_refl k) (by unfold z_F14; omega) rfl (Or.inl ⟨rfl, fun i _ _ => by omega⟩)
  refine ⟨x, x1, ?_, x2⟩
  unfold f_X5_nearest
  simp only [y1, Option.bind_some]
  rw [y2.u x2]
