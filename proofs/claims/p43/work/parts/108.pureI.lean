-- ===== what the class tells =====
theorem q_rqS {k j : Nat} (hj : j < k) (hk : k ≤ 6) {h T : z_H} (e : h.2.2.2.1 = nI k) : f_X4_requireServant (h, T) (nI j) = some () := by
  unfold f_X4_requireServant
  rw [if_neg (q_n0 (by omega))]
  show (if nI j < h.2.2.2.1 then some () else none) = _
  rw [e, if_pos (by rw [q_lt (by omega) (by omega)]; exact hj)]
theorem c_drop {n k : Nat} {h T : z_H} (S : z_St n k h) {r : Nat} (hr : r < n) : f_X4_dropOf (h, T) (nI r) = some (nI (z_wi h r)) := by
  have hn := S.1
  unfold f_X4_dropOf
  rw [q_rqR hr hn S.2.2.1, Option.bind_some, q_rg (by omega)]
  exact congrArg some (z_wi.e S hr).1
theorem c_room7 {n k : Nat} {h T : z_H} (S : z_St n k h) {r d : Nat} (hr : r < n) (e : z_wi h r = d) : ∀ (m i fu : Nat), i + m = n → m < fu → i ≤ r → f_X4_roomOf_L7 (h, T) fu (nI d) (nI i) = some (nI r)
  | 0, i, fu + 1, hm, _, hi => by omega
  | m + 1, i, fu + 1, hm, hf, hi => by
    have hn := S.1
    have ei := z_wi.e S (i := i) (by omega)
    have er := z_wi.e S hr
    rw [f_X4_roomOf_L7]
    show (if h.1 1 ≤ nI i then _ else if z_rg (h.2.1 3) (nI i) = nI d then _ else _) = _
    rw [S.2.2.1, if_neg (by rw [q_le (by omega) (by omega)]; omega), q_rg (by omega), ei.1]
    by_cases q : i = r
    · rw [q, e, if_pos rfl]
    · rw [if_neg (by rw [q_eq (by omega) (by omega)]; exact fun z => q (z_wi.inj S (by omega) hr (z.trans e.symm))), q_s]
      exact c_room7 S hr e m (i + 1) fu (by omega) (by omega) (by omega)
theorem c_room {n k : Nat} {h T : z_H} (S : z_St n k h) {r d : Nat} (hr : r < n) (e : z_wi h r = d) : f_X4_roomOf (h, T) (nI d) = some (nI r) := by
  have hn := S.1
  have hd : d < n := by rw [← e]; exact (z_wi.e S hr).2
  unfold f_X4_roomOf
  rw [q_rqR hd hn S.2.2.1, Option.bind_some]
  exact c_room7 S hr e n 0 z_FU (by omega) (by unfold z_FU; omega) (by omega)
theorem z_wi.on {n k : Nat} {h : z_H} (S : z_St n k h) {d : Nat} (hd : d < n) : ∃ r, r < n ∧ z_wi h r = d := fb_onto (fun i hi => (z_wi.e S hi).2) (fun i j hij hj e => by have := z_wi.inj S (by omega) hj e; omega) hd
theorem c_cut {n k : Nat} {h T : z_H} (S : z_St n k h) {r : Nat} (hr : r < n) : (f_X4_isCut (h, T) (nI r) = some 1 ∧ h.2.1 4 r = 1) ∨ (f_X4_isCut (h, T) (nI r) = some 0 ∧ h.2.1 4 r = 0) := by
  have hn := S.1
  have e : f_X4_isCut (h, T) (nI r) = (z_bo (if h.2.1 4 r = 1 then 1 else 0)).bind (fun x => some x) := by
    unfold f_X4_isCut f_X0_isWireCut
    rw [q_rqR hr hn S.2.2.1, Option.bind_some, q_rg (by omega)]
  rcases S.2.2.2.2.2.2.2.2.2.1 r hr with q | q
  · exact Or.inr ⟨by rw [e, q]; rfl, q⟩
  · exact Or.inl ⟨by rw [e, q]; rfl, q⟩
theorem c_wait {n k : Nat} {h T : z_H} (S : z_St n k h) {r : Nat} (hr : r < n) : f_X4_waitedFor (h, T) (nI r) = some (h.2.1 5 r) := by
  have hn := S.1
  unfold f_X4_waitedFor
  rw [q_rqR hr hn S.2.2.1, Option.bind_some, q_rg (by omega)]
theorem c_place {n k c : Nat} {h T : z_H} (S : z_St n k h) (hc : h.2.2.1.1 = nI c) (h12 : c ≤ 12) {r : Nat} (hr : r < n) : f_X4_placeInLine (h, T) (nI r) = some (z_pl h.2.2.1.2 (nI r) c 0) := by
  unfold f_X4_placeInLine
  rw [q_rqR hr S.1 S.2.2.1, Option.bind_some]
  show (f_X1_placeOf h.2.2.1 (nI r)).bind _ = _
  rw [q_placeOf hc h12, Option.bind_some]
theorem c_has {n k c : Nat} {h T : z_H} (S : z_St n k h) (hc : h.2.2.1.1 = nI c) (h12 : c ≤ 12) {r : Nat} (hr : r < n) : f_X4_hasFallen (h, T) (nI r) = some (if z_pl h.2.2.1.2 (nI r) c 0 = -1 then 0 else 1) := by
  unfold f_X4_hasFallen
  rw [q_rqR hr S.1 S.2.2.1, Option.bind_some]
  show (f_X1_placeOf h.2.2.1 (nI r)).bind _ = _
  rw [q_placeOf hc h12, Option.bind_some]
  by_cases e : z_pl h.2.2.1.2 (nI r) c 0 = -1
  · rw [if_pos e, if_pos e]
  · rw [if_neg e, if_neg e]
theorem q_divAll : ∀ c : Fin 501, ∀ a : Fin 6, nI c.val / nI (a.val + 1) ≤ nI c.val := by decide +kernel
theorem c_rings {n k : Nat} {h T : z_H} (S : z_St n k h) {c : Nat} (hc : c ≤ 500) (hce : h.1 2 = nI c) {r a : Nat} (hr : r < n) (ha : a ≤ 5) (hfl : h.2.1 0 r = nI a) : f_X4_ringsLeft (h, T) (nI r) = some (if h.2.1 4 r = 1 then 0 else nI c / nI (a + 1)) ∧ nI c / nI (a + 1) ≤ nI c ∧ z_dv (nI c) (nI a + 1) = some (nI c / nI (a + 1)) := by
  have hn := S.1
  have hz : ¬ nI (a + 1) = 0 := by rw [show (0 : Int32) = nI 0 from rfl, q_eq (by omega) (by omega)]; omega
  have hdv : z_dv (nI c) (nI a + 1) = some (nI c / nI (a + 1)) := by
    unfold z_dv
    rw [q_s, if_neg hz]
  refine ⟨?_, q_divAll ⟨c, by omega⟩ ⟨a, by omega⟩, hdv⟩
  unfold f_X4_ringsLeft f_X0_isWireCut f_X4_quotient f_X0_costFrom
  rw [q_rqR hr hn S.2.2.1, Option.bind_some]
  show (if (if z_rg (h.2.1 4) (nI r) = 1 then (1 : Int32) else 0) = 0 then ((if 1 ≤ z_rg (h.2.1 0) (nI r) + 1 then (z_dv (h.1 2) (z_rg (h.2.1 0) (nI r) + 1)).bind (fun x => some x) else some 0)).bind (fun x => some x) else some 0) = _
  rw [q_rg (by omega), q_rg (by omega), hfl, hce]
  by_cases q : h.2.1 4 r = 1
  · rw [if_pos q, if_pos q, if_neg (by decide)]
  · rw [if_neg q, if_neg q, if_pos rfl, if_pos (by rw [q_s, show (1 : Int32) = nI 1 from rfl, q_le (by omega) (by omega)]; omega), hdv]
    rfl
theorem c_floor {n k : Nat} {h T : z_H} (S : z_St n k h) {j : Nat} (hj : j < k) : f_X4_floorOf (h, T) (nI j) = some (h.2.2.2.2 1 j) := by
  have hk := S.2.1
  unfold f_X4_floorOf
  rw [q_rqS hj hk S.2.2.2.1, Option.bind_some, q_rg (by omega)]
theorem c_goes {n k : Nat} {h T : z_H} (S : z_St n k h) {j : Nat} (hj : j < k) : f_X4_goesTo (h, T) (nI j) = some (h.2.2.2.2 2 j) := by
  have hk := S.2.1
  unfold f_X4_goesTo
  rw [q_rqS hj hk S.2.2.2.1, Option.bind_some, q_rg (by omega)]
theorem c_serves {n k : Nat} {h T : z_H} (S : z_St n k h) {j : Nat} (hj : j < k) : f_X4_serves (h, T) (nI j) = some (h.2.2.2.2 3 j) := by
  have hk := S.2.1
  unfold f_X4_serves
  rw [q_rqS hj hk S.2.2.2.1, Option.bind_some, q_rg (by omega)]
theorem c_left {n k : Nat} {h T : z_H} (S : z_St n k h) {j : Nat} (hj : j < k) : f_X4_minutesLeft (h, T) (nI j) = some (h.2.2.2.2 4 j) := by
  have hk := S.2.1
  unfold f_X4_minutesLeft
  rw [q_rqS hj hk S.2.2.2.1, Option.bind_some, q_rg (by omega)]
theorem c_way {n k : Nat} {h T : z_H} {Q : z_Q} (H : z_I n k h Q) {j r fl : Nat} (hj : j < k) (hr : r < n) (hf5 : fl ≤ 5) (hfl : h.2.1 0 r = nI fl) : f_X4_wayTo (h, T) (nI j) (nI r) = some (nI (z_Wy h fl j)) ∧ f_X5_way Q (nI j) (nI r) = some (nI (z_Wy h fl j)) ∧ 1 ≤ z_Wy h fl j ∧ z_Wy h fl j ≤ 5 := by
  obtain ⟨hSt, hDy, hF, s, R, V, c, L, rfl, hQ⟩ := H
  obtain ⟨a, b, d⟩ := p_W hSt hDy hQ hj hr hf5 hfl
  have hn := hSt.1
  refine ⟨?_, d, a⟩
  unfold f_X4_wayTo f_X3_wayToFloor
  rw [q_rqS hj hSt.2.1 hSt.2.2.2.1, Option.bind_some, q_rqR hr hSt.1 hSt.2.2.1, Option.bind_some, q_rg (f := h.2.1 0) (by omega), hfl]
  show ((f_X3_minutesOfWay (z_rg (h.2.2.2.2 1) (nI j)) (nI fl) (z_rg (h.2.2.2.2 0) (nI j))).bind _).bind _ = _
  rw [b]; rfl
theorem c_near {n k : Nat} {h : z_H} {Q : z_Q} (H : z_I n k h Q) {r fl : Nat} (hr : r < n) (hf5 : fl ≤ 5) (hfl : h.2.1 0 r = nI fl) : ∃ x, (∀ T : z_H, f_X4_nearestIdle (h, T) (nI r) = some x) ∧ f_X5_nearest Q (nI r) = some x ∧ z_nr k h fl x := by
  obtain ⟨hSt, hDy, hF, s, R, V, c, L, rfl, hQ⟩ := H
  obtain ⟨x, a, b, d⟩ := p_nearest hSt hDy hQ hr hf5 hfl
  have hn := hSt.1
  refine ⟨x, fun T => ?_, b, d⟩
  unfold f_X4_nearestIdle
  rw [q_rqR hr hSt.1 hSt.2.2.1, Option.bind_some, q_rg (f := h.2.1 0) (by omega), hfl]
  show (f_X3_nearestTo h.2.2.2 (nI fl)).bind _ = _
  rw [a]; rfl
-- the longest waiting
def z_lg (n : Nat) (W : Nat → Int32) (x : Int32) : Prop := (x = -1 ∧ ∀ i, i < n → W i = -1) ∨ ∃ b, b < n ∧ x = nI b ∧ W b ≠ -1 ∧ ∀ i, i < n → W i ≤ W b ∧ (W i = W b → b ≤ i)
theorem q_iant {a b : Int32} (h : a ≤ b) (h2 : b ≤ a) : a = b := Int32.le_antisymm h h2
theorem z_lg.u {n : Nat} {W : Nat → Int32} {x y : Int32} (a : z_lg n W x) (b : z_lg n W y) : x = y := by
  rcases a with ⟨a1, a2⟩ | ⟨a, a1, a2, a3, a4⟩
  · rcases b with ⟨b1, b2⟩ | ⟨b, b1, b2, b3, b4⟩
    · rw [a1, b1]
    · exact absurd (a2 b b1) b3
  · rcases b with ⟨b1, b2⟩ | ⟨b, b1, b2, b3, b4⟩
    · exact absurd (b2 a a1) a3
    · have x1 := a4 b b1
      have x2 := b4 a a1
      have e := q_iant x1.1 x2.1
      have := x1.2 e
      have := x2.2 e.symm
      rw [a2, b2, show a = b by omega]
theorem q_nle {a b : Int32} (h : ¬ a ≤ b) : b ≤ a ∧ b ≠ a := by
  rw [Int32.le_iff_toInt_le] at *
  refine ⟨by omega, fun e => ?_⟩
  rw [e] at h
  omega
/-- of those below j the longest -/
theorem c_long6 {n k : Nat} {h T : z_H} (S : z_St n k h) (D : z_Dy n k h) : ∀ (m j fu : Nat) (u1 u2 : Int32), j + m = n → m < fu → ((u1 = -1 ∧ u2 = -1 ∧ ∀ i, i < j → h.2.1 5 i = -1) ∨ ∃ b, b < j ∧ u1 = nI b ∧ u2 = h.2.1 5 b ∧ h.2.1 5 b ≠ -1 ∧ ∀ i, i < j → h.2.1 5 i ≤ h.2.1 5 b ∧ (h.2.1 5 i = h.2.1 5 b → b ≤ i)) → ∃ x, f_X4_longestWaiting_L6 (h, T) fu u1 u2 (nI j) = some x ∧ z_lg n (h.2.1 5) x
  | 0, j, fu + 1, u1, u2, hm, _, hu => by
    have hn := S.1
    refine ⟨u1, ?_, ?_⟩
    · rw [f_X4_longestWaiting_L6]
      show (if h.1 1 ≤ nI j then _ else _) = _
      rw [S.2.2.1, if_pos (by rw [q_le (by omega) (by omega)]; omega)]
    · rcases hu with ⟨a, b, c⟩ | ⟨b, b1, b2, b3, b4, b5⟩
      · exact Or.inl ⟨a, fun i hi => c i (by omega)⟩
      · exact Or.inr ⟨b, by omega, b2, b4, fun i hi => b5 i (by omega)⟩
  | m + 1, j, fu + 1, u1, u2, hm, hf, hu => by
    have hn := S.1
    have st : f_X4_longestWaiting_L6 (h, T) (fu + 1) u1 u2 (nI j) = if h.2.1 5 j ≤ u2 then f_X4_longestWaiting_L6 (h, T) fu u1 u2 (nI (j + 1)) else f_X4_longestWaiting_L6 (h, T) fu (nI j) (h.2.1 5 j) (nI (j + 1)) := by
      rw [f_X4_longestWaiting_L6]
      show (if h.1 1 ≤ nI j then _ else if z_rg (h.2.1 5) (nI j) ≤ u2 then _ else _) = _
      rw [S.2.2.1, if_neg (by rw [q_le (by omega) (by omega)]; omega), q_rg (by omega), q_s]
    have wj : h.2.1 5 j = -1 ∨ ∃ a, a ≤ 29 ∧ h.2.1 5 j = nI a := D.2.1 j (by omega)
    rcases hu with ⟨a, b, c⟩ | ⟨b, b1, b2, b3, b4, b5⟩
    · rcases wj with w | ⟨w, w1, w2⟩
      · obtain ⟨x, x1, x2⟩ := c_long6 S D (T := T) m (j + 1) fu u1 u2 (by omega) (by omega) (Or.inl ⟨a, b, fun i hi => by
          by_cases e : i = j
          · rw [e]; exact w
          · exact c i (by omega)⟩)
        exact ⟨x, by rw [st, if_pos (by rw [w, b]; exact q_irf)]; exact x1, x2⟩
      · obtain ⟨x, x1, x2⟩ := c_long6 S D (T := T) m (j + 1) fu (nI j) (h.2.1 5 j) (by omega) (by omega) (Or.inr ⟨j, by omega, rfl, rfl, by rw [w2]; exact q_m1 (by omega), fun i hi => by
          by_cases e : i = j
          · rw [e]; exact ⟨q_irf, fun _ => Nat.le_refl _⟩
          · rw [c i (by omega), w2]
            exact ⟨q_m1le (by omega), fun z => absurd z.symm (q_m1 (by omega))⟩⟩)
        exact ⟨x, by rw [st, if_neg (by rw [w2, b]; exact q_nlem1 (by omega))]; exact x1, x2⟩
    · by_cases hle : h.2.1 5 j ≤ h.2.1 5 b
      · obtain ⟨x, x1, x2⟩ := c_long6 S D (T := T) m (j + 1) fu u1 u2 (by omega) (by omega) (Or.inr ⟨b, by omega, b2, b3, b4, fun i hi => by
          by_cases e : i = j
          · rw [e]; exact ⟨hle, fun _ => by omega⟩
          · exact b5 i (by omega)⟩)
        exact ⟨x, by rw [st, if_pos (by rw [b3]; exact hle)]; exact x1, x2⟩
      · have q := q_nle hle
        obtain ⟨x, x1, x2⟩ := c_long6 S D (T := T) m (j + 1) fu (nI j) (h.2.1 5 j) (by omega) (by omega) (Or.inr ⟨j, by omega, rfl, rfl, (by
          rcases wj with w | ⟨w, w1, w2⟩
          · rw [w] at hle
            rcases D.2.1 b (by omega) with v | ⟨v, v1, v2⟩
            · exact absurd v b4
            · rw [v2] at hle
              exact absurd (q_m1le (by omega)) hle
          · rw [w2]; exact q_m1 (by omega)), fun i hi => by
          by_cases e : i = j
          · rw [e]; exact ⟨q_irf, fun _ => Nat.le_refl _⟩
          · have y := b5 i (by omega)
            refine ⟨q_ile y.1 q.1, fun z => ?_⟩
            rw [z] at y
            exact absurd y.1 hle⟩)
        exact ⟨x, by rw [st, if_neg (by rw [b3]; exact hle)]; exact x1, x2⟩
theorem c_long {n k : Nat} {h : z_H} (S : z_St n k h) (D : z_Dy n k h) : ∃ x, (∀ T : z_H, f_X4_longestWaiting (h, T) = some x) ∧ z_lg n (h.2.1 5) x := by
  have hn := S.1
  obtain ⟨x, -, x2⟩ := c_long6 S D (T := h) n 0 z_FU (-1) (-1) (by omega) (by unfold z_FU; omega) (Or.inl ⟨rfl, rfl, fun i hi => by omega⟩)
  refine ⟨x, fun T => ?_, x2⟩
  obtain ⟨y, y1, y2⟩ := c_long6 S D (T := T) n 0 z_FU (-1) (-1) (by omega) (by unfold z_FU; omega) (Or.inl ⟨rfl, rfl, fun i hi => by omega⟩)
  unfold f_X4_longestWaiting
  show (f_X4_longestWaiting_L6 (h, T) z_FU (-1) (-1) (nI 0)).bind _ = _
  rw [y1, y2.u x2]; rfl
-- crossed wires
def z_cr (w : Nat → Nat) : Nat → Nat
  | 0 => 0
  | m + 1 => z_cr w m + (if w m = m then 0 else 1)
theorem z_cr.le (w : Nat → Nat) : ∀ m, z_cr w m ≤ m
  | 0 => Nat.le_refl 0
  | m + 1 => by
    have := z_cr.le w m
    unfold z_cr
    by_cases e : w m = m
    · rw [if_pos e]; omega
    · rw [if_neg e]; omega
theorem c_cr4 {n k : Nat} {h T : z_H} (S : z_St n k h) : ∀ (m i fu : Nat), i + m = n → m < fu → f_X4_crossed_L4 (h, T) fu (nI (z_cr (z_wi h) i)) (nI i) = some (nI (z_cr (z_wi h) n))
  | 0, i, fu + 1, hm, _ => by
    have hn := S.1
    rw [f_X4_crossed_L4]
    show (if h.1 1 ≤ nI i then _ else _) = _
    rw [S.2.2.1, if_pos (by rw [q_le (by omega) (by omega)]; omega), show i = n by omega]
  | m + 1, i, fu + 1, hm, hf => by
    have hn := S.1
    have ei := z_wi.e S (i := i) (by omega)
    rw [f_X4_crossed_L4]
    show (if h.1 1 ≤ nI i then _ else if z_rg (h.2.1 3) (nI i) = nI i then _ else _) = _
    rw [S.2.2.1, if_neg (by rw [q_le (by omega) (by omega)]; omega), q_rg (by omega), ei.1, q_s, q_s]
    have ih := c_cr4 S (T := T) m (i + 1) fu (by omega) (by omega)
    rw [z_cr] at ih
    by_cases e : z_wi h i = i
    · rw [if_pos (by rw [q_eq (by omega) (by omega)]; exact e)]
      rw [if_pos e] at ih
      exact ih
    · rw [if_neg (by rw [q_eq (by omega) (by omega)]; exact e)]
      rw [if_neg e] at ih
      exact ih
theorem c_crossed {n k : Nat} {h T : z_H} (S : z_St n k h) : f_X4_crossed (h, T) = some (nI (z_cr (z_wi h) n)) := by
  have hn := S.1
  unfold f_X4_crossed
  show (f_X4_crossed_L4 (h, T) z_FU (nI (z_cr (z_wi h) 0)) (nI 0)).bind _ = _
  rw [c_cr4 S n 0 z_FU (by omega) (by unfold z_FU; omega)]; rfl
theorem c_next {n k c : Nat} {h T : z_H} (S : z_St n k h) (hc : h.2.2.1.1 = nI c) (h12 : c ≤ 12) : f_X4_nextDrop (h, T) = some (if c = 0 then -1 else h.2.2.1.2 0) := by
  unfold f_X4_nextDrop
  show (f_X1_first h.2.2.1).bind _ = _
  by_cases e : c = 0
  · rw [if_pos e]
    unfold f_X1_first
    rw [hc, e, if_pos (by decide)]; rfl
  · rw [q_first hc (by omega) h12, if_neg e]; rfl
