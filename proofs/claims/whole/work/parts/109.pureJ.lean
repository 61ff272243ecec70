-- ===== the relation; what a call's number is; each answer beside the model's own =====
def z_fr (n : Nat) (h : z_H) : Prop := ∀ i, n ≤ i → i < 12 → h.2.1 4 i = 0
theorem z_fr.mv {n : Nat} {h h2 : z_H} (s : z_ST h h2) (H : z_fr n h) : z_fr n h2 := fun i a b => by
  rw [s.2.1 4 (by decide)]
  exact H i a b
def z_Rl (B : z_B) (M : z_M) : Prop := ∃ n k, z_RM n k B.1 M ∧ z_fr n B.1
theorem q_0I : (0 : Int32).toInt = 0 := by decide
theorem q_below {n : Nat} {v : Int32} (hn : n < 1000) (h0 : ¬ v < 0) (h : nI n ≤ v) : nI n - 1 < v := by
  rw [Int32.lt_iff_toInt_lt]
  have a0 : ¬ v.toInt < 0 := fun z => h0 (Int32.lt_iff_toInt_lt.mpr (by rw [q_0I]; exact z))
  have a1 := Int32.le_iff_toInt_le.mp h
  rw [nI_toInt (q_b hn)] at a1
  rcases Nat.eq_zero_or_pos n with e | e
  · rw [e, show nI 0 - 1 = -1 by decide, q_mI]; omega
  · rw [q_d1 e, nI_toInt (q_b (by omega))]; omega
theorem q_isInP {n : Nat} (hn : n < 1000) (v : Int32) : (∃ r, r < n ∧ v = nI r ∧ ¬ v < 0 ∧ v < nI n ∧ f_X5_isIn v 0 (nI n - 1) = 1) ∨ (v < 0 ∧ f_X5_isIn v 0 (nI n - 1) = 0) ∨ (¬ v < 0 ∧ ¬ v < nI n ∧ f_X5_isIn v 0 (nI n - 1) = 0) := by
  unfold f_X5_isIn
  by_cases h0 : v < 0
  · exact Or.inr (Or.inl ⟨h0, if_pos h0⟩)
  · rcases pk_ix v (n := n) (q_b hn) with e | e | ⟨r, hr, e⟩
    · exact absurd e h0
    · exact Or.inr (Or.inr ⟨h0, Int32.not_lt.mpr e, by rw [if_neg h0, if_pos (q_below hn h0 e)]⟩)
    · refine Or.inl ⟨r, hr, e, h0, by rw [e, q_lt (by omega) hn]; exact hr, ?_⟩
      rw [if_neg h0, if_neg (by rw [e, q_d1 (by omega), q_lt (by omega) (by omega)]; omega)]
theorem q_kn1 (M : z_M) : f_X5_isKnown M 1 = some (1, z_mS M 0 0) := rfl
theorem q_kn0 (M : z_M) : f_X5_isKnown M 0 = some (0, z_mS M 0 1) := rfl
theorem q_bo1 : z_bo 1 = some 1 := rfl
theorem q_bo0 : z_bo 0 = some 0 := rfl
theorem q_mS2 (M : z_M) (k : Nat) (v : Int32) : (z_mS M k v).2 = M.2 := rfl
theorem q_mS1 (M : z_M) (v : Int32) : (z_mS M 0 v).1 1 = M.1 1 := rfl
theorem q_mS12 (M : z_M) (v : Int32) : (z_mS M 0 v).1 2 = M.1 2 := rfl
theorem q_00 : ((0 : Int32) = 0) = True := eq_true rfl
theorem z_RM.mS {n k : Nat} {h : z_H} {M : z_M} (v : Int32) (H : z_RM n k h M) : z_RM n k h (z_mS M 0 v) := H
theorem q_room {n k : Nat} {B : z_B} {M : z_M} (H : z_RM n k B.1 M) (v : Int32) : (∃ r, r < n ∧ v = nI r ∧ f_X4_requireRoom B v = some () ∧ x_X4_requireRoom B v = none ∧ f_X5_isRoom M v = some 1) ∨ (f_X4_requireRoom B v = none ∧ x_X4_requireRoom B v = some 2 ∧ f_X5_isRoom M v = some 0) := by
  have s1 := H.1.1
  have s3 := H.1.2.2.1
  have m1 : M.1 1 = nI n := H.2.2.1.1.trans s3
  unfold f_X4_requireRoom x_X4_requireRoom f_X5_isRoom
  rw [s3, m1]
  rcases q_isInP (n := n) (by omega) v with ⟨r, a1, a2, a3, a4, a5⟩ | ⟨a1, a2⟩ | ⟨a1, a2, a3⟩
  · exact Or.inl ⟨r, a1, a2, by rw [if_neg a3, if_pos a4], by rw [if_neg a3, if_pos a4], by rw [a5]; rfl⟩
  · exact Or.inr ⟨by rw [if_pos a1], by rw [if_pos a1], by rw [a2]; rfl⟩
  · exact Or.inr ⟨by rw [if_neg a1, if_neg a2], by rw [if_neg a1, if_neg a2], by rw [a3]; rfl⟩
theorem q_serv {n k : Nat} {B : z_B} {M : z_M} (H : z_RM n k B.1 M) (v : Int32) : (∃ r, r < k ∧ v = nI r ∧ f_X4_requireServant B v = some () ∧ x_X4_requireServant B v = none ∧ f_X5_isServant M v = some 1) ∨ (f_X4_requireServant B v = none ∧ x_X4_requireServant B v = some 2 ∧ f_X5_isServant M v = some 0) := by
  have s2 := H.1.2.1
  have s4 := H.1.2.2.2.1
  have m2 : M.1 2 = nI k := H.2.2.1.2.1.trans s4
  unfold f_X4_requireServant x_X4_requireServant f_X5_isServant
  rw [s4, m2]
  rcases q_isInP (n := k) (by omega) v with ⟨r, a1, a2, a3, a4, a5⟩ | ⟨a1, a2⟩ | ⟨a1, a2, a3⟩
  · exact Or.inl ⟨r, a1, a2, by rw [if_neg a3, if_pos a4], by rw [if_neg a3, if_pos a4], by rw [a5]; rfl⟩
  · exact Or.inr ⟨by rw [if_pos a1], by rw [if_pos a1], by rw [a2]; rfl⟩
  · exact Or.inr ⟨by rw [if_neg a1, if_neg a2], by rw [if_neg a1, if_neg a2], by rw [a3]; rfl⟩
theorem q_range {v : Int32} {lo hi : Nat} (hh : hi < 900) (hl : lo ≤ hi) (h : ¬ f_X5_isIn v (nI lo) (nI hi) = 0) : ∃ a, lo ≤ a ∧ a ≤ hi ∧ v = nI a := by
  unfold f_X5_isIn at h
  by_cases h1 : v < nI lo
  · rw [if_pos h1] at h; exact absurd rfl h
  · rw [if_neg h1] at h
    by_cases h2 : nI hi < v
    · rw [if_pos h2] at h; exact absurd rfl h
    · rcases pk_ix v (n := hi + 1) (q_b (by omega)) with e | e | ⟨r, hr, e⟩
      · refine absurd ?_ h1
        rw [Int32.lt_iff_toInt_lt] at e ⊢
        rw [q_0I] at e
        rw [nI_toInt (q_b (by omega))]
        omega
      · refine absurd ?_ h2
        rw [Int32.le_iff_toInt_le, nI_toInt (q_b (by omega))] at e
        rw [Int32.lt_iff_toInt_lt, nI_toInt (q_b (by omega))]
        omega
      · rw [e, q_lt (by omega) (by omega)] at h1
        exact ⟨r, by omega, by omega, e⟩
theorem c_req {n k : Nat} {h T : z_H} {M : z_M} (H : z_RM n k h M) {r : Nat} (hr : r < n) : f_X4_requireRoom (h, T) (nI r) = some () := by
  have s1 := H.1.1
  unfold f_X4_requireRoom
  show (if nI r < 0 then none else if nI r < h.1 1 then some () else none) = _
  rw [if_neg (q_n0 (by omega)), H.1.2.2.1, if_pos (by rw [q_lt (by omega) (by omega)]; exact hr)]
theorem c_reqS {n k : Nat} {h T : z_H} {M : z_M} (H : z_RM n k h M) {r : Nat} (hr : r < k) : f_X4_requireServant (h, T) (nI r) = some () := by
  have s2 := H.1.2.1
  unfold f_X4_requireServant
  show (if nI r < 0 then none else if nI r < h.2.2.2.1 then some () else none) = _
  rw [if_neg (q_n0 (by omega)), H.1.2.2.2.1, if_pos (by rw [q_lt (by omega) (by omega)]; exact hr)]
theorem c_until {n k r : Nat} {h T : z_H} {M : z_M} (H : z_RM n k h M) (hr : r < n) : ∃ (x : Int32) (T2 : z_H) (M2 : z_M), f_X4_minutesUntilServed (h, T) (nI r) = some (x, (h, T2)) ∧ f_X5_untilServed M (nI r) = some (x, M2) ∧ z_SM M M2 := by
  obtain ⟨t2, c1, c2⟩ := q_copyH T h
  obtain ⟨x, T2, M2, a1, a2, a3⟩ := s_untilServed (B1 := h) hr (H.eq c2)
  refine ⟨x, T2, M2, ?_, a2, a3⟩
  unfold f_X4_minutesUntilServed
  rw [c_req H hr, Option.bind_some]
  show (f_X0_copyFrom T h).bind _ = _
  rw [c1, Option.bind_some]
  exact a1
theorem c_served {n k v : Nat} {h T : z_H} {M : z_M} (H : z_RM n k h M) (hv : v ≤ 60) (hv1 : 1 ≤ v) : ∃ (x : Int32) (T2 : z_H) (M2 : z_M), f_X4_servedIn (h, T) (nI v) = some (x, (h, T2)) ∧ f_X5_soon M (nI v) = some (x, M2) ∧ z_SM M M2 := by
  obtain ⟨t2, c1, c2⟩ := q_copyH T h
  obtain ⟨x, T2, M2, a1, a2, a3⟩ := s_soon (B1 := h) hv (H.eq c2)
  refine ⟨x, T2, M2, ?_, a2, a3⟩
  unfold f_X4_servedIn f_X4_requireMinutes f_X4_isWithin
  rw [if_neg (show ¬ nI v < 1 by rw [show (1 : Int32) = nI 1 from rfl, q_lt (by omega) (by omega)]; omega), if_neg (show ¬ 60 < nI v by rw [q_i60 (by omega)]; omega), if_neg (by decide), Option.bind_some]
  show (f_X0_copyFrom T h).bind _ = _
  rw [c1, Option.bind_some]
  show (f_X4_serveInTrial (h, t2) (nI v)).bind _ = _
  rw [a1]
  rfl
theorem c_best {n k r : Nat} {h T : z_H} {M : z_M} (H : z_RM n k h M) (hr : r < n) : ∃ (x : Int32) (T2 : z_H) (M2 : z_M), f_X4_bestToCross (h, T) (nI r) = some (x, (h, T2)) ∧ f_X5_best M (nI r) = some (x, M2) ∧ z_SM M M2 := by
  have s1 := H.1.1
  obtain ⟨t2, c1, c2⟩ := q_copyH T h
  obtain ⟨x, T3, M3, b1, b2, b3⟩ := s_soon (v := 40) (B1 := h) (by omega) (H.eq c2)
  have b1' : f_X4_serveInTrial (h, t2) 40 = some (x, (h, T3)) := b1
  have b2' : f_X5_soon M 40 = some (x, M3) := b2
  obtain ⟨y, T4, M4, a1, a2, a3⟩ := s_bestL hr n 0 z_FU z_FU T3 M3 x (-1) (by omega) (by unfold z_FU; omega) (by unfold z_FU; omega) (H.sm b3)
  have a1' : f_X4_bestToCross_L28 z_FU (nI r) x (-1) 0 (h, T3) = some (y, (h, T4)) := a1
  have a2' : f_X5_best_L12 z_FU (nI r) (-1) x 0 M3 = some (y, M4) := a2
  refine ⟨y, T4, M4, ?_, ?_, b3.tr a3⟩
  · unfold f_X4_bestToCross
    rw [c_req H hr, Option.bind_some]
    show (f_X0_copyFrom T h).bind _ = _
    rw [c1, Option.bind_some]
    show (f_X4_serveInTrial (h, t2) 40).bind _ = _
    rw [b1', Option.bind_some]
    show (f_X4_bestToCross_L28 z_FU (nI r) x (-1) 0 (h, T3)).bind _ = _
    rw [a1']
    rfl
  · unfold f_X5_best
    rw [b2', Option.bind_some, a2']
    rfl
theorem c_place {n k : Nat} {h T : z_H} {M : z_M} (H : z_RM n k h M) (v : Int32) : ∃ x, f_X1_placeOf h.2.2.1 v = some x ∧ f_X5_inLine M v = some x ∧ ((x = -1 ∧ ∀ c, h.2.2.1.1 = nI c → c ≤ 12 → ∀ j, j < c → h.2.2.1.2 j ≠ v) ∨ ∃ c p, h.2.2.1.1 = nI c ∧ c ≤ n ∧ p < c ∧ h.2.2.1.2 p = v ∧ x = nI p) := by
  have s1 := H.1.1
  obtain ⟨c, l1, l2, l3, l4⟩ := H.2.1.2.2.1
  have n6 : M.2 6 6 = nI c := H.2.2.2.2.2.2.2.2.2.1.trans l2
  have nl := H.2.2.2.2.2.2.2.2.2.2.2.1
  refine ⟨z_pl h.2.2.1.2 v c 0, q_placeOf l2 (by omega), ?_, ?_⟩
  · rw [q_inLine n6 (by omega)]
    exact congrArg some (z_pl_cg c 0 (fun j h1 h2 => nl j (by omega)))
  · rcases z_pl_or (q := h.2.2.1.2) (v := v) c 0 (by omega) with ⟨hp, hno⟩ | ⟨j, j1, j2, j3, hp⟩
    · refine Or.inl ⟨hp, fun d hd hd2 j hj => ?_⟩
      have e : nI c = nI d := l2.symm.trans hd
      rw [q_eq (by omega) (by omega)] at e
      exact hno j (by omega) (by omega)
    · exact Or.inr ⟨c, j, l2, l1, by omega, j3, hp⟩
theorem c_left {n k r : Nat} {h T : z_H} {M : z_M} (H : z_RM n k h M) (hr : r < n) : ∃ x, f_X4_ringsLeft (h, T) (nI r) = some x ∧ f_X5_left M (nI r) = some x := by
  have s1 := H.1.1
  have e4 : M.2 4 r = h.2.1 4 r := H.2.2.1.2.2.2.2.2.2.1 r (by omega)
  have e0 : M.2 0 r = h.2.1 0 r := H.2.2.1.2.2.1 r (by omega)
  have g1 : M.2 6 1 = h.1 2 := H.2.2.2.2.1
  obtain ⟨a, a5, ha⟩ := H.1.2.2.2.2.1 r hr
  have hd : z_dv (h.1 2) (nI (a + 1)) = some (h.1 2 / nI (a + 1)) := by
    unfold z_dv
    rw [if_neg (by rw [show (0 : Int32) = nI 0 from rfl, q_eq (by omega) (by omega)]; omega)]
  have cl : ∀ z, (if (if h.2.1 4 r = 1 then (1 : Int32) else 0) = 0 then (f_X4_quotient (h.1 2) (f_X0_costFrom (h.2.1 0 r))).bind (fun x41 => some x41) else some 0) = z → f_X4_ringsLeft (h, T) (nI r) = z := fun z e => by
    unfold f_X4_ringsLeft f_X0_isWireCut
    rw [c_req H hr, Option.bind_some]
    show (if (if z_rg (h.2.1 4) (nI r) = 1 then (1 : Int32) else 0) = 0 then (f_X4_quotient (h.1 2) (f_X0_costFrom (z_rg (h.2.1 0) (nI r)))).bind (fun x41 => some x41) else some 0) = z
    rw [q_rg (f := h.2.1 4) (by omega), q_rg (f := h.2.1 0) (by omega)]
    exact e
  rcases H.1.2.2.2.2.2.2.2.2.2.1 r hr with e | e
  · refine ⟨h.1 2 / nI (a + 1), cl _ ?_, ?_⟩
    · unfold f_X4_quotient f_X0_costFrom
      rw [e, if_pos (show (if (0 : Int32) = 1 then (1 : Int32) else 0) = 0 by decide), ha, q_s, if_pos (by rw [show (1 : Int32) = nI 1 from rfl, q_le (by omega) (by omega)]; omega), hd]
      rfl
    · unfold f_X5_left
      rw [q_at (by omega) (by omega), Option.bind_some, e4, e, if_pos rfl, q_at1, Option.bind_some, q_at (by omega) (by omega), Option.bind_some, e0, ha, q_s, g1, hd]
      rfl
  · refine ⟨0, cl _ ?_, ?_⟩
    · rw [e, if_pos rfl, if_neg (by decide)]
    · unfold f_X5_left
      rw [q_at (by omega) (by omega), Option.bind_some, e4, e, if_neg (by decide)]
theorem c_near {n k r : Nat} {h T : z_H} {M : z_M} (H : z_RM n k h M) (hr : r < n) : ∃ x, f_X4_nearestIdle (h, T) (nI r) = some x ∧ f_X5_nearest M (nI r) = some x := by
  have s1 := H.1.1
  obtain ⟨a, a5, ha⟩ := H.1.2.2.2.2.1 r hr
  obtain ⟨x, x1, x2, x3⟩ := s_nearest (g := M.2 6) H.1 H.2.2.1 H.2.1 H.2.2.2 hr a5 ha
  rw [q_mi] at x2
  refine ⟨x, ?_, x2⟩
  unfold f_X4_nearestIdle
  rw [c_req H hr, Option.bind_some]
  show (f_X3_nearestTo h.2.2.2 (z_rg (h.2.1 0) (nI r))).bind _ = _
  rw [q_rg (by omega), ha, x1]
  rfl
theorem c_roomOf {n k r : Nat} {h T : z_H} {M : z_M} (H : z_RM n k h M) (hr : r < n) : ∃ x, f_X4_roomOf (h, T) (nI r) = some x ∧ f_X5_leads M (nI r) = some x := by
  obtain ⟨x, x1, x2⟩ := s_leads (T := T) H hr
  refine ⟨x, ?_, x2⟩
  unfold f_X4_roomOf
  rw [c_req H hr, Option.bind_some]
  exact x1
theorem c_next {n k : Nat} {h T : z_H} {M : z_M} (H : z_RM n k h M) : ∃ x, f_X4_nextDrop (h, T) = some x ∧ f_X5_head M = some x := by
  have s1 := H.1.1
  obtain ⟨c, l1, l2, l3, l4⟩ := H.2.1.2.2.1
  have n6 : M.2 6 6 = nI c := H.2.2.2.2.2.2.2.2.2.1.trans l2
  have nl := H.2.2.2.2.2.2.2.2.2.2.2.1
  by_cases hc : c = 0
  · refine ⟨-1, ?_, ?_⟩
    · unfold f_X4_nextDrop f_X1_first
      show (if h.2.2.1.1 ≤ 0 then some (-1) else _).bind _ = _
      rw [l2, hc, if_pos (by decide)]
      rfl
    · unfold f_X5_head
      rw [q_at6, Option.bind_some, n6, hc, if_pos (show nI 0 = 0 from rfl)]
  · refine ⟨h.2.2.1.2 0, ?_, ?_⟩
    · unfold f_X4_nextDrop
      show (f_X1_first h.2.2.1).bind _ = _
      rw [q_first l2 (by omega) (by omega)]
      rfl
    · unfold f_X5_head
      rw [q_at6, Option.bind_some, n6, if_neg (by rw [show (0 : Int32) = nI 0 from rfl, q_eq (by omega) (by omega)]; exact hc), q_at19, Option.bind_some]
      exact congrArg some (nl 0 (by omega))
