-- ===== the mean: what it can be, and that it equals itself =====
def z_mn (s c : Nat) : Prop := (FP.ddiv (FP.i2d (nI s)) (FP.i2d (nI (c + 1))) &&& 0x7fffffffffffffff ≤ 0x7ff0000000000000) ∧ Op.cmpValue (FP.dcmp (FP.ddiv (FP.i2d (nI s)) (FP.i2d (nI (c + 1)))) (FP.ddiv (FP.i2d (nI s)) (FP.i2d (nI (c + 1))))) .l = 0
theorem q_meanAll : ∀ s : Fin 349, ∀ c : Fin 12, (FP.ddiv (FP.i2d (nI s.val)) (FP.i2d (nI (c.val + 1))) &&& 0x7fffffffffffffff ≤ 0x7ff0000000000000) ∧ Op.cmpValue (FP.dcmp (FP.ddiv (FP.i2d (nI s.val)) (FP.i2d (nI (c.val + 1)))) (FP.ddiv (FP.i2d (nI s.val)) (FP.i2d (nI (c.val + 1))))) .l = 0 := by decide +kernel
theorem q_mean {s c : Nat} (hs : s ≤ 348) (hc1 : 1 ≤ c) (hc : c ≤ 12) : ∃ x, z_dd (FP.i2d (nI s)) (FP.i2d (nI c)) = some x ∧ Op.cmpValue (FP.dcmp x x) .l = 0 := by
  obtain ⟨d, rfl⟩ : ∃ d, c = d + 1 := ⟨c - 1, by omega⟩
  have e := q_meanAll ⟨s, by omega⟩ ⟨d, by omega⟩
  refine ⟨FP.ddiv (FP.i2d (nI s)) (FP.i2d (nI (d + 1))), ?_, e.2⟩
  unfold z_dd
  rw [if_pos e.1]
theorem q_mean0 : Op.cmpValue (FP.dcmp FP.dconst0 FP.dconst0) .l = 0 := by decide +kernel
theorem s_meanL {n k : Nat} {h T : z_H} {M : z_M} (H : z_RM n k h M) : ∀ (m i fu fv S C : Nat), i + m = n → m < fu → m < fv → S ≤ 29 * i → C ≤ i → ∃ S2 C2 : Nat, S2 ≤ 29 * n ∧ C2 ≤ n ∧ f_X4_meanWait_L6 (h, T) fu (nI S) (nI C) (nI i) = some (nI S2, nI C2) ∧ f_X5_meanWait_L11 fv (nI S) (nI C) (nI i) M = some (nI S2, nI C2, M)
  | 0, i, fu + 1, fv + 1, S, C, hm, _, _, hS, hC => by
    have s1 := H.1.1
    have s3 := H.1.2.2.1
    have m1 : M.1 1 = nI n := H.2.2.1.1.trans s3
    have hle : nI n ≤ nI i := by rw [q_le (by omega) (by omega)]; omega
    have hi : i = n := by omega
    refine ⟨S, C, by omega, by omega, ?_, ?_⟩
    · rw [f_X4_meanWait_L6]
      show (if h.1 1 ≤ nI i then _ else _) = _
      rw [s3, if_pos hle]
    · rw [f_X5_meanWait_L11, m1, if_pos hle]
  | m + 1, i, fu + 1, fv + 1, S, C, hm, h1, h2, hS, hC => by
    have s1 := H.1.1
    have s3 := H.1.2.2.1
    have m1 : M.1 1 = nI n := H.2.2.1.1.trans s3
    have hle : ¬ nI n ≤ nI i := by rw [q_le (by omega) (by omega)]; omega
    have nw := H.2.2.2.2.2.2.2.2.2.2.1 i (by omega)
    rcases H.2.1.2.1 i (by omega) with hw | ⟨a, ha, hw⟩
    · obtain ⟨S2, C2, x1, x2, x3, x4⟩ := s_meanL (T := T) H m (i + 1) fu fv S C (by omega) (by omega) (by omega) (by omega) (by omega)
      refine ⟨S2, C2, x1, x2, ?_, ?_⟩
      · rw [f_X4_meanWait_L6]
        unfold f_X0_isWaiting
        show (if h.1 1 ≤ nI i then _ else if (if z_rg (h.2.1 5) (nI i) = -1 then (0 : Int32) else 1) = 0 then _ else _) = _
        rw [s3, if_neg hle, q_rg (by omega), if_pos hw, if_pos rfl, q_s]; exact x3
      · rw [f_X5_meanWait_L11, m1, if_neg hle, q_a7 (by omega), Option.bind_some, if_pos (nw.trans hw), q_s]; exact x4
    · obtain ⟨S2, C2, x1, x2, x3, x4⟩ := s_meanL (T := T) H m (i + 1) fu fv (S + a) (C + 1) (by omega) (by omega) (by omega) (by omega) (by omega)
      have hn1 : ¬ h.2.1 5 i = -1 := by rw [hw]; exact q_m1 (by omega)
      refine ⟨S2, C2, x1, x2, ?_, ?_⟩
      · rw [f_X4_meanWait_L6]
        unfold f_X0_isWaiting
        show (if h.1 1 ≤ nI i then _ else if (if z_rg (h.2.1 5) (nI i) = -1 then (0 : Int32) else 1) = 0 then _ else f_X4_meanWait_L6 (h, T) fu (nI S + z_rg (h.2.1 5) (nI i)) (nI C + 1) (nI i + 1)) = _
        rw [s3, if_neg hle, q_rg (by omega), if_neg hn1, if_neg (by decide), hw, nI_add, q_s, q_s]; exact x3
      · rw [f_X5_meanWait_L11, m1, if_neg hle, q_a7 (by omega), Option.bind_some, if_neg (by rw [nw]; exact hn1), nw, hw, Option.bind_some, nI_add, q_s, q_s]; exact x4
-- ===== the class's scans, beside the model's =====
theorem q_cuts {n k : Nat} {h : z_H} {M : z_M} (hSt : z_St n k h) (hSE : z_SE M h) : ∀ (m i fu fv : Nat) (acc : Int32), i + m = n → m < fu → m < fv → ∃ x, f_X0_countCutWires_L4 h fu acc (nI i) = some x ∧ f_X5_manyCut_L4 M fv acc (nI i) = some x
  | 0, i, fu + 1, fv + 1, acc, hm, _, _ => by
    have s1 := hSt.1
    have s3 := hSt.2.2.1
    have m1 : M.1 1 = nI n := hSE.1.trans s3
    have hle : nI n ≤ nI i := by rw [q_le (by omega) (by omega)]; omega
    exact ⟨acc, by rw [f_X0_countCutWires_L4, s3, if_pos hle], by rw [f_X5_manyCut_L4, m1, if_pos hle]⟩
  | m + 1, i, fu + 1, fv + 1, acc, hm, h1, h2 => by
    have s1 := hSt.1
    have s3 := hSt.2.2.1
    have m1 : M.1 1 = nI n := hSE.1.trans s3
    have hle : ¬ nI n ≤ nI i := by rw [q_le (by omega) (by omega)]; omega
    have mc : M.2 4 i = h.2.1 4 i := hSE.2.2.2.2.2.2.1 i (by omega)
    rcases hSt.2.2.2.2.2.2.2.2.2.1 i (by omega) with e | e
    · obtain ⟨x, x1, x2⟩ := q_cuts hSt hSE m (i + 1) fu fv (acc + 0) (by omega) (by omega) (by omega)
      refine ⟨x, ?_, ?_⟩
      · rw [f_X0_countCutWires_L4, s3, if_neg hle, q_rg (by omega), e, q_s]; exact x1
      · rw [f_X5_manyCut_L4, m1, if_neg hle, q_at (by omega) (by omega), Option.bind_some, if_pos (mc.trans e), q_s]; exact x2
    · obtain ⟨x, x1, x2⟩ := q_cuts hSt hSE m (i + 1) fu fv (acc + 1) (by omega) (by omega) (by omega)
      refine ⟨x, ?_, ?_⟩
      · rw [f_X0_countCutWires_L4, s3, if_neg hle, q_rg (by omega), e, q_s]; exact x1
      · rw [f_X5_manyCut_L4, m1, if_neg hle, q_at (by omega) (by omega), Option.bind_some, if_neg (by rw [mc, e]; decide), q_s]; exact x2
theorem s_cuts {n k : Nat} {h : z_H} {M : z_M} (hSt : z_St n k h) (hSE : z_SE M h) : ∃ x, f_X0_countCutWires h = some x ∧ f_X5_manyCut M = some x := by
  have s1 := hSt.1
  obtain ⟨x, x1, x2⟩ := q_cuts hSt hSE n 0 z_FU z_FU 0 (by omega) (by unfold z_FU; omega) (by unfold z_FU; omega)
  have x1' : f_X0_countCutWires_L4 h z_FU 0 0 = some x := x1
  have x2' : f_X5_manyCut_L4 M z_FU 0 0 = some x := x2
  refine ⟨x, ?_, ?_⟩
  · unfold f_X0_countCutWires; rw [x1', Option.bind_some]
  · unfold f_X5_manyCut; rw [x2', Option.bind_some]
/-- the wires as numbers -/
def z_wi (h : z_H) (i : Nat) : Nat := (h.2.1 3 i).toNatClampNeg
theorem z_wi.e {n k : Nat} {h : z_H} (hSt : z_St n k h) {i : Nat} (hi : i < n) : h.2.1 3 i = nI (z_wi h i) ∧ z_wi h i < n := by
  have s1 := hSt.1
  obtain ⟨a, ha, e⟩ := hSt.2.2.2.2.2.2.2.1 i hi
  unfold z_wi
  rw [e, q_cl (by omega)]
  exact ⟨rfl, ha⟩
theorem z_wi.inj {n k : Nat} {h : z_H} (hSt : z_St n k h) {i j : Nat} (hi : i < n) (hj : j < n) (e : z_wi h i = z_wi h j) : i = j :=
  hSt.2.2.2.2.2.2.2.2.1 i j hi hj (by rw [(z_wi.e hSt hi).1, (z_wi.e hSt hj).1, e])
theorem q_leads {n k v p : Nat} {h T : z_H} {M : z_M} (H : z_RM n k h M) (hp : p < n) (hv : h.2.1 3 p = nI v) : ∀ (m i fu fv : Nat), i + m = p → m < fu → m < fv → ∃ x, f_X4_roomOf_L7 (h, T) fu (nI v) (nI i) = some x ∧ f_X5_leads_L2 M fv (nI v) (nI i) = some x
  | 0, i, fu + 1, fv + 1, hm, _, _ => by
    have s1 := H.1.1
    have s3 := H.1.2.2.1
    have hle : ¬ nI n ≤ nI i := by rw [q_le (by omega) (by omega)]; omega
    have hi : i = p := by omega
    have mc : M.2 3 i = h.2.1 3 i := H.2.2.1.2.2.2.2.2.1 i (by omega)
    refine ⟨nI i, ?_, ?_⟩
    · rw [f_X4_roomOf_L7]
      show (if h.1 1 ≤ nI i then _ else if z_rg (h.2.1 3) (nI i) = nI v then _ else _) = _
      rw [s3, if_neg hle, q_rg (by omega), if_pos (by rw [hi]; exact hv)]
    · rw [f_X5_leads_L2, q_at (by omega) (by omega), Option.bind_some, if_pos (by rw [mc, hi]; exact hv)]
  | m + 1, i, fu + 1, fv + 1, hm, h1, h2 => by
    have s1 := H.1.1
    have s3 := H.1.2.2.1
    have hle : ¬ nI n ≤ nI i := by rw [q_le (by omega) (by omega)]; omega
    have mc : M.2 3 i = h.2.1 3 i := H.2.2.1.2.2.2.2.2.1 i (by omega)
    by_cases e : h.2.1 3 i = nI v
    · refine ⟨nI i, ?_, ?_⟩
      · rw [f_X4_roomOf_L7]
        show (if h.1 1 ≤ nI i then _ else if z_rg (h.2.1 3) (nI i) = nI v then _ else _) = _
        rw [s3, if_neg hle, q_rg (by omega), if_pos e]
      · rw [f_X5_leads_L2, q_at (by omega) (by omega), Option.bind_some, if_pos (mc.trans e)]
    · obtain ⟨x, x1, x2⟩ := q_leads (T := T) H hp hv m (i + 1) fu fv (by omega) (by omega) (by omega)
      refine ⟨x, ?_, ?_⟩
      · rw [f_X4_roomOf_L7]
        show (if h.1 1 ≤ nI i then _ else if z_rg (h.2.1 3) (nI i) = nI v then _ else _) = _
        rw [s3, if_neg hle, q_rg (by omega), if_neg e, q_s]; exact x1
      · rw [f_X5_leads_L2, q_at (by omega) (by omega), Option.bind_some, if_neg (by rw [mc]; exact e), q_s]; exact x2
theorem s_leads {n k v : Nat} {h T : z_H} {M : z_M} (H : z_RM n k h M) (hv : v < n) : ∃ x, f_X4_roomOf_L7 (h, T) z_FU (nI v) 0 = some x ∧ f_X5_leads M (nI v) = some x := by
  have s1 := H.1.1
  obtain ⟨p, hp, e⟩ := fb_onto (n := n) (f := z_wi h) (fun i hi => (z_wi.e H.1 hi).2) (fun i j hij hj e => by
    have := z_wi.inj H.1 (by omega) hj e
    omega) hv
  obtain ⟨x, x1, x2⟩ := q_leads (T := T) H hp (by rw [(z_wi.e H.1 hp).1, e]) p 0 z_FU z_FU (by omega) (by unfold z_FU; omega) (by unfold z_FU; omega)
  have x2' : f_X5_leads_L2 M z_FU (nI v) 0 = some x := x2
  refine ⟨x, x1, ?_⟩
  unfold f_X5_leads
  rw [x2', Option.bind_some]
theorem q_mI : (-1 : Int32).toInt = -1 := by decide
theorem q_m1le {a : Nat} (ha : a < 1000) : (-1 : Int32) ≤ nI a := by
  rw [Int32.le_iff_toInt_le, q_mI, nI_toInt (q_b ha)]
  omega
theorem q_nlem1 {a : Nat} (ha : a < 1000) : ¬ nI a ≤ (-1 : Int32) := by
  rw [Int32.le_iff_toInt_le, q_mI, nI_toInt (q_b ha)]
  omega
theorem q_longest {n k : Nat} {h T : z_H} {M : z_M} (H : z_RM n k h M) : ∀ (m i fu fv : Nat) (u1 u2 : Int32), i + m = n → m < fu → m < fv → ((u1 = -1 ∧ u2 = -1) ∨ ∃ b, b < n ∧ u1 = nI b ∧ u2 = h.2.1 5 b ∧ h.2.1 5 b ≠ -1) → ∃ x, f_X4_longestWaiting_L6 (h, T) fu u1 u2 (nI i) = some x ∧ f_X5_longest_L4 M fv u1 (nI i) = some x
  | 0, i, fu + 1, fv + 1, u1, u2, hm, _, _, hu => by
    have s1 := H.1.1
    have s3 := H.1.2.2.1
    have m1 : M.1 1 = nI n := H.2.2.1.1.trans s3
    have hle : nI n ≤ nI i := by rw [q_le (by omega) (by omega)]; omega
    refine ⟨u1, ?_, by rw [f_X5_longest_L4, m1, if_pos hle]⟩
    rw [f_X4_longestWaiting_L6]
    show (if h.1 1 ≤ nI i then _ else _) = _
    rw [s3, if_pos hle]
  | m + 1, i, fu + 1, fv + 1, u1, u2, hm, h1, h2, hu => by
    have s1 := H.1.1
    have s3 := H.1.2.2.1
    have m1 : M.1 1 = nI n := H.2.2.1.1.trans s3
    have hle : ¬ nI n ≤ nI i := by rw [q_le (by omega) (by omega)]; omega
    have nw : ∀ i, i < 12 → M.2 6 (7 + i) = h.2.1 5 i := H.2.2.2.2.2.2.2.2.2.2.1
    have cl : ∀ z, (if h.2.1 5 i ≤ u2 then f_X4_longestWaiting_L6 (h, T) fu u1 u2 (nI (i + 1)) else f_X4_longestWaiting_L6 (h, T) fu (nI i) (h.2.1 5 i) (nI (i + 1))) = z → f_X4_longestWaiting_L6 (h, T) (fu + 1) u1 u2 (nI i) = z := fun z e => by
      rw [f_X4_longestWaiting_L6]
      show (if h.1 1 ≤ nI i then _ else if z_rg (h.2.1 5) (nI i) ≤ u2 then f_X4_longestWaiting_L6 (h, T) fu u1 u2 (nI i + 1) else f_X4_longestWaiting_L6 (h, T) fu (nI i) (z_rg (h.2.1 5) (nI i)) (nI i + 1)) = _
      rw [s3, if_neg hle, q_rg (by omega), q_s]; exact e
    rcases H.2.1.2.1 i (by omega) with hw | ⟨a, ha, hw⟩
    · obtain ⟨x, x1, x2⟩ := q_longest (T := T) H m (i + 1) fu fv u1 u2 (by omega) (by omega) (by omega) hu
      have hc : h.2.1 5 i ≤ u2 := by
        rw [hw]
        rcases hu with ⟨-, y⟩ | ⟨b, b1, b2, b3, b4⟩
        · rw [y]; decide
        · rw [b3]
          rcases H.2.1.2.1 b b1 with e | ⟨c, c1, c2⟩
          · exact absurd e b4
          · rw [c2]; exact q_m1le (by omega)
      refine ⟨x, cl _ (by rw [if_pos hc]; exact x1), ?_⟩
      rw [f_X5_longest_L4, m1, if_neg hle, q_a7 (by omega), Option.bind_some, if_pos ((nw i (by omega)).trans hw), q_s]; exact x2
    · have hn1 : ¬ h.2.1 5 i = -1 := by rw [hw]; exact q_m1 (by omega)
      have mn1 : ¬ M.2 6 (7 + i) = -1 := by rw [nw i (by omega)]; exact hn1
      rcases hu with ⟨y1, y2⟩ | ⟨b, b1, b2, b3, b4⟩
      · obtain ⟨x, x1, x2⟩ := q_longest (T := T) H m (i + 1) fu fv (nI i) (h.2.1 5 i) (by omega) (by omega) (by omega) (Or.inr ⟨i, by omega, rfl, rfl, hn1⟩)
        have hc : ¬ h.2.1 5 i ≤ u2 := by rw [y2, hw]; exact q_nlem1 (by omega)
        refine ⟨x, cl _ (by rw [if_neg hc]; exact x1), ?_⟩
        rw [f_X5_longest_L4, m1, if_neg hle, q_a7 (by omega), Option.bind_some, if_neg mn1, if_pos y1, q_s]; exact x2
      · have hub : ¬ u1 = -1 := by rw [b2]; exact q_m1 (by omega)
        have wb := nw b (by omega)
        by_cases hc : h.2.1 5 i ≤ h.2.1 5 b
        · obtain ⟨x, x1, x2⟩ := q_longest (T := T) H m (i + 1) fu fv u1 u2 (by omega) (by omega) (by omega) (Or.inr ⟨b, b1, b2, b3, b4⟩)
          refine ⟨x, cl _ (by rw [if_pos (by rw [b3]; exact hc)]; exact x1), ?_⟩
          rw [f_X5_longest_L4, m1, if_neg hle, q_a7 (by omega), Option.bind_some, if_neg mn1, if_neg hub, Option.bind_some, b2, q_a7 (by omega), Option.bind_some, if_pos (by rw [wb, nw i (by omega)]; exact hc), q_s, ← b2]; exact x2
        · obtain ⟨x, x1, x2⟩ := q_longest (T := T) H m (i + 1) fu fv (nI i) (h.2.1 5 i) (by omega) (by omega) (by omega) (Or.inr ⟨i, by omega, rfl, rfl, hn1⟩)
          refine ⟨x, cl _ (by rw [if_neg (by rw [b3]; exact hc)]; exact x1), ?_⟩
          rw [f_X5_longest_L4, m1, if_neg hle, q_a7 (by omega), Option.bind_some, if_neg mn1, if_neg hub, Option.bind_some, b2, q_a7 (by omega), Option.bind_some, if_neg (by rw [wb, nw i (by omega)]; exact hc), q_s]; exact x2
theorem s_longest {n k : Nat} {h T : z_H} {M : z_M} (H : z_RM n k h M) : ∃ x, f_X4_longestWaiting (h, T) = some x ∧ f_X5_longest M = some x := by
  have s1 := H.1.1
  obtain ⟨x, x1, x2⟩ := q_longest (T := T) H n 0 z_FU z_FU (-1) (-1) (by omega) (by unfold z_FU; omega) (by unfold z_FU; omega) (Or.inl ⟨rfl, rfl⟩)
  have x1' : f_X4_longestWaiting_L6 (h, T) z_FU (-1) (-1) 0 = some x := x1
  have x2' : f_X5_longest_L4 M z_FU (-1) 0 = some x := x2
  refine ⟨x, ?_, ?_⟩
  · unfold f_X4_longestWaiting; rw [x1', Option.bind_some]
  · unfold f_X5_longest; rw [x2', Option.bind_some]
theorem q_crossed {n k : Nat} {h T : z_H} {M : z_M} (H : z_RM n k h M) : ∀ (m i fu fv : Nat) (acc : Int32), i + m = n → m < fu → m < fv → ∃ x, f_X4_crossed_L4 (h, T) fu acc (nI i) = some x ∧ f_X5_manyCrossed_L4 M fv acc (nI i) = some x
  | 0, i, fu + 1, fv + 1, acc, hm, _, _ => by
    have s1 := H.1.1
    have s3 := H.1.2.2.1
    have m1 : M.1 1 = nI n := H.2.2.1.1.trans s3
    have hle : nI n ≤ nI i := by rw [q_le (by omega) (by omega)]; omega
    refine ⟨acc, ?_, by rw [f_X5_manyCrossed_L4, m1, if_pos hle]⟩
    rw [f_X4_crossed_L4]
    show (if h.1 1 ≤ nI i then _ else _) = _
    rw [s3, if_pos hle]
  | m + 1, i, fu + 1, fv + 1, acc, hm, h1, h2 => by
    have s1 := H.1.1
    have s3 := H.1.2.2.1
    have m1 : M.1 1 = nI n := H.2.2.1.1.trans s3
    have hle : ¬ nI n ≤ nI i := by rw [q_le (by omega) (by omega)]; omega
    have mc : M.2 3 i = h.2.1 3 i := H.2.2.1.2.2.2.2.2.1 i (by omega)
    by_cases e : h.2.1 3 i = nI i
    · obtain ⟨x, x1, x2⟩ := q_crossed (T := T) H m (i + 1) fu fv acc (by omega) (by omega) (by omega)
      refine ⟨x, ?_, ?_⟩
      · rw [f_X4_crossed_L4]
        show (if h.1 1 ≤ nI i then _ else if z_rg (h.2.1 3) (nI i) = nI i then _ else _) = _
        rw [s3, if_neg hle, q_rg (by omega), if_pos e, q_s]; exact x1
      · rw [f_X5_manyCrossed_L4, m1, if_neg hle, q_at (by omega) (by omega), Option.bind_some, if_pos (mc.trans e), q_s, Int32.add_zero]; exact x2
    · obtain ⟨x, x1, x2⟩ := q_crossed (T := T) H m (i + 1) fu fv (acc + 1) (by omega) (by omega) (by omega)
      refine ⟨x, ?_, ?_⟩
      · rw [f_X4_crossed_L4]
        show (if h.1 1 ≤ nI i then _ else if z_rg (h.2.1 3) (nI i) = nI i then _ else _) = _
        rw [s3, if_neg hle, q_rg (by omega), if_neg e, q_s]; exact x1
      · rw [f_X5_manyCrossed_L4, m1, if_neg hle, q_at (by omega) (by omega), Option.bind_some, if_neg (by rw [mc]; exact e), q_s]; exact x2
theorem s_crossed {n k : Nat} {h T : z_H} {M : z_M} (H : z_RM n k h M) : ∃ x, f_X4_crossed (h, T) = some x ∧ f_X5_manyCrossed M = some x := by
  have s1 := H.1.1
  obtain ⟨x, x1, x2⟩ := q_crossed (T := T) H n 0 z_FU z_FU 0 (by omega) (by unfold z_FU; omega) (by unfold z_FU; omega)
  have x1' : f_X4_crossed_L4 (h, T) z_FU 0 0 = some x := x1
  have x2' : f_X5_manyCrossed_L4 M z_FU 0 0 = some x := x2
  refine ⟨x, ?_, ?_⟩
  · unfold f_X4_crossed; rw [x1', Option.bind_some]
  · unfold f_X5_manyCrossed; rw [x2', Option.bind_some]
-- the round of a wire: w r, w (w r), ..
def z_rd (w : Nat → Nat) (r : Nat) : Nat → Nat
  | 0 => w r
  | s + 1 => w (z_rd w r s)
theorem z_rd.lt {w : Nat → Nat} {n r : Nat} (hw : ∀ i, i < n → w i < n) (hr : r < n) : ∀ s, z_rd w r s < n
  | 0 => hw r hr
  | s + 1 => hw _ (z_rd.lt hw hr s)
theorem z_rd.back {w : Nat → Nat} {n r : Nat} (hw : ∀ i, i < n → w i < n) (hi : ∀ i j, i < n → j < n → w i = w j → i = j) (hr : r < n) : ∀ a b, z_rd w r a = z_rd w r (a + b + 1) → z_rd w r b = r
  | 0, b, e => by
    have e : w r = w (z_rd w r (0 + b)) := e
    rw [Nat.zero_add] at e
    exact (hi _ _ hr (z_rd.lt hw hr b) e).symm
  | a + 1, b, e => by
    have e : w (z_rd w r a) = w (z_rd w r (a + 1 + b)) := e
    have e2 := hi _ _ (z_rd.lt hw hr a) (z_rd.lt hw hr _) e
    refine z_rd.back hw hi hr a b ?_
    rw [e2, show a + 1 + b = a + b + 1 by omega]
theorem z_first (P : Nat → Prop) : ∀ n, (∃ s, s < n ∧ P s) → ∃ s, s < n ∧ P s ∧ ∀ t, t < s → ¬ P t
  | 0, ⟨s, h, _⟩ => by omega
  | n + 1, ⟨s, h, p⟩ => by
    by_cases e : ∃ s, s < n ∧ P s
    · obtain ⟨t, a, b, c⟩ := z_first P n e
      exact ⟨t, by omega, b, c⟩
    · refine ⟨s, h, p, fun t ht q => e ⟨t, by omega, q⟩⟩
theorem z_rd.ends {w : Nat → Nat} {n r : Nat} (hw : ∀ i, i < n → w i < n) (hi : ∀ i j, i < n → j < n → w i = w j → i = j) (hr : r < n) : ∃ s, s < n ∧ z_rd w r s ≤ r ∧ ∀ t, t < s → ¬ z_rd w r t ≤ r := by
  refine z_first (fun s => z_rd w r s ≤ r) n ?_
  refine Classical.byContradiction fun hx => ?_
  have hgt : ∀ s, s < n → r < z_rd w r s := fun s hs => by
    rcases Nat.lt_or_ge r (z_rd w r s) with q | q
    · exact q
    · exact absurd ⟨s, hs, q⟩ hx
  obtain ⟨i, j, hij, hj, e⟩ := fb_twice (m := n - 1) (n := n) (f := fun s => z_rd w r s - (r + 1)) (fun i hi' => by
    have a := hgt i hi'
    have b := z_rd.lt hw hr i
    show z_rd w r i - (r + 1) < n - 1
    omega) (by omega)
  have a := hgt i (by omega)
  have b := hgt j hj
  have e : z_rd w r i - (r + 1) = z_rd w r j - (r + 1) := e
  have e2 : z_rd w r i = z_rd w r j := by omega
  have c := z_rd.back hw hi hr i (j - i - 1) (by rw [e2]; congr 1; omega)
  have d := hgt (j - i - 1) (by omega)
  omega
theorem q_first11 {n k r s : Nat} {h : z_H} (hSt : z_St n k h) (hr : r < n) (hs : s < n) (h1 : z_rd (z_wi h) r s ≤ r) (h2 : ∀ t, t < s → ¬ z_rd (z_wi h) r t ≤ r) : ∀ (m t fu : Nat), t + m = s → m < fu → f_X0_isFirstOfItsCircle_L11 h fu (nI r) (nI (z_rd (z_wi h) r t)) (nI t) = some (if z_rd (z_wi h) r s = r then 1 else 0)
  | 0, t, fu + 1, hm, _ => by
    have s1 := hSt.1
    have ht : t = s := by omega
    rw [f_X0_isFirstOfItsCircle_L11, hSt.2.2.1, if_neg (by rw [q_le (by omega) (by omega)]; omega), ht]
    by_cases e : z_rd (z_wi h) r s = r
    · rw [if_pos e, if_pos (by rw [e])]
    · rw [if_neg e, if_neg (by rw [q_eq (by omega) (by omega)]; exact e), if_neg (by rw [q_le (by omega) (by omega)]; omega)]
  | m + 1, t, fu + 1, hm, hf => by
    have s1 := hSt.1
    have hl := z_rd.lt (w := z_wi h) (n := n) (r := r) (fun i hi => (z_wi.e hSt hi).2) hr t
    have hn := h2 t (by omega)
    rw [f_X0_isFirstOfItsCircle_L11, hSt.2.2.1, if_neg (by rw [q_le (by omega) (by omega)]; omega), if_neg (by rw [q_eq (by omega) (by omega)]; omega), if_pos (by rw [q_le (by omega) (by omega)]; omega), q_rg (by omega), (z_wi.e hSt hl).1, q_s]
    exact q_first11 hSt hr hs h1 h2 m (t + 1) fu (by omega) (by omega)
theorem q_cr22 {n k r s : Nat} {h : z_H} {M : z_M} (hSt : z_St n k h) (hSE : z_SE M h) (hr : r < n) (hs : s < n) (h1 : z_rd (z_wi h) r s ≤ r) (h2 : ∀ t, t < s → ¬ z_rd (z_wi h) r t ≤ r) (acc : Int32) : ∀ (m t fu : Nat), t + m = s → m < fu → f_X5_crossings_L22 M fu acc (nI r) (nI (z_rd (z_wi h) r t)) = some (acc, nI r, nI (z_rd (z_wi h) r s))
  | 0, t, fu + 1, hm, _ => by
    have s1 := hSt.1
    have ht : t = s := by omega
    rw [f_X5_crossings_L22, ht, if_pos (by rw [q_le (by omega) (by omega)]; exact h1)]
  | m + 1, t, fu + 1, hm, hf => by
    have s1 := hSt.1
    have hl := z_rd.lt (w := z_wi h) (n := n) (r := r) (fun i hi => (z_wi.e hSt hi).2) hr t
    have hn := h2 t (by omega)
    have mc : M.2 3 (z_rd (z_wi h) r t) = h.2.1 3 (z_rd (z_wi h) r t) := hSE.2.2.2.2.2.1 _ (by omega)
    rw [f_X5_crossings_L22, if_neg (by rw [q_le (by omega) (by omega)]; omega), q_at (by omega) (by omega), Option.bind_some, mc, (z_wi.e hSt hl).1]
    exact q_cr22 hSt hSE hr hs h1 h2 acc m (t + 1) fu (by omega) (by omega)
theorem q_crossings {n k : Nat} {h T : z_H} {M : z_M} (H : z_RM n k h M) : ∀ (m i c fu fv : Nat), i + m = n → m < fu → m < fv → c ≤ i → ∃ x, f_X4_crossingsNeeded_L4 (h, T) fu (nI c) (nI i) = some x ∧ f_X5_crossings_L7 M fv (nI (n - i + c)) (nI i) = some x
  | 0, i, c, fu + 1, fv + 1, hm, _, _, hc => by
    have s1 := H.1.1
    have s3 := H.1.2.2.1
    have m1 : M.1 1 = nI n := H.2.2.1.1.trans s3
    have hle : nI n ≤ nI i := by rw [q_le (by omega) (by omega)]; omega
    refine ⟨nI c, ?_, by rw [f_X5_crossings_L7, m1, if_pos hle, show n - i + c = c by omega]⟩
    rw [f_X4_crossingsNeeded_L4]
    show (if h.1 1 ≤ nI i then _ else _) = _
    rw [s3, if_pos hle]
  | m + 1, i, c, fu + 1, fv + 1, hm, h1, h2, hc => by
    have s1 := H.1.1
    have s3 := H.1.2.2.1
    have m1 : M.1 1 = nI n := H.2.2.1.1.trans s3
    have hle : ¬ nI n ≤ nI i := by rw [q_le (by omega) (by omega)]; omega
    have hi : i < n := by omega
    have mc : M.2 3 i = h.2.1 3 i := H.2.2.1.2.2.2.2.2.1 i (by omega)
    obtain ⟨s, hs, e1, e2⟩ := z_rd.ends (w := z_wi h) (fun i hi => (z_wi.e H.1 hi).2) (fun i j hi hj e => z_wi.inj H.1 hi hj e) hi
    have hl := z_rd.lt (w := z_wi h) (n := n) (r := i) (fun i hi => (z_wi.e H.1 hi).2) hi s
    have cf : f_X0_isFirstOfItsCircle h (nI i) = some (if z_rd (z_wi h) i s = i then 1 else 0) := by
      unfold f_X0_isFirstOfItsCircle
      rw [q_rg (by omega), (z_wi.e H.1 hi).1]
      exact q_first11 H.1 hi hs e1 e2 s 0 z_FU (by omega) (by unfold z_FU; omega)
    have cm : f_X5_crossings_L22 M z_FU (nI (n - i + c)) (nI i) (nI (z_wi h i)) = some (nI (n - i + c), nI i, nI (z_rd (z_wi h) i s)) := q_cr22 H.1 H.2.2.1 hi hs e1 e2 (nI (n - i + c)) s 0 z_FU (by omega) (by unfold z_FU; omega)
    have cc : ∀ z, (f_X0_isFirstOfItsCircle h (nI i)).bind (fun x20 => if x20 = 0 then f_X4_crossingsNeeded_L4 (h, T) fu (nI c + 1) (nI i + 1) else f_X4_crossingsNeeded_L4 (h, T) fu (nI c) (nI i + 1)) = z → f_X4_crossingsNeeded_L4 (h, T) (fu + 1) (nI c) (nI i) = z := fun z e => by
      rw [f_X4_crossingsNeeded_L4]
      show (if h.1 1 ≤ nI i then _ else _) = _
      rw [s3, if_neg hle]
      exact e
    by_cases e : z_rd (z_wi h) i s = i
    · obtain ⟨x, x1, x2⟩ := q_crossings (T := T) H m (i + 1) c fu fv (by omega) (by omega) (by omega) (by omega)
      refine ⟨x, cc _ ?_, ?_⟩
      · rw [cf, Option.bind_some, if_pos e, if_neg (by decide), q_s]; exact x1
      · rw [f_X5_crossings_L7, m1, if_neg hle, q_at (by omega) (by omega), Option.bind_some, mc, (z_wi.e H.1 hi).1, cm, Option.bind_some, if_pos (by rw [e])]
        show f_X5_crossings_L7 M fv (nI (n - i + c) - 1) (nI i + 1) = _
        rw [q_d1 (by omega), q_s, show n - i + c - 1 = n - (i + 1) + c by omega]; exact x2
    · obtain ⟨x, x1, x2⟩ := q_crossings (T := T) H m (i + 1) (c + 1) fu fv (by omega) (by omega) (by omega) (by omega)
      refine ⟨x, cc _ ?_, ?_⟩
      · rw [cf, Option.bind_some, if_neg e, if_pos rfl, q_s, q_s]; exact x1
      · rw [f_X5_crossings_L7, m1, if_neg hle, q_at (by omega) (by omega), Option.bind_some, mc, (z_wi.e H.1 hi).1, cm, Option.bind_some, if_neg (by rw [q_eq (by omega) (by omega)]; exact e)]
        show f_X5_crossings_L7 M fv (nI (n - i + c) - 0) (nI i + 1) = _
        rw [Int32.sub_zero, q_s, show n - i + c = n - (i + 1) + (c + 1) by omega]; exact x2
theorem s_crossings {n k : Nat} {h T : z_H} {M : z_M} (H : z_RM n k h M) : ∃ x, f_X4_crossingsNeeded (h, T) = some x ∧ f_X5_crossings M = some x := by
  have s1 := H.1.1
  have s3 := H.1.2.2.1
  have m1 : M.1 1 = nI n := H.2.2.1.1.trans s3
  obtain ⟨x, x1, x2⟩ := q_crossings (T := T) H n 0 0 z_FU z_FU (by omega) (by unfold z_FU; omega) (by unfold z_FU; omega) (Nat.le_refl 0)
  have x1' : f_X4_crossingsNeeded_L4 (h, T) z_FU 0 0 = some x := x1
  have x2' : f_X5_crossings_L7 M z_FU (nI n) 0 = some x := x2
  refine ⟨x, ?_, ?_⟩
  · unfold f_X4_crossingsNeeded; rw [x1', Option.bind_some]
  · unfold f_X5_crossings; rw [m1, x2', Option.bind_some]
