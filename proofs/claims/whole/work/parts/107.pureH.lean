-- ===== until a room is served; the best room to cross with =====
theorem q_whom2 {n k : Nat} {h : z_H} {M : z_M} (hk : k ≤ 6) (hDy : z_Dy n k h) (hn : n ≤ 12) (hNE : z_NE k (M.2 6) h) {j : Nat} (hj : j < k) : f_X5_whom M (nI j) 2 = some (h.2.2.2.2 3 j) := by
  have nd := hNE.2.2.2.2.2.2.2.2.2.2.1 j hj
  have nt := hNE.2.2.2.2.2.2.2.2.2.2.2.1 j hj
  unfold f_X5_whom
  rw [q_a37 (by omega), Option.bind_some, nd]
  rcases (hDy.2.2.2.1 j hj).2 with ⟨x, y, z⟩ | ⟨r, a, x1, x2, x3, x4, x5, x6⟩ | ⟨r, a, x1, x2, x3, x4, x5, x6⟩
  · rw [x, y]; rfl
  · rw [x4, x5]
    unfold z_do
    rw [if_neg (q_m1 (by omega)), if_neg (by decide)]
  · rw [x4, x5] at nt ⊢
    have e : z_do (-1) (nI r) = 2 := by unfold z_do; rw [if_pos rfl, if_neg (q_m1 (by omega))]
    rw [e] at nt ⊢
    rw [if_pos rfl, q_a43 (by omega), Option.bind_some, nt (by decide)]
    rfl
theorem q_whom1 {n k : Nat} {h : z_H} {M : z_M} (hk : k ≤ 6) (hDy : z_Dy n k h) (hn : n ≤ 12) (hNE : z_NE k (M.2 6) h) {j : Nat} (hj : j < k) : f_X5_whom M (nI j) 1 = some (h.2.2.2.2 2 j) := by
  have nd := hNE.2.2.2.2.2.2.2.2.2.2.1 j hj
  have nt := hNE.2.2.2.2.2.2.2.2.2.2.2.1 j hj
  unfold f_X5_whom
  rw [q_a37 (by omega), Option.bind_some, nd]
  rcases (hDy.2.2.2.1 j hj).2 with ⟨x, y, z⟩ | ⟨r, a, x1, x2, x3, x4, x5, x6⟩ | ⟨r, a, x1, x2, x3, x4, x5, x6⟩
  · rw [x, y]; rfl
  · rw [x4, x5] at nt ⊢
    have e : z_do (nI r) (-1) = 1 := by unfold z_do; rw [if_neg (q_m1 (by omega))]
    rw [e] at nt ⊢
    rw [if_pos rfl, q_a43 (by omega), Option.bind_some, nt (by decide)]
    unfold z_to
    rw [if_neg (q_m1 (by omega))]
  · rw [x4, x5]
    have e : z_do (-1) (nI r) = 2 := by unfold z_do; rw [if_pos rfl, if_neg (q_m1 (by omega))]
    rw [e, if_neg (by decide)]
theorem q_served {n k : Nat} {h : z_H} {M : z_M} (hSt : z_St n k h) (hSE : z_SE M h) (hDy : z_Dy n k h) (hNE : z_NE k (M.2 6) h) (u : Int32) : ∀ (m j fu fv : Nat), j + m = k → m < fu → m < fv → ∃ x, f_X3_isServing_L2 h.2.2.2 fu u (nI j) = some x ∧ f_X5_isServed_L2 M fv u (nI j) = some x ∧ ((x = 0 ∧ ∀ i, j ≤ i → i < k → h.2.2.2.2 3 i ≠ u) ∨ x = 1)
  | 0, j, fu + 1, fv + 1, hm, _, _ => by
    have hk6 := hSt.2.1
    have s4 := hSt.2.2.2.1
    have m2 : M.1 2 = nI k := hSE.2.1.trans s4
    refine ⟨0, ?_, ?_, Or.inl ⟨rfl, fun i h1 h2 => by omega⟩⟩
    · rw [f_X3_isServing_L2, s4, if_pos (by rw [q_le (by omega) (by omega)]; omega)]
    · rw [f_X5_isServed_L2, m2, if_pos (by rw [q_le (by omega) (by omega)]; omega)]
  | m + 1, j, fu + 1, fv + 1, hm, h1, h2 => by
    have hk6 := hSt.2.1
    have s4 := hSt.2.2.2.1
    have m2 : M.1 2 = nI k := hSE.2.1.trans s4
    have hno : ¬ nI k ≤ nI j := by rw [q_le (by omega) (by omega)]; omega
    have hw := q_whom2 hk6 hDy hSt.1 hNE (show j < k by omega)
    by_cases e : h.2.2.2.2 3 j = u
    · refine ⟨1, ?_, ?_, Or.inr rfl⟩
      · rw [f_X3_isServing_L2, s4, if_neg hno, q_rg (by omega), if_pos e]
      · rw [f_X5_isServed_L2, m2, if_neg hno, hw, Option.bind_some, if_pos e]
    · obtain ⟨x, x1, x2, x3⟩ := q_served hSt hSE hDy hNE u m (j + 1) fu fv (by omega) (by omega) (by omega)
      refine ⟨x, ?_, ?_, ?_⟩
      · rw [f_X3_isServing_L2, s4, if_neg hno, q_rg (by omega), if_neg e, q_s]; exact x1
      · rw [f_X5_isServed_L2, m2, if_neg hno, hw, Option.bind_some, if_neg e, q_s]; exact x2
      · rcases x3 with ⟨y1, y2⟩ | y
        · refine Or.inl ⟨y1, fun i i1 i2 => ?_⟩
          by_cases e2 : i = j
          · rw [e2]; exact e
          · exact y2 i (by omega) i2
        · exact Or.inr y
theorem q_isServed {n k : Nat} {h : z_H} {M : z_M} (hSt : z_St n k h) (hSE : z_SE M h) (hDy : z_Dy n k h) (hNE : z_NE k (M.2 6) h) (u : Int32) : ∃ x, f_X3_isServing h.2.2.2 u = some x ∧ f_X5_isServed M u = some x ∧ ((x = 0 ∧ ∀ i, i < k → h.2.2.2.2 3 i ≠ u) ∨ x = 1) := by
  have hk6 := hSt.2.1
  obtain ⟨x, x1, x2, x3⟩ := q_served hSt hSE hDy hNE u k 0 z_FU z_FU (by omega) (by unfold z_FU; omega) (by unfold z_FU; omega)
  refine ⟨x, x1, x2, ?_⟩
  rcases x3 with ⟨y1, y2⟩ | y
  · exact Or.inl ⟨y1, fun i hi => y2 i (by omega) hi⟩
  · exact Or.inr y
theorem q_i60 {i : Nat} (hi : i < 900) : ((60 : Int32) < nI i) ↔ 60 < i := by rw [show (60 : Int32) = nI 60 from rfl, q_lt (by omega) (by omega)]
theorem q_j60 {i : Nat} (hi : i < 900) : (nI i ≤ (60 : Int32)) ↔ i ≤ 60 := by rw [show (60 : Int32) = nI 60 from rfl, q_le (by omega) (by omega)]
/-- who neither waits nor is served never is -/
theorem s_never {n k r : Nat} {M : z_M} (hr : r < n) : ∀ (m i fv : Nat) (T : z_H) (g : Nat → Int32), i + m = 61 → m < fv → z_St n k T → z_SE M T → z_Dy n k T → z_NE k g T → T.2.1 5 r = -1 → (∀ j, j < k → T.2.2.2.2 3 j ≠ nI r) → ∃ g2, f_X5_untilServed_L6 fv (nI r) (nI i) (z_mR M 6 g) = some (nI 61, z_mR M 6 g2)
  | 0, i, fv + 1, T, g, hm, _, hSt, hSE, hDy, hNE, hw, hu => by
    have hi : i = 61 := by omega
    refine ⟨g, ?_⟩
    rw [f_X5_untilServed_L6, if_pos (by rw [q_i60 (by omega)]; omega), hi]
  | m + 1, i, fv + 1, T, g, hm, hf, hSt, hSE, hDy, hNE, hw, hu => by
    obtain ⟨x, x1, x2, x3⟩ := q_isServed hSt (hSE.m6 g) hDy (M := z_mR M 6 g) hNE (nI r)
    obtain ⟨h3, g3, b1, b2, b3, b4, b5, b6⟩ := s_minute hSt hSE hDy hNE
    have hx : x = 0 := by
      rcases x3 with ⟨y, -⟩ | y
      · exact y
      · exfalso
        rw [y] at x1
        have key : ∀ (m j fu : Nat), j + m = k → m < fu → f_X3_isServing_L2 T.2.2.2 fu (nI r) (nI j) = some 0 := by
          intro m
          induction m with
          | zero =>
            intro j fu hj hf
            obtain ⟨f, rfl⟩ : ∃ f, fu = f + 1 := ⟨fu - 1, by omega⟩
            have hk6 := hSt.2.1
            rw [f_X3_isServing_L2, hSt.2.2.2.1, if_pos (by rw [q_le (by omega) (by omega)]; omega)]
          | succ m ih =>
            intro j fu hj hf
            obtain ⟨f, rfl⟩ : ∃ f, fu = f + 1 := ⟨fu - 1, by omega⟩
            have hk6 := hSt.2.1
            rw [f_X3_isServing_L2, hSt.2.2.2.1, if_neg (by rw [q_le (by omega) (by omega)]; omega), q_rg (by omega), if_neg (hu j (by omega)), q_s]
            exact ih (j + 1) f (by omega) (by omega)
        have hk6 := hSt.2.1
        have e : f_X3_isServing T.2.2.2 (nI r) = some 0 := key k 0 z_FU (by omega) (by unfold z_FU; omega)
        rw [e] at x1
        exact absurd (Option.some.inj x1) (by decide)
    obtain ⟨g2, a⟩ := s_never (M := M) hr m (i + 1) fv h3 g3 (by omega) (by omega) (hSt.mv b5) (hSE.mv b5) b4 b3 (b6.1 r hr hw) (b6.2.1 r hr hw hu)
    refine ⟨g2, ?_⟩
    rw [f_X5_untilServed_L6, if_neg (by rw [q_i60 (by omega)]; omega), x2, Option.bind_some, if_pos hx, b2, Option.bind_some, q_s]
    exact a
theorem s_until {n k r : Nat} {M : z_M} {B1 : z_H} (hr : r < n) : ∀ (m i fu fv : Nat) (T : z_H) (g : Nat → Int32), i + m = 61 → m < fu → m < fv → z_St n k T → z_SE M T → z_Dy n k T → z_NE k g T → ∃ (y : Int32) (T2 : z_H) (g2 : Nat → Int32), f_X4_minutesUntilServed_L18 fu (nI r) (nI i) (B1, T) = some (if y ≤ 60 then y else -1, (B1, T2)) ∧ f_X5_untilServed_L6 fv (nI r) (nI i) (z_mR M 6 g) = some (y, z_mR M 6 g2)
  | 0, i, fu + 1, fv + 1, T, g, hm, _, _, hSt, hSE, hDy, hNE => by
    have h60 : (60 : Int32) < nI i := by rw [q_i60 (by omega)]; omega
    refine ⟨nI i, T, g, ?_, ?_⟩
    · rw [f_X4_minutesUntilServed_L18, if_pos h60, if_neg (by rw [q_j60 (by omega)]; omega)]
    · rw [f_X5_untilServed_L6, if_pos h60]
  | m + 1, i, fu + 1, fv + 1, T, g, hm, h1, h2, hSt, hSE, hDy, hNE => by
    have hn := hSt.1
    have h60 : ¬ (60 : Int32) < nI i := by rw [q_i60 (by omega)]; omega
    obtain ⟨x, x1, x2, x3⟩ := q_isServed hSt (hSE.m6 g) hDy (M := z_mR M 6 g) hNE (nI r)
    rcases x3 with ⟨y1, y2⟩ | y
    · by_cases hw : T.2.1 5 r = -1
      · obtain ⟨g2, a⟩ := s_never (M := M) hr (m + 1) i (fv + 1) T g hm (by omega) hSt hSE hDy hNE hw y2
        refine ⟨nI 61, T, g2, ?_, a⟩
        rw [f_X4_minutesUntilServed_L18, if_neg h60]
        show (f_X3_isServing T.2.2.2 (nI r)).bind _ = _
        rw [x1, Option.bind_some, if_pos y1]
        unfold f_X0_isWaiting
        show (if (if z_rg (T.2.1 5) (nI r) = -1 then (0 : Int32) else 1) = 0 then _ else _) = _
        rw [q_rg (by omega), if_pos hw, if_pos rfl, if_neg (by decide)]
      · obtain ⟨h3, g3, b1, b2, b3, b4, b5, b6⟩ := s_minute hSt hSE hDy hNE
        obtain ⟨y, T2, g2, a1, a2⟩ := s_until (M := M) (B1 := B1) hr m (i + 1) fu fv h3 g3 (by omega) (by omega) (by omega) (hSt.mv b5) (hSE.mv b5) b4 b3
        refine ⟨y, T2, g2, ?_, ?_⟩
        · rw [f_X4_minutesUntilServed_L18, if_neg h60]
          show (f_X3_isServing T.2.2.2 (nI r)).bind _ = _
          rw [x1, Option.bind_some, if_pos y1]
          unfold f_X0_isWaiting
          show (if (if z_rg (T.2.1 5) (nI r) = -1 then (0 : Int32) else 1) = 0 then _ else (f_X0_letMinuteGoBy T).bind _) = _
          rw [q_rg (by omega), if_neg hw, if_neg (by decide), b1, Option.bind_some, q_s]
          exact a1
        · rw [f_X5_untilServed_L6, if_neg h60, x2, Option.bind_some, if_pos y1, b2, Option.bind_some, q_s]
          exact a2
    · refine ⟨nI i, T, g, ?_, ?_⟩
      · rw [f_X4_minutesUntilServed_L18, if_neg h60]
        show (f_X3_isServing T.2.2.2 (nI r)).bind _ = _
        rw [x1, Option.bind_some, if_neg (by rw [y]; decide), if_pos (by rw [q_j60 (by omega)]; omega)]
      · rw [f_X5_untilServed_L6, if_neg h60, x2, Option.bind_some, if_neg (by rw [y]; decide)]
theorem s_untilServed {n k r : Nat} {M : z_M} {B1 T : z_H} (hr : r < n) (H : z_RM n k T M) : ∃ (x : Int32) (T2 : z_H) (M2 : z_M), f_X4_minutesUntilServed_L18 z_FU (nI r) 0 (B1, T) = some (x, (B1, T2)) ∧ f_X5_untilServed M (nI r) = some (x, M2) ∧ z_SM M M2 := by
  obtain ⟨hSt, hDy, hSE, hNE⟩ := H
  obtain ⟨y, T2, g2, a1, a2⟩ := s_until (M := z_mR M 7 (va_cpy (M.2 6) (M.2 7) 0 0 55)) (B1 := B1) hr 61 0 z_FU z_FU T (M.2 6) (by omega) (by unfold z_FU; omega) (by unfold z_FU; omega) hSt hSE hDy hNE
  have a2' : f_X5_untilServed_L6 z_FU (nI r) 0 (z_mR M 7 (va_cpy (M.2 6) (M.2 7) 0 0 55)) = some (y, z_mR (z_mR M 7 (va_cpy (M.2 6) (M.2 7) 0 0 55)) 6 g2) := by
    have e := q_mi (z_mR M 7 (va_cpy (M.2 6) (M.2 7) 0 0 55))
    have a3 : f_X5_untilServed_L6 z_FU (nI r) 0 (z_mR (z_mR M 7 (va_cpy (M.2 6) (M.2 7) 0 0 55)) 6 ((z_mR M 7 (va_cpy (M.2 6) (M.2 7) 0 0 55)).2 6)) = _ := a2
    rw [e] at a3
    exact a3
  refine ⟨_, T2, _, a1, ?_, q_keep M g2⟩
  unfold f_X5_untilServed f_X5_keep f_X5_bringBack
  rw [Option.bind_some, a2', Option.bind_some, Option.bind_some]
  by_cases e : y ≤ 60
  · rw [if_pos e, if_pos e]; rfl
  · rw [if_neg e, if_neg e]; rfl
/-- two wires crossed -/
def z_sw (w : Nat → Int32) (a b : Nat) : Nat → Int32 := upd (upd w a (w b)) b (w a)
theorem z_sw.at {w : Nat → Int32} {a b i : Nat} : z_sw w a b i = w (if i = b then a else if i = a then b else i) := by
  unfold z_sw
  by_cases e : i = b
  · rw [e, q_us, if_pos rfl]
  · rw [q_un e, if_neg e]
    by_cases e2 : i = a
    · rw [e2, q_us, if_pos rfl]
    · rw [q_un e2, if_neg e2]
theorem z_St.sw {n k : Nat} {h : z_H} (H : z_St n k h) {a b : Nat} (ha : a < n) (hb : b < n) : z_St n k (z_hR h 3 (z_sw (h.2.1 3) a b)) := by
  obtain ⟨s1, s2, s3, s4, s5, s6, s7, s8, s9, s10, s11⟩ := H
  have hx : ∀ i, i < n → (if i = b then a else if i = a then b else i) < n := fun i hi => by
    by_cases e : i = b
    · rw [if_pos e]; exact ha
    · rw [if_neg e]
      by_cases e2 : i = a
      · rw [if_pos e2]; exact hb
      · rw [if_neg e2]; exact hi
  refine ⟨s1, s2, s3, s4, s5, s6, s7, fun i hi => ?_, fun i j hi hj e => ?_, s10, s11⟩
  · show ∃ c, c < n ∧ z_sw (h.2.1 3) a b i = nI c
    rw [z_sw.at]
    exact s8 _ (hx i hi)
  · have e : z_sw (h.2.1 3) a b i = z_sw (h.2.1 3) a b j := e
    rw [z_sw.at, z_sw.at] at e
    have e2 := s9 _ _ (hx i hi) (hx j hj) e
    by_cases p1 : i = b
    · rw [if_pos p1] at e2
      by_cases p2 : j = b
      · omega
      · rw [if_neg p2] at e2
        by_cases p3 : j = a
        · rw [if_pos p3] at e2; omega
        · rw [if_neg p3] at e2; omega
    · rw [if_neg p1] at e2
      by_cases p2 : j = b
      · rw [if_pos p2] at e2
        by_cases p3 : i = a
        · rw [if_pos p3] at e2; omega
        · rw [if_neg p3] at e2; omega
      · rw [if_neg p2] at e2
        by_cases p3 : i = a
        · rw [if_pos p3] at e2
          by_cases p4 : j = a
          · omega
          · rw [if_neg p4] at e2; omega
        · rw [if_neg p3] at e2
          by_cases p4 : j = a
          · rw [if_pos p4] at e2; omega
          · rw [if_neg p4] at e2; exact e2
theorem z_RM.sw {n k : Nat} {h : z_H} {M : z_M} (H : z_RM n k h M) {a b : Nat} (ha : a < n) (hb : b < n) : z_RM n k (z_hR h 3 (z_sw (h.2.1 3) a b)) (z_mR M 3 (z_sw (M.2 3) a b)) := by
  obtain ⟨hSt, hDy, ⟨m1, m2, m3, m4, m5, m6, m7, m8⟩, hNE⟩ := H
  have hn := hSt.1
  refine ⟨hSt.sw ha hb, hDy, ⟨m1, m2, m3, m4, m5, fun i hi => ?_, m7, m8⟩, hNE⟩
  show z_sw (M.2 3) a b i = z_sw (h.2.1 3) a b i
  rw [z_sw.at, z_sw.at]
  by_cases e : i = b
  · rw [if_pos e]; exact m6 a (by omega)
  · rw [if_neg e]
    by_cases e2 : i = a
    · rw [if_pos e2]; exact m6 b (by omega)
    · rw [if_neg e2]; exact m6 i hi
theorem q_swapC {h : z_H} {a b : Nat} (ha : a < 12) (hb : b < 12) : f_X0_swapWires h (nI a) (nI b) = z_hR h 3 (z_sw (h.2.1 3) a b) := by
  unfold f_X0_swapWires z_sw
  rw [q_rg ha, q_rg hb, q_rs ha, q_rs hb]
theorem q_swapM {M : z_M} {a b : Nat} (ha : a < 12) (hb : b < 12) : f_X5_swap M (nI a) (nI b) = some (z_mR M 3 (z_sw (M.2 3) a b)) := by
  unfold f_X5_swap z_sw
  rw [q_at ha (by omega), Option.bind_some, q_at hb (by omega), Option.bind_some, q_wr ha (by omega), Option.bind_some, q_wr hb (by omega), Option.bind_some]
theorem z_SM.sw {M M2 : z_M} {a b : Nat} (H : z_SM (z_mR M 3 (z_sw (M.2 3) a b)) M2) : z_SM M (z_mR M2 3 (z_sw (M2.2 3) a b)) := by
  obtain ⟨e1, e2, e3⟩ := H
  refine ⟨e1, fun r hr i => ?_, e3⟩
  by_cases h3 : r = 3
  · rw [h3]
    show z_sw (M2.2 3) a b i = M.2 3 i
    have e : ∀ i, M2.2 3 i = z_sw (M.2 3) a b i := e2 3 (by omega)
    rw [z_sw.at, e, z_sw.at]
    refine congrArg (M.2 3) ?_
    by_cases p1 : i = b
    · rw [if_pos p1]
      by_cases p2 : a = b
      · rw [if_pos p2]; omega
      · rw [if_neg p2, if_pos rfl]; omega
    · rw [if_neg p1]
      by_cases p2 : i = a
      · rw [if_pos p2, if_pos rfl]; omega
      · rw [if_neg p2, if_neg p1, if_neg p2]
  · have x := e2 r hr i
    show (if r = 3 then _ else M2.2 r) i = _
    rw [if_neg h3, x]
    show (if r = 3 then _ else M.2 r) i = _
    rw [if_neg h3]
theorem s_bestL {n k r : Nat} {h : z_H} (hr : r < n) : ∀ (m q fu fv : Nat) (T : z_H) (M : z_M) (bv br : Int32), q + m = n → m < fu → m < fv → z_RM n k h M → ∃ (x : Int32) (T2 : z_H) (M2 : z_M), f_X4_bestToCross_L28 fu (nI r) bv br (nI q) (h, T) = some (x, (h, T2)) ∧ f_X5_best_L12 fv (nI r) br bv (nI q) M = some (x, M2) ∧ z_SM M M2
  | 0, q, fu + 1, fv + 1, T, M, bv, br, hm, _, _, H => by
    have s1 := H.1.1
    have s3 := H.1.2.2.1
    have m1 : M.1 1 = nI n := H.2.2.1.1.trans s3
    have hle : nI n ≤ nI q := by rw [q_le (by omega) (by omega)]; omega
    refine ⟨br, T, M, ?_, ?_, z_SM.rf M⟩
    · rw [f_X4_bestToCross_L28]
      show (if h.1 1 ≤ nI q then _ else _) = _
      rw [s3, if_pos hle]
    · rw [f_X5_best_L12, m1, if_pos hle]
  | m + 1, q, fu + 1, fv + 1, T, M, bv, br, hm, h1, h2, H => by
    have s1 := H.1.1
    have s3 := H.1.2.2.1
    have m1 : M.1 1 = nI n := H.2.2.1.1.trans s3
    have hle : ¬ nI n ≤ nI q := by rw [q_le (by omega) (by omega)]; omega
    have hq : q < n := by omega
    by_cases e : nI q = nI r
    · obtain ⟨x, T2, M2, a1, a2, a3⟩ := s_bestL hr m (q + 1) fu fv T M bv br (by omega) (by omega) (by omega) H
      refine ⟨x, T2, M2, ?_, ?_, a3⟩
      · rw [f_X4_bestToCross_L28]
        show (if h.1 1 ≤ nI q then _ else _) = _
        rw [s3, if_neg hle, if_pos e, q_s]; exact a1
      · rw [f_X5_best_L12, m1, if_neg hle, if_pos e, q_s]; exact a2
    · obtain ⟨t2, c1, c2⟩ := q_copyH T h
      obtain ⟨x, T3, M3, b1, b2, b3⟩ := s_soon (v := 40) (B1 := h) (by omega) ((H.eq c2).sw hr hq)
      have hM := b3.sw
      have b1' : f_X4_serveInTrial (h, f_X0_swapWires t2 (nI r) (nI q)) 40 = some (x, (h, T3)) := by
        rw [q_swapC (by omega) (by omega)]; exact b1
      have b2' : f_X5_soon (z_mR M 3 (z_sw (M.2 3) r q)) 40 = some (x, M3) := b2
      by_cases hx : x ≤ bv
      · obtain ⟨y, T4, M4, a1, a2, a3⟩ := s_bestL hr m (q + 1) fu fv T3 _ bv br (by omega) (by omega) (by omega) (H.sm hM)
        refine ⟨y, T4, M4, ?_, ?_, hM.tr a3⟩
        · rw [f_X4_bestToCross_L28]
          show (if h.1 1 ≤ nI q then _ else if nI q = nI r then _ else (f_X0_copyFrom T h).bind _) = _
          rw [s3, if_neg hle, if_neg e, c1, Option.bind_some]
          show (f_X4_serveInTrial (h, f_X0_swapWires t2 (nI r) (nI q)) 40).bind _ = _
          rw [b1', Option.bind_some, if_pos hx, q_s]; exact a1
        · rw [f_X5_best_L12, m1, if_neg hle, if_neg e, q_swapM (by omega) (by omega), Option.bind_some, b2', Option.bind_some, q_swapM (by omega) (by omega), Option.bind_some, if_neg (Int32.not_lt.mpr hx), q_s]; exact a2
      · obtain ⟨y, T4, M4, a1, a2, a3⟩ := s_bestL hr m (q + 1) fu fv T3 _ x (nI q) (by omega) (by omega) (by omega) (H.sm hM)
        refine ⟨y, T4, M4, ?_, ?_, hM.tr a3⟩
        · rw [f_X4_bestToCross_L28]
          show (if h.1 1 ≤ nI q then _ else if nI q = nI r then _ else (f_X0_copyFrom T h).bind _) = _
          rw [s3, if_neg hle, if_neg e, c1, Option.bind_some]
          show (f_X4_serveInTrial (h, f_X0_swapWires t2 (nI r) (nI q)) 40).bind _ = _
          rw [b1', Option.bind_some, if_neg hx, q_s]; exact a1
        · rw [f_X5_best_L12, m1, if_neg hle, if_neg e, q_swapM (by omega) (by omega), Option.bind_some, b2', Option.bind_some, q_swapM (by omega) (by omega), Option.bind_some, if_pos (Int32.not_le.mp hx), q_s]; exact a2
