-- ===== the digest =====
def z_fo (g : Nat → Int32) : Nat → Nat → Int64 → Int64
  | 0, _, u => u
  | m + 1, i, u => z_fo g m (i + 1) (u * 31 + (g i).toInt64)
theorem q_w9_0 {f : Nat → Int32} {v : Int32} : z_wr f 0 9 v = some (upd f 0 v) := rfl
theorem q_w9_1 {f : Nat → Int32} {v : Int32} : z_wr f 1 9 v = some (upd f 1 v) := rfl
theorem q_w9_2 {f : Nat → Int32} {v : Int32} : z_wr f 2 9 v = some (upd f 2 v) := rfl
theorem q_w9_3 {f : Nat → Int32} {v : Int32} : z_wr f 3 9 v = some (upd f 3 v) := rfl
theorem q_w9_4 {f : Nat → Int32} {v : Int32} : z_wr f 4 9 v = some (upd f 4 v) := rfl
theorem q_w9_5 {f : Nat → Int32} {v : Int32} : z_wr f 5 9 v = some (upd f 5 v) := rfl
theorem q_w9_6 {f : Nat → Int32} {v : Int32} : z_wr f 6 9 v = some (upd f 6 v) := rfl
theorem q_w9_7 {f : Nat → Int32} {v : Int32} : z_wr f 7 9 v = some (upd f 7 v) := rfl
theorem q_w9_8 {f : Nat → Int32} {v : Int32} : z_wr f 8 9 v = some (upd f 8 v) := rfl
theorem q_w14_0 {f : Nat → Int32} {v : Int32} : z_wr f 0 14 v = some (upd f 0 v) := rfl
theorem q_w14_1 {f : Nat → Int32} {v : Int32} : z_wr f 1 14 v = some (upd f 1 v) := rfl
theorem q_w14_2 {f : Nat → Int32} {v : Int32} : z_wr f 2 14 v = some (upd f 2 v) := rfl
theorem q_w14_3 {f : Nat → Int32} {v : Int32} : z_wr f 3 14 v = some (upd f 3 v) := rfl
theorem q_w14_4 {f : Nat → Int32} {v : Int32} : z_wr f 4 14 v = some (upd f 4 v) := rfl
theorem q_w14_5 {f : Nat → Int32} {v : Int32} : z_wr f 5 14 v = some (upd f 5 v) := rfl
theorem q_w14_6 {f : Nat → Int32} {v : Int32} : z_wr f 6 14 v = some (upd f 6 v) := rfl
theorem q_w14_7 {f : Nat → Int32} {v : Int32} : z_wr f 7 14 v = some (upd f 7 v) := rfl
theorem q_w14_8 {f : Nat → Int32} {v : Int32} : z_wr f 8 14 v = some (upd f 8 v) := rfl
theorem q_w14_9 {f : Nat → Int32} {v : Int32} : z_wr f 9 14 v = some (upd f 9 v) := rfl
theorem q_w14_10 {f : Nat → Int32} {v : Int32} : z_wr f 10 14 v = some (upd f 10 v) := rfl
theorem q_w14_11 {f : Nat → Int32} {v : Int32} : z_wr f 11 14 v = some (upd f 11 v) := rfl
theorem q_w14_12 {f : Nat → Int32} {v : Int32} : z_wr f 12 14 v = some (upd f 12 v) := rfl
theorem q_w14_13 {f : Nat → Int32} {v : Int32} : z_wr f 13 14 v = some (upd f 13 v) := rfl
theorem q_fo9 (x0 x1 x2 x3 x4 x5 x6 x7 x8 : Int32) (u : Int64) : z_fo (upd (upd (upd (upd (upd (upd (upd (upd (upd (fun _ => 0) 0 x0) 1 x1) 2 x2) 3 x3) 4 x4) 5 x5) 6 x6) 7 x7) 8 x8) 9 0 u = (f_X4_mix (f_X4_mix (f_X4_mix (f_X4_mix (f_X4_mix (f_X4_mix (f_X4_mix (f_X4_mix (f_X4_mix u x0) x1) x2) x3) x4) x5) x6) x7) x8) := rfl
theorem q_fo14 (x0 x1 x2 x3 x4 x5 x6 x7 x8 x9 x10 x11 x12 x13 : Int32) (u : Int64) : z_fo (upd (upd (upd (upd (upd (upd (upd (upd (upd (upd (upd (upd (upd (upd (fun _ => 0) 0 x0) 1 x1) 2 x2) 3 x3) 4 x4) 5 x5) 6 x6) 7 x7) 8 x8) 9 x9) 10 x10) 11 x11) 12 x12) 13 x13) 14 0 u = (f_X4_mix (f_X4_mix (f_X4_mix (f_X4_mix (f_X4_mix (f_X4_mix (f_X4_mix (f_X4_mix (f_X4_mix (f_X4_mix (f_X4_mix (f_X4_mix (f_X4_mix (f_X4_mix u x0) x1) x2) x3) x4) x5) x6) x7) x8) x9) x10) x11) x12) x13) := rfl
theorem q_306 {g : Nat → Int32} {u4 : Int32} {M : z_M} : ∀ (m i fu : Nat) (u : Int64), i + m = 9 → m < fu → f_X5_digest_L306 g fu u u4 9 (nI i) M = some (z_fo g m i u, u4, M)
  | 0, i, fu + 1, u, hm, _ => by
    have hi : i = 9 := by omega
    rw [f_X5_digest_L306, hi, if_pos (by decide)]
    rfl
  | m + 1, i, fu + 1, u, hm, hf => by
    rw [f_X5_digest_L306, if_neg (by rw [show (9 : Int32) = nI 9 from rfl, q_le (by omega) (by omega)]; omega), q_at (by omega) (by omega), Option.bind_some, q_s, q_306 m (i + 1) fu _ (by omega) (by omega)]
    rfl
theorem q_306z (g : Nat → Int32) (u4 : Int32) (M : z_M) (u : Int64) : f_X5_digest_L306 g z_FU u u4 9 0 M = some (z_fo g 9 0 u, u4, M) := q_306 9 0 z_FU u (by omega) (by unfold z_FU; omega)
theorem q_148 {g : Nat → Int32} {M : z_M} : ∀ (m i fu : Nat) (u : Int64), i + m = 14 → m < fu → f_X5_digest_L148 g fu u 14 (nI i) M = some (z_fo g m i u, M)
  | 0, i, fu + 1, u, hm, _ => by
    have hi : i = 14 := by omega
    rw [f_X5_digest_L148, hi, if_pos (by decide)]
    rfl
  | m + 1, i, fu + 1, u, hm, hf => by
    rw [f_X5_digest_L148, if_neg (by rw [show (14 : Int32) = nI 14 from rfl, q_le (by omega) (by omega)]; omega), q_at (by omega) (by omega), Option.bind_some, q_s, q_148 m (i + 1) fu _ (by omega) (by omega)]
    rfl
theorem q_148z (g : Nat → Int32) (M : z_M) (u : Int64) : f_X5_digest_L148 g z_FU u 14 0 M = some (z_fo g 14 0 u, M) := q_148 14 0 z_FU u (by omega) (by unfold z_FU; omega)
theorem c_drop {n k r : Nat} {h T : z_H} {M : z_M} (H : z_RM n k h M) (hr : r < n) : f_X4_dropOf (h, T) (nI r) = some (h.2.1 3 r) := by
  have s1 := H.1.1
  unfold f_X4_dropOf
  rw [c_req H hr, Option.bind_some]
  show some (z_rg (h.2.1 3) (nI r)) = _
  rw [q_rg (by omega)]
theorem c_wait {n k r : Nat} {h T : z_H} {M : z_M} (H : z_RM n k h M) (hr : r < n) : f_X4_waitedFor (h, T) (nI r) = some (h.2.1 5 r) := by
  have s1 := H.1.1
  unfold f_X4_waitedFor
  rw [c_req H hr, Option.bind_some]
  show some (z_rg (h.2.1 5) (nI r)) = _
  rw [q_rg (by omega)]
theorem c_isCut {n k r : Nat} {h T : z_H} {M : z_M} (H : z_RM n k h M) (hr : r < n) : f_X4_isCut (h, T) (nI r) = some (h.2.1 4 r) := by
  have s1 := H.1.1
  unfold f_X4_isCut f_X0_isWireCut
  rw [c_req H hr, Option.bind_some]
  show (z_bo (if z_rg (h.2.1 4) (nI r) = 1 then 1 else 0)).bind (fun x13 => some x13) = _
  rw [q_rg (by omega)]
  rcases H.1.2.2.2.2.2.2.2.2.2.1 r hr with e | e
  · rw [e]; rfl
  · rw [e]; rfl
theorem c_placeIn {n k r : Nat} {h T : z_H} {M : z_M} {x : Int32} (H : z_RM n k h M) (hr : r < n) (e : f_X1_placeOf h.2.2.1 (nI r) = some x) : f_X4_placeInLine (h, T) (nI r) = some x := by
  unfold f_X4_placeInLine
  rw [c_req H hr, Option.bind_some]
  show (f_X1_placeOf h.2.2.1 (nI r)).bind _ = _
  rw [e]
  rfl
theorem s_digR {n k : Nat} {h : z_H} : ∀ (m i fu fv : Nat) (u : Int64) (T : z_H) (M : z_M), i + m = n → m < fu → m < fv → z_RM n k h M → ∃ (x : Int64) (T2 : z_H) (M2 : z_M), f_X4_digest_L134 fu u (nI i) (h, T) = some (x, (h, T2)) ∧ f_X5_digest_L181 fv u (nI i) M = some (x, M2) ∧ z_SM M M2
  | 0, i, fu + 1, fv + 1, u, T, M, hm, _, _, H => by
    have s1 := H.1.1
    have s3 := H.1.2.2.1
    have m1 : M.1 1 = nI n := H.2.2.1.1.trans s3
    have hle : nI n ≤ nI i := by rw [q_le (by omega) (by omega)]; omega
    refine ⟨u, T, M, ?_, ?_, z_SM.rf M⟩
    · rw [f_X4_digest_L134]
      show (if h.1 1 ≤ nI i then _ else _) = _
      rw [s3, if_pos hle]
    · rw [f_X5_digest_L181, m1, if_pos hle]
  | m + 1, i, fu + 1, fv + 1, u, T, M, hm, h1, h2, H => by
    have s1 := H.1.1
    have s3 := H.1.2.2.1
    have m1 : M.1 1 = nI n := H.2.2.1.1.trans s3
    have hle : ¬ nI n ≤ nI i := by rw [q_le (by omega) (by omega)]; omega
    have hi : i < n := by omega
    have e3 : M.2 3 i = h.2.1 3 i := H.2.2.1.2.2.2.2.2.1 i (by omega)
    have e4 : M.2 4 i = h.2.1 4 i := H.2.2.1.2.2.2.2.2.2.1 i (by omega)
    have e7 : M.2 6 (7 + i) = h.2.1 5 i := H.2.2.2.2.2.2.2.2.2.2.1 i (by omega)
    have a1 := c_drop (T := T) H hi
    have a3 := c_isCut (T := T) H hi
    have a4 := c_wait (T := T) H hi
    obtain ⟨ro, r1, r2⟩ := c_roomOf (T := T) H hi
    obtain ⟨pl, p1, p2, -⟩ := c_place (T := T) H (nI i)
    have p3 := c_placeIn (T := T) H hi p1
    obtain ⟨le, l1, l2⟩ := c_left (T := T) H hi
    obtain ⟨ne, n1, n2⟩ := c_near (T := T) H hi
    obtain ⟨un, T2, M2, u1, u2, u3⟩ := c_until (T := T) H hi
    obtain ⟨be, T3, M3, b1, b2, b3⟩ := c_best (T := T2) (H.sm u3) hi
    rcases H.1.2.2.2.2.2.2.2.2.2.1 i hi with e | e
    · obtain ⟨x, T4, M4, x1, x2, x3⟩ := s_digR m (i + 1) fu fv (f_X4_mix (f_X4_mix (f_X4_mix (f_X4_mix (f_X4_mix (f_X4_mix (f_X4_mix (f_X4_mix (f_X4_mix u (h.2.1 3 i)) ro) 0) (h.2.1 5 i)) pl) le) ne) un) be) T3 M3 (by omega) (by omega) (by omega) ((H.sm u3).sm b3)
      refine ⟨x, T4, M4, ?_, ?_, (u3.tr b3).tr x3⟩
      · rw [f_X4_digest_L134]
        show (if h.1 1 ≤ nI i then _ else _) = _
        rw [s3, if_neg hle]
        simp only [a1, r1, a3, e, a4, p3, l1, n1, u1, b1, Option.bind_some, q_00, if_true, q_s]
        exact x1
      · rw [f_X5_digest_L181, m1, if_neg hle, q_at (by omega) (by omega), e3]
        simp (disch := omega) only [Option.bind_some, q_w9_0, r2, q_w9_1, q_at, e4, e, q_00, if_true, q_w9_2, q_a7, e7, q_w9_3, p2, q_w9_4, l2, q_w9_5, n2, q_w9_6, u2, q_w9_7, b2, q_w9_8, q_306z, q_fo9, q_s]
        exact x2
    · obtain ⟨x, T4, M4, x1, x2, x3⟩ := s_digR m (i + 1) fu fv (f_X4_mix (f_X4_mix (f_X4_mix (f_X4_mix (f_X4_mix (f_X4_mix (f_X4_mix (f_X4_mix (f_X4_mix u (h.2.1 3 i)) ro) 1) (h.2.1 5 i)) pl) le) ne) un) be) T3 M3 (by omega) (by omega) (by omega) ((H.sm u3).sm b3)
      refine ⟨x, T4, M4, ?_, ?_, (u3.tr b3).tr x3⟩
      · rw [f_X4_digest_L134]
        show (if h.1 1 ≤ nI i then _ else _) = _
        rw [s3, if_neg hle]
        simp only [a1, r1, a3, e, a4, p3, l1, n1, u1, b1, Option.bind_some, q_10, if_false, q_s]
        exact x1
      · rw [f_X5_digest_L181, m1, if_neg hle, q_at (by omega) (by omega), e3]
        simp (disch := omega) only [Option.bind_some, q_w9_0, r2, q_w9_1, q_at, e4, e, q_10, if_false, q_w9_2, q_a7, e7, q_w9_3, p2, q_w9_4, l2, q_w9_5, n2, q_w9_6, u2, q_w9_7, b2, q_w9_8, q_306z, q_fo9, q_s]
        exact x2
theorem s_digS {n k : Nat} {h T : z_H} {M : z_M} (H : z_RM n k h M) : ∀ (m j fu fv : Nat) (u : Int64), j + m = k → m < fu → m < fv → ∃ x : Int64, f_X4_digest_L251 fu u (nI j) (h, T) = some (x, (h, T)) ∧ f_X5_digest_L345 fv u (nI j) M = some (x, M)
  | 0, j, fu + 1, fv + 1, u, hm, _, _ => by
    have s2 := H.1.2.1
    have s4 := H.1.2.2.2.1
    have m2 : M.1 2 = nI k := H.2.2.1.2.1.trans s4
    have hle : nI k ≤ nI j := by rw [q_le (by omega) (by omega)]; omega
    refine ⟨u, ?_, ?_⟩
    · rw [f_X4_digest_L251]
      show (if h.2.2.2.1 ≤ nI j then _ else _) = _
      rw [s4, if_pos hle]
    · rw [f_X5_digest_L345, m2, if_pos hle]
  | m + 1, j, fu + 1, fv + 1, u, hm, h1, h2 => by
    have s1 := H.1.1
    have s2 := H.1.2.1
    have s4 := H.1.2.2.2.1
    have m2 : M.1 2 = nI k := H.2.2.1.2.1.trans s4
    have hle : ¬ nI k ≤ nI j := by rw [q_le (by omega) (by omega)]; omega
    have hj : j < k := by omega
    have g31 : M.2 6 (31 + j) = h.2.2.2.2 1 j := H.2.2.2.2.2.2.2.2.2.2.2.2.1 j (by omega)
    have g49 : M.2 6 (49 + j) = h.2.2.2.2 4 j := H.2.2.2.2.2.2.2.2.2.2.2.2.2.2.2.1 j (by omega)
    have w1 := q_whom1 (M := M) s2 H.2.1 s1 H.2.2.2 hj
    have w2 := q_whom2 (M := M) s2 H.2.1 s1 H.2.2.2 hj
    have cq := c_reqS (T := T) H hj
    obtain ⟨x, x1, x2⟩ := s_digS (T := T) H m (j + 1) fu fv (f_X4_mix (f_X4_mix (f_X4_mix (f_X4_mix u (h.2.2.2.2 1 j)) (h.2.2.2.2 2 j)) (h.2.2.2.2 3 j)) (h.2.2.2.2 4 j)) (by omega) (by omega) (by omega)
    refine ⟨x, ?_, ?_⟩
    · have f1 : f_X4_floorOf (h, T) (nI j) = some (h.2.2.2.2 1 j) := by
        unfold f_X4_floorOf
        rw [cq, Option.bind_some]
        show some (z_rg (h.2.2.2.2 1) (nI j)) = _
        rw [q_rg (by omega)]
      have f2 : f_X4_goesTo (h, T) (nI j) = some (h.2.2.2.2 2 j) := by
        unfold f_X4_goesTo
        rw [cq, Option.bind_some]
        show some (z_rg (h.2.2.2.2 2) (nI j)) = _
        rw [q_rg (by omega)]
      have f3 : f_X4_serves (h, T) (nI j) = some (h.2.2.2.2 3 j) := by
        unfold f_X4_serves
        rw [cq, Option.bind_some]
        show some (z_rg (h.2.2.2.2 3) (nI j)) = _
        rw [q_rg (by omega)]
      have f4 : f_X4_minutesLeft (h, T) (nI j) = some (h.2.2.2.2 4 j) := by
        unfold f_X4_minutesLeft
        rw [cq, Option.bind_some]
        show some (z_rg (h.2.2.2.2 4) (nI j)) = _
        rw [q_rg (by omega)]
      rw [f_X4_digest_L251]
      show (if h.2.2.2.1 ≤ nI j then _ else _) = _
      rw [s4, if_neg hle]
      simp only [f1, f2, f3, f4, Option.bind_some, q_s]
      exact x1
    · rw [f_X5_digest_L345, m2, if_neg hle, q_a31 (by omega), Option.bind_some, w1, Option.bind_some, w2, Option.bind_some, q_a49 (by omega), Option.bind_some, g31, g49, q_s]
      exact x2
theorem p_digest : sm_digest z_Rl := by
  intro B M hR
  obtain ⟨h, T⟩ := B
  obtain ⟨n, k, H, F⟩ := hR
  have H : z_RM n k h M := H
  have s1 := H.1.1
  have s2 := H.1.2.1
  have H0 := H.mS 0
  obtain ⟨m1, m2, -⟩ := id H.2.2.1
  obtain ⟨n0, n1, n2, n3, n4, n5, n6, -⟩ := id H.2.2.2
  obtain ⟨lo, lo1, lo2⟩ := s_longest (T := T) H0
  obtain ⟨cr, cr1, cr2⟩ := s_crossed (T := T) H0
  obtain ⟨cn, cn1, cn2⟩ := s_crossings (T := T) H0
  obtain ⟨nx, nx1, nx2⟩ := c_next (T := T) H0
  obtain ⟨sv, T1, M1, sv1, sv2, sv3⟩ := c_served (v := 20) (T := T) H0 (by omega) (by omega)
  have sv1' : f_X4_servedIn (h, T) 20 = some (sv, (h, T1)) := sv1
  have sv2' : f_X5_soon (z_mS M 0 0) 20 = some (sv, M1) := sv2
  obtain ⟨x, T2, M2, x1, x2, x3⟩ := s_digR n 0 z_FU z_F13 (f_X4_mix (f_X4_mix (f_X4_mix (f_X4_mix (f_X4_mix (f_X4_mix (f_X4_mix (f_X4_mix (f_X4_mix (f_X4_mix (f_X4_mix (f_X4_mix (f_X4_mix (f_X4_mix 2377 (h.1 0)) (h.1 1)) h.2.2.2.1) (h.1 2)) (h.1 3)) (h.1 4)) (h.1 5)) (h.1 6)) lo) cr) cn) h.2.2.1.1) nx) sv) T1 M1 (by omega) (by unfold z_FU; omega) (by unfold z_F13; omega) (H0.sm sv3)
  obtain ⟨y, y1, y2⟩ := s_digS (T := T2) ((H0.sm sv3).sm x3) k 0 z_FU z_FU x (by omega) (by unfold z_FU; omega) (by unfold z_FU; omega)
  refine ⟨(y, (h, T2)), (y, M2), ?_, ?_, rfl, ⟨n, k, (H0.sm sv3).sm x3, F⟩⟩
  · unfold f_X4_digest
    rw [lo1, Option.bind_some, cr1, Option.bind_some, cn1, Option.bind_some, nx1, Option.bind_some, sv1', Option.bind_some]
    show (f_X4_digest_L134 z_FU (f_X4_mix (f_X4_mix (f_X4_mix (f_X4_mix (f_X4_mix (f_X4_mix (f_X4_mix (f_X4_mix (f_X4_mix (f_X4_mix (f_X4_mix (f_X4_mix (f_X4_mix (f_X4_mix 2377 (h.1 0)) (h.1 1)) h.2.2.2.1) (h.1 2)) (h.1 3)) (h.1 4)) (h.1 5)) (h.1 6)) lo) cr) cn) h.2.2.1.1) nx) sv) (nI 0) (h, T1)).bind _ = _
    rw [x1, Option.bind_some]
    show (f_X4_digest_L251 z_FU x (nI 0) (h, T2)).bind _ = _
    rw [y1]
    rfl
  · have x2' : f_X5_digest_L181 z_F13 (f_X4_mix (f_X4_mix (f_X4_mix (f_X4_mix (f_X4_mix (f_X4_mix (f_X4_mix (f_X4_mix (f_X4_mix (f_X4_mix (f_X4_mix (f_X4_mix (f_X4_mix (f_X4_mix 2377 (h.1 0)) (h.1 1)) h.2.2.2.1) (h.1 2)) (h.1 3)) (h.1 4)) (h.1 5)) (h.1 6)) lo) cr) cn) h.2.2.1.1) nx) sv) 0 M1 = some (x, M2) := x2
    have y2' : f_X5_digest_L345 z_FU x 0 M2 = some (y, M2) := y2
    unfold f_X5_digest
    simp only [q_at0, q_at1, q_at2, q_at3, q_at4, q_at5, q_at6, Option.bind_some, q_w14_0, q_w14_1, q_w14_2, q_w14_3, q_w14_4, q_w14_5, q_w14_6, q_w14_7, q_w14_8, q_w14_9, q_w14_10, q_w14_11, q_w14_12, q_w14_13, n0, n1, n2, n3, n4, n5, n6, m1, m2, lo2, cr2, cn2, nx2, sv2', q_148z, q_fo14, x2', y2']
