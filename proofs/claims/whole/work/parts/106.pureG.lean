-- ===== the trial: a copy, and what is tried in it =====
def z_EQ (h t : z_H) : Prop := (∀ i, i < 7 → t.1 i = h.1 i) ∧ (∀ r, r < 6 → ∀ i, i < 12 → t.2.1 r i = h.2.1 r i) ∧ t.2.2.1.1 = h.2.2.1.1 ∧ (∀ i, i < 12 → t.2.2.1.2 i = h.2.2.1.2 i) ∧ t.2.2.2.1 = h.2.2.2.1 ∧ (∀ r, r < 5 → ∀ i, i < 12 → t.2.2.2.2 r i = h.2.2.2.2 r i)
def z_cp (f f2 : Nat → Int32) (i : Nat) : Nat → Int32 := fun j => if j < i then f2 j else f j
theorem z_cp.s (f f2 : Nat → Int32) (i : Nat) : upd (z_cp f f2 i) i (f2 i) = z_cp f f2 (i + 1) := funext fun j => by
  unfold z_cp
  by_cases e : j = i
  · rw [e, q_us, if_pos (by omega)]
  · rw [q_un e]
    by_cases e2 : j < i
    · rw [if_pos e2, if_pos (by omega)]
    · rw [if_neg e2, if_neg (by omega)]
theorem q_i12 : (12 : Int32) ≤ nI 12 := by decide
theorem q_copy2 (f f2 : Nat → Int32) : ∀ (m i fu : Nat), i + m = 12 → m < fu → f_X2_copyFrom_L2 f2 fu (nI i) (z_cp f f2 i) = some (z_cp f f2 12)
  | 0, i, fu + 1, hm, _ => by
    have hi : i = 12 := by omega
    rw [f_X2_copyFrom_L2, hi, if_pos q_i12]
  | m + 1, i, fu + 1, hm, hf => by
    rw [f_X2_copyFrom_L2, if_neg (q_ge12 (by omega)), if_neg (q_ge12 (by omega)), q_at (by omega) (by omega), Option.bind_some, q_wr (by omega) (by omega), Option.bind_some, q_s, z_cp.s]
    exact q_copy2 f f2 m (i + 1) fu (by omega) (by omega)
theorem q_copy (f f2 : Nat → Int32) : f_X2_copyFrom f f2 = some (z_cp f f2 12) := by
  have e : f_X2_copyFrom_L2 f2 z_FU 0 f = some (z_cp f f2 12) := q_copy2 f f2 12 0 z_FU (by omega) (by unfold z_FU; omega)
  unfold f_X2_copyFrom
  rw [e, Option.bind_some]
theorem q_copyL2 (L L2 : z_L) : ∀ (m i fu : Nat), i + m = 12 → m < fu → f_X1_copyFrom_L10 L2 fu (nI i) (z_lD (z_lC L L2.1) (z_cp L.2 L2.2 i)) = some (z_lD (z_lC L L2.1) (z_cp L.2 L2.2 12))
  | 0, i, fu + 1, hm, _ => by
    have hi : i = 12 := by omega
    rw [f_X1_copyFrom_L10, hi, if_pos q_i12]
  | m + 1, i, fu + 1, hm, hf => by
    rw [f_X1_copyFrom_L10, if_neg (q_ge12 (by omega)), if_neg (q_ge12 (by omega)), q_at (by omega) (by omega), Option.bind_some]
    have e : (z_lD (z_lC L L2.1) (z_cp L.2 L2.2 i)).2 = z_cp L.2 L2.2 i := rfl
    rw [e, q_wr (by omega) (by omega), Option.bind_some, q_s, z_cp.s]
    exact q_copyL2 L L2 m (i + 1) fu (by omega) (by omega)
theorem q_copyL (L L2 : z_L) : f_X1_copyFrom L L2 = some (L2.1, z_cp L.2 L2.2 12) := by
  have e : f_X1_copyFrom_L10 L2 z_FU 0 (z_lC L L2.1) = some (z_lD (z_lC L L2.1) (z_cp L.2 L2.2 12)) := q_copyL2 L L2 12 0 z_FU (by omega) (by unfold z_FU; omega)
  unfold f_X1_copyFrom
  rw [e, Option.bind_some]
  rfl
theorem q_copyH (t h : z_H) : ∃ t2, f_X0_copyFrom t h = some t2 ∧ z_EQ h t2 := by
  unfold f_X0_copyFrom f_X3_copyFrom
  simp only [q_copy, q_copyL, Option.bind_some]
  refine ⟨_, rfl, fun i hi => ?_, fun r hr i hi => ?_, rfl, fun i hi => ?_, rfl, fun r hr i hi => ?_⟩
  · match i, hi with
    | 0, _ => rfl
    | 1, _ => rfl
    | 2, _ => rfl
    | 3, _ => rfl
    | 4, _ => rfl
    | 5, _ => rfl
    | 6, _ => rfl
  · match r, hr with
    | 0, _ => exact (if_pos hi : (if i < 12 then h.2.1 0 i else t.2.1 0 i) = h.2.1 0 i)
    | 1, _ => exact (if_pos hi : (if i < 12 then h.2.1 1 i else t.2.1 1 i) = h.2.1 1 i)
    | 2, _ => exact (if_pos hi : (if i < 12 then h.2.1 2 i else t.2.1 2 i) = h.2.1 2 i)
    | 3, _ => exact (if_pos hi : (if i < 12 then h.2.1 3 i else t.2.1 3 i) = h.2.1 3 i)
    | 4, _ => exact (if_pos hi : (if i < 12 then h.2.1 4 i else t.2.1 4 i) = h.2.1 4 i)
    | 5, _ => exact (if_pos hi : (if i < 12 then h.2.1 5 i else t.2.1 5 i) = h.2.1 5 i)
  · exact (if_pos hi : (if i < 12 then h.2.2.1.2 i else t.2.2.1.2 i) = h.2.2.1.2 i)
  · match r, hr with
    | 0, _ => exact (if_pos hi : (if i < 12 then h.2.2.2.2 0 i else t.2.2.2.2 0 i) = h.2.2.2.2 0 i)
    | 1, _ => exact (if_pos hi : (if i < 12 then h.2.2.2.2 1 i else t.2.2.2.2 1 i) = h.2.2.2.2 1 i)
    | 2, _ => exact (if_pos hi : (if i < 12 then h.2.2.2.2 2 i else t.2.2.2.2 2 i) = h.2.2.2.2 2 i)
    | 3, _ => exact (if_pos hi : (if i < 12 then h.2.2.2.2 3 i else t.2.2.2.2 3 i) = h.2.2.2.2 3 i)
    | 4, _ => exact (if_pos hi : (if i < 12 then h.2.2.2.2 4 i else t.2.2.2.2 4 i) = h.2.2.2.2 4 i)
theorem z_St.eq {n k : Nat} {h t : z_H} (E : z_EQ h t) (a : z_St n k h) : z_St n k t := by
  obtain ⟨e1, e2, e3, e4, e5, e6⟩ := E
  obtain ⟨s1, s2, s3, s4, s5, s6, s7, s8, s9, s10, s11⟩ := a
  refine ⟨s1, s2, (e1 1 (by omega)).trans s3, e5.trans s4, fun i hi => ?_, fun i hi => ?_, fun i hi => ?_, fun i hi => ?_, fun i j hi hj => ?_, fun i hi => ?_, fun j hj => ?_⟩
  · rw [e2 0 (by omega) i (by omega)]; exact s5 i hi
  · rw [e2 1 (by omega) i (by omega)]; exact s6 i hi
  · rw [e2 2 (by omega) i (by omega)]; exact s7 i hi
  · rw [e2 3 (by omega) i (by omega)]; exact s8 i hi
  · rw [e2 3 (by omega) i (by omega), e2 3 (by omega) j (by omega)]; exact s9 i j hi hj
  · rw [e2 4 (by omega) i (by omega)]; exact s10 i hi
  · rw [e6 0 (by omega) j (by omega)]; exact s11 j hj
theorem z_Dy.eq {n k : Nat} {h t : z_H} (hn : n ≤ 12) (hk : k ≤ 6) (E : z_EQ h t) (a : z_Dy n k h) : z_Dy n k t := by
  obtain ⟨e1, e2, e3, e4, e5, e6⟩ := E
  obtain ⟨d1, d2, ⟨c, l1, l2, l3, l4⟩, d4, d5⟩ := a
  refine ⟨?_, fun i hi => ?_, ⟨c, l1, e3.trans l2, fun j hj => ?_, fun i j hi hj => ?_⟩, fun j hj => ?_, fun j h1 h2 => ?_⟩
  · rw [e1 2 (by omega)]; exact d1
  · rw [e2 5 (by omega) i (by omega)]; exact d2 i hi
  · rw [e4 j (by omega)]; exact l3 j hj
  · rw [e4 i (by omega), e4 j (by omega)]; exact l4 i j hi hj
  · rw [e6 1 (by omega) j (by omega), e6 2 (by omega) j (by omega), e6 3 (by omega) j (by omega), e6 4 (by omega) j (by omega)]; exact d4 j hj
  · rw [e6 1 (by omega) j (by omega), e6 4 (by omega) j (by omega)]; exact d5 j h1 h2
theorem z_NE.eq {k : Nat} {g : Nat → Int32} {h t : z_H} (hk : k ≤ 6) (E : z_EQ h t) (H : z_NE k g h) : z_NE k g t := by
  obtain ⟨e1, e2, e3, e4, e5, e6⟩ := E
  obtain ⟨n0, n1, n2, n3, n4, n5, n6, nw, nl, no, nd, nt, nL, nf⟩ := H
  refine ⟨n0.trans (e1 0 (by omega)).symm, n1.trans (e1 2 (by omega)).symm, n2.trans (e1 3 (by omega)).symm, n3.trans (e1 4 (by omega)).symm, n4.trans (e1 5 (by omega)).symm, n5.trans (e1 6 (by omega)).symm, n6.trans e3.symm, fun i hi => (nw i hi).trans (e2 5 (by omega) i hi).symm, fun i hi => (nl i hi).trans (e4 i hi).symm, fun j hj => (no j hj).trans (e6 1 (by omega) j (by omega)).symm, fun j hj => ?_, fun j hj => ?_, fun j hj => (nL j hj).trans (e6 4 (by omega) j (by omega)).symm, nf⟩
  · rw [e6 2 (by omega) j (by omega), e6 3 (by omega) j (by omega)]; exact nd j hj
  · rw [e6 2 (by omega) j (by omega), e6 3 (by omega) j (by omega)]; exact nt j hj
theorem z_SE.eq {M : z_M} {h t : z_H} (E : z_EQ h t) (H : z_SE M h) : z_SE M t := by
  obtain ⟨e1, e2, e3, e4, e5, e6⟩ := E
  obtain ⟨m1, m2, m3, m4, m5, m6, m7, m8⟩ := H
  exact ⟨m1.trans (e1 1 (by omega)).symm, m2.trans e5.symm, fun i hi => (m3 i hi).trans (e2 0 (by omega) i hi).symm, fun i hi => (m4 i hi).trans (e2 1 (by omega) i hi).symm, fun i hi => (m5 i hi).trans (e2 2 (by omega) i hi).symm, fun i hi => (m6 i hi).trans (e2 3 (by omega) i hi).symm, fun i hi => (m7 i hi).trans (e2 4 (by omega) i hi).symm, fun j hj => (m8 j hj).trans (e6 0 (by omega) j (by omega)).symm⟩
theorem z_NE.cg {k : Nat} {g g2 : Nat → Int32} {h : z_H} (hk : k ≤ 6) (e : ∀ q, q < 55 → g2 q = g q) (H : z_NE k g h) : z_NE k g2 h := by
  obtain ⟨n0, n1, n2, n3, n4, n5, n6, nw, nl, no, nd, nt, nL, nf⟩ := H
  exact ⟨(e 0 (by omega)).trans n0, (e 1 (by omega)).trans n1, (e 2 (by omega)).trans n2, (e 3 (by omega)).trans n3, (e 4 (by omega)).trans n4, (e 5 (by omega)).trans n5, (e 6 (by omega)).trans n6, fun i hi => (e _ (by omega)).trans (nw i hi), fun i hi => (e _ (by omega)).trans (nl i hi), fun i hi => (e _ (by omega)).trans (no i hi), fun i hi => (e _ (by omega)).trans (nd i hi), fun i hi z => (e _ (by omega)).trans (nt i hi z), fun i hi => (e _ (by omega)).trans (nL i hi), fun i h1 h2 => (e _ (by omega)).trans (nf i h1 h2)⟩
/-- a house, and the model that goes with it -/
def z_RM (n k : Nat) (h : z_H) (M : z_M) : Prop := z_St n k h ∧ z_Dy n k h ∧ z_SE M h ∧ z_NE k (M.2 6) h
/-- the model is as it was, where it is looked at -/
def z_SM (M M2 : z_M) : Prop := M2.1 = M.1 ∧ (∀ r, r < 6 → ∀ i, M2.2 r i = M.2 r i) ∧ (∀ q, q < 55 → M2.2 6 q = M.2 6 q)
theorem z_SM.rf (M : z_M) : z_SM M M := ⟨rfl, fun _ _ _ => rfl, fun _ _ => rfl⟩
theorem z_SM.tr {M M2 M3 : z_M} (a : z_SM M M2) (b : z_SM M2 M3) : z_SM M M3 := ⟨b.1.trans a.1, fun r hr i => (b.2.1 r hr i).trans (a.2.1 r hr i), fun q hq => (b.2.2 q hq).trans (a.2.2 q hq)⟩
theorem z_SE.sm {M M2 : z_M} {h : z_H} (a : z_SM M M2) (H : z_SE M h) : z_SE M2 h := by
  obtain ⟨a1, a2, a3⟩ := a
  obtain ⟨m1, m2, m3, m4, m5, m6, m7, m8⟩ := H
  exact ⟨by rw [a1]; exact m1, by rw [a1]; exact m2, fun i hi => (a2 0 (by omega) i).trans (m3 i hi), fun i hi => (a2 1 (by omega) i).trans (m4 i hi), fun i hi => (a2 2 (by omega) i).trans (m5 i hi), fun i hi => (a2 3 (by omega) i).trans (m6 i hi), fun i hi => (a2 4 (by omega) i).trans (m7 i hi), fun i hi => (a2 5 (by omega) i).trans (m8 i hi)⟩
theorem z_RM.sm {n k : Nat} {h : z_H} {M M2 : z_M} (a : z_SM M M2) (H : z_RM n k h M) : z_RM n k h M2 := ⟨H.1, H.2.1, H.2.2.1.sm a, H.2.2.2.cg H.1.2.1 a.2.2⟩
theorem z_RM.eq {n k : Nat} {h t : z_H} {M : z_M} (E : z_EQ h t) (H : z_RM n k h M) : z_RM n k t M := ⟨H.1.eq E, H.2.1.eq H.1.1 H.1.2.1 E, H.2.2.1.eq E, H.2.2.2.eq H.1.2.1 E⟩
theorem q_any {h : z_H} {n : Nat} (hn : n ≤ 12) (s3 : h.1 1 = nI n) : ∀ (m i fu : Nat), i + m = n → m < fu → ∃ x, f_X0_isAnyoneWaiting_L2 h fu (nI i) = some x ∧ ((x = 0 ∧ ∀ j, i ≤ j → j < n → h.2.1 5 j = -1) ∨ x = 1)
  | 0, i, fu + 1, hm, _ => ⟨0, by rw [f_X0_isAnyoneWaiting_L2, s3, if_pos (by rw [q_le (by omega) (by omega)]; omega)], Or.inl ⟨rfl, fun j h1 h2 => by omega⟩⟩
  | m + 1, i, fu + 1, hm, hf => by
    have hno : ¬ nI n ≤ nI i := by rw [q_le (by omega) (by omega)]; omega
    by_cases e : h.2.1 5 i = -1
    · obtain ⟨x, x1, x2⟩ := q_any hn s3 m (i + 1) fu (by omega) (by omega)
      refine ⟨x, ?_, ?_⟩
      · rw [f_X0_isAnyoneWaiting_L2, s3, if_neg hno, q_rg (by omega), if_pos e, q_s]; exact x1
      · rcases x2 with ⟨y1, y2⟩ | y
        · refine Or.inl ⟨y1, fun j h1 h2 => ?_⟩
          by_cases e2 : j = i
          · rw [e2]; exact e
          · exact y2 j (by omega) h2
        · exact Or.inr y
    · exact ⟨1, by rw [f_X0_isAnyoneWaiting_L2, s3, if_neg hno, q_rg (by omega), if_neg e], Or.inr rfl⟩
theorem s_trial {n k v : Nat} {M : z_M} {B1 : z_H} (hv : v ≤ 60) : ∀ (m i fu fv : Nat) (T : z_H) (g : Nat → Int32) (acc : Int32), i + m = v → m < fu → m < fv → z_St n k T → z_SE M T → z_Dy n k T → z_NE k g T → ∃ (T2 : z_H) (g2 : Nat → Int32), f_X4_serveInTrial_L4 fu (nI v) acc (nI i) (B1, T) = some (acc + (g2 2 - g 2), (B1, T2)) ∧ f_X5_minutesOn_L2 fv (nI v) (nI i) (z_mR M 6 g) = some (z_mR M 6 g2)
  | 0, i, fu + 1, fv + 1, T, g, acc, hm, _, _, hSt, hSE, hDy, hNE => by
    have hle : nI v ≤ nI i := by rw [q_le (by omega) (by omega)]; omega
    refine ⟨T, g, ?_, ?_⟩
    · rw [f_X4_serveInTrial_L4, if_pos hle, q_tel0]
    · rw [f_X5_minutesOn_L2, if_pos hle]
  | m + 1, i, fu + 1, fv + 1, T, g, acc, hm, h1, h2, hSt, hSE, hDy, hNE => by
    have hle : ¬ (nI v ≤ nI i) := by rw [q_le (by omega) (by omega)]; omega
    have s1 := hSt.1
    obtain ⟨x, x1, x2⟩ := q_any s1 hSt.2.2.1 n 0 z_FU (by omega) (by unfold z_FU; omega)
    have x1' : f_X0_isAnyoneWaiting T = some x := x1
    rcases x2 with ⟨y1, y2⟩ | y
    · obtain ⟨T2, g2, a1, a2, a3, a4, a5, a6⟩ := s_pass (T := T) hv (m + 1) i z_FU (fv + 1) T g 0 (by omega) (by unfold z_FU; omega) (by omega) hSt hSE hDy hNE
      refine ⟨T, g2, ?_, a2⟩
      have e : g2 2 = g 2 := by rw [a3.2.2.1, hNE.2.2.1]; exact a6.2.2 (fun j hj => y2 j (by omega) hj)
      rw [f_X4_serveInTrial_L4, if_neg hle, e, q_tel0]
      show (f_X0_isAnyoneWaiting T).bind _ = _
      rw [x1', Option.bind_some, if_pos y1]
    · obtain ⟨h3, g3, b1, b2, b3, b4, b5, b6⟩ := s_minute hSt hSE hDy hNE
      obtain ⟨T2, g2, a1, a2⟩ := s_trial (B1 := B1) hv m (i + 1) fu fv h3 g3 (acc + (h3.1 3 - T.1 3)) (by omega) (by omega) (by omega) (hSt.mv b5) (hSE.mv b5) b4 b3
      have e : h3.1 3 - T.1 3 = g3 2 - g 2 := by rw [b3.2.2.1, hNE.2.2.1]
      refine ⟨T2, g2, ?_, ?_⟩
      · rw [f_X4_serveInTrial_L4, if_neg hle]
        show (f_X0_isAnyoneWaiting T).bind _ = _
        rw [x1', Option.bind_some, if_neg (by rw [y]; decide)]
        show (f_X0_letMinuteGoBy T).bind _ = _
        rw [b1, Option.bind_some, q_s, ← q_tel acc (g 2) (g3 2) (g2 2), ← e]
        exact a1
      · rw [f_X5_minutesOn_L2, if_neg hle, b2, Option.bind_some, q_s]; exact a2
theorem q_keep (M : z_M) (g2 : Nat → Int32) : z_SM M (z_mR (z_mR (z_mR M 7 (va_cpy (M.2 6) (M.2 7) 0 0 55)) 6 g2) 6 (va_cpy (va_cpy (M.2 6) (M.2 7) 0 0 55) g2 0 0 55)) := by
  refine ⟨rfl, fun r hr i => ?_, fun q hq => ?_⟩
  · have e6 : r ≠ 6 := by omega
    have e7 : r ≠ 7 := by omega
    show (if r = 6 then _ else (if r = 6 then _ else (if r = 7 then _ else M.2 r))) i = M.2 r i
    rw [if_neg e6, if_neg e6, if_neg e7]
  · show va_cpy (va_cpy (M.2 6) (M.2 7) 0 0 55) g2 0 0 55 q = M.2 6 q
    rw [sb_cpy0 hq, sb_cpy0 hq]
theorem s_soon {n k v : Nat} {M : z_M} {B1 T : z_H} (hv : v ≤ 60) (H : z_RM n k T M) : ∃ (x : Int32) (T2 : z_H) (M2 : z_M), f_X4_serveInTrial (B1, T) (nI v) = some (x, (B1, T2)) ∧ f_X5_soon M (nI v) = some (x, M2) ∧ z_SM M M2 := by
  obtain ⟨hSt, hDy, hSE, hNE⟩ := H
  obtain ⟨T2, g2, a1, a2⟩ := s_trial (M := z_mR M 7 (va_cpy (M.2 6) (M.2 7) 0 0 55)) (B1 := B1) hv v 0 z_FU z_FU T (M.2 6) 0 (by omega) (by unfold z_FU; omega) (by unfold z_FU; omega) hSt hSE hDy hNE
  have a1' : f_X4_serveInTrial_L4 z_FU (nI v) 0 0 (B1, T) = some (0 + (g2 2 - M.2 6 2), (B1, T2)) := a1
  have a2' : f_X5_minutesOn_L2 z_FU (nI v) 0 (z_mR M 7 (va_cpy (M.2 6) (M.2 7) 0 0 55)) = some (z_mR (z_mR M 7 (va_cpy (M.2 6) (M.2 7) 0 0 55)) 6 g2) := by
    have e := q_mi (z_mR M 7 (va_cpy (M.2 6) (M.2 7) 0 0 55))
    have a3 : f_X5_minutesOn_L2 z_FU (nI v) 0 (z_mR (z_mR M 7 (va_cpy (M.2 6) (M.2 7) 0 0 55)) 6 ((z_mR M 7 (va_cpy (M.2 6) (M.2 7) 0 0 55)).2 6)) = _ := a2
    rw [e] at a3
    exact a3
  have hk := q_keep M g2
  refine ⟨g2 2 - M.2 6 2, T2, _, ?_, ?_, hk⟩
  · unfold f_X4_serveInTrial
    rw [a1', Option.bind_some, Int32.zero_add]
  · unfold f_X5_soon f_X5_keep f_X5_minutesOn f_X5_bringBack
    rw [Option.bind_some, a2', Option.bind_some, Option.bind_some, q_m6, q_at2, Option.bind_some, Option.bind_some, q_m6, q_at2, Option.bind_some]
    have e := hk.2.2 2 (by omega)
    rw [q_m6] at e
    show some (g2 2 - va_cpy (va_cpy (M.2 6) (M.2 7) 0 0 55) g2 0 0 55 2, _) = _
    rw [e]
    rfl
