-- ===== what changes the house, beside the model's =====
theorem q_app5 (h : z_H) (f : Nat → Int32) (v : Int32) : f_X0_pullBell (z_hR h 5 f) v = (f_X0_pullBell h v).bind (fun p => some (p.1, z_hR p.2 5 f)) := by
  unfold f_X0_pullBell
  show (if z_rg (h.2.1 4) v = 1 then some (0, z_hS (z_hR h 5 f) 6 (h.1 6 + 1)) else if f_X0_costFrom (z_rg (h.2.1 0) v) ≤ h.1 2 then (f_X1_placeOf h.2.2.1 (z_rg (h.2.1 3) v)).bind (fun x68 => if x68 = -1 then (f_X1_append h.2.2.1 (z_rg (h.2.1 3) v)).bind (fun x80 => some (1, z_hL (z_hS (z_hR h 5 f) 2 (h.1 2 - f_X0_costFrom (z_rg (h.2.1 0) v))) x80)) else some (1, z_hS (z_hR h 5 f) 2 (h.1 2 - f_X0_costFrom (z_rg (h.2.1 0) v)))) else some (0, z_hS (z_hR h 5 f) 6 (h.1 6 + 1))) = _
  by_cases e1 : z_rg (h.2.1 4) v = 1
  · rw [if_pos e1, if_pos e1]; rfl
  · rw [if_neg e1, if_neg e1]
    by_cases e2 : f_X0_costFrom (z_rg (h.2.1 0) v) ≤ h.1 2
    · rw [if_pos e2, if_pos e2]
      cases f_X1_placeOf h.2.2.1 (z_rg (h.2.1 3) v) with
      | none => rfl
      | some x =>
        rw [Option.bind_some, Option.bind_some]
        by_cases e3 : x = -1
        · rw [if_pos e3, if_pos e3]
          cases f_X1_append h.2.2.1 (z_rg (h.2.1 3) v) with
          | none => rfl
          | some y => rfl
        · rw [if_neg e3, if_neg e3]; rfl
    · rw [if_neg e2, if_neg e2]; rfl
theorem q_bor {b : Int32} (h : b = 0 ∨ b = 1) : z_bo b = some b := by
  unfold z_bo
  rw [if_pos h]
theorem p_ring : sm_ring z_Rl := by
  intro B M v1 hR
  obtain ⟨h, T⟩ := B
  obtain ⟨n, k, H, F⟩ := hR
  have H : z_RM n k h M := H
  have F : z_fr n h := F
  have s1 := H.1.1
  have s2 := H.1.2.1
  rcases q_room (B := (h, T)) H v1 with ⟨r, hr, hv, c1, c2, c3⟩ | ⟨c1, c2, c3⟩
  · subst hv
    have gw : M.2 6 (7 + r) = h.2.1 5 r := H.2.2.2.2.2.2.2.2.2.2.1 r (by omega)
    obtain ⟨b, h2, g2, x1, x2, x3, x4, x5, x6, x7, x8, x9⟩ := s_rings (M := z_mS M 0 0) (g := M.2 6) H.1 H.2.2.1 H.2.1 H.2.2.2 hr
    have x2' : f_X5_rings (z_mS M 0 0) (nI r) = some (b, z_mR (z_mS M 0 0) 6 g2) := by
      have e := q_mi (z_mS M 0 0)
      rw [q_mS2] at e
      rw [e] at x2
      exact x2
    by_cases hw : h.2.1 5 r = -1
    · have hN1 : z_NE k (upd (M.2 6) (7 + r) 0) (z_hR h 5 (upd (h.2.1 5) r 0)) := H.2.2.2.wt (by omega) s2
      have hD1 : z_Dy n k (z_hR h 5 (upd (h.2.1 5) r 0)) := H.2.1.wt (Or.inr ⟨0, by omega, rfl⟩)
      have hT1 : z_ST h (z_hR h 5 (upd (h.2.1 5) r 0)) := z_ST.wt _
      obtain ⟨b', h3, g3, y1, y2, y3, y4, y5, y6, y7, y8, y9⟩ := s_rings (M := z_mS M 0 0) (H.1.mv hT1) (H.2.2.1.mv hT1) hD1 hN1 hr
      rw [q_app5, x1, Option.bind_some] at y1
      have y1 := Option.some.inj y1
      have eb : b = b' := congrArg Prod.fst y1
      have eh : z_hR h2 5 (upd (h.2.1 5) r 0) = h3 := congrArg Prod.snd y1
      refine Or.inl ⟨(b, (z_hR h2 5 (upd (h.2.1 5) r 0), T)), (b', z_mR (z_mS M 0 0) 6 g3), ?_, ?_, rfl, eb, ⟨n, k, ?_, ?_⟩⟩
      · unfold f_X4_ring f_X0_isWaiting
        rw [c1, Option.bind_some]
        show (f_X0_pullBell h (nI r)).bind _ = _
        rw [x1, Option.bind_some]
        show (if (if z_rg (h2.2.1 5) (nI r) = -1 then (0 : Int32) else 1) = 0 then (z_bo b).bind (fun x38 => some (x38, (z_hR h2 5 (z_rs (h2.2.1 5) (nI r) 0), T))) else _) = _
        rw [x7, q_rg (by omega), if_pos hw, if_pos rfl, q_bor x3, Option.bind_some, q_rs (by omega)]
      · unfold f_X5_ring
        simp (disch := omega) only [c3, Option.bind_some, q_kn1, q_10, if_false, q_mS2, q_a7, gw, hw, if_true, q_w7, y2, q_bor y3]
      · show z_RM n k (z_hR h2 5 (upd (h.2.1 5) r 0)) (z_mR (z_mS M 0 0) 6 g3)
        rw [eh]
        exact ⟨(H.1.mv hT1).mv y6, y5, (H.2.2.1.mv hT1).mv y6, y4⟩
      · show z_fr n (z_hR h2 5 (upd (h.2.1 5) r 0))
        rw [eh]
        exact (F.mv hT1).mv y6
    · refine Or.inl ⟨(b, (h2, T)), (b, z_mR (z_mS M 0 0) 6 g2), ?_, ?_, rfl, rfl, ⟨n, k, ⟨H.1.mv x6, x5, H.2.2.1.mv x6, x4⟩, F.mv x6⟩⟩
      · unfold f_X4_ring f_X0_isWaiting
        rw [c1, Option.bind_some]
        show (f_X0_pullBell h (nI r)).bind _ = _
        rw [x1, Option.bind_some]
        show (if (if z_rg (h2.2.1 5) (nI r) = -1 then (0 : Int32) else 1) = 0 then _ else (z_bo b).bind (fun x38 => some (x38, (h2, T)))) = _
        rw [x7, q_rg (by omega), if_neg hw, if_neg (by decide), q_bor x3, Option.bind_some]
      · unfold f_X5_ring
        simp (disch := omega) only [c3, Option.bind_some, q_kn1, q_10, if_false, q_mS2, q_a7, gw, hw, x2', q_bor x3]
  · refine Or.inr ⟨(0, z_mS M 0 1), ?_, ?_, rfl, ⟨n, k, H, F⟩⟩
    · unfold x_X4_ring
      rw [c2]
      rfl
    · unfold f_X5_ring
      simp only [c3, Option.bind_some, q_kn0, q_00, if_true]
theorem p_cross : sm_cross z_Rl := by
  intro B M v1 v2 hR
  obtain ⟨h, T⟩ := B
  obtain ⟨n, k, H, F⟩ := hR
  have H : z_RM n k h M := H
  have s1 := H.1.1
  rcases q_room (B := (h, T)) H v1 with ⟨a, ha, hv, c1, c2, c3⟩ | ⟨c1, c2, c3⟩
  · subst hv
    rcases q_room (B := (h, T)) H v2 with ⟨b, hb, hv, d1, d2, d3⟩ | ⟨d1, d2, d3⟩
    · subst hv
      by_cases e : nI a = nI b
      · refine Or.inr (Or.inr ⟨(0, z_mS (z_mS M 0 0) 0 2), ?_, ?_, rfl, ⟨n, k, H, F⟩⟩)
        · unfold x_X4_cross
          rw [c2, c1, Option.bind_some, d2, d1, Option.bind_some, if_pos e]
          rfl
        · unfold f_X5_cross f_X5_no
          simp only [c3, d3, Option.bind_some, q_kn1, q_10, if_false, if_pos e]
      · have hsw := (H.mS 0).sw ha hb
        have e3 : z_sw (M.2 3) a b a = z_sw (h.2.1 3) a b a := hsw.2.2.1.2.2.2.2.2.1 a (by omega)
        refine Or.inl ⟨(z_sw (h.2.1 3) a b a, (z_hR h 3 (z_sw (h.2.1 3) a b), T)), (z_sw (M.2 3) a b a, z_mR (z_mS M 0 0) 3 (z_sw (M.2 3) a b)), ?_, ?_, rfl, e3.symm, ⟨n, k, hsw, F⟩⟩
        · unfold f_X4_cross
          rw [c1, Option.bind_some, d1, Option.bind_some, if_neg e]
          show some (z_rg ((f_X0_swapWires h (nI a) (nI b)).2.1 3) (nI a), (f_X0_swapWires h (nI a) (nI b), T)) = _
          rw [q_swapC (by omega) (by omega), q_rg (by omega)]
          rfl
        · have em : f_X5_swap (z_mS M 0 0) (nI a) (nI b) = some (z_mR (z_mS M 0 0) 3 (z_sw (M.2 3) a b)) := q_swapM (by omega) (by omega)
          have e4 : (z_mR (z_mS M 0 0) 3 (z_sw (M.2 3) a b)).2 3 = z_sw (M.2 3) a b := rfl
          unfold f_X5_cross
          simp (disch := omega) only [c3, d3, Option.bind_some, q_kn1, q_10, if_false, if_neg e, em, e4, q_at]
    · refine Or.inr (Or.inl ⟨(0, z_mS M 0 1), ?_, ?_, rfl, ⟨n, k, H, F⟩⟩)
      · unfold x_X4_cross
        rw [c2, c1, Option.bind_some, d2]
        rfl
      · unfold f_X5_cross
        simp only [c3, d3, Option.bind_some, q_kn0, q_00, q_10, if_true, if_false]
  · refine Or.inr (Or.inl ⟨(0, z_mS M 0 1), ?_, ?_, rfl, ⟨n, k, H, F⟩⟩)
    · unfold x_X4_cross
      rw [c2]
      rfl
    · unfold f_X5_cross
      simp only [c3, Option.bind_some, q_kn0, q_00, if_true]
theorem z_RM.ct {n k r : Nat} {h : z_H} {M : z_M} {v : Int32} (H : z_RM n k h M) (hr : r < n) (hv : v = 0 ∨ v = 1) : z_RM n k (z_hR h 4 (upd (h.2.1 4) r v)) (z_mR M 4 (upd (M.2 4) r v)) := by
  obtain ⟨⟨s1, s2, s3, s4, s5, s6, s7, s8, s9, s10, s11⟩, hDy, ⟨m1, m2, m3, m4, m5, m6, m7, m8⟩, hNE⟩ := H
  refine ⟨⟨s1, s2, s3, s4, s5, s6, s7, s8, s9, fun i hi => ?_, s11⟩, hDy, ⟨m1, m2, m3, m4, m5, m6, fun i hi => ?_, m8⟩, hNE⟩
  · show upd (h.2.1 4) r v i = 0 ∨ upd (h.2.1 4) r v i = 1
    by_cases e : i = r
    · rw [e, q_us]; exact hv
    · rw [q_un e]; exact s10 i hi
  · show upd (M.2 4) r v i = upd (h.2.1 4) r v i
    by_cases e : i = r
    · rw [e, q_us, q_us]
    · rw [q_un e, q_un e]; exact m7 i hi
theorem z_fr.ct {n r : Nat} {h : z_H} {v : Int32} (F : z_fr n h) (hr : r < n) : z_fr n (z_hR h 4 (upd (h.2.1 4) r v)) := fun i a b => by
  show upd (h.2.1 4) r v i = 0
  rw [q_un (by omega)]
  exact F i a b
theorem q_nar1 : vp_nar .boolean 1 = 1 := by decide
theorem q_nar0 : vp_nar .boolean 0 = 0 := by decide
theorem p_cut : sm_cut z_Rl := by
  intro B M v1 hR
  obtain ⟨h, T⟩ := B
  obtain ⟨n, k, H, F⟩ := hR
  have H : z_RM n k h M := H
  have F : z_fr n h := F
  have s1 := H.1.1
  rcases q_room (B := (h, T)) H v1 with ⟨r, hr, hv, c1, c2, c3⟩ | ⟨c1, c2, c3⟩
  · subst hv
    have e : M.2 4 r = h.2.1 4 r := H.2.2.1.2.2.2.2.2.2.1 r (by omega)
    rcases H.1.2.2.2.2.2.2.2.2.2.1 r hr with e4 | e4
    · have h2 := (H.mS 0).ct hr (Or.inr rfl : (1 : Int32) = 0 ∨ (1 : Int32) = 1)
      obtain ⟨x, x1, x2⟩ := s_cuts h2.1 h2.2.2.1
      have x2' : f_X5_manyCut (z_mR (z_mS M 0 0) 4 (upd (M.2 4) r 1)) = some x := x2
      refine Or.inl ⟨(x, (z_hR h 4 (upd (h.2.1 4) r 1), T)), (x, z_mR (z_mS M 0 0) 4 (upd (M.2 4) r 1)), ?_, ?_, rfl, rfl, ⟨n, k, h2, F.ct hr⟩⟩
      · unfold f_X4_cut f_X0_isWireCut
        rw [c1, Option.bind_some]
        show (if (if z_rg (h.2.1 4) (nI r) = 1 then (1 : Int32) else 0) = 0 then (f_X0_countCutWires (z_hR h 4 (z_rs (h.2.1 4) (nI r) 1))).bind (fun x42 => some (x42, (z_hR h 4 (z_rs (h.2.1 4) (nI r) 1), T))) else none) = _
        rw [q_rg (by omega), e4, if_pos (show (if (0 : Int32) = 1 then (1 : Int32) else 0) = 0 by decide), q_rs (by omega), x1, Option.bind_some]
      · unfold f_X5_cut f_X5_turn
        simp (disch := omega) only [c3, Option.bind_some, q_kn1, q_10, if_false, q_mS2, q_at, e, e4, q_01, q_nar1, q_wr, x2']
    · refine Or.inr (Or.inr ⟨(0, z_mS (z_mS M 0 0) 0 2), ?_, ?_, rfl, ⟨n, k, H, F⟩⟩)
      · unfold x_X4_cut f_X0_isWireCut
        rw [c2, c1, Option.bind_some]
        show z_or none (if (if z_rg (h.2.1 4) (nI r) = 1 then (1 : Int32) else 0) = 0 then none else some 1) = _
        rw [q_rg (by omega), e4]
        rfl
      · unfold f_X5_cut f_X5_turn f_X5_no
        simp (disch := omega) only [c3, Option.bind_some, q_kn1, q_10, if_false, q_mS2, q_at, e, e4, if_true]
  · refine Or.inr (Or.inl ⟨(0, z_mS M 0 1), ?_, ?_, rfl, ⟨n, k, H, F⟩⟩)
    · unfold x_X4_cut
      rw [c2]
      rfl
    · unfold f_X5_cut f_X5_turn
      simp only [c3, Option.bind_some, q_kn0, q_00, if_true]
theorem p_mend : sm_mend z_Rl := by
  intro B M v1 hR
  obtain ⟨h, T⟩ := B
  obtain ⟨n, k, H, F⟩ := hR
  have H : z_RM n k h M := H
  have F : z_fr n h := F
  have s1 := H.1.1
  rcases q_room (B := (h, T)) H v1 with ⟨r, hr, hv, c1, c2, c3⟩ | ⟨c1, c2, c3⟩
  · subst hv
    have e : M.2 4 r = h.2.1 4 r := H.2.2.1.2.2.2.2.2.2.1 r (by omega)
    rcases H.1.2.2.2.2.2.2.2.2.2.1 r hr with e4 | e4
    · refine Or.inr (Or.inr ⟨(0, z_mS (z_mS M 0 0) 0 2), ?_, ?_, rfl, ⟨n, k, H, F⟩⟩)
      · unfold x_X4_mend f_X0_isWireCut
        rw [c2, c1, Option.bind_some]
        show z_or none (if (if z_rg (h.2.1 4) (nI r) = 1 then (1 : Int32) else 0) = 0 then some 1 else none) = _
        rw [q_rg (by omega), e4]
        rfl
      · unfold f_X5_mend f_X5_turn f_X5_no
        simp (disch := omega) only [c3, Option.bind_some, q_kn1, q_10, if_false, q_mS2, q_at, e, e4, if_true]
    · have h2 := (H.mS 0).ct hr (Or.inl rfl : (0 : Int32) = 0 ∨ (0 : Int32) = 1)
      obtain ⟨x, x1, x2⟩ := s_cuts h2.1 h2.2.2.1
      have x2' : f_X5_manyCut (z_mR (z_mS M 0 0) 4 (upd (M.2 4) r 0)) = some x := x2
      refine Or.inl ⟨(x, (z_hR h 4 (upd (h.2.1 4) r 0), T)), (x, z_mR (z_mS M 0 0) 4 (upd (M.2 4) r 0)), ?_, ?_, rfl, rfl, ⟨n, k, h2, F.ct hr⟩⟩
      · unfold f_X4_mend f_X0_isWireCut
        rw [c1, Option.bind_some]
        show (if (if z_rg (h.2.1 4) (nI r) = 1 then (1 : Int32) else 0) = 0 then none else (f_X0_countCutWires (z_hR h 4 (z_rs (h.2.1 4) (nI r) 0))).bind (fun x42 => some (x42, (z_hR h 4 (z_rs (h.2.1 4) (nI r) 0), T)))) = _
        rw [q_rg (by omega), e4, if_neg (show ¬ (if (1 : Int32) = 1 then (1 : Int32) else 0) = 0 by decide), q_rs (by omega), x1, Option.bind_some]
      · unfold f_X5_mend f_X5_turn
        simp (disch := omega) only [c3, Option.bind_some, q_kn1, q_10, if_false, q_mS2, q_at, e, e4, q_nar0, q_wr, x2']
  · refine Or.inr (Or.inl ⟨(0, z_mS M 0 1), ?_, ?_, rfl, ⟨n, k, H, F⟩⟩)
    · unfold x_X4_mend
      rw [c2]
      rfl
    · unfold f_X5_mend f_X5_turn
      simp only [c3, Option.bind_some, q_kn0, q_00, if_true]
theorem p_recharge : sm_recharge z_Rl := by
  intro B M v1 hR
  obtain ⟨h, T⟩ := B
  obtain ⟨n, k, H, F⟩ := hR
  have H : z_RM n k h M := H
  have F : z_fr n h := F
  by_cases e : f_X5_isIn v1 0 500 = 0
  · refine Or.inr ⟨(0, z_mS (z_mS M 0 0) 0 1), ?_, ?_, rfl, ⟨n, k, H, F⟩⟩
    · unfold x_X4_recharge
      rw [q_isw, if_pos e]
    · unfold f_X5_recharge
      rw [if_pos e]
      rfl
  · obtain ⟨v, l1, l2, hv⟩ := q_range (lo := 0) (hi := 500) (by omega) (by omega) e
    refine Or.inl ⟨(h.1 2, (z_hS h 2 v1, T)), (M.2 6 1, z_mR (z_mS M 0 0) 6 (upd (M.2 6) 1 v1)), ?_, ?_, rfl, H.2.2.2.2.1.symm, ⟨n, k, ⟨H.1.mv (z_ST.sc 2 (by decide) _), ?_, H.2.2.1, H.2.2.2.st.2.1⟩, F⟩⟩
    · unfold f_X4_recharge
      rw [q_isw, if_neg e]
    · unfold f_X5_recharge
      rw [if_neg e, q_at1, Option.bind_some, q_wr1, Option.bind_some]
    · obtain ⟨d1, d2⟩ := H.2.1
      exact ⟨⟨v, l2, hv⟩, d2⟩
theorem p_putUp : sm_putUp z_Rl := by
  intro B M v1 hR
  obtain ⟨h, T⟩ := B
  obtain ⟨n, k, H, F⟩ := hR
  have H : z_RM n k h M := H
  have F : z_fr n h := F
  have s1 := H.1.1
  have s2 := H.1.2.1
  rcases q_room (B := (h, T)) H v1 with ⟨r, hr, hv, c1, c2, c3⟩ | ⟨c1, c2, c3⟩
  · subst hv
    obtain ⟨x, x1, x2, x3⟩ := c_place (T := T) (H.mS 0) (nI r)
    rcases x3 with ⟨y, -⟩ | ⟨c, p, y1, y2, y3, y4, y5⟩
    · refine Or.inr (Or.inr ⟨(0, z_mS (z_mS M 0 0) 0 2), ?_, ?_, rfl, ⟨n, k, H, F⟩⟩)
      · unfold x_X4_putUp
        rw [c2, c1, Option.bind_some]
        show z_or none ((f_X1_placeOf h.2.2.1 (nI r)).bind _) = _
        rw [x1, Option.bind_some, if_pos y]
        rfl
      · unfold f_X5_putUp f_X5_no
        simp only [c3, Option.bind_some, q_kn1, q_10, if_false, x2, if_pos y]
    · obtain ⟨d1, d2, ⟨c', l1, l2, l3, l4⟩, d4, d5⟩ := H.2.1
      have ecc : nI c = nI c' := y1.symm.trans l2
      rw [q_eq (by omega) (by omega)] at ecc
      have ecc : c' = c := ecc.symm
      rw [ecc] at l1 l2 l3 l4
      have yn : ¬ x = -1 := by rw [y5]; exact q_m1 (by omega)
      have g6 : M.2 6 6 = nI c := H.2.2.2.2.2.2.2.2.2.1.trans l2
      have hrm : f_X1_remove h.2.2.1 (nI r) = some (nI (c - 1), z_sh h.2.2.1.2 p (c - 1)) := q_remove (by omega) l2 y3 y4 (fun j hj hjp e => hjp (l4 j p hj y3 (e.trans y4.symm)))
      have ht : f_X5_takeOut (z_mS M 0 0) x = some (z_mR (z_mS M 0 0) 6 (z_so (upd (M.2 6) 6 (nI (c - 1))) p (c - 1))) := by
        have e := q_takeOut (M := z_mS M 0 0) (g := M.2 6) (by omega) y3 g6
        have e2 := q_mi (z_mS M 0 0)
        rw [q_mS2] at e2
        rw [e2] at e
        rw [y5]
        exact e
      have e6 : z_so (upd (M.2 6) 6 (nI (c - 1))) p (c - 1) 6 = nI (c - 1) := by
        unfold z_so
        rw [if_neg (by omega), q_us]
      refine Or.inl ⟨(nI (c - 1), (z_hL h (nI (c - 1), z_sh h.2.2.1.2 p (c - 1)), T)), (nI (c - 1), z_mR (z_mS M 0 0) 6 (z_so (upd (M.2 6) 6 (nI (c - 1))) p (c - 1))), ?_, ?_, rfl, rfl, ⟨n, k, ⟨H.1, ⟨d1, d2, z_Li.rm l1 l3 l4, d4, d5⟩, H.2.2.1, H.2.2.2.rm s2 (by omega)⟩, F⟩⟩
      · unfold f_X4_putUp
        rw [c1, Option.bind_some]
        show (f_X1_placeOf h.2.2.1 (nI r)).bind _ = _
        rw [x1, Option.bind_some, if_neg yn]
        show (f_X1_remove h.2.2.1 (nI r)).bind _ = _
        rw [hrm]
        rfl
      · unfold f_X5_putUp
        simp only [c3, Option.bind_some, q_kn1, q_10, if_false, x2, if_neg yn, ht, q_m6, q_at6, e6]
  · refine Or.inr (Or.inl ⟨(0, z_mS M 0 1), ?_, ?_, rfl, ⟨n, k, H, F⟩⟩)
    · unfold x_X4_putUp
      rw [c2]
      rfl
    · unfold f_X5_putUp
      simp only [c3, Option.bind_some, q_kn0, q_00, if_true]
theorem p_pass : sm_pass z_Rl := by
  intro B M v1 hR
  obtain ⟨h, T⟩ := B
  obtain ⟨n, k, H, F⟩ := hR
  have H : z_RM n k h M := H
  have F : z_fr n h := F
  by_cases e : f_X5_isIn v1 1 60 = 0
  · refine Or.inr ⟨(0, z_mS (z_mS M 0 0) 0 1), ?_, ?_, rfl, ⟨n, k, H, F⟩⟩
    · unfold x_X4_pass x_X4_requireMinutes
      rw [q_isw, if_pos e]
      rfl
    · unfold f_X5_pass
      rw [if_pos e]
      rfl
  · obtain ⟨v, l1, l2, hv⟩ := q_range (lo := 1) (hi := 60) (by omega) (by omega) e
    subst hv
    obtain ⟨h2, g2, a1, a2, a3, a4, a5, a6⟩ := s_pass (M := z_mS M 0 0) (T := T) l2 v 0 z_FU z_FU h (M.2 6) 0 (by omega) (by unfold z_FU; omega) (by unfold z_FU; omega) H.1 H.2.2.1 H.2.1 H.2.2.2
    have a1' : f_X4_pass_L8 z_FU (nI v) 0 0 (h, T) = some (0 + (h2.1 3 - h.1 3), (h2, T)) := a1
    have a2' : f_X5_minutesOn_L2 z_FU (nI v) 0 (z_mS M 0 0) = some (z_mR (z_mS M 0 0) 6 g2) := by
      have e2 := q_mi (z_mS M 0 0)
      rw [q_mS2] at e2
      rw [e2] at a2
      exact a2
    have ev : h2.1 3 - h.1 3 = g2 2 - M.2 6 2 := by rw [a3.2.2.1, H.2.2.2.2.2.1]
    refine Or.inl ⟨(h2.1 3 - h.1 3, (h2, T)), (g2 2 - M.2 6 2, z_mR (z_mS M 0 0) 6 g2), ?_, ?_, rfl, ev, ⟨n, k, ⟨H.1.mv a5, a4, H.2.2.1.mv a5, a3⟩, F.mv a5⟩⟩
    · unfold f_X4_pass f_X4_requireMinutes
      rw [q_isw, if_neg e, Option.bind_some, a1', Option.bind_some, Int32.zero_add]
    · unfold f_X5_pass f_X5_minutesOn
      rw [if_neg e, q_at2, Option.bind_some, a2', Option.bind_some, Option.bind_some, q_m6, q_at2, Option.bind_some]
theorem q_pm (a : Int32) : a + 1 - 1 = a := by grind
theorem p_addRoom : sm_addRoom z_Rl := by
  intro B M v1 v2 v3 hR
  obtain ⟨h, T⟩ := B
  obtain ⟨n, k, H, F⟩ := hR
  have H : z_RM n k h M := H
  have F : z_fr n h := F
  by_cases e1 : f_X5_isIn v1 0 5 = 0
  · refine Or.inr (Or.inl ⟨(0, z_mS (z_mS M 0 0) 0 1), ?_, ?_, rfl, ⟨n, k, H, F⟩⟩)
    · unfold x_X4_addRoom
      rw [q_isw v1 0 5, if_pos e1]
    · unfold f_X5_addRoom
      rw [if_pos e1]
      rfl
  by_cases e2 : f_X5_isIn v2 1 9 = 0
  · refine Or.inr (Or.inl ⟨(0, z_mS (z_mS M 0 0) 0 1), ?_, ?_, rfl, ⟨n, k, H, F⟩⟩)
    · unfold x_X4_addRoom
      rw [q_isw v1 0 5, if_neg e1, q_isw v2 1 9, if_pos e2]
    · unfold f_X5_addRoom
      rw [if_neg e1, if_pos e2]
      rfl
  by_cases e3 : f_X5_isIn v3 1 9 = 0
  · refine Or.inr (Or.inl ⟨(0, z_mS (z_mS M 0 0) 0 1), ?_, ?_, rfl, ⟨n, k, H, F⟩⟩)
    · unfold x_X4_addRoom
      rw [q_isw v1 0 5, if_neg e1, q_isw v2 1 9, if_neg e2, q_isw v3 1 9, if_pos e3]
    · unfold f_X5_addRoom
      rw [if_neg e1, if_neg e2, if_pos e3]
      rfl
  obtain ⟨a, a1, a2, ha⟩ := q_range (lo := 0) (hi := 5) (by omega) (by omega) e1
  obtain ⟨b, b1, b2, hb⟩ := q_range (lo := 1) (hi := 9) (by omega) (by omega) e2
  obtain ⟨c, c1, c2, hc⟩ := q_range (lo := 1) (hi := 9) (by omega) (by omega) e3
  obtain ⟨⟨s1, s2, s3, s4, s5, s6, s7, s8, s9, s10, s11⟩, ⟨d1, d2, ⟨q, l1, l2, l3, l4⟩, d4, d5⟩, ⟨m1, m2, m3, m4, m5, m6, m7, m8⟩, hNE⟩ := id H
  have mn : M.1 1 = nI n := m1.trans s3
  by_cases hn : n = 12
  · refine Or.inr (Or.inr ⟨(0, z_mS (z_mS M 0 0) 0 2), ?_, ?_, rfl, ⟨n, k, H, F⟩⟩)
    · unfold x_X4_addRoom
      rw [q_isw v1 0 5, if_neg e1, q_isw v2 1 9, if_neg e2, q_isw v3 1 9, if_neg e3]
      show (if h.1 1 < 12 then none else some 1) = _
      rw [s3, hn, if_neg (by decide)]
    · unfold f_X5_addRoom
      rw [if_neg e1, if_neg e2, if_neg e3, mn, hn, if_pos (show nI 12 = 12 from rfl)]
      rfl
  · have hn12 : n < 12 := by omega
    have g1 : z_NE k (upd (M.2 6) (7 + n) (-1)) (z_hR h 5 (upd (h.2.1 5) n (-1))) := hNE.wt hn12 s2
    refine Or.inl ⟨(nI n, (z_hR (z_hR (z_hR (z_hR (z_hR (z_hR (z_hS h 1 (nI (n + 1))) 0 (upd (h.2.1 0) n v1)) 1 (upd (h.2.1 1) n v2)) 2 (upd (h.2.1 2) n v3)) 3 (upd (h.2.1 3) n (nI n))) 4 (upd (h.2.1 4) n 0)) 5 (upd (h.2.1 5) n (-1)), T)), (nI n, z_mR (z_mR (z_mR (z_mR (z_mR (z_mS (z_mS M 0 0) 1 (nI (n + 1))) 0 (upd (M.2 0) n v1)) 1 (upd (M.2 1) n v2)) 2 (upd (M.2 2) n v3)) 3 (upd (M.2 3) n (nI n))) 6 (upd (M.2 6) (7 + n) (-1))), ?_, ?_, rfl, rfl, ⟨n + 1, k, ⟨?_, ?_, ?_, g1⟩, ?_⟩⟩
    · unfold f_X4_addRoom f_X0_openRoom
      rw [q_isw v1 0 5, if_neg e1, q_isw v2 1 9, if_neg e2, q_isw v3 1 9, if_neg e3]
      show (if h.1 1 < 12 then some (h.1 1, (z_hR (z_hR (z_hR (z_hR (z_hR (z_hR (z_hS h 1 (h.1 1 + 1)) 0 (z_rs (h.2.1 0) (h.1 1) v1)) 1 (z_rs (h.2.1 1) (h.1 1) v2)) 2 (z_rs (h.2.1 2) (h.1 1) v3)) 3 (z_rs (h.2.1 3) (h.1 1) (h.1 1))) 4 (z_rs (h.2.1 4) (h.1 1) 0)) 5 (z_rs (h.2.1 5) (h.1 1) (-1)), T)) else none) = _
      rw [s3, if_pos (by rw [show (12 : Int32) = nI 12 from rfl, q_lt (by omega) (by omega)]; exact hn12), q_rs (f := h.2.1 0) hn12, q_rs (f := h.2.1 1) hn12, q_rs (f := h.2.1 2) hn12, q_rs (f := h.2.1 3) hn12, q_rs (f := h.2.1 4) hn12, q_rs (f := h.2.1 5) hn12, q_s]
    · unfold f_X5_addRoom
      rw [if_neg e1, if_neg e2, if_neg e3, mn, if_neg (by rw [show (12 : Int32) = nI 12 from rfl, q_eq (by omega) (by omega)]; exact hn), q_wr (by omega) (by omega), Option.bind_some, q_wr (by omega) (by omega), Option.bind_some, q_wr (by omega) (by omega), Option.bind_some, q_wr (by omega) (by omega), Option.bind_some, q_w7 hn12, Option.bind_some, q_pm, q_s]
    · refine ⟨by omega, s2, rfl, s4, fun i hi => ?_, fun i hi => ?_, fun i hi => ?_, fun i hi => ?_, fun i j hi hj e => ?_, fun i hi => ?_, s11⟩
      · show ∃ z, z ≤ 5 ∧ upd (h.2.1 0) n v1 i = nI z
        by_cases x : i = n
        · rw [x, q_us]; exact ⟨a, a2, ha⟩
        · rw [q_un x]; exact s5 i (by omega)
      · show ∃ z, 1 ≤ z ∧ z ≤ 9 ∧ upd (h.2.1 1) n v2 i = nI z
        by_cases x : i = n
        · rw [x, q_us]; exact ⟨b, b1, b2, hb⟩
        · rw [q_un x]; exact s6 i (by omega)
      · show ∃ z, 1 ≤ z ∧ z ≤ 9 ∧ upd (h.2.1 2) n v3 i = nI z
        by_cases x : i = n
        · rw [x, q_us]; exact ⟨c, c1, c2, hc⟩
        · rw [q_un x]; exact s7 i (by omega)
      · show ∃ z, z < n + 1 ∧ upd (h.2.1 3) n (nI n) i = nI z
        by_cases x : i = n
        · rw [x, q_us]; exact ⟨n, by omega, rfl⟩
        · rw [q_un x]
          obtain ⟨z, z1, z2⟩ := s8 i (by omega)
          exact ⟨z, by omega, z2⟩
      · have e : upd (h.2.1 3) n (nI n) i = upd (h.2.1 3) n (nI n) j := e
        by_cases x : i = n
        · by_cases y : j = n
          · omega
          · rw [x, q_us, q_un y] at e
            obtain ⟨z, z1, z2⟩ := s8 j (by omega)
            rw [z2, q_eq (by omega) (by omega)] at e
            omega
        · by_cases y : j = n
          · rw [y, q_us, q_un x] at e
            obtain ⟨z, z1, z2⟩ := s8 i (by omega)
            rw [z2, q_eq (by omega) (by omega)] at e
            omega
          · rw [q_un x, q_un y] at e
            exact s9 i j (by omega) (by omega) e
      · show upd (h.2.1 4) n 0 i = 0 ∨ upd (h.2.1 4) n 0 i = 1
        by_cases x : i = n
        · rw [x, q_us]; exact Or.inl rfl
        · rw [q_un x]; exact s10 i (by omega)
    · refine ⟨d1, fun i hi => ?_, ⟨q, by omega, l2, fun j hj => ?_, l4⟩, fun j hj => ?_, d5⟩
      · show upd (h.2.1 5) n (-1) i = -1 ∨ ∃ z, z ≤ 29 ∧ upd (h.2.1 5) n (-1) i = nI z
        by_cases x : i = n
        · rw [x, q_us]; exact Or.inl rfl
        · rw [q_un x]; exact d2 i (by omega)
      · obtain ⟨z, z1, z2⟩ := l3 j hj
        exact ⟨z, by omega, z2⟩
      · obtain ⟨x1, x2⟩ := d4 j hj
        refine ⟨x1, ?_⟩
        rcases x2 with y | ⟨r, z, y1, y2⟩ | ⟨r, z, y1, y2⟩
        · exact Or.inl y
        · exact Or.inr (Or.inl ⟨r, z, by omega, y2⟩)
        · exact Or.inr (Or.inr ⟨r, z, by omega, y2⟩)
    · have up : ∀ (f g : Nat → Int32) (v : Int32), (∀ i, i < 12 → f i = g i) → ∀ i, i < 12 → upd f n v i = upd g n v i := fun f g v fg i hi => by
        by_cases x : i = n
        · rw [x, q_us, q_us]
        · rw [q_un x, q_un x]; exact fg i hi
      refine ⟨rfl, m2, up _ _ _ m3, up _ _ _ m4, up _ _ _ m5, up _ _ _ m6, fun i hi => ?_, m8⟩
      show M.2 4 i = upd (h.2.1 4) n 0 i
      by_cases x : i = n
      · rw [x, q_us, m7 n hn12]
        exact F n (Nat.le_refl n) hn12
      · rw [q_un x]; exact m7 i hi
    · intro i i1 i2
      show upd (h.2.1 4) n 0 i = 0
      rw [q_un (by omega)]
      exact F i (by omega) i2
theorem p_addServant : sm_addServant z_Rl := by
  intro B M v1 hR
  obtain ⟨h, T⟩ := B
  obtain ⟨n, k, H, F⟩ := hR
  have H : z_RM n k h M := H
  have F : z_fr n h := F
  by_cases e1 : f_X5_isIn v1 1 4 = 0
  · refine Or.inr (Or.inl ⟨(0, z_mS (z_mS M 0 0) 0 1), ?_, ?_, rfl, ⟨n, k, H, F⟩⟩)
    · unfold x_X4_addServant
      rw [q_isw, if_pos e1]
    · unfold f_X5_addServant
      rw [if_pos e1]
      rfl
  obtain ⟨a, a1, a2, ha⟩ := q_range (lo := 1) (hi := 4) (by omega) (by omega) e1
  obtain ⟨⟨s1, s2, s3, s4, s5, s6, s7, s8, s9, s10, s11⟩, ⟨d1, d2, d3, d4, d5⟩, ⟨m1, m2, m3, m4, m5, m6, m7, m8⟩, ⟨n0, n1, n2, n3, n4, n5, n6, nw, nl, no, nd, nt, nL, nf⟩⟩ := id H
  have mk : M.1 2 = nI k := m2.trans s4
  by_cases hk : k = 6
  · refine Or.inr (Or.inr ⟨(0, z_mS (z_mS M 0 0) 0 2), ?_, ?_, rfl, ⟨n, k, H, F⟩⟩)
    · unfold x_X4_addServant
      rw [q_isw, if_neg e1]
      show (if h.2.2.2.1 < 6 then none else some 1) = _
      rw [s4, hk, if_neg (by decide)]
    · unfold f_X5_addServant
      rw [if_neg e1, mk, hk, if_pos (show nI 6 = 6 from rfl)]
      rfl
  · have hk6 : k < 6 := by omega
    have hk12 : k < 12 := by omega
    obtain ⟨z1, z4⟩ := d5 k (Nat.le_refl k) hk12
    refine Or.inl ⟨(nI k, (z_hG h (z_rt (z_gR (z_gR (z_gC h.2.2.2 (nI (k + 1))) 0 (upd (h.2.2.2.2 0) k v1)) 1 (upd (h.2.2.2.2 1) k 0)) k), T)), (nI k, z_mR (z_mS (z_mS M 0 0) 2 (nI (k + 1))) 5 (upd (M.2 5) k v1)), ?_, ?_, rfl, rfl, ⟨n, k + 1, ⟨?_, ?_, ?_, ?_⟩, F⟩⟩
    · unfold f_X4_addServant f_X3_hire
      rw [q_isw, if_neg e1]
      show (if h.2.2.2.1 < 6 then some (h.2.2.2.1, (z_hG h (f_X3_rest (z_gR (z_gR (z_gC h.2.2.2 (h.2.2.2.1 + 1)) 0 (z_rs (h.2.2.2.2 0) h.2.2.2.1 v1)) 1 (z_rs (h.2.2.2.2 1) h.2.2.2.1 0)) h.2.2.2.1), T)) else none) = _
      rw [s4, if_pos (by rw [show (6 : Int32) = nI 6 from rfl, q_lt (by omega) (by omega)]; exact hk6), q_rs (f := h.2.2.2.2 0) hk12, q_rs (f := h.2.2.2.2 1) hk12, q_rest hk12, q_s]
    · unfold f_X5_addServant
      rw [if_neg e1, mk, if_neg (by rw [show (6 : Int32) = nI 6 from rfl, q_eq (by omega) (by omega)]; exact hk), q_wr (by omega) (by omega), Option.bind_some, q_pm, q_s]
    · refine ⟨s1, by omega, s3, rfl, s5, s6, s7, s8, s9, s10, fun j hj => ?_⟩
      show ∃ z, 1 ≤ z ∧ z ≤ 4 ∧ upd (h.2.2.2.2 0) k v1 j = nI z
      by_cases x : j = k
      · rw [x, q_us]; exact ⟨a, a1, a2, ha⟩
      · rw [q_un x]; exact s11 j (by omega)
    · refine ⟨d1, d2, d3, fun j hj => ?_, fun j j1 j2 => ?_⟩
      · show (∃ z, z ≤ 5 ∧ upd (h.2.2.2.2 1) k 0 j = nI z) ∧ z_Se n (upd (h.2.2.2.2 2) k (-1) j) (upd (h.2.2.2.2 3) k (-1) j) (upd (h.2.2.2.2 4) k 0 j)
        by_cases x : j = k
        · rw [x, q_us, q_us, q_us, q_us]
          exact ⟨⟨0, by omega, rfl⟩, Or.inl ⟨rfl, rfl, rfl⟩⟩
        · rw [q_un x, q_un x, q_un x, q_un x]; exact d4 j (by omega)
      · show upd (h.2.2.2.2 1) k 0 j = 0 ∧ upd (h.2.2.2.2 4) k 0 j = 0
        rw [q_un (by omega), q_un (by omega)]
        exact d5 j (by omega) j2
    · refine ⟨m1, rfl, m3, m4, m5, m6, m7, fun j hj => ?_⟩
      show upd (M.2 5) k v1 j = upd (h.2.2.2.2 0) k v1 j
      by_cases x : j = k
      · rw [x, q_us, q_us]
      · rw [q_un x, q_un x]; exact m8 j hj
    · refine ⟨n0, n1, n2, n3, n4, n5, n6, nw, nl, fun j hj => ?_, fun j hj => ?_, fun j hj => ?_, fun j hj => ?_, fun j j1 j2 => nf j (by omega) j2⟩
      · show M.2 6 (31 + j) = upd (h.2.2.2.2 1) k 0 j
        by_cases x : j = k
        · rw [x, q_us, no k hk6]; exact z1
        · rw [q_un x]; exact no j hj
      · show M.2 6 (37 + j) = z_do (upd (h.2.2.2.2 2) k (-1) j) (upd (h.2.2.2.2 3) k (-1) j)
        by_cases x : j = k
        · rw [x, q_us, q_us, nf k (Nat.le_refl k) hk6]; rfl
        · rw [q_un x, q_un x]; exact nd j (by omega)
      · show ¬ z_do (upd (h.2.2.2.2 2) k (-1) j) (upd (h.2.2.2.2 3) k (-1) j) = 0 → M.2 6 (43 + j) = z_to (upd (h.2.2.2.2 2) k (-1) j) (upd (h.2.2.2.2 3) k (-1) j)
        by_cases x : j = k
        · rw [x, q_us, q_us]
          intro y
          exact absurd rfl y
        · rw [q_un x, q_un x]; exact nt j (by omega)
      · show M.2 6 (49 + j) = upd (h.2.2.2.2 4) k 0 j
        by_cases x : j = k
        · rw [x, q_us, nL k hk6]; exact z4
        · rw [q_un x]; exact nL j hj
