-- ===== the questions, each beside the model's ===== 
theorem p_minute : sm_minute z_Rl := by
  intro B M hR
  obtain ⟨n, k, H, F⟩ := hR
  exact ⟨(M.2 6 0, z_mS M 0 0), rfl, H.2.2.2.1.symm, ⟨n, k, H, F⟩⟩
theorem p_charge : sm_charge z_Rl := by
  intro B M hR
  obtain ⟨n, k, H, F⟩ := hR
  exact ⟨(M.2 6 1, z_mS M 0 0), rfl, H.2.2.2.2.1.symm, ⟨n, k, H, F⟩⟩
theorem p_served : sm_served z_Rl := by
  intro B M hR
  obtain ⟨n, k, H, F⟩ := hR
  exact ⟨(M.2 6 2, z_mS M 0 0), rfl, H.2.2.2.2.2.1.symm, ⟨n, k, H, F⟩⟩
theorem p_inVain : sm_inVain z_Rl := by
  intro B M hR
  obtain ⟨n, k, H, F⟩ := hR
  exact ⟨(M.2 6 3, z_mS M 0 0), rfl, H.2.2.2.2.2.2.1.symm, ⟨n, k, H, F⟩⟩
theorem p_gaveUp : sm_gaveUp z_Rl := by
  intro B M hR
  obtain ⟨n, k, H, F⟩ := hR
  exact ⟨(M.2 6 4, z_mS M 0 0), rfl, H.2.2.2.2.2.2.2.1.symm, ⟨n, k, H, F⟩⟩
theorem p_unheard : sm_unheard z_Rl := by
  intro B M hR
  obtain ⟨n, k, H, F⟩ := hR
  exact ⟨(M.2 6 5, z_mS M 0 0), rfl, H.2.2.2.2.2.2.2.2.1.symm, ⟨n, k, H, F⟩⟩
theorem p_fallen : sm_fallen z_Rl := by
  intro B M hR
  obtain ⟨n, k, H, F⟩ := hR
  exact ⟨(M.2 6 6, z_mS M 0 0), rfl, H.2.2.2.2.2.2.2.2.2.1.symm, ⟨n, k, H, F⟩⟩
theorem p_rooms : sm_rooms z_Rl := by
  intro B M hR
  obtain ⟨n, k, H, F⟩ := hR
  exact ⟨H.2.2.1.1.symm, ⟨n, k, H, F⟩⟩
theorem p_servants : sm_servants z_Rl := by
  intro B M hR
  obtain ⟨n, k, H, F⟩ := hR
  exact ⟨H.2.2.1.2.1.symm, ⟨n, k, H, F⟩⟩
theorem p_longestWaiting : sm_longestWaiting z_Rl := by
  intro B M hR
  obtain ⟨h, T⟩ := B
  obtain ⟨n, k, H, F⟩ := hR
  obtain ⟨x, x1, x2⟩ := s_longest (T := T) H
  refine ⟨x, (x, z_mS M 0 0), x1, ?_, rfl, ⟨n, k, H, F⟩⟩
  unfold f_X5_longestWaiting
  rw [x2, Option.bind_some]
  rfl
theorem p_crossed : sm_crossed z_Rl := by
  intro B M hR
  obtain ⟨h, T⟩ := B
  obtain ⟨n, k, H, F⟩ := hR
  obtain ⟨x, x1, x2⟩ := s_crossed (T := T) H
  refine ⟨x, (x, z_mS M 0 0), x1, ?_, rfl, ⟨n, k, H, F⟩⟩
  unfold f_X5_crossed
  rw [x2, Option.bind_some]
  rfl
theorem p_crossingsNeeded : sm_crossingsNeeded z_Rl := by
  intro B M hR
  obtain ⟨h, T⟩ := B
  obtain ⟨n, k, H, F⟩ := hR
  obtain ⟨x, x1, x2⟩ := s_crossings (T := T) H
  refine ⟨x, (x, z_mS M 0 0), x1, ?_, rfl, ⟨n, k, H, F⟩⟩
  unfold f_X5_crossingsNeeded
  rw [x2, Option.bind_some]
  rfl
theorem p_nextDrop : sm_nextDrop z_Rl := by
  intro B M hR
  obtain ⟨h, T⟩ := B
  obtain ⟨n, k, H, F⟩ := hR
  obtain ⟨x, x1, x2⟩ := c_next (T := T) H
  refine ⟨x, (x, z_mS M 0 0), x1, ?_, rfl, ⟨n, k, H, F⟩⟩
  unfold f_X5_nextDrop
  rw [x2, Option.bind_some]
  rfl
theorem p_dropOf : sm_dropOf z_Rl := by
  intro B M v1 hR
  obtain ⟨h, T⟩ := B
  obtain ⟨n, k, H, F⟩ := hR
  have H : z_RM n k h M := H
  have s1 := H.1.1
  have s2 := H.1.2.1
  rcases q_room (B := (h, T)) H v1 with ⟨r, hr, hv, c1, c2, c3⟩ | ⟨c1, c2, c3⟩
  · subst hv
    have e : M.2 3 r = h.2.1 3 r := H.2.2.1.2.2.2.2.2.1 r (by omega)
    refine Or.inl ⟨h.2.1 3 r, (h.2.1 3 r, z_mS M 0 0), ?_, ?_, rfl, rfl, ⟨n, k, H, F⟩⟩
    · unfold f_X4_dropOf
      rw [c1, Option.bind_some]
      show some (z_rg (h.2.1 3) (nI r)) = _
      rw [q_rg (by omega)]
    · unfold f_X5_dropOf
      simp (disch := omega) only [c3, Option.bind_some, q_kn1, q_10, if_false, q_mS2, q_at, e]
  · refine Or.inr ⟨(0, z_mS M 0 1), ?_, ?_, rfl, ⟨n, k, H, F⟩⟩
    · unfold x_X4_dropOf
      rw [c2]
      rfl
    · unfold f_X5_dropOf
      simp only [c3, Option.bind_some, q_kn0, q_00, if_true]
theorem p_waitedFor : sm_waitedFor z_Rl := by
  intro B M v1 hR
  obtain ⟨h, T⟩ := B
  obtain ⟨n, k, H, F⟩ := hR
  have H : z_RM n k h M := H
  have s1 := H.1.1
  have s2 := H.1.2.1
  rcases q_room (B := (h, T)) H v1 with ⟨r, hr, hv, c1, c2, c3⟩ | ⟨c1, c2, c3⟩
  · subst hv
    have e : M.2 6 (7 + r) = h.2.1 5 r := H.2.2.2.2.2.2.2.2.2.2.1 r (by omega)
    refine Or.inl ⟨h.2.1 5 r, (h.2.1 5 r, z_mS M 0 0), ?_, ?_, rfl, rfl, ⟨n, k, H, F⟩⟩
    · unfold f_X4_waitedFor
      rw [c1, Option.bind_some]
      show some (z_rg (h.2.1 5) (nI r)) = _
      rw [q_rg (by omega)]
    · unfold f_X5_waitedFor
      simp (disch := omega) only [c3, Option.bind_some, q_kn1, q_10, if_false, q_mS2, q_a7, e]
  · refine Or.inr ⟨(0, z_mS M 0 1), ?_, ?_, rfl, ⟨n, k, H, F⟩⟩
    · unfold x_X4_waitedFor
      rw [c2]
      rfl
    · unfold f_X5_waitedFor
      simp only [c3, Option.bind_some, q_kn0, q_00, if_true]
theorem p_roomOf : sm_roomOf z_Rl := by
  intro B M v1 hR
  obtain ⟨h, T⟩ := B
  obtain ⟨n, k, H, F⟩ := hR
  have H : z_RM n k h M := H
  have s1 := H.1.1
  have s2 := H.1.2.1
  rcases q_room (B := (h, T)) H v1 with ⟨r, hr, hv, c1, c2, c3⟩ | ⟨c1, c2, c3⟩
  · subst hv
    obtain ⟨x, x1, x2⟩ := c_roomOf (T := T) (M := z_mS M 0 0) H hr
    refine Or.inl ⟨x, (x, z_mS M 0 0), ?_, ?_, rfl, rfl, ⟨n, k, H, F⟩⟩
    · exact x1
    · unfold f_X5_roomOf
      simp (disch := omega) only [c3, Option.bind_some, q_kn1, q_10, if_false, q_mS2, x2]
  · refine Or.inr ⟨(0, z_mS M 0 1), ?_, ?_, rfl, ⟨n, k, H, F⟩⟩
    · unfold x_X4_roomOf
      rw [c2]
      rfl
    · unfold f_X5_roomOf
      simp only [c3, Option.bind_some, q_kn0, q_00, if_true]
theorem p_ringsLeft : sm_ringsLeft z_Rl := by
  intro B M v1 hR
  obtain ⟨h, T⟩ := B
  obtain ⟨n, k, H, F⟩ := hR
  have H : z_RM n k h M := H
  have s1 := H.1.1
  have s2 := H.1.2.1
  rcases q_room (B := (h, T)) H v1 with ⟨r, hr, hv, c1, c2, c3⟩ | ⟨c1, c2, c3⟩
  · subst hv
    obtain ⟨x, x1, x2⟩ := c_left (T := T) (M := z_mS M 0 0) H hr
    refine Or.inl ⟨x, (x, z_mS M 0 0), ?_, ?_, rfl, rfl, ⟨n, k, H, F⟩⟩
    · exact x1
    · unfold f_X5_ringsLeft
      simp (disch := omega) only [c3, Option.bind_some, q_kn1, q_10, if_false, q_mS2, x2]
  · refine Or.inr ⟨(0, z_mS M 0 1), ?_, ?_, rfl, ⟨n, k, H, F⟩⟩
    · unfold x_X4_ringsLeft
      rw [c2]
      rfl
    · unfold f_X5_ringsLeft
      simp only [c3, Option.bind_some, q_kn0, q_00, if_true]
theorem p_nearestIdle : sm_nearestIdle z_Rl := by
  intro B M v1 hR
  obtain ⟨h, T⟩ := B
  obtain ⟨n, k, H, F⟩ := hR
  have H : z_RM n k h M := H
  have s1 := H.1.1
  have s2 := H.1.2.1
  rcases q_room (B := (h, T)) H v1 with ⟨r, hr, hv, c1, c2, c3⟩ | ⟨c1, c2, c3⟩
  · subst hv
    obtain ⟨x, x1, x2⟩ := c_near (T := T) (M := z_mS M 0 0) H hr
    refine Or.inl ⟨x, (x, z_mS M 0 0), ?_, ?_, rfl, rfl, ⟨n, k, H, F⟩⟩
    · exact x1
    · unfold f_X5_nearestIdle
      simp (disch := omega) only [c3, Option.bind_some, q_kn1, q_10, if_false, q_mS2, x2]
  · refine Or.inr ⟨(0, z_mS M 0 1), ?_, ?_, rfl, ⟨n, k, H, F⟩⟩
    · unfold x_X4_nearestIdle
      rw [c2]
      rfl
    · unfold f_X5_nearestIdle
      simp only [c3, Option.bind_some, q_kn0, q_00, if_true]
theorem p_placeInLine : sm_placeInLine z_Rl := by
  intro B M v1 hR
  obtain ⟨h, T⟩ := B
  obtain ⟨n, k, H, F⟩ := hR
  have H : z_RM n k h M := H
  have s1 := H.1.1
  have s2 := H.1.2.1
  rcases q_room (B := (h, T)) H v1 with ⟨r, hr, hv, c1, c2, c3⟩ | ⟨c1, c2, c3⟩
  · subst hv
    obtain ⟨x, x1, x2, -⟩ := c_place (T := T) (M := z_mS M 0 0) H (nI r)
    refine Or.inl ⟨x, (x, z_mS M 0 0), ?_, ?_, rfl, rfl, ⟨n, k, H, F⟩⟩
    · unfold f_X4_placeInLine
      rw [c1, Option.bind_some]
      show (f_X1_placeOf h.2.2.1 (nI r)).bind _ = _
      rw [x1]
      rfl
    · unfold f_X5_placeInLine
      simp (disch := omega) only [c3, Option.bind_some, q_kn1, q_10, if_false, q_mS2, x2]
  · refine Or.inr ⟨(0, z_mS M 0 1), ?_, ?_, rfl, ⟨n, k, H, F⟩⟩
    · unfold x_X4_placeInLine
      rw [c2]
      rfl
    · unfold f_X5_placeInLine
      simp only [c3, Option.bind_some, q_kn0, q_00, if_true]
theorem p_hasFallen : sm_hasFallen z_Rl := by
  intro B M v1 hR
  obtain ⟨h, T⟩ := B
  obtain ⟨n, k, H, F⟩ := hR
  have H : z_RM n k h M := H
  have s1 := H.1.1
  have s2 := H.1.2.1
  rcases q_room (B := (h, T)) H v1 with ⟨r, hr, hv, c1, c2, c3⟩ | ⟨c1, c2, c3⟩
  · subst hv
    obtain ⟨x, x1, x2, -⟩ := c_place (T := T) (M := z_mS M 0 0) H (nI r)
    refine Or.inl ⟨(if x = -1 then 0 else 1), ((if x = -1 then 0 else 1), z_mS M 0 0), ?_, ?_, rfl, rfl, ⟨n, k, H, F⟩⟩
    · unfold f_X4_hasFallen
      rw [c1, Option.bind_some]
      show (f_X1_placeOf h.2.2.1 (nI r)).bind _ = _
      rw [x1, Option.bind_some]
      by_cases e : x = -1
      · rw [if_pos e, if_pos e]
      · rw [if_neg e, if_neg e]
    · unfold f_X5_hasFallen
      simp (disch := omega) only [c3, Option.bind_some, q_kn1, q_10, if_false, q_mS2, x2]
      by_cases e : x = -1
      · simp only [e, if_true]
      · simp only [e, if_false]
  · refine Or.inr ⟨(0, z_mS M 0 1), ?_, ?_, rfl, ⟨n, k, H, F⟩⟩
    · unfold x_X4_hasFallen
      rw [c2]
      rfl
    · unfold f_X5_hasFallen
      simp only [c3, Option.bind_some, q_kn0, q_00, if_true]
theorem p_floorOf : sm_floorOf z_Rl := by
  intro B M v1 hR
  obtain ⟨h, T⟩ := B
  obtain ⟨n, k, H, F⟩ := hR
  have H : z_RM n k h M := H
  have s1 := H.1.1
  have s2 := H.1.2.1
  rcases q_serv (B := (h, T)) H v1 with ⟨r, hr, hv, c1, c2, c3⟩ | ⟨c1, c2, c3⟩
  · subst hv
    have e : M.2 6 (31 + r) = h.2.2.2.2 1 r := H.2.2.2.2.2.2.2.2.2.2.2.2.1 r (by omega)
    refine Or.inl ⟨h.2.2.2.2 1 r, (h.2.2.2.2 1 r, z_mS M 0 0), ?_, ?_, rfl, rfl, ⟨n, k, H, F⟩⟩
    · unfold f_X4_floorOf
      rw [c1, Option.bind_some]
      show some (z_rg (h.2.2.2.2 1) (nI r)) = _
      rw [q_rg (by omega)]
    · unfold f_X5_floorOf
      simp (disch := omega) only [c3, Option.bind_some, q_kn1, q_10, if_false, q_mS2, q_a31, e]
  · refine Or.inr ⟨(0, z_mS M 0 1), ?_, ?_, rfl, ⟨n, k, H, F⟩⟩
    · unfold x_X4_floorOf
      rw [c2]
      rfl
    · unfold f_X5_floorOf
      simp only [c3, Option.bind_some, q_kn0, q_00, if_true]
theorem p_minutesLeft : sm_minutesLeft z_Rl := by
  intro B M v1 hR
  obtain ⟨h, T⟩ := B
  obtain ⟨n, k, H, F⟩ := hR
  have H : z_RM n k h M := H
  have s1 := H.1.1
  have s2 := H.1.2.1
  rcases q_serv (B := (h, T)) H v1 with ⟨r, hr, hv, c1, c2, c3⟩ | ⟨c1, c2, c3⟩
  · subst hv
    have e : M.2 6 (49 + r) = h.2.2.2.2 4 r := H.2.2.2.2.2.2.2.2.2.2.2.2.2.2.2.1 r (by omega)
    refine Or.inl ⟨h.2.2.2.2 4 r, (h.2.2.2.2 4 r, z_mS M 0 0), ?_, ?_, rfl, rfl, ⟨n, k, H, F⟩⟩
    · unfold f_X4_minutesLeft
      rw [c1, Option.bind_some]
      show some (z_rg (h.2.2.2.2 4) (nI r)) = _
      rw [q_rg (by omega)]
    · unfold f_X5_minutesLeft
      simp (disch := omega) only [c3, Option.bind_some, q_kn1, q_10, if_false, q_mS2, q_a49, e]
  · refine Or.inr ⟨(0, z_mS M 0 1), ?_, ?_, rfl, ⟨n, k, H, F⟩⟩
    · unfold x_X4_minutesLeft
      rw [c2]
      rfl
    · unfold f_X5_minutesLeft
      simp only [c3, Option.bind_some, q_kn0, q_00, if_true]
theorem p_goesTo : sm_goesTo z_Rl := by
  intro B M v1 hR
  obtain ⟨h, T⟩ := B
  obtain ⟨n, k, H, F⟩ := hR
  have H : z_RM n k h M := H
  have s1 := H.1.1
  have s2 := H.1.2.1
  rcases q_serv (B := (h, T)) H v1 with ⟨r, hr, hv, c1, c2, c3⟩ | ⟨c1, c2, c3⟩
  · subst hv
    have e := q_whom1 (M := z_mS M 0 0) s2 H.2.1 s1 H.2.2.2 hr
    refine Or.inl ⟨h.2.2.2.2 2 r, (h.2.2.2.2 2 r, z_mS M 0 0), ?_, ?_, rfl, rfl, ⟨n, k, H, F⟩⟩
    · unfold f_X4_goesTo
      rw [c1, Option.bind_some]
      show some (z_rg (h.2.2.2.2 2) (nI r)) = _
      rw [q_rg (by omega)]
    · unfold f_X5_goesTo
      simp (disch := omega) only [c3, Option.bind_some, q_kn1, q_10, if_false, q_mS2, e]
  · refine Or.inr ⟨(0, z_mS M 0 1), ?_, ?_, rfl, ⟨n, k, H, F⟩⟩
    · unfold x_X4_goesTo
      rw [c2]
      rfl
    · unfold f_X5_goesTo
      simp only [c3, Option.bind_some, q_kn0, q_00, if_true]
theorem p_serves : sm_serves z_Rl := by
  intro B M v1 hR
  obtain ⟨h, T⟩ := B
  obtain ⟨n, k, H, F⟩ := hR
  have H : z_RM n k h M := H
  have s1 := H.1.1
  have s2 := H.1.2.1
  rcases q_serv (B := (h, T)) H v1 with ⟨r, hr, hv, c1, c2, c3⟩ | ⟨c1, c2, c3⟩
  · subst hv
    have e := q_whom2 (M := z_mS M 0 0) s2 H.2.1 s1 H.2.2.2 hr
    refine Or.inl ⟨h.2.2.2.2 3 r, (h.2.2.2.2 3 r, z_mS M 0 0), ?_, ?_, rfl, rfl, ⟨n, k, H, F⟩⟩
    · unfold f_X4_serves
      rw [c1, Option.bind_some]
      show some (z_rg (h.2.2.2.2 3) (nI r)) = _
      rw [q_rg (by omega)]
    · unfold f_X5_serves
      simp (disch := omega) only [c3, Option.bind_some, q_kn1, q_10, if_false, q_mS2, e]
  · refine Or.inr ⟨(0, z_mS M 0 1), ?_, ?_, rfl, ⟨n, k, H, F⟩⟩
    · unfold x_X4_serves
      rw [c2]
      rfl
    · unfold f_X5_serves
      simp only [c3, Option.bind_some, q_kn0, q_00, if_true]
theorem p_isCut : sm_isCut z_Rl := by
  intro B M v1 hR
  obtain ⟨h, T⟩ := B
  obtain ⟨n, k, H, F⟩ := hR
  have H : z_RM n k h M := H
  have s1 := H.1.1
  rcases q_room (B := (h, T)) H v1 with ⟨r, hr, hv, c1, c2, c3⟩ | ⟨c1, c2, c3⟩
  · subst hv
    have e : M.2 4 r = h.2.1 4 r := H.2.2.1.2.2.2.2.2.2.1 r (by omega)
    have cl : ∀ z, (z_bo (if h.2.1 4 r = 1 then 1 else 0)).bind (fun x13 => some x13) = z → f_X4_isCut (h, T) (nI r) = z := fun z y => by
      unfold f_X4_isCut f_X0_isWireCut
      rw [c1, Option.bind_some]
      show (z_bo (if z_rg (h.2.1 4) (nI r) = 1 then 1 else 0)).bind (fun x13 => some x13) = z
      rw [q_rg (by omega)]
      exact y
    rcases H.1.2.2.2.2.2.2.2.2.2.1 r hr with e4 | e4
    · refine Or.inl ⟨0, (0, z_mS M 0 0), cl _ ?_, ?_, rfl, rfl, ⟨n, k, H, F⟩⟩
      · rw [e4]; rfl
      · unfold f_X5_isCut
        simp (disch := omega) only [c3, Option.bind_some, q_kn1, q_10, if_false, q_mS2, q_at, e, e4, if_true]
    · refine Or.inl ⟨1, (1, z_mS M 0 0), cl _ ?_, ?_, rfl, rfl, ⟨n, k, H, F⟩⟩
      · rw [e4]; rfl
      · unfold f_X5_isCut
        simp (disch := omega) only [c3, Option.bind_some, q_kn1, q_10, if_false, q_mS2, q_at, e, e4]
  · refine Or.inr ⟨(0, z_mS M 0 1), ?_, ?_, rfl, ⟨n, k, H, F⟩⟩
    · unfold x_X4_isCut
      rw [c2]
      rfl
    · unfold f_X5_isCut
      simp only [c3, Option.bind_some, q_kn0, q_00, if_true]
theorem p_wayTo : sm_wayTo z_Rl := by
  intro B M v1 v2 hR
  obtain ⟨h, T⟩ := B
  obtain ⟨n, k, H, F⟩ := hR
  have H : z_RM n k h M := H
  have s1 := H.1.1
  have s2 := H.1.2.1
  rcases q_serv (B := (h, T)) H v1 with ⟨j, hj, hv, c1, c2, c3⟩ | ⟨c1, c2, c3⟩
  · subst hv
    rcases q_room (B := (h, T)) H v2 with ⟨r, hr, hv, d1, d2, d3⟩ | ⟨d1, d2, d3⟩
    · subst hv
      obtain ⟨a, a5, ha⟩ := H.1.2.2.2.2.1 r hr
      obtain ⟨w1, w2, w3⟩ := q_W (M := z_mS M 0 0) (g := M.2 6) H.1 H.2.2.1 H.2.1 H.2.2.2 hj hr a5 ha
      have w3' : f_X5_way (z_mS M 0 0) (nI j) (nI r) = some (nI (z_W h a j)) := by
        have e := q_mi (z_mS M 0 0)
        rw [q_mS2] at e
        rw [e] at w3
        exact w3
      refine Or.inl ⟨nI (z_W h a j), (nI (z_W h a j), z_mS M 0 0), ?_, ?_, rfl, rfl, ⟨n, k, H, F⟩⟩
      · unfold f_X4_wayTo f_X3_wayToFloor
        rw [c1, Option.bind_some, d1, Option.bind_some]
        show ((f_X3_minutesOfWay (z_rg (h.2.2.2.2 1) (nI j)) (z_rg (h.2.1 0) (nI r)) (z_rg (h.2.2.2.2 0) (nI j))).bind (fun x17 => some x17)).bind _ = _
        rw [q_rg (f := h.2.1 0) (by omega), ha, w2]
        rfl
      · unfold f_X5_wayTo
        simp only [c3, d3, Option.bind_some, q_kn1, q_10, if_false, w3']
    · refine Or.inr ⟨(0, z_mS M 0 1), ?_, ?_, rfl, ⟨n, k, H, F⟩⟩
      · unfold x_X4_wayTo
        rw [c2, c1, Option.bind_some, d2]
        rfl
      · unfold f_X5_wayTo
        simp only [c3, d3, Option.bind_some, q_kn0, q_00, q_10, if_true, if_false]
  · refine Or.inr ⟨(0, z_mS M 0 1), ?_, ?_, rfl, ⟨n, k, H, F⟩⟩
    · unfold x_X4_wayTo
      rw [c2]
      rfl
    · unfold f_X5_wayTo
      simp only [c3, Option.bind_some, q_kn0, q_00, if_true]
theorem p_meanWait : sm_meanWait z_Rl := by
  intro B M hR
  obtain ⟨h, T⟩ := B
  obtain ⟨n, k, H, F⟩ := hR
  have H : z_RM n k h M := H
  have s1 := H.1.1
  obtain ⟨S, C, x1, x2, x3, x4⟩ := s_meanL (T := T) (M := z_mS M 0 0) H n 0 z_FU z_FU 0 0 (by omega) (by unfold z_FU; omega) (by unfold z_FU; omega) (Nat.le_refl 0) (Nat.le_refl 0)
  have x3' : f_X4_meanWait_L6 (h, T) z_FU 0 0 0 = some (nI S, nI C) := x3
  have x4' : f_X5_meanWait_L11 z_FU 0 0 0 (z_mS M 0 0) = some (nI S, nI C, z_mS M 0 0) := x4
  by_cases hC : C = 0
  · subst hC
    refine ⟨FP.dconst0, (FP.dconst0, z_mS M 0 0), ?_, ?_, rfl, q_mean0, ⟨n, k, H, F⟩⟩
    · unfold f_X4_meanWait
      rw [x3', Option.bind_some, if_pos (show nI 0 = 0 from rfl)]
    · unfold f_X5_meanWait
      rw [x4', Option.bind_some, if_pos (show nI 0 = 0 from rfl)]
  · obtain ⟨y, y1, y2⟩ := q_mean (s := S) (c := C) (by omega) (by omega) (by omega)
    have hc0 : ¬ nI C = 0 := by rw [show (0 : Int32) = nI 0 from rfl, q_eq (by omega) (by omega)]; exact hC
    refine ⟨y, (y, z_mS M 0 0), ?_, ?_, rfl, y2, ⟨n, k, H, F⟩⟩
    · unfold f_X4_meanWait
      rw [x3', Option.bind_some, if_neg hc0, y1, Option.bind_some]
    · unfold f_X5_meanWait
      rw [x4', Option.bind_some, if_neg hc0]
      show (z_dd (FP.i2d (nI S)) (FP.i2d (nI C))).bind _ = _
      rw [y1]
      rfl
theorem p_minutesUntilServed : sm_minutesUntilServed z_Rl := by
  intro B M v1 hR
  obtain ⟨h, T⟩ := B
  obtain ⟨n, k, H, F⟩ := hR
  have H : z_RM n k h M := H
  rcases q_room (B := (h, T)) H v1 with ⟨r, hr, hv, c1, c2, c3⟩ | ⟨c1, c2, c3⟩
  · subst hv
    obtain ⟨x, T2, M2, x1, x2, x3⟩ := c_until (T := T) (H.mS 0) hr
    refine Or.inl ⟨(x, (h, T2)), (x, M2), x1, ?_, ?_, rfl, ⟨n, k, (H.mS 0).sm x3, F⟩⟩
    · unfold f_X5_minutesUntilServed
      simp only [c3, Option.bind_some, q_kn1, q_10, if_false, x2]
    · show M2.1 0 = 0
      rw [x3.1]
      rfl
  · refine Or.inr ⟨(0, z_mS M 0 1), ?_, ?_, rfl, ⟨n, k, H, F⟩⟩
    · unfold x_X4_minutesUntilServed
      rw [c2]
      rfl
    · unfold f_X5_minutesUntilServed
      simp only [c3, Option.bind_some, q_kn0, q_00, if_true]
theorem p_bestToCross : sm_bestToCross z_Rl := by
  intro B M v1 hR
  obtain ⟨h, T⟩ := B
  obtain ⟨n, k, H, F⟩ := hR
  have H : z_RM n k h M := H
  rcases q_room (B := (h, T)) H v1 with ⟨r, hr, hv, c1, c2, c3⟩ | ⟨c1, c2, c3⟩
  · subst hv
    obtain ⟨x, T2, M2, x1, x2, x3⟩ := c_best (T := T) (H.mS 0) hr
    refine Or.inl ⟨(x, (h, T2)), (x, M2), x1, ?_, ?_, rfl, ⟨n, k, (H.mS 0).sm x3, F⟩⟩
    · unfold f_X5_bestToCross
      simp only [c3, Option.bind_some, q_kn1, q_10, if_false, x2]
    · show M2.1 0 = 0
      rw [x3.1]
      rfl
  · refine Or.inr ⟨(0, z_mS M 0 1), ?_, ?_, rfl, ⟨n, k, H, F⟩⟩
    · unfold x_X4_bestToCross
      rw [c2]
      rfl
    · unfold f_X5_bestToCross
      simp only [c3, Option.bind_some, q_kn0, q_00, if_true]
theorem q_isw (a b c : Int32) : f_X4_isWithin a b c = f_X5_isIn a b c := rfl
theorem p_servedIn : sm_servedIn z_Rl := by
  intro B M v1 hR
  obtain ⟨h, T⟩ := B
  obtain ⟨n, k, H, F⟩ := hR
  have H : z_RM n k h M := H
  by_cases e : f_X5_isIn v1 1 60 = 0
  · refine Or.inr ⟨(0, z_mS (z_mS M 0 0) 0 1), ?_, ?_, rfl, ⟨n, k, H, F⟩⟩
    · unfold x_X4_servedIn x_X4_requireMinutes
      rw [q_isw, if_pos e]
      rfl
    · unfold f_X5_servedIn
      rw [if_pos e]
      rfl
  · obtain ⟨v, l1, l2, hv⟩ := q_range (lo := 1) (hi := 60) (by omega) (by omega) e
    subst hv
    obtain ⟨x, T2, M2, x1, x2, x3⟩ := c_served (T := T) (H.mS 0) l2 l1
    refine Or.inl ⟨(x, (h, T2)), (x, M2), x1, ?_, ?_, rfl, ⟨n, k, (H.mS 0).sm x3, F⟩⟩
    · unfold f_X5_servedIn
      rw [if_neg e, x2]
      rfl
    · show M2.1 0 = 0
      rw [x3.1]
      rfl
