-- ===== the servants of a minute =====
theorem q_d1 {a : Nat} (h : 1 ≤ a) : nI a - 1 = nI (a - 1) := pk_sub h
theorem q_h10 : nI 1 - 1 = 0 := by decide
theorem q_h00 : ((0 : Int32) ≤ 0) = True := eq_true (by decide)
theorem q_gk (G : z_G) (s j : Nat) (v : Int32) (r i : Nat) (hi : i ≠ j) : (z_gR G s (upd (G.2 s) j v)).2 r i = G.2 r i := by
  show (if r = s then upd (G.2 s) j v else G.2 r) i = G.2 r i
  by_cases e : r = s
  · rw [if_pos e, q_un hi, e]
  · rw [if_neg e]
def z_rt (G : z_G) (j : Nat) : z_G := z_gR (z_gR (z_gR G 2 (upd (G.2 2) j (-1))) 3 (upd (G.2 3) j (-1))) 4 (upd (G.2 4) j 0)
theorem q_rest {G : z_G} {j : Nat} (h : j < 12) : f_X3_rest G (nI j) = z_rt G j := by
  unfold f_X3_rest z_rt
  rw [q_rs (f := G.2 2) h, q_rs (f := G.2 3) h, q_rs (f := G.2 4) h]
theorem z_rt.k (G : z_G) (j r i : Nat) (hi : i ≠ j) : (z_rt G j).2 r i = G.2 r i :=
  (q_gk (z_gR (z_gR G 2 (upd (G.2 2) j (-1))) 3 (upd (G.2 3) j (-1))) 4 j 0 r i hi).trans ((q_gk (z_gR G 2 (upd (G.2 2) j (-1))) 3 j (-1) r i hi).trans (q_gk G 2 j (-1) r i hi))
theorem z_Dy.sv {n k : Nat} {h : z_H} {G : z_G} (D : z_Dy n k h) {j : Nat} (hj : j < k) (a1 : ∃ a, a ≤ 5 ∧ G.2 1 j = nI a) (a2 : z_Se n (G.2 2 j) (G.2 3 j) (G.2 4 j)) (hr : ∀ r, 1 ≤ r → r < 5 → ∀ i, i ≠ j → G.2 r i = h.2.2.2.2 r i) : z_Dy n k (z_hG h G) := by
  obtain ⟨d1, d2, d3, d4, d5⟩ := D
  refine ⟨d1, d2, d3, fun i hi => ?_, fun i h1 h2 => ?_⟩
  · show (∃ a, a ≤ 5 ∧ G.2 1 i = nI a) ∧ z_Se n (G.2 2 i) (G.2 3 i) (G.2 4 i)
    by_cases e : i = j
    · rw [e]; exact ⟨a1, a2⟩
    · rw [hr 1 (by omega) (by omega) i e, hr 2 (by omega) (by omega) i e, hr 3 (by omega) (by omega) i e, hr 4 (by omega) (by omega) i e]
      exact d4 i hi
  · show G.2 1 i = 0 ∧ G.2 4 i = 0
    rw [hr 1 (by omega) (by omega) i (by omega), hr 4 (by omega) (by omega) i (by omega)]
    exact d5 i h1 h2
theorem z_KP.sv {n k : Nat} {h h2 : z_H} (a : ∀ i, i < n → h.2.1 5 i = -1 → h2.2.1 5 i = -1) (b : ∀ r, r < n → h.2.1 5 r = -1 → ∀ j, j < k → h2.2.2.2.2 3 j = h.2.2.2.2 3 j ∨ h2.2.2.2.2 3 j ≠ nI r) (c : (∀ i, i < n → h.2.1 5 i = -1) → h2.1 3 = h.1 3) : z_KP n k h h2 :=
  ⟨a, fun r hr w u j hj => (b r hr w j hj).elim (fun e => by rw [e]; exact u j hj) id, c⟩
theorem q_m1e {r : Nat} (hr : r < 1000) : (-1 : Int32) ≠ nI r := fun z => q_m1 hr z.symm
/-- a servant that is busy, in one minute -/
theorem s_work {n k : Nat} {h : z_H} {M : z_M} {g : Nat → Int32} (hSt : z_St n k h) (hSE : z_SE M h) (hDy : z_Dy n k h) (hNE : z_NE k g h) {j : Nat} (hj : j < k) (hni : ¬ (h.2.2.2.2 2 j = -1 ∧ h.2.2.2.2 3 j = -1)) : ∃ (h2 : z_H) (g2 : Nat → Int32), (∀ fu, f_X0_letServantsMove_L2 (fu + 1) (nI j) h = f_X0_letServantsMove_L2 fu (nI (j + 1)) h2) ∧ f_X5_work (z_mR M 6 g) (nI j) = some (z_mR M 6 g2) ∧ z_NE k g2 h2 ∧ z_Dy n k h2 ∧ z_ST h h2 ∧ z_KP n k h h2 := by
  obtain ⟨s1, s2, s3, s4, s5, s6, s7, s8, s9, s10, s11⟩ := id hSt
  obtain ⟨m1, m2, m3, m4, m5, m6, m7, m8⟩ := id hSE
  obtain ⟨n0, n1, n2, n3, n4, n5, n6, nw, nl, no, nd, nt, nL, nf⟩ := id hNE
  obtain ⟨d1, d2, d3, d4, d5⟩ := id hDy
  have hj6 : j < 6 := by omega
  have hj12 : j < 12 := by omega
  have hnk : ¬ (h.2.2.2.1 ≤ nI j) := by rw [s4, q_le (by omega) (by omega)]; omega
  obtain ⟨hfl, hse⟩ := d4 j hj
  have gl : g (49 + j) = h.2.2.2.2 4 j := nL j hj6
  have gf : g (31 + j) = h.2.2.2.2 1 j := no j hj6
  have hid : f_X3_isIdle h.2.2.2 (nI j) = 0 := by
    unfold f_X3_isIdle
    rw [q_rg (f := h.2.2.2.2 2) hj12, q_rg (f := h.2.2.2.2 3) hj12]
    by_cases e : h.2.2.2.2 2 j = -1
    · rw [if_pos e, if_neg (fun z => hni ⟨e, z⟩)]
    · rw [if_neg e]
  have hex : ∃ a, 1 ≤ a ∧ a ≤ 9 ∧ h.2.2.2.2 4 j = nI a := by
    rcases hse with ⟨x, y, z⟩ | ⟨r, a, x1, x2, x3, x4, x5, x6⟩ | ⟨r, a, x1, x2, x3, x4, x5, x6⟩
    · exact absurd ⟨x, y⟩ hni
    · exact ⟨a, x2, x3, x6⟩
    · exact ⟨a, x2, x3, x6⟩
  obtain ⟨a, a1, a9, hle⟩ := hex
  by_cases ha : 2 ≤ a
  · have hgt : ¬ (nI (a - 1) ≤ 0) := by rw [show (0 : Int32) = nI 0 from rfl, q_le (by omega) (by omega)]; omega
    have hk : ∀ r, 1 ≤ r → r < 5 → ∀ i, i ≠ j → (z_gR h.2.2.2 4 (upd (h.2.2.2.2 4) j (nI (a - 1)))).2 r i = h.2.2.2.2 r i := fun r _ _ i hi => q_gk h.2.2.2 4 j _ r i hi
    refine ⟨z_hG h (z_gR h.2.2.2 4 (upd (h.2.2.2.2 4) j (nI (a - 1)))), upd g (49 + j) (nI (a - 1)), fun fu => ?_, ?_, hNE.sv s2 hj ?_ ?_ ?_ ?_ ?_ hk, hDy.sv hj hfl ?_ hk, ⟨rfl, fun _ _ => rfl, rfl, rfl⟩, z_KP.sv (fun _ _ z => z) (fun _ _ _ _ _ => Or.inl rfl) (fun _ => rfl)⟩
    · rw [f_X0_letServantsMove_L2, if_neg hnk, if_pos hid, q_rg (f := h.2.2.2.2 4) hj12, hle, q_d1 a1, if_neg hgt, q_rs hj12, q_s]
    · unfold f_X5_work
      simp (disch := omega) only [q_m6, q_a49, gl, hle, Option.bind_some, q_d1 a1, q_w49, q_us, hgt, if_false, q_mm]
    · show upd g (49 + j) _ (31 + j) = h.2.2.2.2 1 j
      rw [q_un (by omega)]; exact gf
    · show upd g (49 + j) _ (37 + j) = z_do (h.2.2.2.2 2 j) (h.2.2.2.2 3 j)
      rw [q_un (by omega)]; exact nd j hj
    · intro z
      show upd g (49 + j) _ (43 + j) = z_to (h.2.2.2.2 2 j) (h.2.2.2.2 3 j)
      rw [q_un (by omega)]; exact nt j hj z
    · show upd g (49 + j) _ (49 + j) = upd (h.2.2.2.2 4) j _ j
      rw [q_us, q_us]
    · intro q _ _ _ q4
      exact q_un q4
    · show z_Se n (h.2.2.2.2 2 j) (h.2.2.2.2 3 j) (upd (h.2.2.2.2 4) j _ j)
      rw [q_us]
      rcases hse with ⟨x, y, z⟩ | ⟨r, b, x1, x2, x3, x4, x5, x6⟩ | ⟨r, b, x1, x2, x3, x4, x5, x6⟩
      · exact absurd ⟨x, y⟩ hni
      · exact Or.inr (Or.inl ⟨r, a - 1, x1, by omega, by omega, x4, x5, rfl⟩)
      · exact Or.inr (Or.inr ⟨r, a - 1, x1, by omega, by omega, x4, x5, rfl⟩)
  · have ha1 : a = 1 := by omega
    subst ha1
    have hkG : ∀ r i, i ≠ j → (z_rt (z_gR h.2.2.2 4 (upd (h.2.2.2.2 4) j 0)) j).2 r i = h.2.2.2.2 r i := fun r i hi => (z_rt.k _ j r i hi).trans (q_gk h.2.2.2 4 j 0 r i hi)
    have r1 : ∀ x : Int32, x = 0 → z_rs (h.2.2.2.2 4) (nI j) x = upd (h.2.2.2.2 4) j 0 := fun x hx => by rw [hx, q_rs hj12]
    rcases hse with ⟨x, y, z⟩ | ⟨r, b, x1, x2, x3, x4, x5, x6⟩ | ⟨r, b, x1, x2, x3, x4, x5, x6⟩
    · exact absurd ⟨x, y⟩ hni
    · have hr12 : r < 12 := by omega
      have e37 : g (37 + j) = 1 := by rw [nd j hj, x4, x5]; unfold z_do; rw [if_neg (q_m1 (by omega))]
      have e43 : g (43 + j) = nI r := by
        rw [nt j hj (by rw [x4, x5]; unfold z_do; rw [if_neg (q_m1 (by omega))]; decide), x4, x5]
        unfold z_to
        rw [if_neg (q_m1 (by omega))]
      obtain ⟨fl, hfl5, hfle⟩ := s5 r x1
      obtain ⟨ne, hne1, hne9, hnee⟩ := s7 r x1
      have m0 : M.2 0 r = nI fl := (m3 r hr12).trans hfle
      have mn : M.2 2 r = nI ne := (m5 r hr12).trans hnee
      have gw : g (7 + r) = h.2.1 5 r := nw r hr12
      have cl : ∀ (fu : Nat) (h2 : z_H), f_X0_arrive (z_hG h (z_rt (z_gR h.2.2.2 4 (upd (h.2.2.2.2 4) j 0)) j)) (nI j) (nI r) = h2 → f_X0_letServantsMove_L2 (fu + 1) (nI j) h = f_X0_letServantsMove_L2 fu (nI (j + 1)) h2 := fun fu h2 e => by
        rw [f_X0_letServantsMove_L2, if_neg hnk, if_pos hid, q_rg (f := h.2.2.2.2 4) hj12, hle, q_h10, if_pos (by decide), q_rg (f := h.2.2.2.2 2) hj12, x4, if_neg (q_m1 (by omega)), q_rs hj12, q_rest hj12, e, q_s]
      rcases d2 r x1 with hw | ⟨w, hw29, hw⟩
      · have hk : ∀ q, 1 ≤ q → q < 5 → ∀ i, i ≠ j → (z_gR (z_rt (z_gR h.2.2.2 4 (upd (h.2.2.2.2 4) j 0)) j) 1 (upd ((z_rt (z_gR h.2.2.2 4 (upd (h.2.2.2.2 4) j 0)) j).2 1) j (nI fl))).2 q i = h.2.2.2.2 q i := fun q _ _ i hi => (q_gk _ 1 j _ q i hi).trans (hkG q i hi)
        refine ⟨z_hG (z_hS h 4 (h.1 4 + 1)) (z_gR (z_rt (z_gR h.2.2.2 4 (upd (h.2.2.2.2 4) j 0)) j) 1 (upd ((z_rt (z_gR h.2.2.2 4 (upd (h.2.2.2.2 4) j 0)) j).2 1) j (nI fl))), upd (upd (upd (upd (upd (upd g (49 + j) 0) (31 + j) (nI fl)) 3 (g 3 + 1)) (37 + j) 0) (43 + j) 0) (49 + j) 0, fun fu => cl fu _ ?_, ?_, z_NE.sv (h := z_hS h 4 (h.1 4 + 1)) (g := upd g 3 (g 3 + 1)) (by rw [n3]; exact hNE.st.2.2.2.1) s2 hj ?_ ?_ ?_ ?_ ?_ hk, (hDy.sc 4 (by decide) _).sv hj ⟨fl, hfl5, ?_⟩ ?_ hk, ⟨rfl, fun _ _ => rfl, rfl, rfl⟩, z_KP.sv (fun _ _ z => z) (fun q hq _ i hi => ?_) (fun _ => rfl)⟩
        · unfold f_X0_arrive
          show (if z_rg (h.2.1 5) (nI r) = -1 then _ else _) = _
          rw [q_rg hr12, if_pos hw]
          show z_hG (z_hS h 4 (h.1 4 + 1)) (z_gR (z_rt (z_gR h.2.2.2 4 (upd (h.2.2.2.2 4) j 0)) j) 1 (z_rs ((z_rt (z_gR h.2.2.2 4 (upd (h.2.2.2.2 4) j 0)) j).2 1) (nI j) (z_rg (h.2.1 0) (nI r)))) = _
          rw [q_rg hr12, hfle, q_rs hj12]
        · unfold f_X5_work f_X5_comeTo f_X5_give
          have u37 : ∀ x : Int32, upd g (49 + j) x (37 + j) = 1 := fun x => (q_un (by omega)).trans e37
          have u43 : ∀ x : Int32, upd g (49 + j) x (43 + j) = nI r := fun x => (q_un (by omega)).trans e43
          have u7 : ∀ x y : Int32, upd (upd g (49 + j) x) (31 + j) y (7 + r) = -1 := fun x y => (q_un (by omega)).trans ((q_un (by omega)).trans (gw.trans hw))
          have u3 : ∀ x y : Int32, upd (upd g (49 + j) x) (31 + j) y 3 = g 3 := fun x y => (q_un (by omega)).trans (q_un (by omega))
          simp (disch := omega) only [q_m6, q_mr, q_a49, gl, hle, Option.bind_some, q_h10, q_w49, q_us, q_h00, if_true, q_a37, u37, q_a43, u43, q_at, m0, q_w31, q_a7, u7, q_at3, u3, q_wr3, q_w37, q_w43, q_mm]
        · show upd _ (49 + j) _ (31 + j) = upd _ j (nI fl) j
          rw [q_us, q_un (by omega), q_un (by omega), q_un (by omega), q_un (by omega), q_us]
        · show upd _ (49 + j) _ (37 + j) = z_do (upd _ j (-1) j) (upd _ j (-1) j)
          rw [q_un (by omega), q_un (by omega), q_us, q_us, q_us]; rfl
        · intro z
          refine absurd ?_ z
          show z_do (upd _ j (-1) j) (upd _ j (-1) j) = 0
          rw [q_us, q_us]; rfl
        · show upd _ (49 + j) _ (49 + j) = upd _ j 0 j
          rw [q_us, q_us]
        · intro q q1 q2 q3 q4
          rw [q_un q4, q_un q3, q_un q2]
          by_cases e : q = 3
          · rw [e, q_us, q_us]
          · rw [q_un e, q_un q1, q_un q4, q_un e]
        · show upd _ j (nI fl) j = nI fl
          rw [q_us]
        · show z_Se n (upd _ j (-1) j) (upd _ j (-1) j) (upd _ j 0 j)
          rw [q_us, q_us, q_us]
          exact Or.inl ⟨rfl, rfl, rfl⟩
        · by_cases e : i = j
          · refine Or.inr ?_
            show upd _ j (-1) i ≠ nI q
            rw [e, q_us]
            exact q_m1e (by omega)
          · exact Or.inl (hk 3 (by omega) (by omega) i e)
      · have hwn : ¬ h.2.1 5 r = -1 := by rw [hw]; exact q_m1 (by omega)
        have hk : ∀ q, 1 ≤ q → q < 5 → ∀ i, i ≠ j → (z_gR (z_gR (z_gR (z_rt (z_gR h.2.2.2 4 (upd (h.2.2.2.2 4) j 0)) j) 1 (upd ((z_rt (z_gR h.2.2.2 4 (upd (h.2.2.2.2 4) j 0)) j).2 1) j (nI fl))) 3 (upd ((z_rt (z_gR h.2.2.2 4 (upd (h.2.2.2.2 4) j 0)) j).2 3) j (nI r))) 4 (upd ((z_rt (z_gR h.2.2.2 4 (upd (h.2.2.2.2 4) j 0)) j).2 4) j (nI ne))).2 q i = h.2.2.2.2 q i := fun q _ _ i hi => (q_gk (z_gR (z_gR (z_rt (z_gR h.2.2.2 4 (upd (h.2.2.2.2 4) j 0)) j) 1 (upd ((z_rt (z_gR h.2.2.2 4 (upd (h.2.2.2.2 4) j 0)) j).2 1) j (nI fl))) 3 (upd ((z_rt (z_gR h.2.2.2 4 (upd (h.2.2.2.2 4) j 0)) j).2 3) j (nI r))) 4 j _ q i hi).trans ((q_gk (z_gR (z_rt (z_gR h.2.2.2 4 (upd (h.2.2.2.2 4) j 0)) j) 1 (upd ((z_rt (z_gR h.2.2.2 4 (upd (h.2.2.2.2 4) j 0)) j).2 1) j (nI fl))) 3 j _ q i hi).trans ((q_gk _ 1 j _ q i hi).trans (hkG q i hi)))
        have hN1 : z_NE k (upd (upd g 2 (g 2 + 1)) (7 + r) (-1)) (z_hR (z_hS h 3 (h.1 3 + 1)) 5 (upd (h.2.1 5) r (-1))) := by
          have x1 : z_NE k (upd g 2 (g 2 + 1)) (z_hS h 3 (h.1 3 + 1)) := by rw [n2]; exact hNE.st.2.2.1
          exact x1.wt hr12 s2
        have hD1 : z_Dy n k (z_hR (z_hS h 3 (h.1 3 + 1)) 5 (upd (h.2.1 5) r (-1))) := z_Dy.wt (h := z_hS h 3 (h.1 3 + 1)) (Or.inl rfl) (hDy.sc 3 (by decide) _)
        refine ⟨z_hG (z_hR (z_hS h 3 (h.1 3 + 1)) 5 (upd (h.2.1 5) r (-1))) (z_gR (z_gR (z_gR (z_rt (z_gR h.2.2.2 4 (upd (h.2.2.2.2 4) j 0)) j) 1 (upd ((z_rt (z_gR h.2.2.2 4 (upd (h.2.2.2.2 4) j 0)) j).2 1) j (nI fl))) 3 (upd ((z_rt (z_gR h.2.2.2 4 (upd (h.2.2.2.2 4) j 0)) j).2 3) j (nI r))) 4 (upd ((z_rt (z_gR h.2.2.2 4 (upd (h.2.2.2.2 4) j 0)) j).2 4) j (nI ne))), upd (upd (upd (upd (upd (upd (upd g (49 + j) 0) (31 + j) (nI fl)) (7 + r) (-1)) 2 (g 2 + 1)) (37 + j) 2) (43 + j) (nI r)) (49 + j) (nI ne), fun fu => cl fu _ ?_, ?_, hN1.sv s2 hj ?_ ?_ ?_ ?_ ?_ hk, hD1.sv hj ⟨fl, hfl5, ?_⟩ ?_ hk, ?_, z_KP.sv (fun i hi z => ?_) (fun q hq z i hi => ?_) (fun z => absurd (z r x1) hwn)⟩
        · unfold f_X0_arrive
          show (if z_rg (h.2.1 5) (nI r) = -1 then _ else _) = _
          rw [q_rg hr12, if_neg hwn]
          show z_hG (z_hR (z_hS h 3 (h.1 3 + 1)) 5 (z_rs (h.2.1 5) (nI r) (-1))) (z_gR (z_gR (z_gR (z_rt (z_gR h.2.2.2 4 (upd (h.2.2.2.2 4) j 0)) j) 1 (z_rs ((z_rt (z_gR h.2.2.2 4 (upd (h.2.2.2.2 4) j 0)) j).2 1) (nI j) (z_rg (h.2.1 0) (nI r)))) 3 (z_rs ((z_rt (z_gR h.2.2.2 4 (upd (h.2.2.2.2 4) j 0)) j).2 3) (nI j) (nI r))) 4 (z_rs ((z_rt (z_gR h.2.2.2 4 (upd (h.2.2.2.2 4) j 0)) j).2 4) (nI j) (z_rg (h.2.1 2) (nI r)))) = _
          rw [q_rg (f := h.2.1 0) hr12, hfle, q_rg (f := h.2.1 2) hr12, hnee, q_rs hr12, q_rs (v := nI fl) hj12, q_rs (v := nI r) hj12, q_rs (v := nI ne) hj12]
        · unfold f_X5_work f_X5_comeTo f_X5_give
          have u37 : ∀ x : Int32, upd g (49 + j) x (37 + j) = 1 := fun x => (q_un (by omega)).trans e37
          have u43 : ∀ x : Int32, upd g (49 + j) x (43 + j) = nI r := fun x => (q_un (by omega)).trans e43
          have u7 : ∀ x y : Int32, upd (upd g (49 + j) x) (31 + j) y (7 + r) = nI w := fun x y => (q_un (by omega)).trans ((q_un (by omega)).trans (gw.trans hw))
          have u2 : ∀ x y z : Int32, upd (upd (upd g (49 + j) x) (31 + j) y) (7 + r) z 2 = g 2 := fun x y z => (q_un (by omega)).trans ((q_un (by omega)).trans (q_un (by omega)))
          simp (disch := omega) only [q_m6, q_mr, q_a49, gl, hle, Option.bind_some, q_h10, q_w49, q_us, q_h00, if_true, q_a37, u37, q_a43, u43, q_at, m0, mn, q_w31, q_a7, u7, q_m1n, if_false, q_w7, q_at2, u2, q_wr2, q_w37, q_w43, q_mm]
        · show upd _ (49 + j) _ (31 + j) = upd _ j (nI fl) j
          rw [q_us, q_un (by omega), q_un (by omega), q_un (by omega), q_un (by omega), q_un (by omega), q_us]
        · show upd _ (49 + j) _ (37 + j) = z_do (upd _ j (-1) j) (upd _ j (nI r) j)
          rw [q_un (by omega), q_un (by omega), q_us, q_us, q_us]
          unfold z_do
          rw [if_pos rfl, if_neg (q_m1 (by omega))]
        · intro z
          show upd _ (49 + j) _ (43 + j) = z_to (upd _ j (-1) j) (upd _ j (nI r) j)
          rw [q_un (by omega), q_us, q_us, q_us]
          unfold z_to
          rw [if_pos rfl]
        · show upd _ (49 + j) _ (49 + j) = upd _ j (nI ne) j
          rw [q_us, q_us]
        · intro q q1 q2 q3 q4
          rw [q_un q4, q_un q3, q_un q2]
          by_cases e : q = 2
          · rw [e, q_us, q_un (by omega), q_us]
          · rw [q_un e]
            by_cases e2 : q = 7 + r
            · rw [e2, q_us, q_us]
            · rw [q_un e2, q_un q1, q_un q4, q_un e2, q_un e]
        · show upd _ j (nI fl) j = nI fl
          rw [q_us]
        · show z_Se n (upd _ j (-1) j) (upd _ j (nI r) j) (upd _ j (nI ne) j)
          rw [q_us, q_us, q_us]
          exact Or.inr (Or.inr ⟨r, ne, x1, hne1, hne9, rfl, rfl, rfl⟩)
        · exact (z_ST.sc 3 (by decide) _).tr ((z_ST.wt (h := z_hS h 3 (h.1 3 + 1)) _).tr ⟨rfl, fun _ _ => rfl, rfl, rfl⟩)
        · show upd (h.2.1 5) r (-1) i = -1
          by_cases e : i = r
          · rw [e, q_us]
          · rw [q_un e]; exact z
        · by_cases e : i = j
          · refine Or.inr ?_
            show upd _ j (nI r) i ≠ nI q
            rw [e, q_us]
            intro y
            rw [q_eq (by omega) (by omega)] at y
            exact hwn (by rw [y]; exact z)
          · exact Or.inl (hk 3 (by omega) (by omega) i e)
    · have e37 : g (37 + j) = 2 := by rw [nd j hj, x4, x5]; unfold z_do; rw [if_pos rfl, if_neg (q_m1 (by omega))]
      have hk : ∀ q, 1 ≤ q → q < 5 → ∀ i, i ≠ j → (z_rt (z_gR h.2.2.2 4 (upd (h.2.2.2.2 4) j 0)) j).2 q i = h.2.2.2.2 q i := fun q _ _ i hi => hkG q i hi
      refine ⟨z_hG h (z_rt (z_gR h.2.2.2 4 (upd (h.2.2.2.2 4) j 0)) j), upd (upd (upd (upd g (49 + j) 0) (37 + j) 0) (43 + j) 0) (49 + j) 0, fun fu => ?_, ?_, hNE.sv s2 hj ?_ ?_ ?_ ?_ ?_ hk, hDy.sv hj hfl ?_ hk, ⟨rfl, fun _ _ => rfl, rfl, rfl⟩, z_KP.sv (fun _ _ z => z) (fun q hq _ i hi => ?_) (fun _ => rfl)⟩
      · rw [f_X0_letServantsMove_L2, if_neg hnk, if_pos hid, q_rg (f := h.2.2.2.2 4) hj12, hle, q_h10, if_pos (by decide), q_rg (f := h.2.2.2.2 2) hj12, if_pos x4, q_rs hj12, q_rest hj12, q_s]
      · unfold f_X5_work f_X5_give
        have u37 : ∀ x : Int32, upd g (49 + j) x (37 + j) = 2 := fun x => (q_un (by omega)).trans e37
        simp (disch := omega) only [q_m6, q_a49, gl, hle, Option.bind_some, q_h10, q_w49, q_us, q_h00, if_true, if_false, q_a37, u37, q_21, q_w37, q_w43, q_mm]
      · show upd _ (49 + j) _ (31 + j) = h.2.2.2.2 1 j
        rw [q_un (by omega), q_un (by omega), q_un (by omega), q_un (by omega)]; exact gf
      · show upd _ (49 + j) _ (37 + j) = z_do (upd _ j (-1) j) (upd _ j (-1) j)
        rw [q_un (by omega), q_un (by omega), q_us, q_us, q_us]; rfl
      · intro z
        refine absurd ?_ z
        show z_do (upd _ j (-1) j) (upd _ j (-1) j) = 0
        rw [q_us, q_us]; rfl
      · show upd _ (49 + j) _ (49 + j) = upd _ j 0 j
        rw [q_us, q_us]
      · intro q q1 q2 q3 q4
        rw [q_un q4, q_un q3, q_un q2, q_un q4]
      · show z_Se n (upd _ j (-1) j) (upd _ j (-1) j) (upd _ j 0 j)
        rw [q_us, q_us, q_us]
        exact Or.inl ⟨rfl, rfl, rfl⟩
      · by_cases e : i = j
        · refine Or.inr ?_
          show upd _ j (-1) i ≠ nI q
          rw [e, q_us]
          exact q_m1e (by omega)
        · exact Or.inl (hk 3 (by omega) (by omega) i e)
theorem s_moves {n k : Nat} {M : z_M} : ∀ (m j fu fv : Nat) (h : z_H) (g : Nat → Int32), j + m = k → m < fu → m < fv → z_St n k h → z_SE M h → z_Dy n k h → z_NE k g h → ∃ (h2 : z_H) (g2 : Nat → Int32), f_X0_letServantsMove_L2 fu (nI j) h = some h2 ∧ f_X5_minuteOn_L36 fv (nI j) (z_mR M 6 g) = some (z_mR M 6 g2) ∧ z_NE k g2 h2 ∧ z_Dy n k h2 ∧ z_ST h h2 ∧ z_KP n k h h2
  | 0, j, fu + 1, fv + 1, h, g, hm, _, _, hSt, hSE, hDy, hNE => by
    have hk6 := hSt.2.1
    have s4 := hSt.2.2.2.1
    have m2 : (z_mR M 6 g).1 2 = nI k := hSE.2.1.trans s4
    refine ⟨h, g, ?_, ?_, hNE, hDy, z_ST.rf h, z_KP.rf n k h⟩
    · rw [f_X0_letServantsMove_L2, if_pos (by rw [s4, q_le (by omega) (by omega)]; omega)]
    · rw [f_X5_minuteOn_L36, if_pos (by rw [m2, q_le (by omega) (by omega)]; omega)]
  | m + 1, j, fu + 1, fv + 1, h, g, hm, h1, h2, hSt, hSE, hDy, hNE => by
    have hk6 := hSt.2.1
    have s4 := hSt.2.2.2.1
    have m2 : (z_mR M 6 g).1 2 = nI k := hSE.2.1.trans s4
    have hj : j < k := by omega
    have nd := hNE.2.2.2.2.2.2.2.2.2.2.1 j hj
    have hnk : ¬ (h.2.2.2.1 ≤ nI j) := by rw [s4, q_le (by omega) (by omega)]; omega
    have hnm : ¬ ((z_mR M 6 g).1 2 ≤ nI j) := by rw [m2, q_le (by omega) (by omega)]; omega
    by_cases hi : h.2.2.2.2 2 j = -1 ∧ h.2.2.2.2 3 j = -1
    · obtain ⟨x2, y2, a1, a2, a3⟩ := s_moves m (j + 1) fu fv h g (by omega) (by omega) (by omega) hSt hSE hDy hNE
      refine ⟨x2, y2, ?_, ?_, a3⟩
      · have hid : ¬ f_X3_isIdle h.2.2.2 (nI j) = 0 := by
          unfold f_X3_isIdle
          rw [q_rg (f := h.2.2.2.2 2) (by omega), q_rg (f := h.2.2.2.2 3) (by omega), if_pos hi.1, if_pos hi.2]
          decide
        rw [f_X0_letServantsMove_L2, if_neg hnk, if_neg hid, q_s]; exact a1
      · rw [f_X5_minuteOn_L36, if_neg hnm, q_m6, q_a37 (by omega)]
        show (if g (37 + j) = 0 then _ else _) = _
        rw [if_pos (by rw [nd, hi.1, hi.2]; rfl), q_s]; exact a2
    · obtain ⟨h3, g3, b1, b2, b3, b4, b5, b6⟩ := s_work hSt hSE hDy hNE hj hi
      obtain ⟨x2, y2, a1, a2, a3, a4, a5, a6⟩ := s_moves m (j + 1) fu fv h3 g3 (by omega) (by omega) (by omega) (hSt.mv b5) (hSE.mv b5) b4 b3
      refine ⟨x2, y2, ?_, ?_, a3, a4, b5.tr a5, b6.tr a6⟩
      · rw [b1]; exact a1
      · rw [f_X5_minuteOn_L36, if_neg hnm, q_m6, q_a37 (by omega)]
        show (if g (37 + j) = 0 then _ else _) = _
        have hz : ¬ g (37 + j) = 0 := by
          rw [nd]
          unfold z_do
          by_cases e : h.2.2.2.2 2 j = -1
          · rw [if_pos e, if_neg (fun z => hi ⟨e, z⟩)]; decide
          · rw [if_neg e]; decide
        rw [if_neg hz, b2, q_s]; exact a2
