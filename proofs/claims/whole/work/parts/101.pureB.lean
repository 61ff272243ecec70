-- ===== one step on both sides: a ring =====
theorem q_m1r (M : z_M) (g : Nat → Int32) : (z_mR M 6 g).1 = M.1 := rfl
theorem q_10 : ((1 : Int32) = 0) = False := eq_false (by decide)
theorem q_01 : ((0 : Int32) = 1) = False := eq_false (by decide)
theorem q_20 : ((2 : Int32) = 0) = False := eq_false (by decide)
theorem q_21 : ((2 : Int32) = 1) = False := eq_false (by decide)
theorem q_12 : ((1 : Int32) = 2) = False := eq_false (by decide)
theorem q_02 : ((0 : Int32) = 2) = False := eq_false (by decide)
theorem q_m10 : ((-1 : Int32) = 0) = False := eq_false (by decide)
theorem q_m1n {a : Nat} (ha : a < 1000) : (nI a = -1) = False := eq_false (q_m1 ha)
theorem z_NE.st {k : Nat} {g : Nat → Int32} {h : z_H} (H : z_NE k g h) {v : Int32} : z_NE k (upd g 0 v) (z_hS h 0 v) ∧ z_NE k (upd g 1 v) (z_hS h 2 v) ∧ z_NE k (upd g 2 v) (z_hS h 3 v) ∧ z_NE k (upd g 3 v) (z_hS h 4 v) ∧ z_NE k (upd g 4 v) (z_hS h 5 v) ∧ z_NE k (upd g 5 v) (z_hS h 6 v) := by
  obtain ⟨n0, n1, n2, n3, n4, n5, n6, nw, nl, no, nd, nt, nL, nf⟩ := H
  have big : ∀ x, x < 6 → (∀ i, i < 12 → upd g x v (7 + i) = h.2.1 5 i) ∧ (∀ i, i < 12 → upd g x v (19 + i) = h.2.2.1.2 i) ∧ (∀ j, j < 6 → upd g x v (31 + j) = h.2.2.2.2 1 j) ∧ (∀ j, j < k → upd g x v (37 + j) = z_do (h.2.2.2.2 2 j) (h.2.2.2.2 3 j)) ∧ (∀ j, j < k → ¬ z_do (h.2.2.2.2 2 j) (h.2.2.2.2 3 j) = 0 → upd g x v (43 + j) = z_to (h.2.2.2.2 2 j) (h.2.2.2.2 3 j)) ∧ (∀ j, j < 6 → upd g x v (49 + j) = h.2.2.2.2 4 j) ∧ (∀ j, k ≤ j → j < 6 → upd g x v (37 + j) = 0) := fun x hx =>
    ⟨fun i hi => by rw [q_un (by omega)]; exact nw i hi, fun i hi => by rw [q_un (by omega)]; exact nl i hi, fun i hi => by rw [q_un (by omega)]; exact no i hi, fun i hi => by rw [q_un (by omega)]; exact nd i hi, fun i hi z => by rw [q_un (by omega)]; exact nt i hi z, fun i hi => by rw [q_un (by omega)]; exact nL i hi, fun i h1 h2 => by rw [q_un (by omega)]; exact nf i h1 h2⟩
  exact ⟨⟨rfl, n1, n2, n3, n4, n5, n6, big 0 (by decide)⟩, ⟨n0, rfl, n2, n3, n4, n5, n6, big 1 (by decide)⟩, ⟨n0, n1, rfl, n3, n4, n5, n6, big 2 (by decide)⟩, ⟨n0, n1, n2, rfl, n4, n5, n6, big 3 (by decide)⟩, ⟨n0, n1, n2, n3, rfl, n5, n6, big 4 (by decide)⟩, ⟨n0, n1, n2, n3, n4, rfl, n6, big 5 (by decide)⟩⟩
theorem z_NE.wt {k : Nat} {g : Nat → Int32} {h : z_H} (H : z_NE k g h) {i : Nat} (hi : i < 12) (hk : k ≤ 6) {v : Int32} : z_NE k (upd g (7 + i) v) (z_hR h 5 (upd (h.2.1 5) i v)) := by
  obtain ⟨n0, n1, n2, n3, n4, n5, n6, nw, nl, no, nd, nt, nL, nf⟩ := H
  refine ⟨by rw [q_un (by omega)]; exact n0, by rw [q_un (by omega)]; exact n1, by rw [q_un (by omega)]; exact n2, by rw [q_un (by omega)]; exact n3, by rw [q_un (by omega)]; exact n4, by rw [q_un (by omega)]; exact n5, by rw [q_un (by omega)]; exact n6, fun j hj => ?_, fun i hi => by rw [q_un (by omega)]; exact nl i hi, fun i hi => by rw [q_un (by omega)]; exact no i hi, fun i hi => by rw [q_un (by omega)]; exact nd i hi, fun i hi z => by rw [q_un (by omega)]; exact nt i hi z, fun i hi => by rw [q_un (by omega)]; exact nL i hi, fun i h1 h2 => by rw [q_un (by omega)]; exact nf i h1 h2⟩
  show upd g (7 + i) v (7 + j) = upd (h.2.1 5) i v j
  by_cases e : j = i
  · rw [e, q_us, q_us]
  · rw [q_un (by omega), q_un e]; exact nw j hj
theorem z_NE.ln {k : Nat} {g g2 : Nat → Int32} {h : z_H} {L : z_L} (H : z_NE k g h) (hk : k ≤ 6) (h6 : g2 6 = L.1) (hl : ∀ i, i < 12 → g2 (19 + i) = L.2 i) (ho : ∀ q, q ≠ 6 → (q < 19 ∨ 31 ≤ q) → g2 q = g q) : z_NE k g2 (z_hL h L) := by
  obtain ⟨n0, n1, n2, n3, n4, n5, n6, nw, nl, no, nd, nt, nL, nf⟩ := H
  exact ⟨(ho 0 (by omega) (by omega)).trans n0, (ho 1 (by omega) (by omega)).trans n1, (ho 2 (by omega) (by omega)).trans n2, (ho 3 (by omega) (by omega)).trans n3, (ho 4 (by omega) (by omega)).trans n4, (ho 5 (by omega) (by omega)).trans n5, h6, fun i hi => (ho _ (by omega) (by omega)).trans (nw i hi), hl, fun i hi => (ho _ (by omega) (by omega)).trans (no i hi), fun i hi => (ho _ (by omega) (by omega)).trans (nd i hi), fun i hi z => (ho _ (by omega) (by omega)).trans (nt i hi z), fun i hi => (ho _ (by omega) (by omega)).trans (nL i hi), fun i h1 h2 => (ho _ (by omega) (by omega)).trans (nf i h1 h2)⟩
theorem z_NE.sv {k : Nat} {g g2 : Nat → Int32} {h : z_H} {G : z_G} (H : z_NE k g h) {j : Nat} (hk : k ≤ 6) (hj : j < k) (e1 : g2 (31 + j) = G.2 1 j) (e2 : g2 (37 + j) = z_do (G.2 2 j) (G.2 3 j)) (e3 : ¬ z_do (G.2 2 j) (G.2 3 j) = 0 → g2 (43 + j) = z_to (G.2 2 j) (G.2 3 j)) (e4 : g2 (49 + j) = G.2 4 j) (ho : ∀ q, q ≠ 31 + j → q ≠ 37 + j → q ≠ 43 + j → q ≠ 49 + j → g2 q = g q) (hr : ∀ r, 1 ≤ r → r < 5 → ∀ i, i ≠ j → G.2 r i = h.2.2.2.2 r i) : z_NE k g2 (z_hG h G) := by
  obtain ⟨n0, n1, n2, n3, n4, n5, n6, nw, nl, no, nd, nt, nL, nf⟩ := H
  refine ⟨(ho 0 (by omega) (by omega) (by omega) (by omega)).trans n0, (ho 1 (by omega) (by omega) (by omega) (by omega)).trans n1, (ho 2 (by omega) (by omega) (by omega) (by omega)).trans n2, (ho 3 (by omega) (by omega) (by omega) (by omega)).trans n3, (ho 4 (by omega) (by omega) (by omega) (by omega)).trans n4, (ho 5 (by omega) (by omega) (by omega) (by omega)).trans n5, (ho 6 (by omega) (by omega) (by omega) (by omega)).trans n6, fun i hi => (ho _ (by omega) (by omega) (by omega) (by omega)).trans (nw i hi), fun i hi => (ho _ (by omega) (by omega) (by omega) (by omega)).trans (nl i hi), fun i hi => ?_, fun i hi => ?_, fun i hi z => ?_, fun i hi => ?_, fun i h1 h2 => (ho _ (by omega) (by omega) (by omega) (by omega)).trans (nf i h1 h2)⟩
  · show g2 (31 + i) = G.2 1 i
    by_cases e : i = j
    · rw [e]; exact e1
    · rw [ho _ (by omega) (by omega) (by omega) (by omega), no i hi, hr 1 (by omega) (by omega) i e]
  · show g2 (37 + i) = z_do (G.2 2 i) (G.2 3 i)
    by_cases e : i = j
    · rw [e]; exact e2
    · rw [ho _ (by omega) (by omega) (by omega) (by omega), nd i hi, hr 2 (by omega) (by omega) i e, hr 3 (by omega) (by omega) i e]
  · have z : ¬ z_do (G.2 2 i) (G.2 3 i) = 0 := z
    show g2 (43 + i) = z_to (G.2 2 i) (G.2 3 i)
    by_cases e : i = j
    · rw [e] at z ⊢; exact e3 z
    · rw [hr 2 (by omega) (by omega) i e, hr 3 (by omega) (by omega) i e] at z ⊢
      rw [ho _ (by omega) (by omega) (by omega) (by omega), nt i hi z]
  · show g2 (49 + i) = G.2 4 i
    by_cases e : i = j
    · rw [e]; exact e4
    · rw [ho _ (by omega) (by omega) (by omega) (by omega), nL i hi, hr 4 (by omega) (by omega) i e]
/-- a drop that stands can fall: there is room in the line -/
theorem z_Li.room {n : Nat} {L : z_L} {c w : Nat} (h2 : ∀ j, j < c → ∃ a, a < n ∧ L.2 j = nI a) (h3 : ∀ i j, i < c → j < c → L.2 i = L.2 j → i = j) (hn : n ≤ 12) (hw : w < n) (hno : ∀ j, j < c → L.2 j ≠ nI w) : c + 1 ≤ n := by
  have hch : ∀ j, ∃ a, j < c → (a < n ∧ L.2 j = nI a) := fun j => by
    by_cases hj : j < c
    · obtain ⟨a, ha⟩ := h2 j hj
      exact ⟨a, fun _ => ha⟩
    · exact ⟨0, fun z => absurd z hj⟩
  refine fb_holes n (c + 1) (fun j => if j = c then w else Classical.choose (hch j)) (fun i hi => ?_) (fun i j hij hj => ?_)
  · by_cases e : i = c
    · rw [if_pos e]; exact hw
    · rw [if_neg e]; exact (Classical.choose_spec (hch i) (by omega)).1
  · have hic : i ≠ c := by omega
    have si := Classical.choose_spec (hch i) (by omega)
    by_cases e : j = c
    · rw [if_neg hic, if_pos e]
      intro z
      rw [z] at si
      exact hno i (by omega) si.2
    · have sj := Classical.choose_spec (hch j) (by omega)
      rw [if_neg hic, if_neg e]
      intro z
      rw [z] at si
      have := h3 i j (by omega) (by omega) (si.2.trans sj.2.symm)
      omega
theorem z_Li.add {n : Nat} {L : z_L} {c w : Nat} (h1 : c + 1 ≤ n) (h2 : ∀ j, j < c → ∃ a, a < n ∧ L.2 j = nI a) (h3 : ∀ i j, i < c → j < c → L.2 i = L.2 j → i = j) (hw : w < n) (hno : ∀ j, j < c → L.2 j ≠ nI w) : z_Li n (z_lD (z_lC L (nI (c + 1))) (upd L.2 c (nI w))) := by
  refine ⟨c + 1, h1, rfl, fun j hj => ?_, fun i j hi hj e => ?_⟩
  · show ∃ a, a < n ∧ upd L.2 c (nI w) j = nI a
    by_cases e : j = c
    · exact ⟨w, hw, by rw [e, q_us]⟩
    · rw [q_un e]; exact h2 j (by omega)
  · have e : upd L.2 c (nI w) i = upd L.2 c (nI w) j := e
    by_cases e1 : i = c
    · by_cases e2 : j = c
      · omega
      · rw [e1, q_us, q_un e2] at e
        exact absurd e.symm (hno j (by omega))
    · by_cases e2 : j = c
      · rw [e2, q_us, q_un e1] at e
        exact absurd e (hno i (by omega))
      · rw [q_un e1, q_un e2] at e
        exact h3 i j (by omega) (by omega) e
theorem z_Dy.sc {n k : Nat} {h : z_H} (x : Nat) (hx : x ≠ 2) (v : Int32) (a : z_Dy n k h) : z_Dy n k (z_hS h x v) := by
  obtain ⟨⟨c, hc, e⟩, b⟩ := a
  exact ⟨⟨c, hc, by show upd h.1 x v 2 = nI c; rw [q_un (Ne.symm hx)]; exact e⟩, b⟩
theorem z_ST.sc {h : z_H} (x : Nat) (hx : x ≠ 1) (v : Int32) : z_ST h (z_hS h x v) := ⟨by show upd h.1 x v 1 = h.1 1; exact q_un (Ne.symm hx), fun _ _ => rfl, rfl, rfl⟩
theorem s_rings {n k : Nat} {h : z_H} {M : z_M} {g : Nat → Int32} (hSt : z_St n k h) (hSE : z_SE M h) (hDy : z_Dy n k h) (hNE : z_NE k g h) {r : Nat} (hr : r < n) : ∃ (b : Int32) (h2 : z_H) (g2 : Nat → Int32), f_X0_pullBell h (nI r) = some (b, h2) ∧ f_X5_rings (z_mR M 6 g) (nI r) = some (b, z_mR M 6 g2) ∧ (b = 0 ∨ b = 1) ∧ z_NE k g2 h2 ∧ z_Dy n k h2 ∧ z_ST h h2 ∧ h2.2.1 5 = h.2.1 5 ∧ h2.2.2.2 = h.2.2.2 ∧ h2.1 3 = h.1 3 := by
  obtain ⟨s1, s2, s3, s4, s5, s6, s7, s8, s9, s10, s11⟩ := id hSt
  obtain ⟨m1, m2, m3, m4, m5, m6, m7, m8⟩ := id hSE
  obtain ⟨n0, n1, n2, n3, n4, n5, n6, nw, nl, no, nd, nt, nL, nf⟩ := id hNE
  obtain ⟨a, ha, hfl⟩ := s5 r hr
  obtain ⟨w, hw, hwi⟩ := s8 r hr
  obtain ⟨⟨ch, hch, hce⟩, d2, ⟨c, l1, l2, l3, l4⟩, d4, d5⟩ := id hDy
  have hr12 : r < 12 := by omega
  have e4 : M.2 4 r = h.2.1 4 r := m7 r hr12
  have e0 : M.2 0 r = nI a := (m3 r hr12).trans hfl
  have e3 : M.2 3 r = nI w := (m6 r hr12).trans hwi
  have g1 : g 1 = nI ch := n1.trans hce
  have g6 : g 6 = nI c := n6.trans l2
  have unh : z_NE k (upd g 5 (g 5 + 1)) (z_hS h 6 (h.1 6 + 1)) := by rw [n5]; exact hNE.st.2.2.2.2.2
  have dyu : z_Dy n k (z_hS h 6 (h.1 6 + 1)) := hDy.sc 6 (by decide) _
  rcases s10 r hr with hk | hk
  · by_cases hac : a + 1 ≤ ch
    · have lN := (hNE.st (v := nI ch - nI (a + 1))).2.1
      have dyc : (∃ c, c ≤ 500 ∧ (z_hS h 2 (nI ch - nI (a + 1))).1 2 = nI c) := ⟨ch - (a + 1), by omega, pk_sub hac⟩
      have hgw : ∀ j, j < 12 → (fun j => upd g 1 (nI ch - nI (a + 1)) (19 + j)) j = h.2.2.1.2 j := fun j hj => by
        show upd g 1 _ (19 + j) = _
        rw [q_un (by omega)]; exact nl j hj
      have hin : f_X5_inLine (z_mR M 6 (upd g 1 (nI ch - nI (a + 1)))) (nI w) = some (z_pl h.2.2.1.2 (nI w) c 0) := by
        have hg6 : (z_mR M 6 (upd g 1 (nI ch - nI (a + 1)))).2 6 6 = nI c := (q_un (f := g) (k := 1) (x := nI ch - nI (a + 1)) (show (6 : Nat) ≠ 1 by decide)).trans g6
        rw [q_inLine hg6 (by omega)]
        exact congrArg some (z_pl_cg c 0 (fun j h1 h2 => hgw j (by omega)))
      have hpo : f_X1_placeOf h.2.2.1 (nI w) = some (z_pl h.2.2.1.2 (nI w) c 0) := q_placeOf l2 (by omega)
      rcases z_pl_or (q := h.2.2.1.2) (v := nI w) c 0 (by omega) with ⟨hp, hno⟩ | ⟨j, j1, j2, j3, hp⟩
      · have hroom : c + 1 ≤ n := z_Li.room l3 l4 s1 hw (fun j hj => hno j (by omega) (by omega))
        have hap : f_X1_append h.2.2.1 (nI w) = some (z_lD (z_lC h.2.2.1 (nI (c + 1))) (upd h.2.2.1.2 c (nI w))) := by
          unfold f_X1_append
          rw [l2, if_neg (q_n0 (by omega)), if_neg (by rw [show (12 : Int32) = nI 12 from rfl, q_le (by omega) (by omega)]; omega), q_wr (by omega) (by omega)]
          show some (z_lD (z_lC h.2.2.1 (nI c + 1)) _) = _
          rw [q_s]
        refine ⟨1, z_hL (z_hS h 2 (nI ch - nI (a + 1))) (z_lD (z_lC h.2.2.1 (nI (c + 1))) (upd h.2.2.1.2 c (nI w))), upd (upd (upd g 1 (nI ch - nI (a + 1))) (19 + c) (nI w)) 6 (nI (c + 1)), ?_, ?_, Or.inr rfl, ?_, ⟨dyc, d2, z_Li.add hroom l3 l4 hw (fun j hj => hno j (by omega) (by omega)), d4, d5⟩, ⟨rfl, fun _ _ => rfl, rfl, rfl⟩, rfl, rfl, rfl⟩
        · unfold f_X0_pullBell f_X0_costFrom
          simp (disch := omega) only [q_rg, hk, hfl, hwi, hce, q_01, if_false, q_s, q_le, hac, if_true, hpo, hp, Option.bind_some, hap]
        · unfold f_X5_rings
          simp (disch := omega) only [q_mr, q_m6, q_at, e4, hk, Option.bind_some, if_true, q_at1, g1, e0, q_le, show ¬ ch ≤ a by omega, if_false, q_10, q_wr1, e3, q_mm, hin, hp, q_at6, show upd g 1 (nI ch - nI (a + 1)) 6 = nI c from (q_un (by decide)).trans g6, q_w19, show ∀ (x : Int32), upd (upd g 1 (nI ch - nI (a + 1))) (19 + c) x 6 = nI c from fun x => (q_un (by omega)).trans ((q_un (by decide)).trans g6), q_wr6, q_s]
        · refine z_NE.ln (h := z_hS h 2 (nI ch - nI (a + 1))) lN s2 rfl (fun i hi => ?_) (fun q h1 h2 => ?_)
          · show upd _ 6 _ (19 + i) = upd h.2.2.1.2 c (nI w) i
            rw [q_un (by omega)]
            by_cases e : i = c
            · rw [e, q_us, q_us]
            · rw [q_un (by omega), q_un e, q_un (by omega)]; exact nl i hi
          · rw [q_un h1, q_un (by omega)]
      · refine ⟨1, z_hS h 2 (nI ch - nI (a + 1)), upd g 1 (nI ch - nI (a + 1)), ?_, ?_, Or.inr rfl, lN, ⟨dyc, d2, ⟨c, l1, l2, l3, l4⟩, d4, d5⟩, z_ST.sc 2 (by decide) _, rfl, rfl, rfl⟩
        · unfold f_X0_pullBell f_X0_costFrom
          simp (disch := omega) only [q_rg, hk, hfl, hwi, hce, q_01, if_false, q_s, q_le, hac, if_true, hpo, hp, Option.bind_some, q_m1n]
        · unfold f_X5_rings
          simp (disch := omega) only [q_mr, q_m6, q_at, e4, hk, Option.bind_some, if_true, q_at1, g1, e0, q_le, show ¬ ch ≤ a by omega, if_false, q_10, q_wr1, e3, q_mm, q_s, hin, hp, q_m1n]
    · refine ⟨0, z_hS h 6 (h.1 6 + 1), upd g 5 (g 5 + 1), ?_, ?_, Or.inl rfl, unh, dyu, z_ST.sc 6 (by decide) _, rfl, rfl, rfl⟩
      · unfold f_X0_pullBell f_X0_costFrom
        simp (disch := omega) only [q_rg, hk, hfl, hce, q_01, if_false, q_s, q_le, hac]
      · unfold f_X5_rings
        simp (disch := omega) only [q_mr, q_m6, q_at, e4, hk, Option.bind_some, if_true, q_at1, g1, e0, q_le, show ch ≤ a by omega, q_at5, q_wr5, q_mm]
  · refine ⟨0, z_hS h 6 (h.1 6 + 1), upd g 5 (g 5 + 1), ?_, ?_, Or.inl rfl, unh, dyu, z_ST.sc 6 (by decide) _, rfl, rfl, rfl⟩
    · unfold f_X0_pullBell f_X0_costFrom
      simp (disch := omega) only [q_rg, hk, if_true]
    · unfold f_X5_rings
      simp (disch := omega) only [q_mr, q_m6, q_at, e4, hk, Option.bind_some, if_true, if_false, q_10, q_at5, q_wr5, q_mm]
