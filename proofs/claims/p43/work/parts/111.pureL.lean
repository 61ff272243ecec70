-- ===== what a number chooses, done to both =====
theorem p_below (v : Int32) {d : Nat} (h0 : 0 < d) (hd : d < 1000) : ∃ a, a < d ∧ f_L_below v (nI d) = some (nI a) := by
  obtain ⟨j, hj, e⟩ := pk_andE v (m := 2147483647) 31 (by decide)
  refine ⟨j % d, Nat.mod_lt _ h0, ?_⟩
  unfold f_L_below z_rm
  rw [e, if_neg (by rw [show (0 : Int32) = nI 0 from rfl, q_eq hd (by omega)]; omega), pk_rem hj h0 (by omega)]
  rfl
theorem q_1p (a : Nat) : 1 + nI a = nI (a + 1) := by
  rw [show (1 : Int32) = nI 1 from rfl, nI_add, Nat.add_comm]
theorem q_urs {R : Nat → Nat → Int32} {r : Nat} : z_ur R r (R r) = R := funext fun j => by
  by_cases e : j = r
  · rw [e, q_uu]
  · rw [q_uo e]
theorem q_v06 {f : Nat → Int32} {v : Int32} : z_wr f 0 6 v = some (upd f 0 v) := q_wn 0 (by omega) (by omega)
theorem q_v16 {f : Nat → Int32} {v : Int32} : z_wr f 1 6 v = some (upd f 1 v) := q_wn 1 (by omega) (by omega)
theorem q_v26 {f : Nat → Int32} {v : Int32} : z_wr f 2 6 v = some (upd f 2 v) := q_wn 2 (by omega) (by omega)
theorem q_v05 {f : Nat → Int32} {v : Int32} : z_wr f 0 5 v = some (upd f 0 v) := q_wn 0 (by omega) (by omega)
theorem q_wi1 {v lo hi : Nat} (h1 : lo ≤ v) (h2 : v ≤ hi) (h3 : hi < 1000) : f_X4_isWithin (nI v) (nI lo) (nI hi) = 1 := by
  unfold f_X4_isWithin
  rw [if_neg (by rw [q_lt (by omega) (by omega)]; omega), if_neg (by rw [q_lt (by omega) (by omega)]; omega)]
theorem a_room {n k : Nat} {h : z_H} {Q : z_Q} (H : z_I n k h Q) (hn : n < 12) {a b c : Nat} (ha : a ≤ 5) (hb : 1 ≤ b ∧ b ≤ 9) (hc : 1 ≤ c ∧ c ≤ 9) {g : Nat → Int32} (g0 : g 0 = nI a) (g1 : g 1 = nI b) (g2 : g 2 = nI c) (g3 : g 3 = -1) (g4 : g 4 = nI n) (g5 : g 5 = 0) : ∃ h2 : z_H, (∀ T : z_H, f_X4_addRoom (h, T) (nI a) (nI b) (nI c) = some (nI n, (h2, T)) ∧ x_X4_addRoom (h, T) (nI a) (nI b) (nI c) = none) ∧ z_I (n + 1) k h2 (z_qNR Q g) := by
  obtain ⟨hSt, hDy, hF, s, R, V, cc, L, rfl, hQ⟩ := H
  obtain ⟨s1, s2, s3, s4, s5, s6, s7, s8, s9, s10, s11⟩ := id hSt
  obtain ⟨d1, d2, ⟨q, l1, l2, l3, l4⟩, d4, d5⟩ := id hDy
  obtain ⟨⟨q0, q1, q2, q3, q4, q5⟩, qr, qv, qc, ql, qL⟩ := id hQ
  have w1 : f_X4_isWithin (nI a) 0 5 = 1 := q_wi1 (lo := 0) (hi := 5) (by omega) ha (by omega)
  have w2 : f_X4_isWithin (nI b) 1 9 = 1 := q_wi1 (lo := 1) (hi := 9) hb.1 hb.2 (by omega)
  have w3 : f_X4_isWithin (nI c) 1 9 = 1 := q_wi1 (lo := 1) (hi := 9) hc.1 hc.2 (by omega)
  have h12 : nI n < 12 := by rw [show (12 : Int32) = nI 12 from rfl, q_lt (by omega) (by omega)]; exact hn
  refine ⟨z_hR (z_hR (z_hR (z_hR (z_hR (z_hR (z_hS h 1 (nI (n + 1))) 0 (upd (h.2.1 0) n (nI a))) 1 (upd (h.2.1 1) n (nI b))) 2 (upd (h.2.1 2) n (nI c))) 3 (upd (h.2.1 3) n (nI n))) 4 (upd (h.2.1 4) n 0)) 5 (upd (h.2.1 5) n (-1)), fun T => ⟨?_, ?_⟩, ?_, ?_, ?_, upd (fun x => s x) 6 (s 6), z_ur R n g, V, cc, L, ?_, ?_⟩
  · unfold f_X4_addRoom f_X0_openRoom
    rw [w1, if_neg (by decide), w2, if_neg (by decide), w3, if_neg (by decide)]
    show (if h.1 1 < 12 then some (h.1 1, (z_hR (z_hR (z_hR (z_hR (z_hR (z_hR (z_hS h 1 (h.1 1 + 1)) 0 (z_rs (h.2.1 0) (h.1 1) (nI a))) 1 (z_rs (h.2.1 1) (h.1 1) (nI b))) 2 (z_rs (h.2.1 2) (h.1 1) (nI c))) 3 (z_rs (h.2.1 3) (h.1 1) (h.1 1))) 4 (z_rs (h.2.1 4) (h.1 1) 0)) 5 (z_rs (h.2.1 5) (h.1 1) (-1)), T)) else none) = _
    rw [s3, if_pos h12, q_rs (f := h.2.1 0) hn, q_rs (f := h.2.1 1) hn, q_rs (f := h.2.1 2) hn, q_rs (f := h.2.1 3) hn, q_rs (f := h.2.1 4) hn, q_rs (f := h.2.1 5) hn, q_s]
  · unfold x_X4_addRoom
    rw [w1, if_neg (by decide), w2, if_neg (by decide), w3, if_neg (by decide)]
    show (if h.1 1 < 12 then none else some 1) = _
    rw [s3, if_pos h12]
  · refine ⟨by omega, s2, rfl, s4, fun i hi => ?_, fun i hi => ?_, fun i hi => ?_, fun i hi => ?_, fun i j hi hj e => ?_, fun i hi => ?_, s11⟩
    · show ∃ z, z ≤ 5 ∧ upd (h.2.1 0) n (nI a) i = nI z
      by_cases x : i = n
      · rw [x, q_us]; exact ⟨a, ha, rfl⟩
      · rw [q_un x]; exact s5 i (by omega)
    · show ∃ z, 1 ≤ z ∧ z ≤ 9 ∧ upd (h.2.1 1) n (nI b) i = nI z
      by_cases x : i = n
      · rw [x, q_us]; exact ⟨b, hb.1, hb.2, rfl⟩
      · rw [q_un x]; exact s6 i (by omega)
    · show ∃ z, 1 ≤ z ∧ z ≤ 9 ∧ upd (h.2.1 2) n (nI c) i = nI z
      by_cases x : i = n
      · rw [x, q_us]; exact ⟨c, hc.1, hc.2, rfl⟩
      · rw [q_un x]; exact s7 i (by omega)
    · show ∃ z, z < n + 1 ∧ upd (h.2.1 3) n (nI n) i = nI z
      by_cases x : i = n
      · rw [x, q_us]; exact ⟨n, by omega, rfl⟩
      · rw [q_un x]
        obtain ⟨z, z1, z2⟩ := s8 i (by omega)
        exact ⟨z, by omega, z2⟩
    · have e : upd (h.2.1 3) n (nI n) i = upd (h.2.1 3) n (nI n) j := e
      by_cases x : i = n
      · by_cases y : j = n
        · omega
        · rw [x, q_us, q_un y] at e
          obtain ⟨z, z1, z2⟩ := s8 j (by omega)
          rw [z2, q_eq (by omega) (by omega)] at e
          omega
      · by_cases y : j = n
        · rw [y, q_us, q_un x] at e
          obtain ⟨z, z1, z2⟩ := s8 i (by omega)
          rw [z2, q_eq (by omega) (by omega)] at e
          omega
        · rw [q_un x, q_un y] at e
          exact s9 i j (by omega) (by omega) e
    · show upd (h.2.1 4) n 0 i = 0 ∨ upd (h.2.1 4) n 0 i = 1
      by_cases x : i = n
      · rw [x, q_us]; exact Or.inl rfl
      · rw [q_un x]; exact s10 i (by omega)
  · refine ⟨d1, fun i hi => ?_, ⟨q, by omega, l2, fun j hj => ?_, l4⟩, fun j hj => ?_, d5⟩
    · show upd (h.2.1 5) n (-1) i = -1 ∨ ∃ z, z ≤ 29 ∧ upd (h.2.1 5) n (-1) i = nI z
      by_cases x : i = n
      · rw [x, q_us]; exact Or.inl rfl
      · rw [q_un x]; exact d2 i (by omega)
    · obtain ⟨z, z1, z2⟩ := l3 j hj
      exact ⟨z, by omega, z2⟩
    · obtain ⟨x1, x2⟩ := d4 j hj
      refine ⟨x1, ?_⟩
      rcases x2 with y | ⟨r, z, y1, y2⟩ | ⟨r, z, y1, y2⟩
      · exact Or.inl y
      · exact Or.inr (Or.inl ⟨r, z, by omega, y2⟩)
      · exact Or.inr (Or.inr ⟨r, z, by omega, y2⟩)
  · intro j hj r hr e
    have e : h.2.2.2.2 3 j = nI r := e
    show h.2.2.2.2 1 j = upd (h.2.1 0) n (nI a) r
    by_cases x : r = n
    · rcases (d4 j hj).2 with ⟨y1, y2, y3⟩ | ⟨r', z, y1, y2, y3, y4, y5, y6⟩ | ⟨r', z, y1, y2, y3, y4, y5, y6⟩
      · rw [y2] at e; exact absurd e (q_m1e (by omega))
      · rw [y5] at e; exact absurd e (q_m1e (by omega))
      · rw [y5, q_eq (by omega) (by omega)] at e; omega
    · rw [q_un x]; exact hF j hj r (by omega) e
  · rw [show upd (fun x => s x) 6 (s 6) = s from q_uself s 6]; rfl
  · rw [show upd (fun x => s x) 6 (s 6) = s from q_uself s 6]
    refine ⟨⟨q0, q1, q2, q3, q4, q5⟩, fun i hi => ?_, qv, qc, ql, qL⟩
    by_cases x : i = n
    · rw [x, q_uu]
      refine ⟨?_, ?_, ?_, ?_, ?_, ?_⟩
      · show g 0 = upd (h.2.1 0) n (nI a) n
        rw [q_us, g0]
      · show g 1 = upd (h.2.1 1) n (nI b) n
        rw [q_us, g1]
      · show g 2 = upd (h.2.1 2) n (nI c) n
        rw [q_us, g2]
      · show g 3 = upd (h.2.1 5) n (-1) n
        rw [q_us, g3]
      · show g 4 = upd (h.2.1 3) n (nI n) n
        rw [q_us, g4]
      · show g 5 = upd (h.2.1 4) n 0 n
        rw [q_us, g5]
    · rw [q_uo x]
      obtain ⟨r0, r1, r2, r3, r4, r5⟩ := qr i (by omega)
      refine ⟨?_, ?_, ?_, ?_, ?_, ?_⟩
      · show R i 0 = upd (h.2.1 0) n (nI a) i
        rw [q_un x]; exact r0
      · show R i 1 = upd (h.2.1 1) n (nI b) i
        rw [q_un x]; exact r1
      · show R i 2 = upd (h.2.1 2) n (nI c) i
        rw [q_un x]; exact r2
      · show R i 3 = upd (h.2.1 5) n (-1) i
        rw [q_un x]; exact r3
      · show R i 4 = upd (h.2.1 3) n (nI n) i
        rw [q_un x]; exact r4
      · show R i 5 = upd (h.2.1 4) n 0 i
        rw [q_un x]; exact r5
theorem a_room12 {k : Nat} {h T : z_H} {Q : z_Q} (H : z_I 12 k h Q) {a b c : Nat} (ha : a ≤ 5) (hb : 1 ≤ b ∧ b ≤ 9) (hc : 1 ≤ c ∧ c ≤ 9) : x_X4_addRoom (h, T) (nI a) (nI b) (nI c) = some 1 := by
  have w1 : f_X4_isWithin (nI a) 0 5 = 1 := q_wi1 (lo := 0) (hi := 5) (by omega) ha (by omega)
  have w2 : f_X4_isWithin (nI b) 1 9 = 1 := q_wi1 (lo := 1) (hi := 9) hb.1 hb.2 (by omega)
  have w3 : f_X4_isWithin (nI c) 1 9 = 1 := q_wi1 (lo := 1) (hi := 9) hc.1 hc.2 (by omega)
  unfold x_X4_addRoom
  rw [w1, if_neg (by decide), w2, if_neg (by decide), w3, if_neg (by decide)]
  show (if h.1 1 < 12 then none else some 1) = _
  rw [H.1.2.2.1, if_neg (by decide)]
theorem a_serv {n k : Nat} {h : z_H} {Q : z_Q} (H : z_I n k h Q) (hk : k < 6) {a : Nat} (ha : 1 ≤ a ∧ a ≤ 4) {g : Nat → Int32} (g0 : g 0 = nI a) (g1 : g 1 = 0) (g2 : g 2 = -1) (g3 : g 3 = -1) : ∃ h2 : z_H, (∀ T : z_H, f_X4_addServant (h, T) (nI a) = some (nI k, (h2, T)) ∧ x_X4_addServant (h, T) (nI a) = none) ∧ z_I n (k + 1) h2 (z_qNV Q g) := by
  obtain ⟨hSt, hDy, hF, s, R, V, cc, L, rfl, hQ⟩ := H
  obtain ⟨s1, s2, s3, s4, s5, s6, s7, s8, s9, s10, s11⟩ := id hSt
  obtain ⟨d1, d2, d3, d4, d5⟩ := id hDy
  obtain ⟨⟨q0, q1, q2, q3, q4, q5⟩, qr, qv, qc, ql, qL⟩ := id hQ
  have w1 : f_X4_isWithin (nI a) 1 4 = 1 := q_wi1 (lo := 1) (hi := 4) ha.1 ha.2 (by omega)
  have h6 : nI k < 6 := by rw [show (6 : Int32) = nI 6 from rfl, q_lt (by omega) (by omega)]; exact hk
  have hk12 : k < 12 := by omega
  refine ⟨z_hG h (z_rt (z_gR (z_gR (z_gC h.2.2.2 (nI (k + 1))) 0 (upd (h.2.2.2.2 0) k (nI a))) 1 (upd (h.2.2.2.2 1) k 0)) k), fun T => ⟨?_, ?_⟩, ?_, ?_, ?_, s, R, z_ur V k g, cc, L, rfl, ?_⟩
  · unfold f_X4_addServant f_X3_hire
    rw [w1, if_neg (by decide)]
    show (if h.2.2.2.1 < 6 then some (h.2.2.2.1, (z_hG h (f_X3_rest (z_gR (z_gR (z_gC h.2.2.2 (h.2.2.2.1 + 1)) 0 (z_rs (h.2.2.2.2 0) h.2.2.2.1 (nI a))) 1 (z_rs (h.2.2.2.2 1) h.2.2.2.1 0)) h.2.2.2.1), T)) else none) = _
    rw [s4, if_pos h6, q_rs (f := h.2.2.2.2 0) hk12, q_rs (f := h.2.2.2.2 1) hk12, q_rest hk12, q_s]
  · unfold x_X4_addServant
    rw [w1, if_neg (by decide)]
    show (if h.2.2.2.1 < 6 then none else some 1) = _
    rw [s4, if_pos h6]
  · refine ⟨s1, by omega, s3, rfl, s5, s6, s7, s8, s9, s10, fun j hj => ?_⟩
    show ∃ z, 1 ≤ z ∧ z ≤ 4 ∧ upd (h.2.2.2.2 0) k (nI a) j = nI z
    by_cases x : j = k
    · rw [x, q_us]; exact ⟨a, ha.1, ha.2, rfl⟩
    · rw [q_un x]; exact s11 j (by omega)
  · refine ⟨d1, d2, d3, fun j hj => ?_, fun j j1 j2 => ?_⟩
    · show (∃ z, z ≤ 5 ∧ upd (h.2.2.2.2 1) k 0 j = nI z) ∧ z_Se n (upd (h.2.2.2.2 2) k (-1) j) (upd (h.2.2.2.2 3) k (-1) j) (upd (h.2.2.2.2 4) k 0 j)
      by_cases x : j = k
      · rw [x, q_us, q_us, q_us, q_us]
        exact ⟨⟨0, by omega, rfl⟩, Or.inl ⟨rfl, rfl, rfl⟩⟩
      · rw [q_un x, q_un x, q_un x, q_un x]; exact d4 j (by omega)
    · show upd (h.2.2.2.2 1) k 0 j = 0 ∧ upd (h.2.2.2.2 4) k 0 j = 0
      rw [q_un (by omega), q_un (by omega)]
      exact d5 j (by omega) j2
  · intro j hj r hr e
    have e : upd (h.2.2.2.2 3) k (-1) j = nI r := e
    show upd (h.2.2.2.2 1) k 0 j = h.2.1 0 r
    by_cases x : j = k
    · rw [x, q_us] at e; exact absurd e (q_m1e (by omega))
    · rw [q_un x] at e
      rw [q_un x]; exact hF j (by omega) r hr e
  · refine ⟨⟨q0, q1, q2, q3, q4, q5⟩, qr, fun j hj => ?_, qc, ql, qL⟩
    by_cases x : j = k
    · rw [x, q_uu]
      refine ⟨?_, ?_, ?_, ?_, fun z => absurd ⟨?_, ?_⟩ z⟩
      · show g 0 = upd (h.2.2.2.2 0) k (nI a) k
        rw [q_us, g0]
      · show g 1 = upd (h.2.2.2.2 1) k 0 k
        rw [q_us, g1]
      · show g 2 = upd (h.2.2.2.2 2) k (-1) k
        rw [q_us, g2]
      · show g 3 = upd (h.2.2.2.2 3) k (-1) k
        rw [q_us, g3]
      · show upd (h.2.2.2.2 2) k (-1) k = -1
        rw [q_us]
      · show upd (h.2.2.2.2 3) k (-1) k = -1
        rw [q_us]
    · rw [q_uo x]
      obtain ⟨v0, v1, v2, v3, v4⟩ := qv j (by omega)
      refine ⟨?_, ?_, ?_, ?_, fun z => ?_⟩
      · show V j 0 = upd (h.2.2.2.2 0) k (nI a) j
        rw [q_un x]; exact v0
      · show V j 1 = upd (h.2.2.2.2 1) k 0 j
        rw [q_un x]; exact v1
      · show V j 2 = upd (h.2.2.2.2 2) k (-1) j
        rw [q_un x]; exact v2
      · show V j 3 = upd (h.2.2.2.2 3) k (-1) j
        rw [q_un x]; exact v3
      · show V j 4 = upd (h.2.2.2.2 4) k 0 j
        rw [q_un x]
        refine v4 (fun w => z ⟨?_, ?_⟩)
        · show upd (h.2.2.2.2 2) k (-1) j = -1
          rw [q_un x]; exact w.1
        · show upd (h.2.2.2.2 3) k (-1) j = -1
          rw [q_un x]; exact w.2
theorem a_serv6 {n : Nat} {h T : z_H} {Q : z_Q} (H : z_I n 6 h Q) {a : Nat} (ha : 1 ≤ a ∧ a ≤ 4) : x_X4_addServant (h, T) (nI a) = some 1 := by
  have w1 : f_X4_isWithin (nI a) 1 4 = 1 := q_wi1 (lo := 1) (hi := 4) ha.1 ha.2 (by omega)
  unfold x_X4_addServant
  rw [w1, if_neg (by decide)]
  show (if h.2.2.2.1 < 6 then none else some 1) = _
  rw [H.1.2.2.2.1, if_neg (by decide)]
theorem a_ring {n k : Nat} {h : z_H} {Q : z_Q} (H : z_I n k h Q) {r : Nat} (hr : r < n) : ∃ (b : Int32) (h2 : z_H) (Q2 : z_Q), (b = 0 ∨ b = 1) ∧ (∀ T : z_H, f_X4_ring (h, T) (nI r) = some (b, (h2, T))) ∧ f_X5_ring Q (nI r) = some (b, Q2) ∧ z_I n k h2 Q2 := by
  obtain ⟨hSt, hDy, hF, s, R, V, cc, L, rfl, hQ⟩ := H
  have s1 := hSt.1
  have r3 := (hQ.2.1 r hr).2.2.2.1
  obtain ⟨b, h2, s2, c2, L2, x1, x2, x3, x4, x5, x6, x7, x8⟩ := p_rings hSt hDy hQ hr
  have hFL : ∀ hh : z_H, z_FL n k hh → ∀ h3, z_ST hh h3 → z_mP1 hh h3 → z_FL n k h3 := fun hh F h3 a7 a5 j hj q hq e => by
    rw [a5.1] at e ⊢
    rw [a7.2.1 0 (by decide)]
    exact F j hj q hq e
  rcases hDy.2.1 r hr with hw | ⟨a, a1, hw⟩
  · have hD1 : z_Dy n k (z_hR h 5 (upd (h.2.1 5) r 0)) := hDy.wt (Or.inr ⟨0, by omega, rfl⟩)
    have hT1 : z_ST h (z_hR h 5 (upd (h.2.1 5) r 0)) := z_ST.wt _
    obtain ⟨b', h3, s3, c3, L3, y1, y2, y3, y4, y5, y6, y7, y8⟩ := p_rings (hSt.mv hT1) hD1 (hQ.rw r 0).1 hr
    have y1' := y1
    rw [q_app5, x1, Option.bind_some] at y1
    have y1 := Option.some.inj y1
    have eb : b = b' := congrArg Prod.fst y1
    have eh : z_hR h2 5 (upd (h.2.1 5) r 0) = h3 := congrArg Prod.snd y1
    refine ⟨b', h3, _, y3, fun T => ?_, ?_, (hSt.mv hT1).mv y6, y5, hFL (z_hR h 5 (upd (h.2.1 5) r 0)) hF _ y6 y8, _, _, _, _, _, rfl, y4⟩
    · unfold f_X4_ring f_X0_isWaiting
      rw [q_rqR hr s1 hSt.2.2.1, Option.bind_some]
      show (f_X0_pullBell h (nI r)).bind _ = _
      rw [x1, Option.bind_some]
      show (if (if z_rg (h2.2.1 5) (nI r) = -1 then (0 : Int32) else 1) = 0 then (z_bo b).bind (fun x38 => some (x38, (z_hR h2 5 (z_rs (h2.2.1 5) (nI r) 0), T))) else _) = _
      rw [x7, q_rg (by omega), if_pos hw, if_pos rfl, q_bor x3, Option.bind_some, q_rs (by omega), eb, eh]
    · unfold f_X5_ring
      have e0 : (if (0 : Int32) < -1 then (-1 : Int32) else 0) = 0 := by decide
      simp (disch := omega) only [q_ai, Option.bind_some, r3.trans hw, e0, q_w26, z_qR, y2, q_bor y3]
  · refine ⟨b, h2, _, x3, fun T => ?_, ?_, hSt.mv x6, x5, hFL _ hF _ x6 x8, _, _, _, _, _, rfl, x4⟩
    · unfold f_X4_ring f_X0_isWaiting
      rw [q_rqR hr s1 hSt.2.2.1, Option.bind_some]
      show (f_X0_pullBell h (nI r)).bind _ = _
      rw [x1, Option.bind_some]
      show (if (if z_rg (h2.2.1 5) (nI r) = -1 then (0 : Int32) else 1) = 0 then _ else (z_bo b).bind (fun x38 => some (x38, (h2, T)))) = _
      have hwn : ¬ h.2.1 5 r = -1 := by rw [hw]; exact q_m1 (by omega)
      rw [x7, q_rg (by omega), if_neg hwn, if_neg (show ¬ (1 : Int32) = 0 by decide), q_bor x3, Option.bind_some]
    · unfold f_X5_ring
      have e0 : (if (0 : Int32) < R r 3 then R r 3 else 0) = R r 3 := by
        rw [r3, hw]
        by_cases q : (0 : Int32) < nI a
        · rw [if_pos q]
        · rw [if_neg q]
          rw [show (0 : Int32) = nI 0 from rfl, q_lt (by omega) (by omega)] at q
          rw [show a = 0 by omega]
          rfl
      simp (disch := omega) only [q_ai, Option.bind_some, e0, q_w26, q_uself, q_urs, z_qR, x2, q_bor x3]
theorem a_cutN {n k : Nat} {h : z_H} {Q : z_Q} (H : z_I n k h Q) : ∃ x, f_X0_countCutWires h = some x ∧ f_X5_cut Q = some x := by
  obtain ⟨hSt, hDy, hF, s, R, V, cc, L, rfl, hQ⟩ := H
  have hn := hSt.1
  have lp : ∀ (m i fu fv : Nat) (u : Int32), i + m = n → m < fu → m < fv → ∃ x, f_X0_countCutWires_L4 h fu u (nI i) = some x ∧ f_X5_cut_L13 (s, (n, R), (k, V), (cc, L)) fv u (nI n) (nI i) = some x := fun m => by
    induction m with
    | zero =>
      intro i fu fv u hm hf hv
      obtain ⟨fu, rfl⟩ : ∃ q, fu = q + 1 := ⟨fu - 1, by omega⟩
      obtain ⟨fv, rfl⟩ : ∃ q, fv = q + 1 := ⟨fv - 1, by omega⟩
      refine ⟨u, ?_, ?_⟩
      · rw [f_X0_countCutWires_L4, hSt.2.2.1, if_pos (by rw [q_le (by omega) (by omega)]; omega)]
      · rw [f_X5_cut_L13]; (try dsimp only); rw [if_pos (by rw [q_le (by omega) (by omega)]; omega)]
    | succ m ih =>
      intro i fu fv u hm hf hv
      obtain ⟨fu, rfl⟩ : ∃ q, fu = q + 1 := ⟨fu - 1, by omega⟩
      obtain ⟨fv, rfl⟩ : ∃ q, fv = q + 1 := ⟨fv - 1, by omega⟩
      obtain ⟨x, x1, x2⟩ := ih (i + 1) fu fv (u + h.2.1 4 i) (by omega) (by omega) (by omega)
      have r5 := (hQ.2.1 i (by omega)).2.2.2.2.2
      refine ⟨x, ?_, ?_⟩
      · rw [f_X0_countCutWires_L4, hSt.2.2.1, if_neg (by rw [q_le (by omega) (by omega)]; omega), q_rg (by omega), q_s]; exact x1
      · have hnr : (nI n ≤ nI i) = False := eq_false (by rw [q_le (by omega) (by omega)]; omega)
        rw [f_X5_cut_L13]
        simp (disch := omega) only [hnr, if_false, q_ai, Option.bind_some, r5, q_s, x2]
  obtain ⟨x, x1, x2⟩ := lp n 0 z_FU z_F14 0 (by omega) (by unfold z_FU; omega) (by unfold z_F14; omega)
  have x1 : f_X0_countCutWires_L4 h z_FU 0 0 = some x := x1
  have x2 : f_X5_cut_L13 (s, (n, R), (k, V), (cc, L)) z_F14 0 (nI n) 0 = some x := x2
  refine ⟨x, ?_, ?_⟩
  · unfold f_X0_countCutWires
    rw [x1]; rfl
  · unfold f_X5_cut
    simp only [x2, Option.bind_some]
theorem z_I.ct {n k r : Nat} {h : z_H} {s : Nat → Int32} {R V : Nat → Nat → Int32} {c : Nat} {L : Nat → Int32} {v : Int32} (H : z_I n k h (s, (n, R), (k, V), (c, L))) (hr : r < n) (hv : v = 0 ∨ v = 1) : z_I n k (z_hR h 4 (upd (h.2.1 4) r v)) (s, (n, z_ur R r (upd (R r) 5 v)), (k, V), (c, L)) := by
  obtain ⟨hSt, hDy, hF, s', R', V', c', L', e, hQ⟩ := H
  obtain ⟨s1, s2, s3, s4, s5, s6, s7, s8, s9, s10, s11⟩ := hSt
  cases e
  refine ⟨⟨s1, s2, s3, s4, s5, s6, s7, s8, s9, fun i hi => ?_, s11⟩, hDy, hF, _, _, _, _, _, rfl, (hQ.rw r v).2.2⟩
  show upd (h.2.1 4) r v i = 0 ∨ upd (h.2.1 4) r v i = 1
  by_cases x : i = r
  · rw [x, q_us]; exact hv
  · rw [q_un x]; exact s10 i hi
theorem a_cut0 {n k r : Nat} {h T : z_H} {Q : z_Q} (H : z_I n k h Q) (hr : r < n) : (h.2.1 4 r = 0 → x_X4_cut (h, T) (nI r) = none ∧ x_X4_mend (h, T) (nI r) = some 1 ∧ f_X4_cut (h, T) (nI r) = (f_X0_countCutWires (z_hR h 4 (upd (h.2.1 4) r 1))).bind (fun x42 => some (x42, (z_hR h 4 (upd (h.2.1 4) r 1), T)))) ∧ (h.2.1 4 r = 1 → x_X4_cut (h, T) (nI r) = some 1 ∧ x_X4_mend (h, T) (nI r) = none ∧ f_X4_mend (h, T) (nI r) = (f_X0_countCutWires (z_hR h 4 (upd (h.2.1 4) r 0))).bind (fun x42 => some (x42, (z_hR h 4 (upd (h.2.1 4) r 0), T)))) := by
  have hn := H.1.1
  have rq := q_rqR hr hn H.1.2.2.1 (T := T)
  have xq : x_X4_requireRoom (h, T) (nI r) = none := by
    unfold x_X4_requireRoom
    rw [if_neg (q_n0 (by omega))]
    show (if nI r < h.1 1 then none else some 2) = _
    rw [H.1.2.2.1, if_pos (by rw [q_lt (by omega) (by omega)]; exact hr)]
  have wc : f_X0_isWireCut h (nI r) = if h.2.1 4 r = 1 then 1 else 0 := by
    unfold f_X0_isWireCut
    rw [q_rg (by omega)]
  refine ⟨fun e => ⟨?_, ?_, ?_⟩, fun e => ⟨?_, ?_, ?_⟩⟩
  · unfold x_X4_cut
    rw [xq, rq, Option.bind_some]
    show z_or none (if f_X0_isWireCut h (nI r) = 0 then none else some 1) = _
    rw [wc, e, if_neg (show ¬ (0 : Int32) = 1 by decide), if_pos rfl]; rfl
  · unfold x_X4_mend
    rw [xq, rq, Option.bind_some]
    show z_or none (if f_X0_isWireCut h (nI r) = 0 then some 1 else none) = _
    rw [wc, e, if_neg (show ¬ (0 : Int32) = 1 by decide), if_pos rfl]; rfl
  · unfold f_X4_cut
    rw [rq, Option.bind_some]
    show (if f_X0_isWireCut h (nI r) = 0 then (f_X0_countCutWires (z_hR h 4 (z_rs (h.2.1 4) (nI r) 1))).bind (fun x42 => some (x42, (z_hR h 4 (z_rs (h.2.1 4) (nI r) 1), T))) else none) = _
    rw [wc, e, if_neg (show ¬ (0 : Int32) = 1 by decide), if_pos rfl, q_rs (by omega)]
  · unfold x_X4_cut
    rw [xq, rq, Option.bind_some]
    show z_or none (if f_X0_isWireCut h (nI r) = 0 then none else some 1) = _
    rw [wc, e, if_pos rfl, if_neg (by decide)]; rfl
  · unfold x_X4_mend
    rw [xq, rq, Option.bind_some]
    show z_or none (if f_X0_isWireCut h (nI r) = 0 then some 1 else none) = _
    rw [wc, e, if_pos rfl, if_neg (by decide)]; rfl
  · unfold f_X4_mend
    rw [rq, Option.bind_some]
    show (if f_X0_isWireCut h (nI r) = 0 then none else (f_X0_countCutWires (z_hR h 4 (z_rs (h.2.1 4) (nI r) 0))).bind (fun x42 => some (x42, (z_hR h 4 (z_rs (h.2.1 4) (nI r) 0), T)))) = _
    rw [wc, e, if_pos rfl, if_neg (by decide), q_rs (by omega)]
