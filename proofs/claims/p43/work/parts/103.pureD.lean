-- ===== the servants of a minute =====
def z_FL (n k : Nat) (h : z_H) : Prop := ∀ j, j < k → ∀ r, r < n → h.2.2.2.2 3 j = nI r → h.2.2.2.2 1 j = h.2.1 0 r
def z_mP2 (m : Nat) (h h2 : z_H) : Prop := h2.1 2 = h.1 2 ∧ (∃ a b, a + b ≤ m ∧ h2.1 3 = h.1 3 + nI a ∧ h2.1 4 = h.1 4 + nI b) ∧ (∀ i, h2.2.1 5 i = h.2.1 5 i ∨ h2.2.1 5 i = -1) ∧ h2.2.2.1 = h.2.2.1
theorem q_p0 (x : Int32) : x = x + nI 0 := by
  have : nI 0 = 0 := rfl
  rw [this]; grind
theorem q_p1 (x : Int32) : x + 1 = x + nI 1 := rfl
theorem z_mP2.rf (m : Nat) (h : z_H) : z_mP2 m h h := ⟨rfl, ⟨0, 0, by omega, q_p0 _, q_p0 _⟩, fun _ => Or.inl rfl, rfl⟩
theorem z_mP2.tr {m m2 : Nat} {h h2 h3 : z_H} (a : z_mP2 m h h2) (b : z_mP2 m2 h2 h3) : z_mP2 (m + m2) h h3 := by
  obtain ⟨a1, ⟨x, y, a2, a3, a4⟩, a5, a6⟩ := a
  obtain ⟨b1, ⟨x', y', b2, b3, b4⟩, b5, b6⟩ := b
  refine ⟨b1.trans a1, ⟨x + x', y + y', by omega, by rw [b3, a3, Int32.add_assoc, nI_add], by rw [b4, a4, Int32.add_assoc, nI_add]⟩, fun i => ?_, b6.trans a6⟩
  rcases b5 i with e | e
  · rw [e]; exact a5 i
  · exact Or.inr e
theorem p_id1 {n k : Nat} {h : z_H} {s : Nat → Int32} {R V : Nat → Nat → Int32} {c : Nat} {L : Nat → Int32} (hSt : z_St n k h) (hQ : z_QR n k h s R V c L) {j : Nat} (hj : j < k) (hi : z_id h j) : f_X5_isIdle (s, (n, R), (k, V), (c, L)) (nI j) = some 1 := by
  have hk := hSt.2.1
  obtain ⟨v0, v1, v2, v3, v4⟩ := hQ.2.2.1 j hj
  unfold f_X5_isIdle
  simp (disch := omega) only [q_ai, Option.bind_some, v2.trans hi.1, v3.trans hi.2, q_0lm, if_false, q_bo1]
theorem p_id0 {n k : Nat} {h : z_H} {s : Nat → Int32} {R V : Nat → Nat → Int32} {c : Nat} {L : Nat → Int32} (hSt : z_St n k h) (hDy : z_Dy n k h) (hQ : z_QR n k h s R V c L) {j : Nat} (hj : j < k) (hi : ¬ z_id h j) : f_X5_isIdle (s, (n, R), (k, V), (c, L)) (nI j) = some 0 := by
  have hk := hSt.2.1
  have hn := hSt.1
  obtain ⟨v0, v1, v2, v3, v4⟩ := hQ.2.2.1 j hj
  unfold f_X5_isIdle
  rcases (hDy.2.2.2.1 j hj).2 with ⟨x, y, z⟩ | ⟨r, b, x1, x2, x3, x4, x5, x6⟩ | ⟨r, b, x1, x2, x3, x4, x5, x6⟩
  · exact absurd ⟨x, y⟩ hi
  · simp (disch := omega) only [q_ai, Option.bind_some, v2.trans x4, q_0le, if_true, q_bo0]
  · simp (disch := omega) only [q_ai, Option.bind_some, v2.trans x4, v3.trans x5, q_0lm, if_false, q_0le, if_true, q_bo0]
theorem z_FL.sv {n k : Nat} {h h2 : z_H} {G : z_G} (F : z_FL n k h) {j : Nat} (h0 : ∀ x i, i ≠ j → G.2 x i = h.2.2.2.2 x i) (hr : h2.2.1 0 = h.2.1 0) (hg : h2.2.2.2 = G) (hj : ∀ r, r < n → G.2 3 j = nI r → G.2 1 j = h.2.1 0 r) : z_FL n k h2 := fun i hi r hr2 e => by
  rw [hg] at e ⊢
  rw [hr]
  by_cases ee : i = j
  · rw [ee] at e ⊢; exact hj r hr2 e
  · rw [h0 1 i ee]; rw [h0 3 i ee] at e; exact F i hi r hr2 e
/-- a servant that is busy, in one minute -/
theorem p_work {n k : Nat} {h : z_H} {s : Nat → Int32} {R V : Nat → Nat → Int32} {c : Nat} {L : Nat → Int32} (hSt : z_St n k h) (hDy : z_Dy n k h) (hQ : z_QR n k h s R V c L) {j : Nat} (hj : j < k) (hni : ¬ z_id h j) : ∃ (h2 : z_H) (s2 : Nat → Int32) (R2 V2 : Nat → Nat → Int32), (∀ fu, f_X0_letServantsMove_L2 (fu + 1) (nI j) h = f_X0_letServantsMove_L2 fu (nI (j + 1)) h2) ∧ (∀ fu u1, f_X5_pass_L111 (fu + 1) u1 (nI j) (s, (n, R), (k, V), (c, L)) = f_X5_pass_L111 fu u1 (nI (j + 1)) (s2, (n, R2), (k, V2), (c, L))) ∧ z_QR n k h2 s2 R2 V2 c L ∧ z_Dy n k h2 ∧ z_ST h h2 ∧ z_KP n k h h2 ∧ z_mP2 1 h h2 ∧ (z_FL n k h → z_FL n k h2) := by
  obtain ⟨s1, s2, s3, s4, s5, s6, s7, s8, s9, s10, s11⟩ := id hSt
  obtain ⟨⟨q0, q1, q2, q3, q4, q5⟩, qr, qv, qc, ql, qL⟩ := id hQ
  obtain ⟨d1, d2, d3, d4, d5⟩ := id hDy
  have hj12 : j < 12 := by omega
  have hnk : ¬ (h.2.2.2.1 ≤ nI j) := by rw [s4, q_le (by omega) (by omega)]; omega
  have hnq : (nI k ≤ nI j) = False := eq_false (by rw [q_le (by omega) (by omega)]; omega)
  obtain ⟨hfl, hse⟩ := d4 j hj
  obtain ⟨v0, v1, v2, v3, v4⟩ := qv j hj
  have v4 := v4 hni
  have pid := p_id0 hSt hDy hQ hj hni
  have hid : f_X3_isIdle h.2.2.2 (nI j) = 0 := by
    unfold f_X3_isIdle
    rw [q_rg (f := h.2.2.2.2 2) hj12, q_rg (f := h.2.2.2.2 3) hj12]
    by_cases e : h.2.2.2.2 2 j = -1
    · rw [if_pos e, if_neg (fun z => hni ⟨e, z⟩)]
    · rw [if_neg e]
  have hex : ∃ a, 1 ≤ a ∧ a ≤ 9 ∧ h.2.2.2.2 4 j = nI a := by
    rcases hse with ⟨x, y, z⟩ | ⟨r, a, x1, x2, x3, x4, x5, x6⟩ | ⟨r, a, x1, x2, x3, x4, x5, x6⟩
    · exact absurd ⟨x, y⟩ hni
    · exact ⟨a, x2, x3, x6⟩
    · exact ⟨a, x2, x3, x6⟩
  obtain ⟨a, a1, a9, hle⟩ := hex
  have e4 := v4.trans hle
  by_cases ha : 2 ≤ a
  · have hgt : ¬ (nI (a - 1) ≤ 0) := by rw [show (0 : Int32) = nI 0 from rfl, q_le (by omega) (by omega)]; omega
    have hk : ∀ r i, i ≠ j → (z_gR h.2.2.2 4 (upd (h.2.2.2.2 4) j (nI (a - 1)))).2 r i = h.2.2.2.2 r i := fun r i hi => q_gk h.2.2.2 4 j _ r i hi
    refine ⟨z_hG h (z_gR h.2.2.2 4 (upd (h.2.2.2.2 4) j (nI (a - 1)))), s, R, z_ur V j (upd (V j) 4 (nI (a - 1))), fun fu => ?_, fun fu u1 => ?_, hQ.sv hk ?_ ?_ ?_ ?_ ?_, hDy.sv hj hfl ?_ (fun r _ _ => hk r), ⟨rfl, fun _ _ => rfl, rfl, rfl⟩, z_KP.sv (fun _ _ z => z) (fun _ _ _ _ _ => Or.inl rfl) (fun _ => rfl), ⟨rfl, ⟨0, 0, by omega, q_p0 _, q_p0 _⟩, fun _ => Or.inl rfl, rfl⟩, fun F => z_FL.sv F hk rfl rfl (fun r hr e => F j hj r hr e)⟩
    · rw [f_X0_letServantsMove_L2, if_neg hnk, if_pos hid, q_rg (f := h.2.2.2.2 4) hj12, hle, q_d1 a1, if_neg hgt, q_rs hj12, q_s]
    · rw [f_X5_pass_L111]
      simp (disch := omega) only [hnq, if_false, q_ai, Option.bind_some, pid, if_true, q_w45, e4, q_d1 a1, q_uu, q_us, hgt, z_qV, q_s]
    · simp (disch := omega) only [q_un, z_gR, q_uo, v0]
    · simp (disch := omega) only [q_un, z_gR, q_uo, v1]
    · simp (disch := omega) only [q_un, z_gR, q_uo, v2]
    · simp (disch := omega) only [q_un, z_gR, q_uo, v3]
    · intro _
      simp (disch := omega) only [q_us, z_gR, q_uu]
    · show z_Se n (h.2.2.2.2 2 j) (h.2.2.2.2 3 j) (upd (h.2.2.2.2 4) j _ j)
      rw [q_us]
      rcases hse with ⟨x, y, z⟩ | ⟨r, b, x1, x2, x3, x4, x5, x6⟩ | ⟨r, b, x1, x2, x3, x4, x5, x6⟩
      · exact absurd ⟨x, y⟩ hni
      · exact Or.inr (Or.inl ⟨r, a - 1, x1, by omega, by omega, x4, x5, rfl⟩)
      · exact Or.inr (Or.inr ⟨r, a - 1, x1, by omega, by omega, x4, x5, rfl⟩)
  · have ha1 : a = 1 := by omega
    subst ha1
    have hkG : ∀ r i, i ≠ j → (z_rt (z_gR h.2.2.2 4 (upd (h.2.2.2.2 4) j 0)) j).2 r i = h.2.2.2.2 r i := fun r i hi => (z_rt.k _ j r i hi).trans (q_gk h.2.2.2 4 j 0 r i hi)
    rcases hse with ⟨x, y, z⟩ | ⟨r, b, x1, x2, x3, x4, x5, x6⟩ | ⟨r, b, x1, x2, x3, x4, x5, x6⟩
    · exact absurd ⟨x, y⟩ hni
    · have hr12 : r < 12 := by omega
      have e2 := v2.trans x4
      obtain ⟨fl, hfl5, hfle⟩ := s5 r x1
      obtain ⟨ne, hne1, hne9, hnee⟩ := s7 r x1
      obtain ⟨r0, r1, r2, r3, r4, r5⟩ := qr r x1
      have m0 := r0.trans hfle
      have mn := r2.trans hnee
      have cl : ∀ (fu : Nat) (h2 : z_H), f_X0_arrive (z_hG h (z_rt (z_gR h.2.2.2 4 (upd (h.2.2.2.2 4) j 0)) j)) (nI j) (nI r) = h2 → f_X0_letServantsMove_L2 (fu + 1) (nI j) h = f_X0_letServantsMove_L2 fu (nI (j + 1)) h2 := fun fu h2 e => by
        rw [f_X0_letServantsMove_L2, if_neg hnk, if_pos hid, q_rg (f := h.2.2.2.2 4) hj12, hle, q_h10, if_pos (by decide), q_rg (f := h.2.2.2.2 2) hj12, x4, if_neg (q_m1 (by omega)), q_rs hj12, q_rest hj12, e, q_s]
      rcases d2 r x1 with hw | ⟨w, hw29, hw⟩
      · have hk : ∀ q i, i ≠ j → (z_gR (z_rt (z_gR h.2.2.2 4 (upd (h.2.2.2.2 4) j 0)) j) 1 (upd ((z_rt (z_gR h.2.2.2 4 (upd (h.2.2.2.2 4) j 0)) j).2 1) j (nI fl))).2 q i = h.2.2.2.2 q i := fun q i hi => (q_gk _ 1 j _ q i hi).trans (hkG q i hi)
        have e3 := r3.trans hw
        refine ⟨z_hG (z_hS h 4 (h.1 4 + 1)) (z_gR (z_rt (z_gR h.2.2.2 4 (upd (h.2.2.2.2 4) j 0)) j) 1 (upd ((z_rt (z_gR h.2.2.2 4 (upd (h.2.2.2.2 4) j 0)) j).2 1) j (nI fl))), upd s 3 (s 3 + 1), R, z_ur V j (upd (upd (upd (upd (V j) 4 0) 2 (-1)) 3 (-1)) 1 (nI fl)), fun fu => cl fu _ ?_, fun fu u1 => ?_, z_QR.sv (h := z_hS h 4 (h.1 4 + 1)) (by rw [q3]; exact hQ.st.2.2.2.1) hk ?_ ?_ ?_ ?_ ?_, (hDy.sc 4 (by decide) _).sv hj ⟨fl, hfl5, ?_⟩ ?_ (fun q _ _ => hk q), ⟨rfl, fun _ _ => rfl, rfl, rfl⟩, z_KP.sv (fun _ _ z => z) (fun q hq _ i hi => ?_) (fun _ => rfl), ⟨rfl, ⟨0, 1, by omega, q_p0 _, rfl⟩, fun _ => Or.inl rfl, rfl⟩, fun F => z_FL.sv F hk rfl rfl (fun q hq e => ?_)⟩
        · unfold f_X0_arrive
          show (if z_rg (h.2.1 5) (nI r) = -1 then _ else _) = _
          rw [q_rg hr12, if_pos hw]
          show z_hG (z_hS h 4 (h.1 4 + 1)) (z_gR (z_rt (z_gR h.2.2.2 4 (upd (h.2.2.2.2 4) j 0)) j) 1 (z_rs ((z_rt (z_gR h.2.2.2 4 (upd (h.2.2.2.2 4) j 0)) j).2 1) (nI j) (z_rg (h.2.1 0) (nI r)))) = _
          rw [q_rg hr12, hfle, q_rs hj12]
        · rw [f_X5_pass_L111]
          simp (disch := omega) only [hnq, if_false, q_ai, Option.bind_some, pid, if_true, q_w45, e4, q_h10, q_uu, q_us, q_h00, q_w25, q_w35, q_un, e2, q_0le, q_w15, m0, e3, q_0lm, z_qV, z_qS, q_ur2, q_s]
        · simp (disch := omega) only [q_un, z_rt, z_gR, q_uo, v0]
        · simp (disch := omega) only [q_us, z_gR, q_uu]
        · simp (disch := omega) only [q_us, q_un, z_rt, z_gR, q_uu, q_uo]
        · simp (disch := omega) only [q_us, q_un, z_rt, z_gR, q_uu, q_uo]
        · intro _
          simp (disch := omega) only [q_us, q_un, z_rt, z_gR, q_uu, q_uo]
        · show upd _ j (nI fl) j = nI fl
          rw [q_us]
        · show z_Se n (upd _ j (-1) j) (upd _ j (-1) j) (upd _ j 0 j)
          rw [q_us, q_us, q_us]
          exact Or.inl ⟨rfl, rfl, rfl⟩
        · by_cases e : i = j
          · refine Or.inr ?_
            show upd _ j (-1) i ≠ nI q
            rw [e, q_us]
            exact q_m1e (by omega)
          · exact Or.inl (hk 3 i e)
        · have e : upd _ j (-1) j = nI q := e
          rw [q_us] at e
          exact absurd e (q_m1e (by omega))
      · have hwn : ¬ h.2.1 5 r = -1 := by rw [hw]; exact q_m1 (by omega)
        have e3 := r3.trans hw
        have hk : ∀ q i, i ≠ j → (z_gR (z_gR (z_gR (z_rt (z_gR h.2.2.2 4 (upd (h.2.2.2.2 4) j 0)) j) 1 (upd ((z_rt (z_gR h.2.2.2 4 (upd (h.2.2.2.2 4) j 0)) j).2 1) j (nI fl))) 3 (upd ((z_rt (z_gR h.2.2.2 4 (upd (h.2.2.2.2 4) j 0)) j).2 3) j (nI r))) 4 (upd ((z_rt (z_gR h.2.2.2 4 (upd (h.2.2.2.2 4) j 0)) j).2 4) j (nI ne))).2 q i = h.2.2.2.2 q i := fun q i hi => (q_gk (z_gR (z_gR (z_rt (z_gR h.2.2.2 4 (upd (h.2.2.2.2 4) j 0)) j) 1 (upd ((z_rt (z_gR h.2.2.2 4 (upd (h.2.2.2.2 4) j 0)) j).2 1) j (nI fl))) 3 (upd ((z_rt (z_gR h.2.2.2 4 (upd (h.2.2.2.2 4) j 0)) j).2 3) j (nI r))) 4 j _ q i hi).trans ((q_gk (z_gR (z_rt (z_gR h.2.2.2 4 (upd (h.2.2.2.2 4) j 0)) j) 1 (upd ((z_rt (z_gR h.2.2.2 4 (upd (h.2.2.2.2 4) j 0)) j).2 1) j (nI fl))) 3 j _ q i hi).trans ((q_gk _ 1 j _ q i hi).trans (hkG q i hi)))
        have hN1 : z_QR n k (z_hR (z_hS h 3 (h.1 3 + 1)) 5 (upd (h.2.1 5) r (-1))) (upd s 2 (s 2 + 1)) (z_ur R r (upd (R r) 3 (-1))) V c L := by
          have x1 : z_QR n k (z_hS h 3 (h.1 3 + 1)) (upd s 2 (s 2 + 1)) R V c L := by rw [q2]; exact hQ.st.2.2.1
          exact (x1.rw r (-1)).1
        have hD1 : z_Dy n k (z_hR (z_hS h 3 (h.1 3 + 1)) 5 (upd (h.2.1 5) r (-1))) := z_Dy.wt (h := z_hS h 3 (h.1 3 + 1)) (Or.inl rfl) (hDy.sc 3 (by decide) _)
        refine ⟨z_hG (z_hR (z_hS h 3 (h.1 3 + 1)) 5 (upd (h.2.1 5) r (-1))) (z_gR (z_gR (z_gR (z_rt (z_gR h.2.2.2 4 (upd (h.2.2.2.2 4) j 0)) j) 1 (upd ((z_rt (z_gR h.2.2.2 4 (upd (h.2.2.2.2 4) j 0)) j).2 1) j (nI fl))) 3 (upd ((z_rt (z_gR h.2.2.2 4 (upd (h.2.2.2.2 4) j 0)) j).2 3) j (nI r))) 4 (upd ((z_rt (z_gR h.2.2.2 4 (upd (h.2.2.2.2 4) j 0)) j).2 4) j (nI ne))), upd s 2 (s 2 + 1), z_ur R r (upd (R r) 3 (-1)), z_ur V j (upd (upd (upd (upd (upd (upd (V j) 4 0) 2 (-1)) 3 (-1)) 1 (nI fl)) 3 (nI r)) 4 (nI ne)), fun fu => cl fu _ ?_, fun fu u1 => ?_, hN1.sv hk ?_ ?_ ?_ ?_ ?_, hD1.sv hj ⟨fl, hfl5, ?_⟩ ?_ (fun q _ _ => hk q), ?_, z_KP.sv (fun i hi z => ?_) (fun q hq z i hi => ?_) (fun z => absurd (z r x1) hwn), ⟨rfl, ⟨1, 0, by omega, rfl, q_p0 _⟩, fun i => ?_, rfl⟩, fun F => z_FL.sv F hk rfl rfl (fun q hq e => ?_)⟩
        · unfold f_X0_arrive
          show (if z_rg (h.2.1 5) (nI r) = -1 then _ else _) = _
          rw [q_rg hr12, if_neg hwn]
          show z_hG (z_hR (z_hS h 3 (h.1 3 + 1)) 5 (z_rs (h.2.1 5) (nI r) (-1))) (z_gR (z_gR (z_gR (z_rt (z_gR h.2.2.2 4 (upd (h.2.2.2.2 4) j 0)) j) 1 (z_rs ((z_rt (z_gR h.2.2.2 4 (upd (h.2.2.2.2 4) j 0)) j).2 1) (nI j) (z_rg (h.2.1 0) (nI r)))) 3 (z_rs ((z_rt (z_gR h.2.2.2 4 (upd (h.2.2.2.2 4) j 0)) j).2 3) (nI j) (nI r))) 4 (z_rs ((z_rt (z_gR h.2.2.2 4 (upd (h.2.2.2.2 4) j 0)) j).2 4) (nI j) (z_rg (h.2.1 2) (nI r)))) = _
          rw [q_rg (f := h.2.1 0) hr12, hfle, q_rg (f := h.2.1 2) hr12, hnee, q_rs hr12, q_rs (v := nI fl) hj12, q_rs (v := nI r) hj12, q_rs (v := nI ne) hj12]
        · rw [f_X5_pass_L111]
          simp (disch := omega) only [hnq, if_false, q_ai, Option.bind_some, pid, if_true, q_w45, e4, q_h10, q_uu, q_us, q_h00, q_w25, q_w35, q_un, e2, q_0le, q_w15, m0, e3, q_w26, mn, z_qV, z_qS, z_qR, q_ur2, q_s]
        · simp (disch := omega) only [q_un, z_rt, z_gR, q_uo, v0]
        · simp (disch := omega) only [q_un, q_us, z_gR, q_uu, q_uo]
        · simp (disch := omega) only [q_us, q_un, z_rt, z_gR, q_uu, q_uo]
        · simp (disch := omega) only [q_us, q_un, z_rt, z_gR, q_uu, q_uo]
        · intro _
          simp (disch := omega) only [q_us, q_un, z_rt, z_gR, q_uu, q_uo]
        · show upd _ j (nI fl) j = nI fl
          rw [q_us]
        · show z_Se n (upd _ j (-1) j) (upd _ j (nI r) j) (upd _ j (nI ne) j)
          rw [q_us, q_us, q_us]
          exact Or.inr (Or.inr ⟨r, ne, x1, hne1, hne9, rfl, rfl, rfl⟩)
        · exact (z_ST.sc 3 (by decide) _).tr ((z_ST.wt (h := z_hS h 3 (h.1 3 + 1)) _).tr ⟨rfl, fun _ _ => rfl, rfl, rfl⟩)
        · show upd (h.2.1 5) r (-1) i = -1
          by_cases e : i = r
          · rw [e, q_us]
          · rw [q_un e]; exact z
        · by_cases e : i = j
          · refine Or.inr ?_
            show upd _ j (nI r) i ≠ nI q
            rw [e, q_us]
            intro y
            rw [q_eq (by omega) (by omega)] at y
            exact hwn (by rw [y]; exact z)
          · exact Or.inl (hk 3 i e)
        · show upd (h.2.1 5) r (-1) i = _ ∨ upd (h.2.1 5) r (-1) i = -1
          by_cases e : i = r
          · rw [e, q_us]; exact Or.inr rfl
          · rw [q_un e]; exact Or.inl rfl
        · have e : upd _ j (nI r) j = nI q := e
          rw [q_us, q_eq (by omega) (by omega)] at e
          show upd _ j (nI fl) j = _
          rw [q_us, ← e]
          exact hfle.symm
    · have e2 := v2.trans x4
      refine ⟨z_hG h (z_rt (z_gR h.2.2.2 4 (upd (h.2.2.2.2 4) j 0)) j), s, R, z_ur V j (upd (upd (upd (V j) 4 0) 2 (-1)) 3 (-1)), fun fu => ?_, fun fu u1 => ?_, hQ.sv hkG ?_ ?_ ?_ ?_ ?_, hDy.sv hj hfl ?_ (fun q _ _ => hkG q), ⟨rfl, fun _ _ => rfl, rfl, rfl⟩, z_KP.sv (fun _ _ z => z) (fun q hq _ i hi => ?_) (fun _ => rfl), ⟨rfl, ⟨0, 0, by omega, q_p0 _, q_p0 _⟩, fun _ => Or.inl rfl, rfl⟩, fun F => z_FL.sv F hkG rfl rfl (fun q hq e => ?_)⟩
      · rw [f_X0_letServantsMove_L2, if_neg hnk, if_pos hid, q_rg (f := h.2.2.2.2 4) hj12, hle, q_h10, if_pos (by decide), q_rg (f := h.2.2.2.2 2) hj12, if_pos x4, q_rs hj12, q_rest hj12, q_s]
      · rw [f_X5_pass_L111]
        simp (disch := omega) only [hnq, if_false, q_ai, Option.bind_some, pid, if_true, q_w45, e4, q_h10, q_uu, q_us, q_h00, q_w25, q_w35, q_un, e2, q_0lm, z_qV, q_ur2, q_s]
      · simp (disch := omega) only [q_un, z_rt, z_gR, q_uo, v0]
      · simp (disch := omega) only [q_un, z_rt, z_gR, q_uo, v1]
      · simp (disch := omega) only [q_us, q_un, z_rt, z_gR, q_uu, q_uo]
      · simp (disch := omega) only [q_us, q_un, z_rt, z_gR, q_uu, q_uo]
      · intro _
        simp (disch := omega) only [q_us, q_un, z_rt, z_gR, q_uu, q_uo]
      · show z_Se n (upd _ j (-1) j) (upd _ j (-1) j) (upd _ j 0 j)
        rw [q_us, q_us, q_us]
        exact Or.inl ⟨rfl, rfl, rfl⟩
      · by_cases e : i = j
        · refine Or.inr ?_
          show upd _ j (-1) i ≠ nI q
          rw [e, q_us]
          exact q_m1e (by omega)
        · exact Or.inl (hkG 3 i e)
      · have e : upd _ j (-1) j = nI q := e
        rw [q_us] at e
        exact absurd e (q_m1e (by omega))
theorem p_moves {n k : Nat} {c : Nat} {L : Nat → Int32} : ∀ (m j fu fv : Nat) (u1 : Int32) (h : z_H) (s : Nat → Int32) (R V : Nat → Nat → Int32), j + m = k → m < fu → m < fv → z_St n k h → z_Dy n k h → z_QR n k h s R V c L → ∃ (h2 : z_H) (s2 : Nat → Int32) (R2 V2 : Nat → Nat → Int32), f_X0_letServantsMove_L2 fu (nI j) h = some h2 ∧ f_X5_pass_L111 fv u1 (nI j) (s, (n, R), (k, V), (c, L)) = some (u1, (s2, (n, R2), (k, V2), (c, L))) ∧ z_QR n k h2 s2 R2 V2 c L ∧ z_Dy n k h2 ∧ z_ST h h2 ∧ z_KP n k h h2 ∧ z_mP2 m h h2 ∧ (z_FL n k h → z_FL n k h2)
  | 0, j, fu + 1, fv + 1, u1, h, s, R, V, hm, _, _, hSt, hDy, hQ => by
    have hk6 := hSt.2.1
    have s4 := hSt.2.2.2.1
    refine ⟨h, s, R, V, ?_, ?_, hQ, hDy, z_ST.rf h, z_KP.rf n k h, z_mP2.rf 0 h, id⟩
    · rw [f_X0_letServantsMove_L2, if_pos (by rw [s4, q_le (by omega) (by omega)]; omega)]
    · rw [f_X5_pass_L111]; (try dsimp only); rw [if_pos (by rw [q_le (by omega) (by omega)]; omega)]
  | m + 1, j, fu + 1, fv + 1, u1, h, s, R, V, hm, h1, h2, hSt, hDy, hQ => by
    have hk6 := hSt.2.1
    have s4 := hSt.2.2.2.1
    have hj : j < k := by omega
    have hnk : ¬ (h.2.2.2.1 ≤ nI j) := by rw [s4, q_le (by omega) (by omega)]; omega
    have hnq : (nI k ≤ nI j) = False := eq_false (by rw [q_le (by omega) (by omega)]; omega)
    by_cases hi : z_id h j
    · obtain ⟨h2, s2, R2, V2, a1, a2, a3, a4, a5, a6, a7, a8⟩ := p_moves m (j + 1) fu fv u1 h s R V (by omega) (by omega) (by omega) hSt hDy hQ
      refine ⟨h2, s2, R2, V2, ?_, ?_, a3, a4, a5, a6, by have := (z_mP2.rf 1 h).tr a7; rw [Nat.add_comm] at this; exact this, a8⟩
      · have hid : ¬ f_X3_isIdle h.2.2.2 (nI j) = 0 := by
          unfold f_X3_isIdle
          rw [q_rg (f := h.2.2.2.2 2) (by omega), q_rg (f := h.2.2.2.2 3) (by omega), if_pos hi.1, if_pos hi.2]
          decide
        rw [f_X0_letServantsMove_L2, if_neg hnk, if_neg hid, q_s]; exact a1
      · rw [f_X5_pass_L111]
        simp (disch := omega) only [hnq, if_false, q_ai, Option.bind_some, p_id1 hSt hQ hj hi, q_10, q_s, a2]
    · obtain ⟨h3, s3', R3, V3, b1, b2, b3, b4, b5, b6, b7, b8⟩ := p_work hSt hDy hQ hj hi
      obtain ⟨h2, s2, R2, V2, a1, a2, a3, a4, a5, a6, a7, a8⟩ := p_moves m (j + 1) fu fv u1 h3 s3' R3 V3 (by omega) (by omega) (by omega) (hSt.mv b5) b4 b3
      exact ⟨h2, s2, R2, V2, by rw [b1]; exact a1, by rw [b2]; exact a2, a3, a4, b5.tr a5, b6.tr a6, by have := b7.tr a7; rw [Nat.add_comm] at this; exact this, fun F => a8 (b8 F)⟩
