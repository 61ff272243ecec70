-- ===== the house by hand: its rows are the house's =====
theorem q_uu {f : Nat → Nat → Int32} {k : Nat} {g : Nat → Int32} : z_ur f k g k = g := if_pos rfl
theorem q_uo {f : Nat → Nat → Int32} {k j : Nat} {g : Nat → Int32} (h : j ≠ k) : z_ur f k g j = f j := if_neg h
theorem q_ur2 {f : Nat → Nat → Int32} {k : Nat} {g g2 : Nat → Int32} : z_ur (z_ur f k g) k g2 = z_ur f k g2 := funext fun j => by
  by_cases e : j = k
  · rw [e, q_uu, q_uu]
  · rw [q_uo e, q_uo e, q_uo e]
theorem q_u2 {f : Nat → Int32} {k : Nat} {x y : Int32} : upd (upd f k x) k y = upd f k y := funext fun j => by
  by_cases e : j = k
  · rw [e, q_us, q_us]
  · rw [q_un e, q_un e, q_un e]
theorem q_ai {i n : Nat} (h : i < n) (hn : n < 1000) : z_ai (nI i) n = some i := by
  unfold z_ai
  rw [if_neg (by rw [q_cl (by omega)]; exact fun z => z.elim (q_n0 (by omega)) (by omega)), q_cl (by omega)]
theorem q_ln {a : Nat} (h : a < 14) : z_ln (nI a) = some a := by
  unfold z_ln
  rw [if_neg (by rw [q_cl (by omega)]; exact fun z => z.elim (q_n0 (by omega)) (by omega)), q_cl (by omega)]
theorem q_n0F {a : Nat} (h : a < 1000) : (nI a < 0) = False := eq_false (q_n0 h)
theorem q_0le {a : Nat} (h : a < 1000) : ((0 : Int32) ≤ nI a) = True := eq_true (by rw [show (0 : Int32) = nI 0 from rfl, q_le (by omega) (by omega)]; omega)
theorem q_mlt : ((-1 : Int32) < 0) = True := eq_true (by decide)
theorem q_0lm : ((0 : Int32) ≤ -1) = False := eq_false (by decide)
theorem q_wn (j : Nat) {f : Nat → Int32} {n : Nat} {v : Int32} (h : j < n) (hn : n < 1000) : z_wr f (nI j) n v = some (upd f j v) := q_wr h hn
theorem q_w26 {f : Nat → Int32} {v : Int32} : z_wr f 3 6 v = some (upd f 3 v) := q_wn 3 (by omega) (by omega)
theorem q_w46 {f : Nat → Int32} {v : Int32} : z_wr f 4 6 v = some (upd f 4 v) := q_wn 4 (by omega) (by omega)
theorem q_w56 {f : Nat → Int32} {v : Int32} : z_wr f 5 6 v = some (upd f 5 v) := q_wn 5 (by omega) (by omega)
theorem q_w15 {f : Nat → Int32} {v : Int32} : z_wr f 1 5 v = some (upd f 1 v) := q_wn 1 (by omega) (by omega)
theorem q_w25 {f : Nat → Int32} {v : Int32} : z_wr f 2 5 v = some (upd f 2 v) := q_wn 2 (by omega) (by omega)
theorem q_w35 {f : Nat → Int32} {v : Int32} : z_wr f 3 5 v = some (upd f 3 v) := q_wn 3 (by omega) (by omega)
theorem q_w45 {f : Nat → Int32} {v : Int32} : z_wr f 4 5 v = some (upd f 4 v) := q_wn 4 (by omega) (by omega)
def z_qr (h : z_H) (f : Nat → Int32) (i : Nat) : Prop := f 0 = h.2.1 0 i ∧ f 1 = h.2.1 1 i ∧ f 2 = h.2.1 2 i ∧ f 3 = h.2.1 5 i ∧ f 4 = h.2.1 3 i ∧ f 5 = h.2.1 4 i
def z_qv (h : z_H) (f : Nat → Int32) (j : Nat) : Prop := f 0 = h.2.2.2.2 0 j ∧ f 1 = h.2.2.2.2 1 j ∧ f 2 = h.2.2.2.2 2 j ∧ f 3 = h.2.2.2.2 3 j ∧ (¬ z_id h j → f 4 = h.2.2.2.2 4 j)
def z_QR (n k : Nat) (h : z_H) (s : Nat → Int32) (R V : Nat → Nat → Int32) (c : Nat) (L : Nat → Int32) : Prop := (s 0 = h.1 0 ∧ s 1 = h.1 2 ∧ s 2 = h.1 3 ∧ s 3 = h.1 4 ∧ s 4 = h.1 5 ∧ s 5 = h.1 6) ∧ (∀ i, i < n → z_qr h (R i) i) ∧ (∀ j, j < k → z_qv h (V j) j) ∧ c ≤ 12 ∧ h.2.2.1.1 = nI c ∧ (∀ p, p < c → L p = h.2.2.1.2 p)
theorem z_QR.st {n k : Nat} {h : z_H} {s : Nat → Int32} {R V : Nat → Nat → Int32} {c : Nat} {L : Nat → Int32} (H : z_QR n k h s R V c L) {v : Int32} : z_QR n k (z_hS h 0 v) (upd s 0 v) R V c L ∧ z_QR n k (z_hS h 2 v) (upd s 1 v) R V c L ∧ z_QR n k (z_hS h 3 v) (upd s 2 v) R V c L ∧ z_QR n k (z_hS h 4 v) (upd s 3 v) R V c L ∧ z_QR n k (z_hS h 5 v) (upd s 4 v) R V c L ∧ z_QR n k (z_hS h 6 v) (upd s 5 v) R V c L := by
  obtain ⟨⟨a0, a1, a2, a3, a4, a5⟩, b⟩ := H
  exact ⟨⟨⟨rfl, a1, a2, a3, a4, a5⟩, b⟩, ⟨⟨a0, rfl, a2, a3, a4, a5⟩, b⟩, ⟨⟨a0, a1, rfl, a3, a4, a5⟩, b⟩, ⟨⟨a0, a1, a2, rfl, a4, a5⟩, b⟩, ⟨⟨a0, a1, a2, a3, rfl, a5⟩, b⟩, ⟨⟨a0, a1, a2, a3, a4, rfl⟩, b⟩⟩
theorem z_QR.rw {n k : Nat} {h : z_H} {s : Nat → Int32} {R V : Nat → Nat → Int32} {c : Nat} {L : Nat → Int32} (H : z_QR n k h s R V c L) (r : Nat) (v : Int32) : z_QR n k (z_hR h 5 (upd (h.2.1 5) r v)) s (z_ur R r (upd (R r) 3 v)) V c L ∧ z_QR n k (z_hR h 3 (upd (h.2.1 3) r v)) s (z_ur R r (upd (R r) 4 v)) V c L ∧ z_QR n k (z_hR h 4 (upd (h.2.1 4) r v)) s (z_ur R r (upd (R r) 5 v)) V c L := by
  obtain ⟨a, b, d⟩ := H
  refine ⟨⟨a, fun i hi => ?_, d⟩, ⟨a, fun i hi => ?_, d⟩, ⟨a, fun i hi => ?_, d⟩⟩ <;>
  · obtain ⟨x0, x1, x2, x3, x4, x5⟩ := b i hi
    by_cases e : i = r
    · rw [e] at x0 x1 x2 x3 x4 x5 ⊢
      rw [q_uu]
      refine ⟨?_, ?_, ?_, ?_, ?_, ?_⟩ <;> first | exact x0 | exact x1 | exact x2 | exact x3 | exact x4 | exact x5 | (show v = upd _ r v r; rw [q_us])
    · rw [q_uo e]
      refine ⟨?_, ?_, ?_, ?_, ?_, ?_⟩ <;> first | exact x0 | exact x1 | exact x2 | exact x3 | exact x4 | exact x5 | (show _ = upd _ r v i; rw [q_un e]; first | exact x3 | exact x4 | exact x5)
theorem z_QR.sv {n k : Nat} {h : z_H} {s : Nat → Int32} {R V : Nat → Nat → Int32} {c : Nat} {L : Nat → Int32} (H : z_QR n k h s R V c L) {j : Nat} {G : z_G} {g : Nat → Int32} (h0 : ∀ x i, i ≠ j → G.2 x i = h.2.2.2.2 x i) (e0 : g 0 = G.2 0 j) (e1 : g 1 = G.2 1 j) (e2 : g 2 = G.2 2 j) (e3 : g 3 = G.2 3 j) (e4 : ¬ (G.2 2 j = -1 ∧ G.2 3 j = -1) → g 4 = G.2 4 j) : z_QR n k (z_hG h G) s R (z_ur V j g) c L := by
  obtain ⟨a, b, d, e⟩ := H
  refine ⟨a, b, fun i hi => ?_, e⟩
  by_cases ee : i = j
  · rw [ee, q_uu]; exact ⟨e0, e1, e2, e3, e4⟩
  · rw [q_uo ee]
    obtain ⟨x0, x1, x2, x3, x4⟩ := d i hi
    refine ⟨x0.trans (h0 0 i ee).symm, x1.trans (h0 1 i ee).symm, x2.trans (h0 2 i ee).symm, x3.trans (h0 3 i ee).symm, fun z => (x4 fun w => z ?_).trans (h0 4 i ee).symm⟩
    exact ⟨(h0 2 i ee).trans w.1, (h0 3 i ee).trans w.2⟩
theorem z_QR.ln {n k : Nat} {h : z_H} {s : Nat → Int32} {R V : Nat → Nat → Int32} {c c2 : Nat} {L L2 : Nat → Int32} (H : z_QR n k h s R V c L) {Lh : z_L} (h1 : c2 ≤ 12) (h2 : Lh.1 = nI c2) (h3 : ∀ p, p < c2 → L2 p = Lh.2 p) : z_QR n k (z_hL h Lh) s R V c2 L2 := ⟨H.1, H.2.1, H.2.2.1, h1, h2, h3⟩
theorem p_place2 {n k : Nat} {s : Nat → Int32} {R V : Nat → Nat → Int32} {c : Nat} {L : Nat → Int32} {v : Int32} (hc12 : c ≤ 12) : ∀ (m i fu : Nat), i + m = c → m < fu → f_X5_place_L2 (s, (n, R), (k, V), (c, L)) fu v (nI i) = some (z_pl L v m i)
  | 0, i, fu + 1, hi, _ => by
    rw [f_X5_place_L2]; (try dsimp only); rw [if_pos (by rw [q_le (by omega) (by omega)]; omega)]; rfl
  | m + 1, i, fu + 1, hi, hf => by
    rw [f_X5_place_L2]; (try dsimp only); rw [if_neg (by rw [q_le (by omega) (by omega)]; omega), q_at (by omega) (by omega)]
    show (if L i = v then some (nI i) else f_X5_place_L2 (s, (n, R), (k, V), (c, L)) fu v (nI i + 1)) = _
    unfold z_pl
    by_cases e : L i = v
    · rw [if_pos e, if_pos e]
    · rw [if_neg e, if_neg e, q_s]
      exact p_place2 hc12 m (i + 1) fu (by omega) (by omega)
theorem p_place {n k : Nat} {s : Nat → Int32} {R V : Nat → Nat → Int32} {c : Nat} {L : Nat → Int32} {v : Int32} (hc12 : c ≤ 12) : f_X5_place (s, (n, R), (k, V), (c, L)) v = some (z_pl L v c 0) := p_place2 hc12 c 0 z_F14 (by omega) (by unfold z_F14; omega)
theorem p_r83 {n k : Nat} {s : Nat → Int32} {R V : Nat → Nat → Int32} {c : Nat} {L : Nat → Int32} {v : Int32} {f : Nat → Int32} (hc12 : c ≤ 12) : ∀ (m i fu : Nat), i + m = c → m < fu → f_X5_rings_L83 fu v (nI i) (s, (n, R), (k, V), (c, L)) (c + 1) (z_cp f L i) = some (v, z_cp f L c)
  | 0, i, fu + 1, hi, _ => by
    rw [f_X5_rings_L83]; (try dsimp only); rw [if_pos (by rw [q_le (by omega) (by omega)]; omega), show i = c by omega]
  | m + 1, i, fu + 1, hi, hf => by
    rw [f_X5_rings_L83]; (try dsimp only); rw [if_neg (by rw [q_le (by omega) (by omega)]; omega), q_at (by omega) (by omega), Option.bind_some, q_wr (by omega) (by omega), Option.bind_some, q_s, z_cp.s]
    exact p_r83 hc12 m (i + 1) fu (by omega) (by omega)
theorem p_r83a {n k : Nat} {s : Nat → Int32} {R V : Nat → Nat → Int32} {c : Nat} {L : Nat → Int32} {v : Int32} {f : Nat → Int32} (hc12 : c ≤ 12) : f_X5_rings_L83 z_F14 v 0 (s, (n, R), (k, V), (c, L)) (c + 1) f = some (v, z_cp f L c) := by
  have e := p_r83 (n := n) (k := k) (s := s) (R := R) (V := V) (L := L) (v := v) (f := f) hc12 c 0 z_F14 (by omega) (by unfold z_F14; omega)
  rw [show z_cp f L 0 = f from funext fun j => if_neg (by omega)] at e
  exact e
theorem q_ile {a b d : Int32} (h : a ≤ b) (h2 : b ≤ d) : a ≤ d := by
  rw [Int32.le_iff_toInt_le] at *
  omega
theorem q_irf {a : Int32} : a ≤ a := by rw [Int32.le_iff_toInt_le]; omega
def z_mP1 (h h2 : z_H) : Prop := h2.2.2.2 = h.2.2.2 ∧ h2.1 3 = h.1 3 ∧ h2.1 4 = h.1 4 ∧ h2.1 2 ≤ h.1 2
theorem z_mP1.rf (h : z_H) : z_mP1 h h := ⟨rfl, rfl, rfl, q_irf⟩
theorem z_mP1.tr {h h2 h3 : z_H} (a : z_mP1 h h2) (b : z_mP1 h2 h3) : z_mP1 h h3 := ⟨b.1.trans a.1, b.2.1.trans a.2.1, b.2.2.1.trans a.2.2.1, q_ile b.2.2.2 a.2.2.2⟩
theorem p_rings {n k : Nat} {h : z_H} {s : Nat → Int32} {R V : Nat → Nat → Int32} {c : Nat} {L : Nat → Int32} (hSt : z_St n k h) (hDy : z_Dy n k h) (hQ : z_QR n k h s R V c L) {r : Nat} (hr : r < n) : ∃ (b : Int32) (h2 : z_H) (s2 : Nat → Int32) (c2 : Nat) (L2 : Nat → Int32), f_X0_pullBell h (nI r) = some (b, h2) ∧ f_X5_rings (s, (n, R), (k, V), (c, L)) (nI r) = some (b, (s2, (n, R), (k, V), (c2, L2))) ∧ (b = 0 ∨ b = 1) ∧ z_QR n k h2 s2 R V c2 L2 ∧ z_Dy n k h2 ∧ z_ST h h2 ∧ h2.2.1 5 = h.2.1 5 ∧ z_mP1 h h2 := by
  obtain ⟨s1, s2, s3, s4, s5, s6, s7, s8, s9, s10, s11⟩ := id hSt
  obtain ⟨⟨q0, q1, q2, q3, q4, q5⟩, qr, qv, qc, ql, qL⟩ := id hQ
  obtain ⟨a, ha, hfl⟩ := s5 r hr
  obtain ⟨w, hw, hwi⟩ := s8 r hr
  obtain ⟨⟨ch, hch, hce⟩, d2, ⟨c', l1, l2, l3, l4⟩, d4, d5⟩ := id hDy
  have hcc : c' = c := by
    have e := l2.symm.trans ql
    rw [q_eq (by omega) (by omega)] at e
    exact e
  subst hcc
  obtain ⟨r0, r1, r2, r3, r4, r5⟩ := qr r hr
  have e4 := r4.trans hwi
  have e0 := r0.trans hfl
  have g1 : s 1 = nI ch := q1.trans hce
  have unh : z_QR n k (z_hS h 6 (h.1 6 + 1)) (upd s 5 (s 5 + 1)) R V c' L := by rw [q5]; exact hQ.st.2.2.2.2.2
  have dyu : z_Dy n k (z_hS h 6 (h.1 6 + 1)) := hDy.sc 6 (by decide) _
  rcases s10 r hr with hk | hk
  · have e5 := r5.trans hk
    by_cases hac : a + 1 ≤ ch
    · have lN := (hQ.st (v := nI ch - nI (a + 1))).2.1
      have dyc : (∃ c, c ≤ 500 ∧ (z_hS h 2 (nI ch - nI (a + 1))).1 2 = nI c) := ⟨ch - (a + 1), by omega, pk_sub hac⟩
      have hp1 : (z_hS h 2 (nI ch - nI (a + 1))).1 2 ≤ h.1 2 := by
        rw [hce]
        show nI ch - nI (a + 1) ≤ nI ch
        rw [pk_sub hac, q_le (by omega) (by omega)]
        omega
      have hin : ∀ s3, f_X5_place (s3, (n, R), (k, V), (c', L)) (nI w) = some (z_pl h.2.2.1.2 (nI w) c' 0) := fun s3 => by
        rw [p_place qc]
        exact congrArg some (z_pl_cg c' 0 (fun j h1 h2 => qL j (by omega)))
      have hpo : f_X1_placeOf h.2.2.1 (nI w) = some (z_pl h.2.2.1.2 (nI w) c' 0) := q_placeOf l2 (by omega)
      rcases z_pl_or (q := h.2.2.1.2) (v := nI w) c' 0 (by omega) with ⟨hp, hno⟩ | ⟨j, j1, j2, j3, hp⟩
      · have hroom : c' + 1 ≤ n := z_Li.room l3 l4 s1 hw (fun j hj => hno j (by omega) (by omega))
        have hap : f_X1_append h.2.2.1 (nI w) = some (z_lD (z_lC h.2.2.1 (nI (c' + 1))) (upd h.2.2.1.2 c' (nI w))) := by
          unfold f_X1_append
          rw [l2, if_neg (q_n0 (by omega)), if_neg (by rw [show (12 : Int32) = nI 12 from rfl, q_le (by omega) (by omega)]; omega), q_wr (by omega) (by omega)]
          show some (z_lD (z_lC h.2.2.1 (nI c' + 1)) _) = _
          rw [q_s]
        refine ⟨1, z_hL (z_hS h 2 (nI ch - nI (a + 1))) (z_lD (z_lC h.2.2.1 (nI (c' + 1))) (upd h.2.2.1.2 c' (nI w))), upd s 1 (nI ch - nI (a + 1)), c' + 1, upd (z_cp (fun _ => 0) L c') c' (nI w), ?_, ?_, Or.inr rfl, lN.ln (by omega) rfl (fun p hp => ?_), ⟨dyc, d2, z_Li.add hroom l3 l4 hw (fun j hj => hno j (by omega) (by omega)), d4, d5⟩, ⟨rfl, fun _ _ => rfl, rfl, rfl⟩, rfl, rfl, rfl, rfl, hp1⟩
        · unfold f_X0_pullBell f_X0_costFrom
          simp (disch := omega) only [q_rg, hk, hfl, hwi, hce, q_01, if_false, q_s, q_le, hac, if_true, hpo, hp, Option.bind_some, hap]
        · unfold f_X5_rings
          simp (disch := omega) only [q_ai, Option.bind_some, e5, q_01, if_false, e0, g1, q_s, q_le, hac, if_true, z_qS, z_qL, e4, hin, hp, q_mlt, q_ln, p_r83a, q_wr]
        · show upd (z_cp (fun _ => 0) L c') c' (nI w) p = upd h.2.2.1.2 c' (nI w) p
          by_cases e : p = c'
          · rw [e, q_us, q_us]
          · rw [q_un e, q_un e]
            show (if p < c' then L p else 0) = _
            rw [if_pos (by omega)]
            exact qL p (by omega)
      · refine ⟨1, z_hS h 2 (nI ch - nI (a + 1)), upd s 1 (nI ch - nI (a + 1)), c', L, ?_, ?_, Or.inr rfl, lN, ⟨dyc, d2, ⟨c', l1, l2, l3, l4⟩, d4, d5⟩, z_ST.sc 2 (by decide) _, rfl, rfl, rfl, rfl, hp1⟩
        · unfold f_X0_pullBell f_X0_costFrom
          simp (disch := omega) only [q_rg, hk, hfl, hwi, hce, q_01, if_false, q_s, q_le, hac, if_true, hpo, hp, Option.bind_some, q_m1n]
        · unfold f_X5_rings
          simp (disch := omega) only [q_ai, Option.bind_some, e5, q_01, if_false, e0, g1, q_s, q_le, hac, if_true, z_qS, z_qL, e4, hin, hp, q_n0F]
    · refine ⟨0, z_hS h 6 (h.1 6 + 1), upd s 5 (s 5 + 1), c', L, ?_, ?_, Or.inl rfl, unh, dyu, z_ST.sc 6 (by decide) _, rfl, rfl, rfl, rfl, q_irf⟩
      · unfold f_X0_pullBell f_X0_costFrom
        simp (disch := omega) only [q_rg, hk, hfl, hce, q_01, if_false, q_s, q_le, hac]
      · unfold f_X5_rings
        simp (disch := omega) only [q_ai, Option.bind_some, e5, q_01, if_false, e0, g1, q_s, q_le, hac, z_qS]
  · have e5 := r5.trans hk
    refine ⟨0, z_hS h 6 (h.1 6 + 1), upd s 5 (s 5 + 1), c', L, ?_, ?_, Or.inl rfl, unh, dyu, z_ST.sc 6 (by decide) _, rfl, rfl, rfl, rfl, q_irf⟩
    · unfold f_X0_pullBell f_X0_costFrom
      simp (disch := omega) only [q_rg, hk, if_true]
    · unfold f_X5_rings
      simp (disch := omega) only [q_ai, Option.bind_some, e5, if_true, z_qS]
