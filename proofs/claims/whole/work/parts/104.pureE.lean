-- ===== taking a drop out of the line =====
def z_sh (q : Nat → Int32) (p i : Nat) : Nat → Int32 := fun j => if p ≤ j ∧ j < i then q (j + 1) else q j
theorem z_sh.z (q : Nat → Int32) (p : Nat) : z_sh q p p = q := funext fun j => if_neg (by omega)
theorem z_sh.s (q : Nat → Int32) (p i : Nat) (h : p ≤ i) : upd (z_sh q p i) i (q (i + 1)) = z_sh q p (i + 1) := funext fun j => by
  unfold z_sh
  by_cases e : j = i
  · rw [e, q_us, if_pos (by omega)]
  · rw [q_un e]
    by_cases e2 : p ≤ j ∧ j < i
    · rw [if_pos e2, if_pos (by omega)]
    · rw [if_neg e2, if_neg (by omega)]
theorem q_uself (f : Nat → Int32) (i : Nat) : upd f i (f i) = f := funext fun j => by
  by_cases e : j = i
  · rw [e, q_us]
  · rw [q_un e]
theorem q_ge12 {i : Nat} (h : i < 12) : ¬ ((12 : Int32) ≤ nI i) := by rw [show (12 : Int32) = nI 12 from rfl, q_le (by omega) (by omega)]; omega
theorem q_rm2 {v : Int32} {q : Nat → Int32} {c p : Nat} (hc12 : c ≤ 12) (hne : ∀ j, j < c → j ≠ p → q j ≠ v) : ∀ (m i fu : Nat) (L : z_L), i + 1 + m = c → m < fu → L.1 = nI c → L.2 = z_sh q p i → p ≤ i → f_X1_remove_L4 fu v (nI i) (nI (i + 1)) L = some (nI (c - 1), z_lD L (z_sh q p (c - 1)))
  | 0, i, fu + 1, L, hm, _, hL, hs, hp => by
    have hi : c - 1 = i := by omega
    rw [f_X1_remove_L4, hL, if_pos (by rw [q_le (by omega) (by omega)]; omega), hi, ← hs]
    exact rfl
  | m + 1, i, fu + 1, L, hm, hf, hL, hs, hp => by
    have e1 : L.2 (i + 1) = q (i + 1) := by rw [hs]; exact if_neg (by omega)
    rw [f_X1_remove_L4, hL, if_neg (by rw [q_le (by omega) (by omega)]; omega), if_neg (q_ge12 (by omega)), q_at (by omega) (by omega)]
    show (if L.2 (i + 1) = v then _ else _) = _
    rw [if_neg (by rw [e1]; exact hne _ (by omega) (by omega)), if_neg (q_ge12 (by omega))]
    show (z_wr L.2 (nI i) 12 (L.2 (i + 1))).bind _ = _
    rw [q_wr (by omega) (by omega), e1]
    show f_X1_remove_L4 fu v (nI i + 1) (nI (i + 1) + 1) (z_lD L (upd L.2 i (q (i + 1)))) = _
    rw [q_s, q_s, hs, z_sh.s _ _ _ hp]
    exact q_rm2 hc12 hne m (i + 1) fu (z_lD L (z_sh q p (i + 1))) (by omega) (by omega) hL rfl (by omega)
theorem q_rm1 {v : Int32} {L : z_L} {c p : Nat} (hc12 : c ≤ 12) (hL : L.1 = nI c) (hp : p < c) (hv : L.2 p = v) (hne : ∀ j, j < c → j ≠ p → L.2 j ≠ v) : ∀ (m i fu : Nat), i + m = p → c - i < fu → f_X1_remove_L4 fu v (nI i) (nI i) L = some (nI (c - 1), z_lD L (z_sh L.2 p (c - 1)))
  | 0, i, fu + 1, hm, hf => by
    have hi : i = p := by omega
    rw [f_X1_remove_L4, hL, if_neg (by rw [q_le (by omega) (by omega)]; omega), if_neg (q_ge12 (by omega)), q_at (by omega) (by omega)]
    show (if L.2 i = v then _ else _) = _
    rw [hi, if_pos hv, q_s]
    exact q_rm2 hc12 hne (c - p - 1) p fu L (by omega) (by omega) hL (z_sh.z _ _).symm (Nat.le_refl p)
  | m + 1, i, fu + 1, hm, hf => by
    rw [f_X1_remove_L4, hL, if_neg (by rw [q_le (by omega) (by omega)]; omega), if_neg (q_ge12 (by omega)), q_at (by omega) (by omega)]
    show (if L.2 i = v then _ else _) = _
    rw [if_neg (hne i (by omega) (by omega)), if_neg (q_ge12 (by omega))]
    show (z_wr L.2 (nI i) 12 (L.2 i)).bind _ = _
    rw [q_wr (by omega) (by omega), q_uself]
    show f_X1_remove_L4 fu v (nI i + 1) (nI i + 1) L = _
    rw [q_s]
    exact q_rm1 hc12 hL hp hv hne m (i + 1) fu (by omega) (by omega)
theorem q_remove {v : Int32} {L : z_L} {c p : Nat} (hc12 : c ≤ 12) (hL : L.1 = nI c) (hp : p < c) (hv : L.2 p = v) (hne : ∀ j, j < c → j ≠ p → L.2 j ≠ v) : f_X1_remove L v = some (nI (c - 1), z_sh L.2 p (c - 1)) := by
  have e := q_rm1 hc12 hL hp hv hne p 0 z_FU (by omega) (by unfold z_FU; omega)
  unfold f_X1_remove
  show (f_X1_remove_L4 z_FU v (nI 0) (nI 0) L).bind _ = _
  rw [e]
  rfl
def z_so (g : Nat → Int32) (p i : Nat) : Nat → Int32 := fun q => if 19 + p ≤ q ∧ q < 19 + i then g (q + 1) else g q
theorem z_so.z (g : Nat → Int32) (p : Nat) : z_so g p p = g := funext fun j => if_neg (by omega)
theorem z_so.s (g : Nat → Int32) (p i : Nat) (h : p ≤ i) : upd (z_so g p i) (19 + i) (g (19 + i + 1)) = z_so g p (i + 1) := funext fun j => by
  unfold z_so
  by_cases e : j = 19 + i
  · rw [e, q_us, if_pos (by omega)]
  · rw [q_un e]
    by_cases e2 : 19 + p ≤ j ∧ j < 19 + i
    · rw [if_pos e2, if_pos (by omega)]
    · rw [if_neg e2, if_neg (by omega)]
theorem q_a20 {f : Nat → Int32} {j : Nat} (h : j < 12) : z_at f ((19 + nI j) + 1) 55 = some (f (19 + j + 1)) := by
  rw [show (19 : Int32) = nI 19 from rfl, nI_add, q_s]
  exact q_at (by omega) (by omega)
theorem q_tk {M : z_M} {g : Nat → Int32} {c p : Nat} (h12 : c ≤ 12) (h6 : g 6 = nI (c - 1)) : ∀ (m i fu : Nat), i + m = c - 1 → m < fu → p ≤ i → f_X5_takeOut_L13 fu (nI i) (z_mR M 6 (z_so g p i)) = some (z_mR M 6 (z_so g p (c - 1)))
  | 0, i, fu + 1, hm, _, hp => by
    have e6 : z_so g p i 6 = nI (c - 1) := (if_neg (by omega)).trans h6
    have hi : i = c - 1 := by omega
    rw [f_X5_takeOut_L13, q_m6, q_at6]
    show (if z_so g p i 6 ≤ nI i then _ else _) = _
    rw [e6, if_pos (by rw [q_le (by omega) (by omega)]; omega), hi]
  | m + 1, i, fu + 1, hm, hf, hp => by
    have e6 : z_so g p i 6 = nI (c - 1) := (if_neg (by omega)).trans h6
    have e1 : z_so g p i (19 + i + 1) = g (19 + i + 1) := if_neg (by omega)
    rw [f_X5_takeOut_L13, q_m6, q_at6]
    show (if z_so g p i 6 ≤ nI i then _ else _) = _
    rw [e6, if_neg (by rw [q_le (by omega) (by omega)]; omega), q_a20 (by omega)]
    show (z_wr (z_so g p i) (19 + nI i) 55 (z_so g p i (19 + i + 1))).bind _ = _
    rw [q_w19 (by omega), e1, z_so.s _ _ _ hp]
    show f_X5_takeOut_L13 fu (nI i + 1) (z_mR (z_mR M 6 (z_so g p i)) 6 (z_so g p (i + 1))) = _
    rw [q_s, q_mm]
    exact q_tk h12 h6 m (i + 1) fu (by omega) (by omega) (by omega)
theorem q_takeOut {M : z_M} {g : Nat → Int32} {c p : Nat} (h12 : c ≤ 12) (hp : p < c) (h6 : g 6 = nI c) : f_X5_takeOut (z_mR M 6 g) (nI p) = some (z_mR M 6 (z_so (upd g 6 (nI (c - 1))) p (c - 1))) := by
  unfold f_X5_takeOut
  rw [q_m6, q_at6, Option.bind_some, h6, q_d1 (by omega), q_wr6, Option.bind_some]
  have e := q_tk (M := M) (g := upd g 6 (nI (c - 1))) (p := p) h12 q_us (c - 1 - p) p z_FU (by omega) (by unfold z_FU; omega) (Nat.le_refl p)
  rw [z_so.z] at e
  rw [q_mm, e]
  rfl
theorem z_NE.rm {k c p : Nat} {g : Nat → Int32} {h : z_H} (H : z_NE k g h) (hk : k ≤ 6) (h12 : c ≤ 12) : z_NE k (z_so (upd g 6 (nI (c - 1))) p (c - 1)) (z_hL h (nI (c - 1), z_sh h.2.2.1.2 p (c - 1))) := by
  have nl := H.2.2.2.2.2.2.2.2.1
  refine H.ln hk ?_ (fun i hi => ?_) (fun q h1 h2 => ?_)
  · show z_so (upd g 6 (nI (c - 1))) p (c - 1) 6 = nI (c - 1)
    unfold z_so
    rw [if_neg (by omega), q_us]
  · show z_so (upd g 6 (nI (c - 1))) p (c - 1) (19 + i) = z_sh h.2.2.1.2 p (c - 1) i
    unfold z_so z_sh
    by_cases e : p ≤ i ∧ i < c - 1
    · rw [if_pos (by omega), if_pos e, q_un (by omega)]; exact nl (i + 1) (by omega)
    · rw [if_neg (by omega), if_neg e, q_un (by omega)]; exact nl i hi
  · unfold z_so
    rw [if_neg (by omega), q_un h1]
theorem z_Li.rm {n c p : Nat} {q : Nat → Int32} (hcn : c ≤ n) (l3 : ∀ j, j < c → ∃ a, a < n ∧ q j = nI a) (l4 : ∀ i j, i < c → j < c → q i = q j → i = j) : z_Li n (nI (c - 1), z_sh q p (c - 1)) := by
  refine ⟨c - 1, by omega, rfl, fun j hj => ?_, fun i j hi hj e => ?_⟩
  · show ∃ a, a < n ∧ z_sh q p (c - 1) j = nI a
    unfold z_sh
    by_cases e : p ≤ j ∧ j < c - 1
    · rw [if_pos e]; exact l3 (j + 1) (by omega)
    · rw [if_neg e]; exact l3 j (by omega)
  · have e : z_sh q p (c - 1) i = z_sh q p (c - 1) j := e
    unfold z_sh at e
    by_cases e1 : p ≤ i ∧ i < c - 1
    · by_cases e2 : p ≤ j ∧ j < c - 1
      · rw [if_pos e1, if_pos e2] at e
        have := l4 (i + 1) (j + 1) (by omega) (by omega) e
        omega
      · rw [if_pos e1, if_neg e2] at e
        have := l4 (i + 1) j (by omega) (by omega) e
        omega
    · by_cases e2 : p ≤ j ∧ j < c - 1
      · rw [if_neg e1, if_pos e2] at e
        have := l4 i (j + 1) (by omega) (by omega) e
        omega
      · rw [if_neg e1, if_neg e2] at e
        exact l4 i j (by omega) (by omega) e
-- ===== the nearest idle servant =====
def z_w (a b p : Nat) : Nat := Nat.max 1 ((a - b + (b - a) + p - 1) / p)
theorem q_wayAll : ∀ a : Fin 6, ∀ b : Fin 6, ∀ p : Fin 4, (1 ≤ z_w a.val b.val (p.val + 1) ∧ z_w a.val b.val (p.val + 1) ≤ 9) ∧ f_X3_minutesOfWay (nI a.val) (nI b.val) (nI (p.val + 1)) = some (nI (z_w a.val b.val (p.val + 1))) ∧ (z_dv (((if 0 ≤ (nI a.val - nI b.val) then (nI a.val - nI b.val) else 0 - (nI a.val - nI b.val)) + nI (p.val + 1)) - 1) (nI (p.val + 1))).bind (fun x35 => some (if 1 < x35 then x35 else 1)) = some (nI (z_w a.val b.val (p.val + 1))) := by decide +kernel
theorem q_way {a b p : Nat} (ha : a ≤ 5) (hb : b ≤ 5) (hp : 1 ≤ p) (hp4 : p ≤ 4) : (1 ≤ z_w a b p ∧ z_w a b p ≤ 9) ∧ f_X3_minutesOfWay (nI a) (nI b) (nI p) = some (nI (z_w a b p)) ∧ (z_dv (((if 0 ≤ (nI a - nI b) then (nI a - nI b) else 0 - (nI a - nI b)) + nI p) - 1) (nI p)).bind (fun x35 => some (if 1 < x35 then x35 else 1)) = some (nI (z_w a b p)) := by
  obtain ⟨q, rfl⟩ : ∃ q, p = q + 1 := ⟨p - 1, by omega⟩
  exact q_wayAll ⟨a, by omega⟩ ⟨b, by omega⟩ ⟨q, by omega⟩
def z_W (h : z_H) (fl j : Nat) : Nat := z_w (h.2.2.2.2 1 j).toNatClampNeg fl (h.2.2.2.2 0 j).toNatClampNeg
theorem q_W {n k : Nat} {h : z_H} {M : z_M} {g : Nat → Int32} (hSt : z_St n k h) (hSE : z_SE M h) (hDy : z_Dy n k h) (hNE : z_NE k g h) {j r fl : Nat} (hj : j < k) (hr : r < n) (hf5 : fl ≤ 5) (hfl : h.2.1 0 r = nI fl) : (1 ≤ z_W h fl j ∧ z_W h fl j ≤ 9) ∧ f_X3_minutesOfWay (z_rg (h.2.2.2.2 1) (nI j)) (nI fl) (z_rg (h.2.2.2.2 0) (nI j)) = some (nI (z_W h fl j)) ∧ f_X5_way (z_mR M 6 g) (nI j) (nI r) = some (nI (z_W h fl j)) := by
  obtain ⟨s1, s2, s3, s4, s5, s6, s7, s8, s9, s10, s11⟩ := id hSt
  obtain ⟨m1, m2, m3, m4, m5, m6, m7, m8⟩ := id hSE
  have no := hNE.2.2.2.2.2.2.2.2.2.1 j (by omega)
  obtain ⟨a, a5, ha⟩ := (hDy.2.2.2.1 j hj).1
  obtain ⟨p, p1, p4, hp⟩ := s11 j hj
  have m0 : M.2 0 r = nI fl := (m3 r (by omega)).trans hfl
  have mp : M.2 5 j = nI p := (m8 j (by omega)).trans hp
  have gf : g (31 + j) = nI a := no.trans ha
  have e : z_W h fl j = z_w a fl p := by unfold z_W; rw [ha, hp, q_cl (by omega), q_cl (by omega)]
  obtain ⟨w1, w2, w3⟩ := q_way a5 hf5 p1 p4
  rw [e]
  refine ⟨w1, ?_, ?_⟩
  · rw [q_rg (by omega), q_rg (by omega), ha, hp]; exact w2
  · unfold f_X5_way
    simp (disch := omega) only [q_m6, q_mr, q_a31, gf, q_at, m0, mp, Option.bind_some]
    exact w3
def z_id (h : z_H) (j : Nat) : Prop := h.2.2.2.2 2 j = -1 ∧ h.2.2.2.2 3 j = -1
theorem s_near {n k : Nat} {h : z_H} {M : z_M} {g : Nat → Int32} (hSt : z_St n k h) (hSE : z_SE M h) (hDy : z_Dy n k h) (hNE : z_NE k g h) {r fl : Nat} (hr : r < n) (hf5 : fl ≤ 5) (hfl : h.2.1 0 r = nI fl) : ∀ (m j fu fv : Nat) (u2 u3 : Int32), j + m = k → m < fu → m < fv → (u2 = -1 ∨ ∃ b, b < k ∧ z_id h b ∧ u2 = nI b ∧ u3 = nI (z_W h fl b)) → ∃ x, f_X3_nearestTo_L7 h.2.2.2 fu (nI fl) u2 u3 (nI j) = some x ∧ f_X5_nearest_L4 (z_mR M 6 g) fv (nI r) u2 (nI j) = some x ∧ ((x = -1 ∧ u2 = -1 ∧ ∀ i, j ≤ i → i < k → ¬ z_id h i) ∨ ∃ b, b < k ∧ z_id h b ∧ x = nI b)
  | 0, j, fu + 1, fv + 1, u2, u3, hm, _, _, hu => by
    have hk6 := hSt.2.1
    have s4 := hSt.2.2.2.1
    have m2 : (z_mR M 6 g).1 2 = nI k := hSE.2.1.trans s4
    refine ⟨u2, ?_, ?_, ?_⟩
    · rw [f_X3_nearestTo_L7, if_pos (by rw [s4, q_le (by omega) (by omega)]; omega)]
    · rw [f_X5_nearest_L4, if_pos (by rw [m2, q_le (by omega) (by omega)]; omega)]
    · rcases hu with e | ⟨b, b1, b2, b3, b4⟩
      · exact Or.inl ⟨e, e, fun i h1 h2 => by omega⟩
      · exact Or.inr ⟨b, b1, b2, b3⟩
  | m + 1, j, fu + 1, fv + 1, u2, u3, hm, h1, h2, hu => by
    have hk6 := hSt.2.1
    have s4 := hSt.2.2.2.1
    have m2 : (z_mR M 6 g).1 2 = nI k := hSE.2.1.trans s4
    have hj : j < k := by omega
    have nd := hNE.2.2.2.2.2.2.2.2.2.2.1 j hj
    have hnk : ¬ (h.2.2.2.1 ≤ nI j) := by rw [s4, q_le (by omega) (by omega)]; omega
    have hnm : ¬ ((z_mR M 6 g).1 2 ≤ nI j) := by rw [m2, q_le (by omega) (by omega)]; omega
    obtain ⟨w1, w2, w3⟩ := q_W hSt hSE hDy hNE hj hr hf5 hfl
    by_cases hi : z_id h j
    · have hg : g (37 + j) = 0 := by rw [nd, hi.1, hi.2]; rfl
      rcases hu with e | ⟨b, b1, b2, b3, b4⟩
      · obtain ⟨x, x1, x2, x3⟩ := s_near hSt hSE hDy hNE hr hf5 hfl m (j + 1) fu fv (nI j) (nI (z_W h fl j)) (by omega) (by omega) (by omega) (Or.inr ⟨j, hj, hi, rfl, rfl⟩)
        refine ⟨x, ?_, ?_, ?_⟩
        · rw [f_X3_nearestTo_L7, if_neg hnk, q_rg (f := h.2.2.2.2 2) (by omega), if_pos hi.1, q_rg (f := h.2.2.2.2 3) (by omega), if_pos hi.2, w2]
          show (if u2 = -1 then _ else _) = _
          rw [if_pos e, q_s]; exact x1
        · rw [f_X5_nearest_L4, if_neg hnm, q_m6, q_a37 (by omega)]
          show (if g (37 + j) = 0 then _ else _) = _
          rw [if_pos hg, if_pos e, q_s]; exact x2
        · rcases x3 with ⟨y1, y2, y3⟩ | y
          · exact absurd y2 (q_m1 (by omega))
          · exact Or.inr y
      · obtain ⟨v1, v2, v3⟩ := q_W hSt hSE hDy hNE b1 hr hf5 hfl
        have hub : ¬ u2 = -1 := by rw [b3]; exact q_m1 (by omega)
        by_cases hle : nI (z_W h fl b) ≤ nI (z_W h fl j)
        · obtain ⟨x, x1, x2, x3⟩ := s_near hSt hSE hDy hNE hr hf5 hfl m (j + 1) fu fv u2 u3 (by omega) (by omega) (by omega) (Or.inr ⟨b, b1, b2, b3, b4⟩)
          refine ⟨x, ?_, ?_, ?_⟩
          · rw [f_X3_nearestTo_L7, if_neg hnk, q_rg (f := h.2.2.2.2 2) (by omega), if_pos hi.1, q_rg (f := h.2.2.2.2 3) (by omega), if_pos hi.2, w2]
            show (if u2 = -1 then _ else if u3 ≤ nI (z_W h fl j) then _ else _) = _
            rw [if_neg hub, if_pos (by rw [b4]; exact hle), q_s]; exact x1
          · rw [f_X5_nearest_L4, if_neg hnm, q_m6, q_a37 (by omega)]
            show (if g (37 + j) = 0 then _ else _) = _
            rw [if_pos hg, if_neg hub, w3]
            show (f_X5_way (z_mR M 6 g) u2 (nI r)).bind _ = _
            rw [b3, v3]
            show (if nI (z_W h fl b) ≤ nI (z_W h fl j) then _ else _) = _
            rw [if_pos hle, q_s, ← b3]; exact x2
          · rcases x3 with ⟨y1, y2, y3⟩ | y
            · exact absurd y2 hub
            · exact Or.inr y
        · obtain ⟨x, x1, x2, x3⟩ := s_near hSt hSE hDy hNE hr hf5 hfl m (j + 1) fu fv (nI j) (nI (z_W h fl j)) (by omega) (by omega) (by omega) (Or.inr ⟨j, hj, hi, rfl, rfl⟩)
          refine ⟨x, ?_, ?_, ?_⟩
          · rw [f_X3_nearestTo_L7, if_neg hnk, q_rg (f := h.2.2.2.2 2) (by omega), if_pos hi.1, q_rg (f := h.2.2.2.2 3) (by omega), if_pos hi.2, w2]
            show (if u2 = -1 then _ else if u3 ≤ nI (z_W h fl j) then _ else _) = _
            rw [if_neg hub, if_neg (by rw [b4]; exact hle), q_s]; exact x1
          · rw [f_X5_nearest_L4, if_neg hnm, q_m6, q_a37 (by omega)]
            show (if g (37 + j) = 0 then _ else _) = _
            rw [if_pos hg, if_neg hub, w3]
            show (f_X5_way (z_mR M 6 g) u2 (nI r)).bind _ = _
            rw [b3, v3]
            show (if nI (z_W h fl b) ≤ nI (z_W h fl j) then _ else _) = _
            rw [if_neg hle, q_s]; exact x2
          · rcases x3 with ⟨y1, y2, y3⟩ | y
            · exact absurd y2 (q_m1 (by omega))
            · exact Or.inr y
    · have hg : ¬ g (37 + j) = 0 := by
        rw [nd]
        unfold z_do
        by_cases e : h.2.2.2.2 2 j = -1
        · rw [if_pos e, if_neg (fun z => hi ⟨e, z⟩)]; decide
        · rw [if_neg e]; decide
      obtain ⟨x, x1, x2, x3⟩ := s_near hSt hSE hDy hNE hr hf5 hfl m (j + 1) fu fv u2 u3 (by omega) (by omega) (by omega) hu
      refine ⟨x, ?_, ?_, ?_⟩
      · rw [f_X3_nearestTo_L7, if_neg hnk, q_rg (f := h.2.2.2.2 2) (by omega)]
        by_cases e : h.2.2.2.2 2 j = -1
        · rw [if_pos e, q_rg (f := h.2.2.2.2 3) (by omega), if_neg (fun z => hi ⟨e, z⟩), q_s]; exact x1
        · rw [if_neg e, q_s]; exact x1
      · rw [f_X5_nearest_L4, if_neg hnm, q_m6, q_a37 (by omega)]
        show (if g (37 + j) = 0 then _ else _) = _
        rw [if_neg hg, q_s]; exact x2
      · rcases x3 with ⟨y1, y2, y3⟩ | y
        · refine Or.inl ⟨y1, y2, fun i i1 i2 => ?_⟩
          by_cases e : i = j
          · rw [e]; exact hi
          · exact y3 i (by omega) i2
        · exact Or.inr y
theorem s_nearest {n k : Nat} {h : z_H} {M : z_M} {g : Nat → Int32} (hSt : z_St n k h) (hSE : z_SE M h) (hDy : z_Dy n k h) (hNE : z_NE k g h) {r fl : Nat} (hr : r < n) (hf5 : fl ≤ 5) (hfl : h.2.1 0 r = nI fl) : ∃ x, f_X3_nearestTo h.2.2.2 (nI fl) = some x ∧ f_X5_nearest (z_mR M 6 g) (nI r) = some x ∧ ((x = -1 ∧ ∀ i, i < k → ¬ z_id h i) ∨ ∃ b, b < k ∧ z_id h b ∧ x = nI b) := by
  have hk6 := hSt.2.1
  obtain ⟨x, x1, x2, x3⟩ := s_near hSt hSE hDy hNE hr hf5 hfl k 0 z_FU z_FU (-1) 0 (by omega) (by unfold z_FU; omega) (by unfold z_FU; omega) (Or.inl rfl)
  refine ⟨x, ?_, ?_, ?_⟩
  · unfold f_X3_nearestTo
    show (f_X3_nearestTo_L7 h.2.2.2 z_FU (nI fl) (-1) 0 (nI 0)).bind _ = _
    rw [x1]; rfl
  · unfold f_X5_nearest
    show (f_X5_nearest_L4 (z_mR M 6 g) z_FU (nI r) (-1) (nI 0)).bind _ = _
    rw [x2]; rfl
  · rcases x3 with ⟨y1, y2, y3⟩ | y
    · exact Or.inl ⟨y1, fun i hi => y3 i (by omega) hi⟩
    · exact Or.inr y
