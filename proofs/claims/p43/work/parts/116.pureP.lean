-- ===== the law: minutes =====
theorem q_or01 {a b : Int32} (ha : a = 0 ∨ a = 1) (hb : b = 0 ∨ b = 1) : ((a ||| b) = 0 ∨ (a ||| b) = 1) ∧ ((a ||| b) = 0 → a = 0 ∧ b = 0) ∧ ((a ||| b) = 1 → a = 1 ∨ b = 1) := by
  rcases ha with e | e <;> rcases hb with e2 | e2 <;> rw [e, e2] <;> decide
theorem l_873 {LL : Nat} {xs : Nat → Int32} {n k one : Nat} {h T : z_H} {Q : z_Q} (H : z_I n k h Q) {u3 u7 u14 u16 u17 u18 u19 : Int32} : ∀ (m j fu : Nat) (u20 : Int32), j + m = k → m < fu → (u20 = 0 ∨ u20 = 1) → ∃ b : Int32, f_L_law_L873 LL xs fu u3 u7 (nI k) (nI one) u14 u16 u17 u18 u19 u20 (nI j) Q (h, T) = some (u3, u7, nI k, nI one, u14, u16, u17, u18, u19, b) ∧ (b = 0 ∨ b = 1) ∧ (b = 0 → u20 = 0 ∧ ∀ i, j ≤ i → i < k → h.2.2.2.2 3 i ≠ nI one) ∧ (b = 1 → u20 = 1 ∨ ∃ i, i < k ∧ h.2.2.2.2 3 i = nI one)
  | 0, j, fu + 1, u20, hm, _, hu => by
    have hk := H.1.2.1
    refine ⟨u20, ?_, hu, fun e => ⟨e, fun i i1 i2 => by omega⟩, fun e => Or.inl e⟩
    rw [f_L_law_L873, if_pos (by rw [q_le (by omega) (by omega)]; omega)]
  | m + 1, j, fu + 1, u20, hm, hf, hu => by
    have hk := H.1.2.1
    have hj : j < k := by omega
    have hy : ∃ y : Int32, (if h.2.2.2.2 3 j = nI one then some (1 : Int32) else some 0) = some y ∧ ((y = 0 ∧ h.2.2.2.2 3 j ≠ nI one) ∨ (y = 1 ∧ h.2.2.2.2 3 j = nI one)) := by
      by_cases e : h.2.2.2.2 3 j = nI one
      · exact ⟨1, by rw [if_pos e], Or.inr ⟨rfl, e⟩⟩
      · exact ⟨0, by rw [if_neg e], Or.inl ⟨rfl, e⟩⟩
    obtain ⟨y, y1, y2⟩ := hy
    obtain ⟨o1, o2, o3⟩ := q_or01 hu (y2.elim (fun z => Or.inl z.1) (fun z => Or.inr z.1))
    obtain ⟨b, b1, b2, b3, b4⟩ := l_873 (LL := LL) (xs := xs) (one := one) (T := T) H (u3 := u3) (u7 := u7) (u14 := u14) (u16 := u16) (u17 := u17) (u18 := u18) (u19 := u19) m (j + 1) fu (u20 ||| y) (by omega) (by omega) o1
    refine ⟨b, ?_, b2, fun e => ?_, fun e => ?_⟩
    · rw [f_L_law_L873, if_neg (by rw [q_le (by omega) (by omega)]; omega), c_serves H.1 hj, Option.bind_some, y1, Option.bind_some, q_s]
      exact b1
    · obtain ⟨z1, z2⟩ := b3 e
      obtain ⟨z3, z4⟩ := o2 z1
      refine ⟨z3, fun i i1 i2 => ?_⟩
      by_cases ee : i = j
      · rw [ee]
        rcases y2 with w | w
        · exact w.2
        · rw [w.1] at z4; exact absurd z4 (by decide)
      · exact z2 i (by omega) i2
    · rcases b4 e with z | z
      · rcases o3 z with w | w
        · exact Or.inl w
        · rcases y2 with v | v
          · rw [v.1] at w; exact absurd w (by decide)
          · exact Or.inr ⟨j, hj, v.2⟩
      · exact Or.inr z
theorem l_982 {LL : Nat} {xs : Nat → Int32} {n k : Nat} {h T : z_H} {Q : z_Q} (H : z_I n k h Q) {u3 u8 u13 u14 u16 u17 u18 u19 u21 u22 u23 : Int32} : ∀ (m r fu : Nat) (g : Nat → Int32), r + m = n → m < fu → (∀ i, i < r → g i = h.2.1 5 i) → ∃ g2 : Nat → Int32, f_L_law_L982 LL xs fu u3 (nI n) u8 u13 u14 u16 u17 u18 u19 u21 u22 u23 (nI r) Q (h, T) n g = some (u3, nI n, u8, u13, u14, u16, u17, u18, u19, u21, u22, u23, g2) ∧ ∀ i, i < n → g2 i = h.2.1 5 i
  | 0, r, fu + 1, g, hm, _, hg => by
    have hn := H.1.1
    refine ⟨g, ?_, fun i hi => hg i (by omega)⟩
    rw [f_L_law_L982, if_pos (by rw [q_le (by omega) (by omega)]; omega)]
  | m + 1, r, fu + 1, g, hm, hf, hg => by
    have hn := H.1.1
    obtain ⟨g2, a, b⟩ := l_982 (LL := LL) (xs := xs) (T := T) H (u3 := u3) (u8 := u8) (u13 := u13) (u14 := u14) (u16 := u16) (u17 := u17) (u18 := u18) (u19 := u19) (u21 := u21) (u22 := u22) (u23 := u23) m (r + 1) fu (upd g r (h.2.1 5 r)) (by omega) (by omega) (fun i hi => by
      by_cases e : i = r
      · rw [e, q_us]
      · rw [q_un e]; exact hg i (by omega))
    refine ⟨g2, ?_, b⟩
    rw [f_L_law_L982, if_neg (by rw [q_le (by omega) (by omega)]; omega), c_wait H.1 (by omega), Option.bind_some, q_wr (by omega) (by omega), Option.bind_some, q_s]
    exact a
theorem l_1087 {LL : Nat} {xs : Nat → Int32} {n k : Nat} {h T : z_H} {Q : z_Q} (H : z_I n k h Q) {u3 u7 u13 u14 u16 u17 u18 u19 : Int32} {N0 : Nat} {g0 : Nat → Int32} : ∀ (m j fu : Nat) (u26 : Int32), j + m = k → m < fu → (u26 = 0 ∨ u26 = 1) → ∃ b : Int32, f_L_law_L1087 LL xs fu u3 u7 (nI k) u13 u14 u16 u17 u18 u19 u26 (nI j) Q (h, T) N0 g0 = some (u3, u7, nI k, u13, u14, u16, u17, u18, u19, b) ∧ (b = 0 ∨ b = 1) ∧ (b = 1 → u26 = 1 ∨ ∃ i, i < k ∧ z_id h i)
  | 0, j, fu + 1, u26, hm, _, hu => by
    have hk := H.1.2.1
    refine ⟨u26, ?_, hu, fun e => Or.inl e⟩
    rw [f_L_law_L1087, if_pos (by rw [q_le (by omega) (by omega)]; omega)]
  | m + 1, j, fu + 1, u26, hm, hf, hu => by
    have hk := H.1.2.1
    have hn := H.1.1
    have hj : j < k := by omega
    have hy : ∃ y : Int32, (if 0 ≤ h.2.2.2.2 2 j then some (0 : Int32) else (some (h.2.2.2.2 3 j)).bind (fun x1108 => (if 0 ≤ x1108 then some 0 else some 1))) = some y ∧ (y = 0 ∨ (y = 1 ∧ z_id h j)) := by
      rcases (H.2.1.2.2.2.1 j hj).2 with ⟨y1, y2, y3⟩ | ⟨q, b, x1, x2, x3, x4, x5, x6⟩ | ⟨q, b, x1, x2, x3, x4, x5, x6⟩
      · exact ⟨1, by rw [y1, y2]; rfl, Or.inr ⟨rfl, y1, y2⟩⟩
      · exact ⟨0, by rw [x4, if_pos (by rw [q_0le (by omega)]; trivial)], Or.inl rfl⟩
      · exact ⟨0, by rw [x4, x5, if_neg (by decide), Option.bind_some, if_pos (by rw [q_0le (by omega)]; trivial)], Or.inl rfl⟩
    obtain ⟨y, y1, y2⟩ := hy
    obtain ⟨o1, o2, o3⟩ := q_or01 hu (y2.elim Or.inl (fun z => Or.inr z.1))
    obtain ⟨b, b1, b2, b3⟩ := l_1087 (LL := LL) (xs := xs) (T := T) H (u3 := u3) (u7 := u7) (u13 := u13) (u14 := u14) (u16 := u16) (u17 := u17) (u18 := u18) (u19 := u19) (N0 := N0) (g0 := g0) m (j + 1) fu (u26 ||| y) (by omega) (by omega) o1
    refine ⟨b, ?_, b2, fun e => ?_⟩
    · rw [f_L_law_L1087, if_neg (by rw [q_le (by omega) (by omega)]; omega), c_goes H.1 hj, Option.bind_some, c_serves H.1 hj, y1, Option.bind_some, q_s]
      exact b1
    · rcases b3 e with z | z
      · rcases o3 z with w | w
        · exact Or.inl w
        · rcases y2 with v | v
          · rw [v] at w; exact absurd w (by decide)
          · exact Or.inr ⟨j, hj, v.2⟩
      · exact Or.inr z
theorem l_1145 {LL : Nat} {xs : Nat → Int32} {n k : Nat} {h h2 T : z_H} {Q : z_Q} (H : z_I n k h2 Q) (D0 : ∀ i, i < n → h.2.1 5 i = -1 ∨ ∃ a, a ≤ 29 ∧ h.2.1 5 i = nI a) (hM : ∀ i, i < n → h2.2.1 5 i = -1 ∨ ∃ a, a + 1 ≤ 29 ∧ h.2.1 5 i = nI a ∧ h2.2.1 5 i = nI (a + 1)) {u3 u8 u13 u14 u16 u17 u18 u19 : Int32} {g : Nat → Int32} (hg : ∀ i, i < n → g i = h.2.1 5 i) : ∀ (m r fu : Nat), r + m = n → m < fu → f_L_law_L1145 LL xs fu u3 (nI n) u8 u13 u14 u16 u17 u18 u19 (nI r) Q (h2, T) n g = some (u3, nI n, u8, u13, u14, u16, u17, u18, u19)
  | 0, r, fu + 1, hm, _ => by
    have hn := H.1.1
    rw [f_L_law_L1145, if_pos (by rw [q_le (by omega) (by omega)]; omega)]
  | m + 1, r, fu + 1, hm, hf => by
    have hn := H.1.1
    have hr : r < n := by omega
    have ih := l_1145 (LL := LL) (xs := xs) (T := T) H D0 hM (u3 := u3) (u8 := u8) (u13 := u13) (u14 := u14) (u16 := u16) (u17 := u17) (u18 := u18) (u19 := u19) hg m (r + 1) fu (by omega) (by omega)
    have hz : z_at g (nI r) n = some (h.2.1 5 r) := by rw [q_at hr (by omega), hg r hr]
    have hnr : (nI n ≤ nI r) = False := eq_false (by rw [q_le (by omega) (by omega)]; omega)
    have hw := c_wait (T := T) H.1 hr
    have e1 : (if h2.2.1 5 r = -1 then some () else (some (h2.2.1 5 r)).bind (fun x1165 => (some (h.2.1 5 r)).bind (fun x1172 => (if x1165 = (x1172 + 1) then some () else none)))) = some () := by
      rcases hM r hr with e | ⟨a, a1, a2, a3⟩
      · rw [if_pos e]
      · rw [a2, a3, if_neg (q_m1 (by omega)), Option.bind_some, Option.bind_some, q_s, if_pos rfl]
    have e2 : (if 0 ≤ h.2.1 5 r then some () else (some (h2.2.1 5 r)).bind (fun x1189 => (if 0 ≤ x1189 then none else some ()))) = some () := by
      rcases hM r hr with e | ⟨a, a1, a2, a3⟩
      · by_cases q : 0 ≤ h.2.1 5 r
        · rw [if_pos q]
        · rw [if_neg q, e, Option.bind_some, if_neg (by decide)]
      · rw [a2, if_pos (by rw [q_0le (by omega)]; trivial)]
    have e3 : (if h.2.1 5 r = 29 then (some (h2.2.1 5 r)).bind (fun x1208 => (if x1208 < 0 then some () else none)) else some ()) = some () := by
      by_cases q : h.2.1 5 r = 29
      · rw [if_pos q]
        rcases hM r hr with e | ⟨a, a1, a2, a3⟩
        · rw [e, Option.bind_some, if_pos (by decide)]
        · rw [a2, show (29 : Int32) = nI 29 from rfl, q_eq (by omega) (by omega)] at q
          omega
      · rw [if_neg q]
    rw [f_L_law_L1145, if_neg (by rw [hnr]; exact id), hw, Option.bind_some, hz, e1, Option.bind_some, Option.bind_some, e2, Option.bind_some, Option.bind_some, e3, Option.bind_some, q_s]
    exact ih
theorem c_pass1 {n k : Nat} {h : z_H} {Q : z_Q} (H : z_I n k h Q) : ∃ (x : Int32) (h2 : z_H) (Q2 : z_Q), (∀ T : z_H, f_X4_pass (h, T) 1 = some (x, (h2, T))) ∧ f_X5_pass Q = some (x, Q2) ∧ z_I n k h2 Q2 ∧ z_MN n k h h2 x := by
  obtain ⟨x, h2, Q2, a1, a2, a3, a4, a5, a6⟩ := p_minute H
  refine ⟨x, h2, Q2, fun T => ?_, a2, a3, a6⟩
  have rq : f_X4_requireMinutes 1 = some () := q_rqM (M := 1) (by omega) (by omega)
  have st : f_X4_pass_L8 (62 + 2) 1 0 0 (h, T) = some (x, (h2, T)) := by
    rw [f_X4_pass_L8, if_neg (by decide)]
    show (f_X0_letMinuteGoBy h).bind _ = _
    rw [a1, Option.bind_some]
    show f_X4_pass_L8 (62 + 1) 1 (0 + x) (0 + 1) (h2, T) = _
    rw [f_X4_pass_L8, if_pos (by decide)]
    have : (0 : Int32) + x = x := by grind
    rw [this]
  unfold f_X4_pass
  rw [rq, Option.bind_some]
  show (f_X4_pass_L8 (62 + 2) 1 0 0 (h, T)).bind _ = _
  rw [st]; rfl
theorem q_addsub (a b c d : Int32) : (a + b + (c + d)) - (a + c) = b + d := by grind
theorem q_addsub2 (a b c d : Int32) : ((a + b) + (c + d)) - (a + c) = d + b := by grind
