/-! ===== drawers: more things than places ===== -/
theorem fb_holes : ∀ (m n : Nat) (f : Nat → Nat), (∀ i, i < n → f i < m) → (∀ i j, i < j → j < n → f i ≠ f j) → n ≤ m := by
  intro m
  induction m with
  | zero =>
    intro n f h1 _
    rcases Nat.eq_zero_or_pos n with h | h
    · omega
    · exact absurd (h1 0 h) (Nat.not_lt_zero _)
  | succ m ih =>
    intro n f h1 h2
    by_cases hx : ∃ i, i < n ∧ f i = m
    · obtain ⟨a, ha, hfa⟩ := hx
      have hg := ih (n - 1) (fun i => if i < a then f i else f (i + 1)) (by
        intro i hi
        by_cases q : i < a
        · simp only [if_pos q]
          have b1 := h1 i (by omega)
          have b2 := h2 i a q ha
          omega
        · simp only [if_neg q]
          have b1 := h1 (i + 1) (by omega)
          have b2 := h2 a (i + 1) (by omega) (by omega)
          omega) (by
        intro i j hij hj
        by_cases q : i < a
        · by_cases r : j < a
          · simp only [if_pos q, if_pos r]
            exact h2 i j hij (by omega)
          · simp only [if_pos q, if_neg r]
            exact h2 i (j + 1) (by omega) (by omega)
        · have r : ¬ j < a := by omega
          simp only [if_neg q, if_neg r]
          exact h2 (i + 1) (j + 1) (by omega) (by omega))
      omega
    · have hg := ih n f (fun i hi => by
        have b1 := h1 i hi
        have b2 : f i ≠ m := fun e => hx ⟨i, hi, e⟩
        omega) h2
      omega
/-- two of them in one place -/
theorem fb_twice {m n : Nat} {f : Nat → Nat} (h : ∀ i, i < n → f i < m) (hm : m < n) : ∃ i j, i < j ∧ j < n ∧ f i = f j := by
  refine Classical.byContradiction fun hx => ?_
  have := fb_holes m n f h (fun i j hij hj e => hx ⟨i, j, hij, hj, e⟩)
  omega
/-- as many as places, none twice: each place is taken -/
theorem fb_onto {n : Nat} {f : Nat → Nat} (h : ∀ i, i < n → f i < n) (h2 : ∀ i j, i < j → j < n → f i ≠ f j) {y : Nat} (hy : y < n) : ∃ i, i < n ∧ f i = y := by
  refine Classical.byContradiction fun hx => ?_
  have hne : ∀ i, i < n → f i ≠ y := fun i hi e => hx ⟨i, hi, e⟩
  have := fb_holes (n - 1) n (fun i => if f i < y then f i else f i - 1) (by
    intro i hi
    have b1 := h i hi
    have b2 := hne i hi
    by_cases q : f i < y
    · simp only [if_pos q]; omega
    · simp only [if_neg q]; omega) (by
    intro i j hij hj
    have b1 := hne i (by omega)
    have b2 := hne j hj
    have b3 := h2 i j hij hj
    by_cases q : f i < y
    · by_cases r : f j < y
      · simp only [if_pos q, if_pos r]; exact b3
      · simp only [if_pos q, if_neg r]; omega
    · by_cases r : f j < y
      · simp only [if_neg q, if_pos r]; omega
      · simp only [if_neg q, if_neg r]; omega)
  omega
-- ===== the pure side: numbers, rows, what holds of a house, how the model's row goes with it =====
theorem q_b {a : Nat} (h : a < 1000) : a < 2 ^ 31 := by omega
theorem q_le {a b : Nat} (ha : a < 1000) (hb : b < 1000) : nI a ≤ nI b ↔ a ≤ b := nI_leI (q_b ha) (q_b hb)
theorem q_lt {a b : Nat} (ha : a < 1000) (hb : b < 1000) : nI a < nI b ↔ a < b := nI_ltI (q_b ha) (q_b hb)
theorem q_eq {a b : Nat} (ha : a < 1000) (hb : b < 1000) : nI a = nI b ↔ a = b := nI_eq (q_b ha) (q_b hb)
theorem q_m1 {a : Nat} (ha : a < 1000) : ¬ nI a = -1 := fun h => by
  have h1 := nI_toInt (q_b ha)
  rw [h] at h1
  have h2 : (-1 : Int32).toInt = -1 := by decide
  rw [h2] at h1
  omega
theorem q_n0 {a : Nat} (ha : a < 1000) : ¬ nI a < 0 := nI_pos (q_b ha)
theorem q_cl {a : Nat} (ha : a < 1000) : (nI a).toNatClampNeg = a := nI_clamp (q_b ha)
theorem q_s (a : Nat) : nI a + 1 = nI (a + 1) := nI_1 a
theorem q_rg {f : Nat → Int32} {i : Nat} (h : i < 12) : z_rg f (nI i) = f i := by
  unfold z_rg
  rw [if_neg (q_n0 (by omega)), if_neg (by rw [show (12 : Int32) = nI 12 from rfl, q_le (by omega) (by omega)]; omega), q_cl (by omega)]
theorem q_rs {f : Nat → Int32} {i : Nat} {v : Int32} (h : i < 12) : z_rs f (nI i) v = upd f i v := by
  unfold z_rs
  rw [if_neg (q_n0 (by omega)), if_neg (by rw [show (12 : Int32) = nI 12 from rfl, q_le (by omega) (by omega)]; omega), q_cl (by omega)]
theorem q_at {f : Nat → Int32} {i n : Nat} (h : i < n) (hn : n < 1000) : z_at f (nI i) n = some (f i) := by
  unfold z_at
  rw [if_neg (by rw [q_cl (by omega)]; exact fun z => z.elim (q_n0 (by omega)) (by omega)), q_cl (by omega)]
theorem q_wr {f : Nat → Int32} {i n : Nat} {v : Int32} (h : i < n) (hn : n < 1000) : z_wr f (nI i) n v = some (upd f i v) := by
  unfold z_wr
  rw [if_neg (by rw [q_cl (by omega)]; exact fun z => z.elim (q_n0 (by omega)) (by omega)), q_cl (by omega)]
theorem q_ao {f : Nat → Int32} {j : Nat} (o : Nat) {x : Int32} (hx : x = nI o) (h : o + j < 55) : z_at f (x + nI j) 55 = some (f (o + j)) := by rw [hx, nI_add]; exact q_at h (by omega)
theorem q_wo {f : Nat → Int32} {j : Nat} (o : Nat) {x v : Int32} (hx : x = nI o) (h : o + j < 55) : z_wr f (x + nI j) 55 v = some (upd f (o + j) v) := by rw [hx, nI_add]; exact q_wr h (by omega)
theorem q_a7 {f : Nat → Int32} {j : Nat} (h : j < 12) : z_at f (7 + nI j) 55 = some (f (7 + j)) := q_ao 7 rfl (by omega)
theorem q_a19 {f : Nat → Int32} {j : Nat} (h : j < 12) : z_at f (19 + nI j) 55 = some (f (19 + j)) := q_ao 19 rfl (by omega)
theorem q_a31 {f : Nat → Int32} {j : Nat} (h : j < 6) : z_at f (31 + nI j) 55 = some (f (31 + j)) := q_ao 31 rfl (by omega)
theorem q_a37 {f : Nat → Int32} {j : Nat} (h : j < 6) : z_at f (37 + nI j) 55 = some (f (37 + j)) := q_ao 37 rfl (by omega)
theorem q_a43 {f : Nat → Int32} {j : Nat} (h : j < 6) : z_at f (43 + nI j) 55 = some (f (43 + j)) := q_ao 43 rfl (by omega)
theorem q_a49 {f : Nat → Int32} {j : Nat} (h : j < 6) : z_at f (49 + nI j) 55 = some (f (49 + j)) := q_ao 49 rfl (by omega)
theorem q_w7 {f : Nat → Int32} {j : Nat} {v : Int32} (h : j < 12) : z_wr f (7 + nI j) 55 v = some (upd f (7 + j) v) := q_wo 7 rfl (by omega)
theorem q_w19 {f : Nat → Int32} {j : Nat} {v : Int32} (h : j < 12) : z_wr f (19 + nI j) 55 v = some (upd f (19 + j) v) := q_wo 19 rfl (by omega)
theorem q_w31 {f : Nat → Int32} {j : Nat} {v : Int32} (h : j < 6) : z_wr f (31 + nI j) 55 v = some (upd f (31 + j) v) := q_wo 31 rfl (by omega)
theorem q_w37 {f : Nat → Int32} {j : Nat} {v : Int32} (h : j < 6) : z_wr f (37 + nI j) 55 v = some (upd f (37 + j) v) := q_wo 37 rfl (by omega)
theorem q_w43 {f : Nat → Int32} {j : Nat} {v : Int32} (h : j < 6) : z_wr f (43 + nI j) 55 v = some (upd f (43 + j) v) := q_wo 43 rfl (by omega)
theorem q_w49 {f : Nat → Int32} {j : Nat} {v : Int32} (h : j < 6) : z_wr f (49 + nI j) 55 v = some (upd f (49 + j) v) := q_wo 49 rfl (by omega)
theorem q_at0 {f : Nat → Int32} : z_at f 0 55 = some (f 0) := rfl
theorem q_at1 {f : Nat → Int32} : z_at f 1 55 = some (f 1) := rfl
theorem q_at2 {f : Nat → Int32} : z_at f 2 55 = some (f 2) := rfl
theorem q_at3 {f : Nat → Int32} : z_at f 3 55 = some (f 3) := rfl
theorem q_at4 {f : Nat → Int32} : z_at f 4 55 = some (f 4) := rfl
theorem q_at5 {f : Nat → Int32} : z_at f 5 55 = some (f 5) := rfl
theorem q_at6 {f : Nat → Int32} : z_at f 6 55 = some (f 6) := rfl
theorem q_at19 {f : Nat → Int32} : z_at f 19 55 = some (f 19) := rfl
theorem q_wr0 {f : Nat → Int32} {v : Int32} : z_wr f 0 55 v = some (upd f 0 v) := rfl
theorem q_wr1 {f : Nat → Int32} {v : Int32} : z_wr f 1 55 v = some (upd f 1 v) := rfl
theorem q_wr2 {f : Nat → Int32} {v : Int32} : z_wr f 2 55 v = some (upd f 2 v) := rfl
theorem q_wr3 {f : Nat → Int32} {v : Int32} : z_wr f 3 55 v = some (upd f 3 v) := rfl
theorem q_wr4 {f : Nat → Int32} {v : Int32} : z_wr f 4 55 v = some (upd f 4 v) := rfl
theorem q_wr5 {f : Nat → Int32} {v : Int32} : z_wr f 5 55 v = some (upd f 5 v) := rfl
theorem q_wr6 {f : Nat → Int32} {v : Int32} : z_wr f 6 55 v = some (upd f 6 v) := rfl
theorem q_mm (M : z_M) (g g2 : Nat → Int32) : z_mR (z_mR M 6 g) 6 g2 = z_mR M 6 g2 := by
  unfold z_mR z_ur
  refine Prod.ext rfl (funext fun j => ?_)
  show (if j = 6 then g2 else (if j = 6 then g else M.2 j)) = if j = 6 then g2 else M.2 j
  by_cases h : j = 6
  · rw [if_pos h, if_pos h]
  · rw [if_neg h, if_neg h, if_neg h]
theorem q_mi (M : z_M) : z_mR M 6 (M.2 6) = M := by
  unfold z_mR z_ur
  refine Prod.ext rfl (funext fun j => ?_)
  show (if j = 6 then M.2 6 else M.2 j) = M.2 j
  by_cases h : j = 6
  · rw [if_pos h, h]
  · rw [if_neg h]
theorem q_m6 (M : z_M) (g : Nat → Int32) : (z_mR M 6 g).2 6 = g := rfl
theorem q_mr (M : z_M) (g : Nat → Int32) {r : Nat} (h : r ≠ 6) : (z_mR M 6 g).2 r = M.2 r := if_neg h
theorem q_us {f : Nat → Int32} {k : Nat} {x : Int32} : upd f k x k = x := pk_us
theorem q_un {f : Nat → Int32} {k j : Nat} {x : Int32} (h : j ≠ k) : upd f k x j = f j := pk_un h
-- what doesn't change while minutes go by
def z_St (n k : Nat) (h : z_H) : Prop := n ≤ 12 ∧ k ≤ 6 ∧ h.1 1 = nI n ∧ h.2.2.2.1 = nI k ∧ (∀ i, i < n → ∃ a, a ≤ 5 ∧ h.2.1 0 i = nI a) ∧ (∀ i, i < n → ∃ a, 1 ≤ a ∧ a ≤ 9 ∧ h.2.1 1 i = nI a) ∧ (∀ i, i < n → ∃ a, 1 ≤ a ∧ a ≤ 9 ∧ h.2.1 2 i = nI a) ∧ (∀ i, i < n → ∃ a, a < n ∧ h.2.1 3 i = nI a) ∧ (∀ i j, i < n → j < n → h.2.1 3 i = h.2.1 3 j → i = j) ∧ (∀ i, i < n → h.2.1 4 i = 0 ∨ h.2.1 4 i = 1) ∧ (∀ j, j < k → ∃ a, 1 ≤ a ∧ a ≤ 4 ∧ h.2.2.2.2 0 j = nI a)
-- the line of fallen drops
def z_Li (n : Nat) (L : z_L) : Prop := ∃ c, c ≤ n ∧ L.1 = nI c ∧ (∀ j, j < c → ∃ a, a < n ∧ L.2 j = nI a) ∧ (∀ i j, i < c → j < c → L.2 i = L.2 j → i = j)
-- one servant: goal, guest, minutes left
def z_Se (n : Nat) (go gu le : Int32) : Prop := (go = -1 ∧ gu = -1 ∧ le = 0) ∨ (∃ r a, r < n ∧ 1 ≤ a ∧ a ≤ 9 ∧ go = nI r ∧ gu = -1 ∧ le = nI a) ∨ (∃ r a, r < n ∧ 1 ≤ a ∧ a ≤ 9 ∧ go = -1 ∧ gu = nI r ∧ le = nI a)
def z_Dy (n k : Nat) (h : z_H) : Prop := (∃ c, c ≤ 500 ∧ h.1 2 = nI c) ∧ (∀ i, i < n → h.2.1 5 i = -1 ∨ ∃ a, a ≤ 29 ∧ h.2.1 5 i = nI a) ∧ z_Li n h.2.2.1 ∧ (∀ j, j < k → (∃ a, a ≤ 5 ∧ h.2.2.2.2 1 j = nI a) ∧ z_Se n (h.2.2.2.2 2 j) (h.2.2.2.2 3 j) (h.2.2.2.2 4 j)) ∧ (∀ j, k ≤ j → j < 12 → h.2.2.2.2 1 j = 0 ∧ h.2.2.2.2 4 j = 0)
-- the model's own rows are the house's
def z_SE (M : z_M) (h : z_H) : Prop := M.1 1 = h.1 1 ∧ M.1 2 = h.2.2.2.1 ∧ (∀ i, i < 12 → M.2 0 i = h.2.1 0 i) ∧ (∀ i, i < 12 → M.2 1 i = h.2.1 1 i) ∧ (∀ i, i < 12 → M.2 2 i = h.2.1 2 i) ∧ (∀ i, i < 12 → M.2 3 i = h.2.1 3 i) ∧ (∀ i, i < 12 → M.2 4 i = h.2.1 4 i) ∧ (∀ j, j < 6 → M.2 5 j = h.2.2.2.2 0 j)
-- what a servant does, in the model's words
def z_do (go gu : Int32) : Int32 := if go = -1 then (if gu = -1 then 0 else 2) else 1
def z_to (go gu : Int32) : Int32 := if go = -1 then gu else go
-- the model's row of what minutes change
def z_NE (k : Nat) (g : Nat → Int32) (h : z_H) : Prop := g 0 = h.1 0 ∧ g 1 = h.1 2 ∧ g 2 = h.1 3 ∧ g 3 = h.1 4 ∧ g 4 = h.1 5 ∧ g 5 = h.1 6 ∧ g 6 = h.2.2.1.1 ∧ (∀ i, i < 12 → g (7 + i) = h.2.1 5 i) ∧ (∀ i, i < 12 → g (19 + i) = h.2.2.1.2 i) ∧ (∀ j, j < 6 → g (31 + j) = h.2.2.2.2 1 j) ∧ (∀ j, j < k → g (37 + j) = z_do (h.2.2.2.2 2 j) (h.2.2.2.2 3 j)) ∧ (∀ j, j < k → ¬ z_do (h.2.2.2.2 2 j) (h.2.2.2.2 3 j) = 0 → g (43 + j) = z_to (h.2.2.2.2 2 j) (h.2.2.2.2 3 j)) ∧ (∀ j, j < 6 → g (49 + j) = h.2.2.2.2 4 j) ∧ (∀ j, k ≤ j → j < 6 → g (37 + j) = 0)
def z_ST (h h2 : z_H) : Prop := h2.1 1 = h.1 1 ∧ (∀ r, r ≠ 5 → h2.2.1 r = h.2.1 r) ∧ h2.2.2.2.1 = h.2.2.2.1 ∧ h2.2.2.2.2 0 = h.2.2.2.2 0
theorem z_ST.rf (h : z_H) : z_ST h h := ⟨rfl, fun _ _ => rfl, rfl, rfl⟩
theorem z_ST.tr {h h2 h3 : z_H} (a : z_ST h h2) (b : z_ST h2 h3) : z_ST h h3 := ⟨b.1.trans a.1, fun r hr => (b.2.1 r hr).trans (a.2.1 r hr), b.2.2.1.trans a.2.2.1, b.2.2.2.trans a.2.2.2⟩
theorem z_St.mv {n k : Nat} {h h2 : z_H} (s : z_ST h h2) (a : z_St n k h) : z_St n k h2 := by
  obtain ⟨s1, s2, s3, s4⟩ := s
  unfold z_St at a ⊢
  rw [s1, s3, s4, s2 0 (by decide), s2 1 (by decide), s2 2 (by decide), s2 3 (by decide), s2 4 (by decide)]
  exact a
theorem z_SE.mv {M : z_M} {h h2 : z_H} (s : z_ST h h2) (a : z_SE M h) : z_SE M h2 := by
  obtain ⟨s1, s2, s3, s4⟩ := s
  unfold z_SE at a ⊢
  rw [s1, s3, s4, s2 0 (by decide), s2 1 (by decide), s2 2 (by decide), s2 3 (by decide), s2 4 (by decide)]
  exact a
theorem z_SE.m6 {M : z_M} {h : z_H} (g : Nat → Int32) (a : z_SE M h) : z_SE (z_mR M 6 g) h := a
-- what a minute keeps: who doesn't wait won't; who is neither waiting nor served won't be; with nobody waiting nobody more is served
def z_KP (n k : Nat) (h h2 : z_H) : Prop := (∀ i, i < n → h.2.1 5 i = -1 → h2.2.1 5 i = -1) ∧ (∀ r, r < n → h.2.1 5 r = -1 → (∀ j, j < k → h.2.2.2.2 3 j ≠ nI r) → ∀ j, j < k → h2.2.2.2.2 3 j ≠ nI r) ∧ ((∀ i, i < n → h.2.1 5 i = -1) → h2.1 3 = h.1 3)
theorem z_KP.rf (n k : Nat) (h : z_H) : z_KP n k h h := ⟨fun _ _ a => a, fun _ _ _ a => a, fun _ => rfl⟩
theorem z_KP.tr {n k : Nat} {h h2 h3 : z_H} (a : z_KP n k h h2) (b : z_KP n k h2 h3) : z_KP n k h h3 := ⟨fun i hi w => b.1 i hi (a.1 i hi w), fun r hr w u => b.2.1 r hr (a.1 r hr w) (a.2.1 r hr w u), fun w => (b.2.2 (fun i hi => a.1 i hi (w i hi))).trans (a.2.2 w)⟩
-- a search in a row
def z_pl (q : Nat → Int32) (v : Int32) : Nat → Nat → Int32
  | 0, _ => -1
  | m + 1, i => if q i = v then nI i else z_pl q v m (i + 1)
theorem z_pl_cg {q q2 : Nat → Int32} {v : Int32} : ∀ (m i : Nat), (∀ j, i ≤ j → j < i + m → q j = q2 j) → z_pl q v m i = z_pl q2 v m i
  | 0, _, _ => rfl
  | m + 1, i, h => by
    unfold z_pl
    rw [h i (Nat.le_refl i) (by omega), z_pl_cg m (i + 1) (fun j h1 h2 => h j (by omega) (by omega))]
theorem z_pl_no {q : Nat → Int32} {v : Int32} : ∀ (m i : Nat), (∀ j, i ≤ j → j < i + m → q j ≠ v) → z_pl q v m i = -1
  | 0, _, _ => rfl
  | m + 1, i, h => by
    unfold z_pl
    rw [if_neg (h i (Nat.le_refl i) (by omega))]
    exact z_pl_no m (i + 1) (fun j h1 h2 => h j (by omega) (by omega))
theorem z_pl_or {q : Nat → Int32} {v : Int32} : ∀ (m i : Nat), i + m ≤ 900 → (z_pl q v m i = -1 ∧ ∀ j, i ≤ j → j < i + m → q j ≠ v) ∨ ∃ j, i ≤ j ∧ j < i + m ∧ q j = v ∧ z_pl q v m i = nI j
  | 0, i, _ => Or.inl ⟨rfl, fun j h1 h2 => by omega⟩
  | m + 1, i, hb => by
    unfold z_pl
    by_cases h : q i = v
    · exact Or.inr ⟨i, Nat.le_refl i, by omega, h, if_pos h⟩
    · rw [if_neg h]
      rcases z_pl_or (q := q) (v := v) m (i + 1) (by omega) with ⟨a, b⟩ | ⟨j, a, b, c, d⟩
      · refine Or.inl ⟨a, fun j h1 h2 => ?_⟩
        by_cases e : j = i
        · rw [e]; exact h
        · exact b j (by omega) (by omega)
      · exact Or.inr ⟨j, by omega, by omega, c, d⟩
theorem q_place {L : z_L} {v : Int32} {c : Nat} (hc : L.1 = nI c) (hc12 : c ≤ 12) : ∀ (m i fu : Nat), i + m = c → m < fu → f_X1_placeOf_L2 L fu v (nI i) = some (z_pl L.2 v m i)
  | 0, i, fu + 1, hi, _ => by
    rw [f_X1_placeOf_L2, hc, if_pos (by rw [q_le (by omega) (by omega)]; omega)]; rfl
  | m + 1, i, fu + 1, hi, hf => by
    rw [f_X1_placeOf_L2, hc, if_neg (by rw [q_le (by omega) (by omega)]; omega), if_neg (by rw [show (12 : Int32) = nI 12 from rfl, q_le (by omega) (by omega)]; omega), q_at (by omega) (by omega)]
    show (if L.2 i = v then some (nI i) else f_X1_placeOf_L2 L fu v (nI i + 1)) = _
    unfold z_pl
    by_cases e : L.2 i = v
    · rw [if_pos e, if_pos e]
    · rw [if_neg e, if_neg e, q_s]
      exact q_place hc hc12 m (i + 1) fu (by omega) (by omega)
theorem q_placeOf {L : z_L} {v : Int32} {c : Nat} (hc : L.1 = nI c) (hc12 : c ≤ 12) : f_X1_placeOf L v = some (z_pl L.2 v c 0) := q_place hc hc12 c 0 z_FU (by omega) (by unfold z_FU; omega)
theorem q_inl {M : z_M} {v : Int32} {c : Nat} (hc : M.2 6 6 = nI c) (hc12 : c ≤ 12) : ∀ (m i fu : Nat), i + m = c → m < fu → f_X5_inLine_L2 M fu v (nI i) = some (z_pl (fun j => M.2 6 (19 + j)) v m i)
  | 0, i, fu + 1, hi, _ => by
    rw [f_X5_inLine_L2, q_at6]
    show (if M.2 6 6 ≤ nI i then some (-1) else _) = _
    rw [hc, if_pos (by rw [q_le (by omega) (by omega)]; omega)]; rfl
  | m + 1, i, fu + 1, hi, hf => by
    rw [f_X5_inLine_L2, q_at6]
    show (if M.2 6 6 ≤ nI i then some (-1) else _) = _
    rw [hc, if_neg (by rw [q_le (by omega) (by omega)]; omega), q_a19 (by omega)]
    show (if M.2 6 (19 + i) = v then some (nI i) else f_X5_inLine_L2 M fu v (nI i + 1)) = _
    unfold z_pl
    by_cases e : M.2 6 (19 + i) = v
    · rw [if_pos e, if_pos e]
    · rw [if_neg e, if_neg e, q_s]
      exact q_inl hc hc12 m (i + 1) fu (by omega) (by omega)
theorem q_inLine {M : z_M} {v : Int32} {c : Nat} (hc : M.2 6 6 = nI c) (hc12 : c ≤ 12) : f_X5_inLine M v = some (z_pl (fun j => M.2 6 (19 + j)) v c 0) := q_inl hc hc12 c 0 z_FU (by omega) (by unfold z_FU; omega)
