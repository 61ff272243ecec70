/-! ===== drawers: more things than places ===== -/
theorem fb_holes : ∀ (m n : Nat) (f : Nat → Nat), (∀ i, i < n → f i < m) → (∀ i j, i < j → j < n → f i ≠ f j) → n ≤ m := by
  intro m
  induction m with
  | zero =>
    intro n f h1 _
    rcases Nat.eq_zero_or_pos n with h | h
    · omega
    · exact absurd (h1 0 h) (Nat.not_lt_zero _)
  | succ m ih =>
    intro n f h1 h2
    by_cases hx : ∃ i, i < n ∧ f i = m
    · obtain ⟨a, ha, hfa⟩ := hx
      have hg := ih (n - 1) (fun i => if i < a then f i else f (i + 1)) (by
        intro i hi
        by_cases q : i < a
        · simp only [if_pos q]
          have b1 := h1 i (by omega)
          have b2 := h2 i a q ha
          omega
        · simp only [if_neg q]
          have b1 := h1 (i + 1) (by omega)
          have b2 := h2 a (i + 1) (by omega) (by omega)
          omega) (by
        intro i j hij hj
        by_cases q : i < a
        · by_cases r : j < a
          · simp only [if_pos q, if_pos r]
            exact h2 i j hij (by omega)
          · simp only [if_pos q, if_neg r]
            exact h2 i (j + 1) (by omega) (by omega)
        · have r : ¬ j < a := by omega
          simp only [if_neg q, if_neg r]
          exact h2 (i + 1) (j + 1) (by omega) (by omega))
      omega
    · have hg := ih n f (fun i hi => by
        have b1 := h1 i hi
        have b2 : f i ≠ m := fun e => hx ⟨i, hi, e⟩
        omega) h2
      omega
/-- two of them in one place -/
theorem fb_twice {m n : Nat} {f : Nat → Nat} (h : ∀ i, i < n → f i < m) (hm : m < n) : ∃ i j, i < j ∧ j < n ∧ f i = f j := by
  refine Classical.byContradiction fun hx => ?_
  have := fb_holes m n f h (fun i j hij hj e => hx ⟨i, j, hij, hj, e⟩)
  omega
/-- as many as places, none twice: each place is taken -/
theorem fb_onto {n : Nat} {f : Nat → Nat} (h : ∀ i, i < n → f i < n) (h2 : ∀ i j, i < j → j < n → f i ≠ f j) {y : Nat} (hy : y < n) : ∃ i, i < n ∧ f i = y := by
  refine Classical.byContradiction fun hx => ?_
  have hne : ∀ i, i < n → f i ≠ y := fun i hi e => hx ⟨i, hi, e⟩
  have := fb_holes (n - 1) n (fun i => if f i < y then f i else f i - 1) (by
    intro i hi
    have b1 := h i hi
    have b2 := hne i hi
    by_cases q : f i < y
    · simp only [if_pos q]; omega
    · simp only [if_neg q]; omega) (by
    intro i j hij hj
    have b1 := hne i (by omega)
    have b2 := hne j hj
    have b3 := h2 i j hij hj
    by_cases q : f i < y
    · by_cases r : f j < y
      · simp only [if_pos q, if_pos r]; exact b3
      · simp only [if_pos q, if_neg r]; omega
    · by_cases r : f j < y
      · simp only [if_neg q, if_pos r]; omega
      · simp only [if_neg q, if_neg r]; omega)
  omega
-- ===== the pure side: numbers, rows, what holds of a house, how the model's row goes with it =====
theorem q_b {a : Nat} (h : a < 1000) : a < 2 ^ 31 := by omega
theorem q_le {a b : Nat} (ha : a < 1000) (hb : b < 1000) : nI a ≤ nI b ↔ a ≤ b := nI_leI (q_b ha) (q_b hb)
theorem q_lt {a b : Nat} (ha : a < 1000) (hb : b < 1000) : nI a < nI b ↔ a < b := nI_ltI (q_b ha) (q_b hb)
theorem q_eq {a b : Nat} (ha : a < 1000) (hb : b < 1000) : nI a = nI b ↔ a = b := nI_eq (q_b ha) (q_b hb)
theorem q_m1 {a : Nat} (ha : a < 1000) : ¬ nI a = -1 := fun h => by
  have h1 := nI_toInt (q_b ha)
  rw [h] at h1
  have h2 : (-1 : Int32).toInt = -1 := by decide
  rw [h2] at h1
  omega
theorem q_n0 {a : Nat} (ha : a < 1000) : ¬ nI a < 0 := nI_pos (q_b ha)
theorem q_cl {a : Nat} (ha : a < 1000) : (nI a).toNatClampNeg = a := nI_clamp (q_b ha)
theorem q_s (a : Nat) : nI a + 1 = nI (a + 1) := nI_1 a
theorem q_rg {f : Nat → Int32} {i : Nat} (h : i < 12) : z_rg f (nI i) = f i := by
  unfold z_rg
  rw [if_neg (q_n0 (by omega)), if_neg (by rw [show (12 : Int32) = nI 12 from rfl, q_le (by omega) (by omega)]; omega), q_cl (by omega)]
theorem q_rs {f : Nat → Int32} {i : Nat} {v : Int32} (h : i < 12) : z_rs f (nI i) v = upd f i v := by
  unfold z_rs
  rw [if_neg (q_n0 (by omega)), if_neg (by rw [show (12 : Int32) = nI 12 from rfl, q_le (by omega) (by omega)]; omega), q_cl (by omega)]
theorem q_at {f : Nat → Int32} {i n : Nat} (h : i < n) (hn : n < 1000) : z_at f (nI i) n = some (f i) := by
  unfold z_at
  rw [if_neg (by rw [q_cl (by omega)]; exact fun z => z.elim (q_n0 (by omega)) (by omega)), q_cl (by omega)]
theorem q_wr {f : Nat → Int32} {i n : Nat} {v : Int32} (h : i < n) (hn : n < 1000) : z_wr f (nI i) n v = some (upd f i v) := by
  unfold z_wr
  rw [if_neg (by rw [q_cl (by omega)]; exact fun z => z.elim (q_n0 (by omega)) (by omega)), q_cl (by omega)]
theorem q_us {f : Nat → Int32} {k : Nat} {x : Int32} : upd f k x k = x := pk_us
theorem q_un {f : Nat → Int32} {k j : Nat} {x : Int32} (h : j ≠ k) : upd f k x j = f j := pk_un h
-- what doesn't change while minutes go by
def z_St (n k : Nat) (h : z_H) : Prop := n ≤ 12 ∧ k ≤ 6 ∧ h.1 1 = nI n ∧ h.2.2.2.1 = nI k ∧ (∀ i, i < n → ∃ a, a ≤ 5 ∧ h.2.1 0 i = nI a) ∧ (∀ i, i < n → ∃ a, 1 ≤ a ∧ a ≤ 9 ∧ h.2.1 1 i = nI a) ∧ (∀ i, i < n → ∃ a, 1 ≤ a ∧ a ≤ 9 ∧ h.2.1 2 i = nI a) ∧ (∀ i, i < n → ∃ a, a < n ∧ h.2.1 3 i = nI a) ∧ (∀ i j, i < n → j < n → h.2.1 3 i = h.2.1 3 j → i = j) ∧ (∀ i, i < n → h.2.1 4 i = 0 ∨ h.2.1 4 i = 1) ∧ (∀ j, j < k → ∃ a, 1 ≤ a ∧ a ≤ 4 ∧ h.2.2.2.2 0 j = nI a)
-- the line of fallen drops
def z_Li (n : Nat) (L : z_L) : Prop := ∃ c, c ≤ n ∧ L.1 = nI c ∧ (∀ j, j < c → ∃ a, a < n ∧ L.2 j = nI a) ∧ (∀ i j, i < c → j < c → L.2 i = L.2 j → i = j)
-- one servant: goal, guest, minutes left
def z_Se (n : Nat) (go gu le : Int32) : Prop := (go = -1 ∧ gu = -1 ∧ le = 0) ∨ (∃ r a, r < n ∧ 1 ≤ a ∧ a ≤ 9 ∧ go = nI r ∧ gu = -1 ∧ le = nI a) ∨ (∃ r a, r < n ∧ 1 ≤ a ∧ a ≤ 9 ∧ go = -1 ∧ gu = nI r ∧ le = nI a)
def z_Dy (n k : Nat) (h : z_H) : Prop := (∃ c, c ≤ 500 ∧ h.1 2 = nI c) ∧ (∀ i, i < n → h.2.1 5 i = -1 ∨ ∃ a, a ≤ 29 ∧ h.2.1 5 i = nI a) ∧ z_Li n h.2.2.1 ∧ (∀ j, j < k → (∃ a, a ≤ 5 ∧ h.2.2.2.2 1 j = nI a) ∧ z_Se n (h.2.2.2.2 2 j) (h.2.2.2.2 3 j) (h.2.2.2.2 4 j)) ∧ (∀ j, k ≤ j → j < 12 → h.2.2.2.2 1 j = 0 ∧ h.2.2.2.2 4 j = 0)
-- the model's own rows are the house's
-- what a servant does, in the model's words
def z_do (go gu : Int32) : Int32 := if go = -1 then (if gu = -1 then 0 else 2) else 1
def z_to (go gu : Int32) : Int32 := if go = -1 then gu else go
-- the model's row of what minutes change
def z_ST (h h2 : z_H) : Prop := h2.1 1 = h.1 1 ∧ (∀ r, r ≠ 5 → h2.2.1 r = h.2.1 r) ∧ h2.2.2.2.1 = h.2.2.2.1 ∧ h2.2.2.2.2 0 = h.2.2.2.2 0
theorem z_ST.rf (h : z_H) : z_ST h h := ⟨rfl, fun _ _ => rfl, rfl, rfl⟩
theorem z_ST.tr {h h2 h3 : z_H} (a : z_ST h h2) (b : z_ST h2 h3) : z_ST h h3 := ⟨b.1.trans a.1, fun r hr => (b.2.1 r hr).trans (a.2.1 r hr), b.2.2.1.trans a.2.2.1, b.2.2.2.trans a.2.2.2⟩
theorem z_St.mv {n k : Nat} {h h2 : z_H} (s : z_ST h h2) (a : z_St n k h) : z_St n k h2 := by
  obtain ⟨s1, s2, s3, s4⟩ := s
  unfold z_St at a ⊢
  rw [s1, s3, s4, s2 0 (by decide), s2 1 (by decide), s2 2 (by decide), s2 3 (by decide), s2 4 (by decide)]
  exact a
-- what a minute keeps: who doesn't wait won't; who is neither waiting nor served won't be; with nobody waiting nobody more is served
def z_KP (n k : Nat) (h h2 : z_H) : Prop := (∀ i, i < n → h.2.1 5 i = -1 → h2.2.1 5 i = -1) ∧ (∀ r, r < n → h.2.1 5 r = -1 → (∀ j, j < k → h.2.2.2.2 3 j ≠ nI r) → ∀ j, j < k → h2.2.2.2.2 3 j ≠ nI r) ∧ ((∀ i, i < n → h.2.1 5 i = -1) → h2.1 3 = h.1 3)
theorem z_KP.rf (n k : Nat) (h : z_H) : z_KP n k h h := ⟨fun _ _ a => a, fun _ _ _ a => a, fun _ => rfl⟩
theorem z_KP.tr {n k : Nat} {h h2 h3 : z_H} (a : z_KP n k h h2) (b : z_KP n k h2 h3) : z_KP n k h h3 := ⟨fun i hi w => b.1 i hi (a.1 i hi w), fun r hr w u => b.2.1 r hr (a.1 r hr w) (a.2.1 r hr w u), fun w => (b.2.2 (fun i hi => a.1 i hi (w i hi))).trans (a.2.2 w)⟩
-- a search in a row
def z_pl (q : Nat → Int32) (v : Int32) : Nat → Nat → Int32
  | 0, _ => -1
  | m + 1, i => if q i = v then nI i else z_pl q v m (i + 1)
theorem z_pl_cg {q q2 : Nat → Int32} {v : Int32} : ∀ (m i : Nat), (∀ j, i ≤ j → j < i + m → q j = q2 j) → z_pl q v m i = z_pl q2 v m i
  | 0, _, _ => rfl
  | m + 1, i, h => by
    unfold z_pl
    rw [h i (Nat.le_refl i) (by omega), z_pl_cg m (i + 1) (fun j h1 h2 => h j (by omega) (by omega))]
theorem z_pl_no {q : Nat → Int32} {v : Int32} : ∀ (m i : Nat), (∀ j, i ≤ j → j < i + m → q j ≠ v) → z_pl q v m i = -1
  | 0, _, _ => rfl
  | m + 1, i, h => by
    unfold z_pl
    rw [if_neg (h i (Nat.le_refl i) (by omega))]
    exact z_pl_no m (i + 1) (fun j h1 h2 => h j (by omega) (by omega))
theorem z_pl_or {q : Nat → Int32} {v : Int32} : ∀ (m i : Nat), i + m ≤ 900 → (z_pl q v m i = -1 ∧ ∀ j, i ≤ j → j < i + m → q j ≠ v) ∨ ∃ j, i ≤ j ∧ j < i + m ∧ q j = v ∧ z_pl q v m i = nI j
  | 0, i, _ => Or.inl ⟨rfl, fun j h1 h2 => by omega⟩
  | m + 1, i, hb => by
    unfold z_pl
    by_cases h : q i = v
    · exact Or.inr ⟨i, Nat.le_refl i, by omega, h, if_pos h⟩
    · rw [if_neg h]
      rcases z_pl_or (q := q) (v := v) m (i + 1) (by omega) with ⟨a, b⟩ | ⟨j, a, b, c, d⟩
      · refine Or.inl ⟨a, fun j h1 h2 => ?_⟩
        by_cases e : j = i
        · rw [e]; exact h
        · exact b j (by omega) (by omega)
      · exact Or.inr ⟨j, by omega, by omega, c, d⟩
theorem q_place {L : z_L} {v : Int32} {c : Nat} (hc : L.1 = nI c) (hc12 : c ≤ 12) : ∀ (m i fu : Nat), i + m = c → m < fu → f_X1_placeOf_L2 L fu v (nI i) = some (z_pl L.2 v m i)
  | 0, i, fu + 1, hi, _ => by
    rw [f_X1_placeOf_L2, hc, if_pos (by rw [q_le (by omega) (by omega)]; omega)]; rfl
  | m + 1, i, fu + 1, hi, hf => by
    rw [f_X1_placeOf_L2, hc, if_neg (by rw [q_le (by omega) (by omega)]; omega), if_neg (by rw [show (12 : Int32) = nI 12 from rfl, q_le (by omega) (by omega)]; omega), q_at (by omega) (by omega)]
    show (if L.2 i = v then some (nI i) else f_X1_placeOf_L2 L fu v (nI i + 1)) = _
    unfold z_pl
    by_cases e : L.2 i = v
    · rw [if_pos e, if_pos e]
    · rw [if_neg e, if_neg e, q_s]
      exact q_place hc hc12 m (i + 1) fu (by omega) (by omega)
theorem q_placeOf {L : z_L} {v : Int32} {c : Nat} (hc : L.1 = nI c) (hc12 : c ≤ 12) : f_X1_placeOf L v = some (z_pl L.2 v c 0) := q_place hc hc12 c 0 z_FU (by omega) (by unfold z_FU; omega)
-- ===== one step on both sides: a ring =====
theorem q_10 : ((1 : Int32) = 0) = False := eq_false (by decide)
theorem q_01 : ((0 : Int32) = 1) = False := eq_false (by decide)
theorem q_20 : ((2 : Int32) = 0) = False := eq_false (by decide)
theorem q_21 : ((2 : Int32) = 1) = False := eq_false (by decide)
theorem q_12 : ((1 : Int32) = 2) = False := eq_false (by decide)
theorem q_02 : ((0 : Int32) = 2) = False := eq_false (by decide)
theorem q_m10 : ((-1 : Int32) = 0) = False := eq_false (by decide)
theorem q_m1n {a : Nat} (ha : a < 1000) : (nI a = -1) = False := eq_false (q_m1 ha)
/-- a drop that stands can fall: there is room in the line -/
theorem z_Li.room {n : Nat} {L : z_L} {c w : Nat} (h2 : ∀ j, j < c → ∃ a, a < n ∧ L.2 j = nI a) (h3 : ∀ i j, i < c → j < c → L.2 i = L.2 j → i = j) (hn : n ≤ 12) (hw : w < n) (hno : ∀ j, j < c → L.2 j ≠ nI w) : c + 1 ≤ n := by
  have hch : ∀ j, ∃ a, j < c → (a < n ∧ L.2 j = nI a) := fun j => by
    by_cases hj : j < c
    · obtain ⟨a, ha⟩ := h2 j hj
      exact ⟨a, fun _ => ha⟩
    · exact ⟨0, fun z => absurd z hj⟩
  refine fb_holes n (c + 1) (fun j => if j = c then w else Classical.choose (hch j)) (fun i hi => ?_) (fun i j hij hj => ?_)
  · by_cases e : i = c
    · rw [if_pos e]; exact hw
    · rw [if_neg e]; exact (Classical.choose_spec (hch i) (by omega)).1
  · have hic : i ≠ c := by omega
    have si := Classical.choose_spec (hch i) (by omega)
    by_cases e : j = c
    · rw [if_neg hic, if_pos e]
      intro z
      rw [z] at si
      exact hno i (by omega) si.2
    · have sj := Classical.choose_spec (hch j) (by omega)
      rw [if_neg hic, if_neg e]
      intro z
      rw [z] at si
      have := h3 i j (by omega) (by omega) (si.2.trans sj.2.symm)
      omega
theorem z_Li.add {n : Nat} {L : z_L} {c w : Nat} (h1 : c + 1 ≤ n) (h2 : ∀ j, j < c → ∃ a, a < n ∧ L.2 j = nI a) (h3 : ∀ i j, i < c → j < c → L.2 i = L.2 j → i = j) (hw : w < n) (hno : ∀ j, j < c → L.2 j ≠ nI w) : z_Li n (z_lD (z_lC L (nI (c + 1))) (upd L.2 c (nI w))) := by
  refine ⟨c + 1, h1, rfl, fun j hj => ?_, fun i j hi hj e => ?_⟩
  · show ∃ a, a < n ∧ upd L.2 c (nI w) j = nI a
    by_cases e : j = c
    · exact ⟨w, hw, by rw [e, q_us]⟩
    · rw [q_un e]; exact h2 j (by omega)
  · have e : upd L.2 c (nI w) i = upd L.2 c (nI w) j := e
    by_cases e1 : i = c
    · by_cases e2 : j = c
      · omega
      · rw [e1, q_us, q_un e2] at e
        exact absurd e.symm (hno j (by omega))
    · by_cases e2 : j = c
      · rw [e2, q_us, q_un e1] at e
        exact absurd e (hno i (by omega))
      · rw [q_un e1, q_un e2] at e
        exact h3 i j (by omega) (by omega) e
theorem z_Dy.sc {n k : Nat} {h : z_H} (x : Nat) (hx : x ≠ 2) (v : Int32) (a : z_Dy n k h) : z_Dy n k (z_hS h x v) := by
  obtain ⟨⟨c, hc, e⟩, b⟩ := a
  exact ⟨⟨c, hc, by show upd h.1 x v 2 = nI c; rw [q_un (Ne.symm hx)]; exact e⟩, b⟩
theorem z_ST.sc {h : z_H} (x : Nat) (hx : x ≠ 1) (v : Int32) : z_ST h (z_hS h x v) := ⟨by show upd h.1 x v 1 = h.1 1; exact q_un (Ne.symm hx), fun _ _ => rfl, rfl, rfl⟩
-- ===== the rooms of a minute =====
theorem z_ST.wt {h : z_H} (f : Nat → Int32) : z_ST h (z_hR h 5 f) := ⟨rfl, fun r hr => by show z_ur h.2.1 5 f r = h.2.1 r; exact if_neg hr, rfl, rfl⟩
theorem z_Dy.wt {n k : Nat} {h : z_H} {i : Nat} {v : Int32} (hv : v = -1 ∨ ∃ a, a ≤ 29 ∧ v = nI a) (a : z_Dy n k h) : z_Dy n k (z_hR h 5 (upd (h.2.1 5) i v)) := by
  obtain ⟨d1, d2, d3, d4, d5⟩ := a
  refine ⟨d1, fun j hj => ?_, d3, d4, d5⟩
  show upd (h.2.1 5) i v j = -1 ∨ ∃ a, a ≤ 29 ∧ upd (h.2.1 5) i v j = nI a
  by_cases e : j = i
  · rw [e, q_us]; exact hv
  · rw [q_un e]; exact d2 j hj
theorem z_KP.w {n k : Nat} {h h2 : z_H} (a : ∀ i, i < n → h.2.1 5 i = -1 → h2.2.1 5 i = -1) (b : h2.2.2.2 = h.2.2.2) (c : h2.1 3 = h.1 3) : z_KP n k h h2 := ⟨a, fun r hr w u j hj => by rw [b]; exact u j hj, fun _ => c⟩
theorem q_rm {x p : Nat} (hp : 1 ≤ p) (hp9 : p < 1000) : z_rm (nI x) (nI p) = some (nI x - nI x / nI p * nI p) := by
  unfold z_rm
  rw [if_neg (by rw [show (0 : Int32) = nI 0 from rfl, q_eq hp9 (by decide)]; omega)]
-- ===== the servants of a minute =====
theorem q_d1 {a : Nat} (h : 1 ≤ a) : nI a - 1 = nI (a - 1) := pk_sub h
theorem q_h10 : nI 1 - 1 = 0 := by decide
theorem q_h00 : ((0 : Int32) ≤ 0) = True := eq_true (by decide)
theorem q_gk (G : z_G) (s j : Nat) (v : Int32) (r i : Nat) (hi : i ≠ j) : (z_gR G s (upd (G.2 s) j v)).2 r i = G.2 r i := by
  show (if r = s then upd (G.2 s) j v else G.2 r) i = G.2 r i
  by_cases e : r = s
  · rw [if_pos e, q_un hi, e]
  · rw [if_neg e]
def z_rt (G : z_G) (j : Nat) : z_G := z_gR (z_gR (z_gR G 2 (upd (G.2 2) j (-1))) 3 (upd (G.2 3) j (-1))) 4 (upd (G.2 4) j 0)
theorem q_rest {G : z_G} {j : Nat} (h : j < 12) : f_X3_rest G (nI j) = z_rt G j := by
  unfold f_X3_rest z_rt
  rw [q_rs (f := G.2 2) h, q_rs (f := G.2 3) h, q_rs (f := G.2 4) h]
theorem z_rt.k (G : z_G) (j r i : Nat) (hi : i ≠ j) : (z_rt G j).2 r i = G.2 r i :=
  (q_gk (z_gR (z_gR G 2 (upd (G.2 2) j (-1))) 3 (upd (G.2 3) j (-1))) 4 j 0 r i hi).trans ((q_gk (z_gR G 2 (upd (G.2 2) j (-1))) 3 j (-1) r i hi).trans (q_gk G 2 j (-1) r i hi))
theorem z_Dy.sv {n k : Nat} {h : z_H} {G : z_G} (D : z_Dy n k h) {j : Nat} (hj : j < k) (a1 : ∃ a, a ≤ 5 ∧ G.2 1 j = nI a) (a2 : z_Se n (G.2 2 j) (G.2 3 j) (G.2 4 j)) (hr : ∀ r, 1 ≤ r → r < 5 → ∀ i, i ≠ j → G.2 r i = h.2.2.2.2 r i) : z_Dy n k (z_hG h G) := by
  obtain ⟨d1, d2, d3, d4, d5⟩ := D
  refine ⟨d1, d2, d3, fun i hi => ?_, fun i h1 h2 => ?_⟩
  · show (∃ a, a ≤ 5 ∧ G.2 1 i = nI a) ∧ z_Se n (G.2 2 i) (G.2 3 i) (G.2 4 i)
    by_cases e : i = j
    · rw [e]; exact ⟨a1, a2⟩
    · rw [hr 1 (by omega) (by omega) i e, hr 2 (by omega) (by omega) i e, hr 3 (by omega) (by omega) i e, hr 4 (by omega) (by omega) i e]
      exact d4 i hi
  · show G.2 1 i = 0 ∧ G.2 4 i = 0
    rw [hr 1 (by omega) (by omega) i (by omega), hr 4 (by omega) (by omega) i (by omega)]
    exact d5 i h1 h2
theorem z_KP.sv {n k : Nat} {h h2 : z_H} (a : ∀ i, i < n → h.2.1 5 i = -1 → h2.2.1 5 i = -1) (b : ∀ r, r < n → h.2.1 5 r = -1 → ∀ j, j < k → h2.2.2.2.2 3 j = h.2.2.2.2 3 j ∨ h2.2.2.2.2 3 j ≠ nI r) (c : (∀ i, i < n → h.2.1 5 i = -1) → h2.1 3 = h.1 3) : z_KP n k h h2 :=
  ⟨a, fun r hr w u j hj => (b r hr w j hj).elim (fun e => by rw [e]; exact u j hj) id, c⟩
theorem q_m1e {r : Nat} (hr : r < 1000) : (-1 : Int32) ≠ nI r := fun z => q_m1 hr z.symm
-- ===== taking a drop out of the line =====
def z_sh (q : Nat → Int32) (p i : Nat) : Nat → Int32 := fun j => if p ≤ j ∧ j < i then q (j + 1) else q j
theorem z_sh.z (q : Nat → Int32) (p : Nat) : z_sh q p p = q := funext fun j => if_neg (by omega)
theorem z_sh.s (q : Nat → Int32) (p i : Nat) (h : p ≤ i) : upd (z_sh q p i) i (q (i + 1)) = z_sh q p (i + 1) := funext fun j => by
  unfold z_sh
  by_cases e : j = i
  · rw [e, q_us, if_pos (by omega)]
  · rw [q_un e]
    by_cases e2 : p ≤ j ∧ j < i
    · rw [if_pos e2, if_pos (by omega)]
    · rw [if_neg e2, if_neg (by omega)]
theorem q_uself (f : Nat → Int32) (i : Nat) : upd f i (f i) = f := funext fun j => by
  by_cases e : j = i
  · rw [e, q_us]
  · rw [q_un e]
theorem q_ge12 {i : Nat} (h : i < 12) : ¬ ((12 : Int32) ≤ nI i) := by rw [show (12 : Int32) = nI 12 from rfl, q_le (by omega) (by omega)]; omega
theorem q_rm2 {v : Int32} {q : Nat → Int32} {c p : Nat} (hc12 : c ≤ 12) (hne : ∀ j, j < c → j ≠ p → q j ≠ v) : ∀ (m i fu : Nat) (L : z_L), i + 1 + m = c → m < fu → L.1 = nI c → L.2 = z_sh q p i → p ≤ i → f_X1_remove_L4 fu v (nI i) (nI (i + 1)) L = some (nI (c - 1), z_lD L (z_sh q p (c - 1)))
  | 0, i, fu + 1, L, hm, _, hL, hs, hp => by
    have hi : c - 1 = i := by omega
    rw [f_X1_remove_L4, hL, if_pos (by rw [q_le (by omega) (by omega)]; omega), hi, ← hs]
    exact rfl
  | m + 1, i, fu + 1, L, hm, hf, hL, hs, hp => by
    have e1 : L.2 (i + 1) = q (i + 1) := by rw [hs]; exact if_neg (by omega)
    rw [f_X1_remove_L4, hL, if_neg (by rw [q_le (by omega) (by omega)]; omega), if_neg (q_ge12 (by omega)), q_at (by omega) (by omega)]
    show (if L.2 (i + 1) = v then _ else _) = _
    rw [if_neg (by rw [e1]; exact hne _ (by omega) (by omega)), if_neg (q_ge12 (by omega))]
    show (z_wr L.2 (nI i) 12 (L.2 (i + 1))).bind _ = _
    rw [q_wr (by omega) (by omega), e1]
    show f_X1_remove_L4 fu v (nI i + 1) (nI (i + 1) + 1) (z_lD L (upd L.2 i (q (i + 1)))) = _
    rw [q_s, q_s, hs, z_sh.s _ _ _ hp]
    exact q_rm2 hc12 hne m (i + 1) fu (z_lD L (z_sh q p (i + 1))) (by omega) (by omega) hL rfl (by omega)
theorem q_rm1 {v : Int32} {L : z_L} {c p : Nat} (hc12 : c ≤ 12) (hL : L.1 = nI c) (hp : p < c) (hv : L.2 p = v) (hne : ∀ j, j < c → j ≠ p → L.2 j ≠ v) : ∀ (m i fu : Nat), i + m = p → c - i < fu → f_X1_remove_L4 fu v (nI i) (nI i) L = some (nI (c - 1), z_lD L (z_sh L.2 p (c - 1)))
  | 0, i, fu + 1, hm, hf => by
    have hi : i = p := by omega
    rw [f_X1_remove_L4, hL, if_neg (by rw [q_le (by omega) (by omega)]; omega), if_neg (q_ge12 (by omega)), q_at (by omega) (by omega)]
    show (if L.2 i = v then _ else _) = _
    rw [hi, if_pos hv, q_s]
    exact q_rm2 hc12 hne (c - p - 1) p fu L (by omega) (by omega) hL (z_sh.z _ _).symm (Nat.le_refl p)
  | m + 1, i, fu + 1, hm, hf => by
    rw [f_X1_remove_L4, hL, if_neg (by rw [q_le (by omega) (by omega)]; omega), if_neg (q_ge12 (by omega)), q_at (by omega) (by omega)]
    show (if L.2 i = v then _ else _) = _
    rw [if_neg (hne i (by omega) (by omega)), if_neg (q_ge12 (by omega))]
    show (z_wr L.2 (nI i) 12 (L.2 i)).bind _ = _
    rw [q_wr (by omega) (by omega), q_uself]
    show f_X1_remove_L4 fu v (nI i + 1) (nI i + 1) L = _
    rw [q_s]
    exact q_rm1 hc12 hL hp hv hne m (i + 1) fu (by omega) (by omega)
theorem q_remove {v : Int32} {L : z_L} {c p : Nat} (hc12 : c ≤ 12) (hL : L.1 = nI c) (hp : p < c) (hv : L.2 p = v) (hne : ∀ j, j < c → j ≠ p → L.2 j ≠ v) : f_X1_remove L v = some (nI (c - 1), z_sh L.2 p (c - 1)) := by
  have e := q_rm1 hc12 hL hp hv hne p 0 z_FU (by omega) (by unfold z_FU; omega)
  unfold f_X1_remove
  show (f_X1_remove_L4 z_FU v (nI 0) (nI 0) L).bind _ = _
  rw [e]
  rfl
theorem z_Li.rm {n c p : Nat} {q : Nat → Int32} (hcn : c ≤ n) (l3 : ∀ j, j < c → ∃ a, a < n ∧ q j = nI a) (l4 : ∀ i j, i < c → j < c → q i = q j → i = j) : z_Li n (nI (c - 1), z_sh q p (c - 1)) := by
  refine ⟨c - 1, by omega, rfl, fun j hj => ?_, fun i j hi hj e => ?_⟩
  · show ∃ a, a < n ∧ z_sh q p (c - 1) j = nI a
    unfold z_sh
    by_cases e : p ≤ j ∧ j < c - 1
    · rw [if_pos e]; exact l3 (j + 1) (by omega)
    · rw [if_neg e]; exact l3 j (by omega)
  · have e : z_sh q p (c - 1) i = z_sh q p (c - 1) j := e
    unfold z_sh at e
    by_cases e1 : p ≤ i ∧ i < c - 1
    · by_cases e2 : p ≤ j ∧ j < c - 1
      · rw [if_pos e1, if_pos e2] at e
        have := l4 (i + 1) (j + 1) (by omega) (by omega) e
        omega
      · rw [if_pos e1, if_neg e2] at e
        have := l4 (i + 1) j (by omega) (by omega) e
        omega
    · by_cases e2 : p ≤ j ∧ j < c - 1
      · rw [if_neg e1, if_pos e2] at e
        have := l4 i (j + 1) (by omega) (by omega) e
        omega
      · rw [if_neg e1, if_neg e2] at e
        exact l4 i j (by omega) (by omega) e
-- ===== the nearest idle servant =====
def z_w (a b p : Nat) : Nat := Nat.max 1 ((a - b + (b - a) + p - 1) / p)
theorem q_wayAll : ∀ a : Fin 6, ∀ b : Fin 6, ∀ p : Fin 4, (1 ≤ z_w a.val b.val (p.val + 1) ∧ z_w a.val b.val (p.val + 1) ≤ 9) ∧ f_X3_minutesOfWay (nI a.val) (nI b.val) (nI (p.val + 1)) = some (nI (z_w a.val b.val (p.val + 1))) ∧ (z_dv (((if 0 ≤ (nI a.val - nI b.val) then (nI a.val - nI b.val) else 0 - (nI a.val - nI b.val)) + nI (p.val + 1)) - 1) (nI (p.val + 1))).bind (fun x35 => some (if 1 < x35 then x35 else 1)) = some (nI (z_w a.val b.val (p.val + 1))) := by decide +kernel
theorem q_way {a b p : Nat} (ha : a ≤ 5) (hb : b ≤ 5) (hp : 1 ≤ p) (hp4 : p ≤ 4) : (1 ≤ z_w a b p ∧ z_w a b p ≤ 9) ∧ f_X3_minutesOfWay (nI a) (nI b) (nI p) = some (nI (z_w a b p)) ∧ (z_dv (((if 0 ≤ (nI a - nI b) then (nI a - nI b) else 0 - (nI a - nI b)) + nI p) - 1) (nI p)).bind (fun x35 => some (if 1 < x35 then x35 else 1)) = some (nI (z_w a b p)) := by
  obtain ⟨q, rfl⟩ : ∃ q, p = q + 1 := ⟨p - 1, by omega⟩
  exact q_wayAll ⟨a, by omega⟩ ⟨b, by omega⟩ ⟨q, by omega⟩
def z_Wy (h : z_H) (fl j : Nat) : Nat := z_w (h.2.2.2.2 1 j).toNatClampNeg fl (h.2.2.2.2 0 j).toNatClampNeg
def z_id (h : z_H) (j : Nat) : Prop := h.2.2.2.2 2 j = -1 ∧ h.2.2.2.2 3 j = -1
-- ===== sending idle servants; a minute; minutes =====
def z_ic (h : z_H) : Nat → Nat
  | 0 => 0
  | m + 1 => z_ic h m + (if h.2.2.2.2 2 m = -1 ∧ h.2.2.2.2 3 m = -1 then 1 else 0)
theorem z_ic.le (h : z_H) : ∀ m, z_ic h m ≤ m
  | 0 => Nat.le_refl 0
  | m + 1 => by
    have i := z_ic.le h m
    unfold z_ic
    by_cases e : h.2.2.2.2 2 m = -1 ∧ h.2.2.2.2 3 m = -1
    · rw [if_pos e]; omega
    · rw [if_neg e]; omega
theorem z_ic.eq {h h2 : z_H} : ∀ m, (∀ i, i < m → (z_id h2 i ↔ z_id h i)) → z_ic h2 m = z_ic h m
  | 0, _ => rfl
  | m + 1, H => by
    have i := z_ic.eq (h := h) (h2 := h2) m (fun i hi => H i (by omega))
    unfold z_ic
    rw [i]
    by_cases e : z_id h m
    · have e2 := (H m (by omega)).2 e
      unfold z_id at e e2
      rw [if_pos e, if_pos e2]
    · have e2 := fun z => e ((H m (by omega)).1 z)
      unfold z_id at e e2
      rw [if_neg e, if_neg e2]
theorem z_ic.dn {h h2 : z_H} {b : Nat} (hb : z_id h b) (hb2 : ¬ z_id h2 b) (ho : ∀ i, i ≠ b → (z_id h2 i ↔ z_id h i)) : ∀ m, b < m → z_ic h2 m + 1 = z_ic h m
  | 0, H => by omega
  | m + 1, H => by
    by_cases e : m = b
    · have i := z_ic.eq (h := h) (h2 := h2) m (fun i hi => ho i (by omega))
      unfold z_ic
      rw [i]
      unfold z_id at hb hb2
      rw [e, if_pos hb, if_neg hb2]
    · have i := z_ic.dn hb hb2 ho m (by omega)
      unfold z_ic
      rw [← i]
      by_cases e3 : z_id h m
      · have e2 := (ho m e).2 e3
        unfold z_id at e3 e2
        rw [if_pos e3, if_pos e2]
        all_goals omega
      · have e2 := fun z => e3 ((ho m e).1 z)
        unfold z_id at e3 e2
        rw [if_neg e3, if_neg e2]
        all_goals omega
theorem q_first {L : z_L} {c : Nat} (hc : L.1 = nI c) (h1 : 1 ≤ c) (h2 : c ≤ 12) : f_X1_first L = some (L.2 0) := by
  unfold f_X1_first
  rw [hc, if_neg (by rw [show (0 : Int32) = nI 0 from rfl, q_le (by omega) (by omega)]; omega), if_neg (by decide)]
  rfl
theorem q_tel0 (x a : Int32) : x + (a - a) = x := by grind
theorem q_tel (x a b c : Int32) : x + (b - a) + (c - b) = x + (c - a) := by grind
-- ===== the trial: a copy, and what is tried in it =====
def z_EQ (h t : z_H) : Prop := (∀ i, i < 7 → t.1 i = h.1 i) ∧ (∀ r, r < 6 → ∀ i, i < 12 → t.2.1 r i = h.2.1 r i) ∧ t.2.2.1.1 = h.2.2.1.1 ∧ (∀ i, i < 12 → t.2.2.1.2 i = h.2.2.1.2 i) ∧ t.2.2.2.1 = h.2.2.2.1 ∧ (∀ r, r < 5 → ∀ i, i < 12 → t.2.2.2.2 r i = h.2.2.2.2 r i)
def z_cp (f f2 : Nat → Int32) (i : Nat) : Nat → Int32 := fun j => if j < i then f2 j else f j
theorem z_cp.s (f f2 : Nat → Int32) (i : Nat) : upd (z_cp f f2 i) i (f2 i) = z_cp f f2 (i + 1) := funext fun j => by
  unfold z_cp
  by_cases e : j = i
  · rw [e, q_us, if_pos (by omega)]
  · rw [q_un e]
    by_cases e2 : j < i
    · rw [if_pos e2, if_pos (by omega)]
    · rw [if_neg e2, if_neg (by omega)]
theorem q_i12 : (12 : Int32) ≤ nI 12 := by decide
theorem q_copy2 (f f2 : Nat → Int32) : ∀ (m i fu : Nat), i + m = 12 → m < fu → f_X2_copyFrom_L2 f2 fu (nI i) (z_cp f f2 i) = some (z_cp f f2 12)
  | 0, i, fu + 1, hm, _ => by
    have hi : i = 12 := by omega
    rw [f_X2_copyFrom_L2, hi, if_pos q_i12]
  | m + 1, i, fu + 1, hm, hf => by
    rw [f_X2_copyFrom_L2, if_neg (q_ge12 (by omega)), if_neg (q_ge12 (by omega)), q_at (by omega) (by omega), Option.bind_some, q_wr (by omega) (by omega), Option.bind_some, q_s, z_cp.s]
    exact q_copy2 f f2 m (i + 1) fu (by omega) (by omega)
theorem q_copy (f f2 : Nat → Int32) : f_X2_copyFrom f f2 = some (z_cp f f2 12) := by
  have e : f_X2_copyFrom_L2 f2 z_FU 0 f = some (z_cp f f2 12) := q_copy2 f f2 12 0 z_FU (by omega) (by unfold z_FU; omega)
  unfold f_X2_copyFrom
  rw [e, Option.bind_some]
theorem q_copyL2 (L L2 : z_L) : ∀ (m i fu : Nat), i + m = 12 → m < fu → f_X1_copyFrom_L10 L2 fu (nI i) (z_lD (z_lC L L2.1) (z_cp L.2 L2.2 i)) = some (z_lD (z_lC L L2.1) (z_cp L.2 L2.2 12))
  | 0, i, fu + 1, hm, _ => by
    have hi : i = 12 := by omega
    rw [f_X1_copyFrom_L10, hi, if_pos q_i12]
  | m + 1, i, fu + 1, hm, hf => by
    rw [f_X1_copyFrom_L10, if_neg (q_ge12 (by omega)), if_neg (q_ge12 (by omega)), q_at (by omega) (by omega), Option.bind_some]
    have e : (z_lD (z_lC L L2.1) (z_cp L.2 L2.2 i)).2 = z_cp L.2 L2.2 i := rfl
    rw [e, q_wr (by omega) (by omega), Option.bind_some, q_s, z_cp.s]
    exact q_copyL2 L L2 m (i + 1) fu (by omega) (by omega)
theorem q_copyL (L L2 : z_L) : f_X1_copyFrom L L2 = some (L2.1, z_cp L.2 L2.2 12) := by
  have e : f_X1_copyFrom_L10 L2 z_FU 0 (z_lC L L2.1) = some (z_lD (z_lC L L2.1) (z_cp L.2 L2.2 12)) := q_copyL2 L L2 12 0 z_FU (by omega) (by unfold z_FU; omega)
  unfold f_X1_copyFrom
  rw [e, Option.bind_some]
  rfl
theorem q_copyH (t h : z_H) : ∃ t2, f_X0_copyFrom t h = some t2 ∧ z_EQ h t2 := by
  unfold f_X0_copyFrom f_X3_copyFrom
  simp only [q_copy, q_copyL, Option.bind_some]
  refine ⟨_, rfl, fun i hi => ?_, fun r hr i hi => ?_, rfl, fun i hi => ?_, rfl, fun r hr i hi => ?_⟩
  · match i, hi with
    | 0, _ => rfl
    | 1, _ => rfl
    | 2, _ => rfl
    | 3, _ => rfl
    | 4, _ => rfl
    | 5, _ => rfl
    | 6, _ => rfl
  · match r, hr with
    | 0, _ => exact (if_pos hi : (if i < 12 then h.2.1 0 i else t.2.1 0 i) = h.2.1 0 i)
    | 1, _ => exact (if_pos hi : (if i < 12 then h.2.1 1 i else t.2.1 1 i) = h.2.1 1 i)
    | 2, _ => exact (if_pos hi : (if i < 12 then h.2.1 2 i else t.2.1 2 i) = h.2.1 2 i)
    | 3, _ => exact (if_pos hi : (if i < 12 then h.2.1 3 i else t.2.1 3 i) = h.2.1 3 i)
    | 4, _ => exact (if_pos hi : (if i < 12 then h.2.1 4 i else t.2.1 4 i) = h.2.1 4 i)
    | 5, _ => exact (if_pos hi : (if i < 12 then h.2.1 5 i else t.2.1 5 i) = h.2.1 5 i)
  · exact (if_pos hi : (if i < 12 then h.2.2.1.2 i else t.2.2.1.2 i) = h.2.2.1.2 i)
  · match r, hr with
    | 0, _ => exact (if_pos hi : (if i < 12 then h.2.2.2.2 0 i else t.2.2.2.2 0 i) = h.2.2.2.2 0 i)
    | 1, _ => exact (if_pos hi : (if i < 12 then h.2.2.2.2 1 i else t.2.2.2.2 1 i) = h.2.2.2.2 1 i)
    | 2, _ => exact (if_pos hi : (if i < 12 then h.2.2.2.2 2 i else t.2.2.2.2 2 i) = h.2.2.2.2 2 i)
    | 3, _ => exact (if_pos hi : (if i < 12 then h.2.2.2.2 3 i else t.2.2.2.2 3 i) = h.2.2.2.2 3 i)
    | 4, _ => exact (if_pos hi : (if i < 12 then h.2.2.2.2 4 i else t.2.2.2.2 4 i) = h.2.2.2.2 4 i)
theorem z_St.eq {n k : Nat} {h t : z_H} (E : z_EQ h t) (a : z_St n k h) : z_St n k t := by
  obtain ⟨e1, e2, e3, e4, e5, e6⟩ := E
  obtain ⟨s1, s2, s3, s4, s5, s6, s7, s8, s9, s10, s11⟩ := a
  refine ⟨s1, s2, (e1 1 (by omega)).trans s3, e5.trans s4, fun i hi => ?_, fun i hi => ?_, fun i hi => ?_, fun i hi => ?_, fun i j hi hj => ?_, fun i hi => ?_, fun j hj => ?_⟩
  · rw [e2 0 (by omega) i (by omega)]; exact s5 i hi
  · rw [e2 1 (by omega) i (by omega)]; exact s6 i hi
  · rw [e2 2 (by omega) i (by omega)]; exact s7 i hi
  · rw [e2 3 (by omega) i (by omega)]; exact s8 i hi
  · rw [e2 3 (by omega) i (by omega), e2 3 (by omega) j (by omega)]; exact s9 i j hi hj
  · rw [e2 4 (by omega) i (by omega)]; exact s10 i hi
  · rw [e6 0 (by omega) j (by omega)]; exact s11 j hj
theorem z_Dy.eq {n k : Nat} {h t : z_H} (hn : n ≤ 12) (hk : k ≤ 6) (E : z_EQ h t) (a : z_Dy n k h) : z_Dy n k t := by
  obtain ⟨e1, e2, e3, e4, e5, e6⟩ := E
  obtain ⟨d1, d2, ⟨c, l1, l2, l3, l4⟩, d4, d5⟩ := a
  refine ⟨?_, fun i hi => ?_, ⟨c, l1, e3.trans l2, fun j hj => ?_, fun i j hi hj => ?_⟩, fun j hj => ?_, fun j h1 h2 => ?_⟩
  · rw [e1 2 (by omega)]; exact d1
  · rw [e2 5 (by omega) i (by omega)]; exact d2 i hi
  · rw [e4 j (by omega)]; exact l3 j hj
  · rw [e4 i (by omega), e4 j (by omega)]; exact l4 i j hi hj
  · rw [e6 1 (by omega) j (by omega), e6 2 (by omega) j (by omega), e6 3 (by omega) j (by omega), e6 4 (by omega) j (by omega)]; exact d4 j hj
  · rw [e6 1 (by omega) j (by omega), e6 4 (by omega) j (by omega)]; exact d5 j h1 h2
theorem q_any {h : z_H} {n : Nat} (hn : n ≤ 12) (s3 : h.1 1 = nI n) : ∀ (m i fu : Nat), i + m = n → m < fu → ∃ x, f_X0_isAnyoneWaiting_L2 h fu (nI i) = some x ∧ ((x = 0 ∧ ∀ j, i ≤ j → j < n → h.2.1 5 j = -1) ∨ x = 1)
  | 0, i, fu + 1, hm, _ => ⟨0, by rw [f_X0_isAnyoneWaiting_L2, s3, if_pos (by rw [q_le (by omega) (by omega)]; omega)], Or.inl ⟨rfl, fun j h1 h2 => by omega⟩⟩
  | m + 1, i, fu + 1, hm, hf => by
    have hno : ¬ nI n ≤ nI i := by rw [q_le (by omega) (by omega)]; omega
    by_cases e : h.2.1 5 i = -1
    · obtain ⟨x, x1, x2⟩ := q_any hn s3 m (i + 1) fu (by omega) (by omega)
      refine ⟨x, ?_, ?_⟩
      · rw [f_X0_isAnyoneWaiting_L2, s3, if_neg hno, q_rg (by omega), if_pos e, q_s]; exact x1
      · rcases x2 with ⟨y1, y2⟩ | y
        · refine Or.inl ⟨y1, fun j h1 h2 => ?_⟩
          by_cases e2 : j = i
          · rw [e2]; exact e
          · exact y2 j (by omega) h2
        · exact Or.inr y
    · exact ⟨1, by rw [f_X0_isAnyoneWaiting_L2, s3, if_neg hno, q_rg (by omega), if_neg e], Or.inr rfl⟩
-- ===== until a room is served; the best room to cross with =====
theorem q_i60 {i : Nat} (hi : i < 900) : ((60 : Int32) < nI i) ↔ 60 < i := by rw [show (60 : Int32) = nI 60 from rfl, q_lt (by omega) (by omega)]
theorem q_j60 {i : Nat} (hi : i < 900) : (nI i ≤ (60 : Int32)) ↔ i ≤ 60 := by rw [show (60 : Int32) = nI 60 from rfl, q_le (by omega) (by omega)]
/-- two wires crossed -/
def z_sw (w : Nat → Int32) (a b : Nat) : Nat → Int32 := upd (upd w a (w b)) b (w a)
theorem z_sw.at {w : Nat → Int32} {a b i : Nat} : z_sw w a b i = w (if i = b then a else if i = a then b else i) := by
  unfold z_sw
  by_cases e : i = b
  · rw [e, q_us, if_pos rfl]
  · rw [q_un e, if_neg e]
    by_cases e2 : i = a
    · rw [e2, q_us, if_pos rfl]
    · rw [q_un e2, if_neg e2]
theorem z_St.sw {n k : Nat} {h : z_H} (H : z_St n k h) {a b : Nat} (ha : a < n) (hb : b < n) : z_St n k (z_hR h 3 (z_sw (h.2.1 3) a b)) := by
  obtain ⟨s1, s2, s3, s4, s5, s6, s7, s8, s9, s10, s11⟩ := H
  have hx : ∀ i, i < n → (if i = b then a else if i = a then b else i) < n := fun i hi => by
    by_cases e : i = b
    · rw [if_pos e]; exact ha
    · rw [if_neg e]
      by_cases e2 : i = a
      · rw [if_pos e2]; exact hb
      · rw [if_neg e2]; exact hi
  refine ⟨s1, s2, s3, s4, s5, s6, s7, fun i hi => ?_, fun i j hi hj e => ?_, s10, s11⟩
  · show ∃ c, c < n ∧ z_sw (h.2.1 3) a b i = nI c
    rw [z_sw.at]
    exact s8 _ (hx i hi)
  · have e : z_sw (h.2.1 3) a b i = z_sw (h.2.1 3) a b j := e
    rw [z_sw.at, z_sw.at] at e
    have e2 := s9 _ _ (hx i hi) (hx j hj) e
    by_cases p1 : i = b
    · rw [if_pos p1] at e2
      by_cases p2 : j = b
      · omega
      · rw [if_neg p2] at e2
        by_cases p3 : j = a
        · rw [if_pos p3] at e2; omega
        · rw [if_neg p3] at e2; omega
    · rw [if_neg p1] at e2
      by_cases p2 : j = b
      · rw [if_pos p2] at e2
        by_cases p3 : i = a
        · rw [if_pos p3] at e2; omega
        · rw [if_neg p3] at e2; omega
      · rw [if_neg p2] at e2
        by_cases p3 : i = a
        · rw [if_pos p3] at e2
          by_cases p4 : j = a
          · omega
          · rw [if_neg p4] at e2; omega
        · rw [if_neg p3] at e2
          by_cases p4 : j = a
          · rw [if_pos p4] at e2; omega
          · rw [if_neg p4] at e2; exact e2
theorem q_swapC {h : z_H} {a b : Nat} (ha : a < 12) (hb : b < 12) : f_X0_swapWires h (nI a) (nI b) = z_hR h 3 (z_sw (h.2.1 3) a b) := by
  unfold f_X0_swapWires z_sw
  rw [q_rg ha, q_rg hb, q_rs ha, q_rs hb]
-- ===== the mean: what it can be, and that it equals itself =====
def z_mn (s c : Nat) : Prop := (FP.ddiv (FP.i2d (nI s)) (FP.i2d (nI (c + 1))) &&& 0x7fffffffffffffff ≤ 0x7ff0000000000000) ∧ Op.cmpValue (FP.dcmp (FP.ddiv (FP.i2d (nI s)) (FP.i2d (nI (c + 1)))) (FP.ddiv (FP.i2d (nI s)) (FP.i2d (nI (c + 1))))) .l = 0
theorem q_meanAll : ∀ s : Fin 349, ∀ c : Fin 12, (FP.ddiv (FP.i2d (nI s.val)) (FP.i2d (nI (c.val + 1))) &&& 0x7fffffffffffffff ≤ 0x7ff0000000000000) ∧ Op.cmpValue (FP.dcmp (FP.ddiv (FP.i2d (nI s.val)) (FP.i2d (nI (c.val + 1)))) (FP.ddiv (FP.i2d (nI s.val)) (FP.i2d (nI (c.val + 1))))) .l = 0 := by decide +kernel
theorem q_mean {s c : Nat} (hs : s ≤ 348) (hc1 : 1 ≤ c) (hc : c ≤ 12) : ∃ x, z_dd (FP.i2d (nI s)) (FP.i2d (nI c)) = some x ∧ Op.cmpValue (FP.dcmp x x) .l = 0 := by
  obtain ⟨d, rfl⟩ : ∃ d, c = d + 1 := ⟨c - 1, by omega⟩
  have e := q_meanAll ⟨s, by omega⟩ ⟨d, by omega⟩
  refine ⟨FP.ddiv (FP.i2d (nI s)) (FP.i2d (nI (d + 1))), ?_, e.2⟩
  unfold z_dd
  rw [if_pos e.1]
theorem q_mean0 : Op.cmpValue (FP.dcmp FP.dconst0 FP.dconst0) .l = 0 := by decide +kernel
-- ===== the class's scans, beside the model's =====
/-- the wires as numbers -/
def z_wi (h : z_H) (i : Nat) : Nat := (h.2.1 3 i).toNatClampNeg
theorem z_wi.e {n k : Nat} {h : z_H} (hSt : z_St n k h) {i : Nat} (hi : i < n) : h.2.1 3 i = nI (z_wi h i) ∧ z_wi h i < n := by
  have s1 := hSt.1
  obtain ⟨a, ha, e⟩ := hSt.2.2.2.2.2.2.2.1 i hi
  unfold z_wi
  rw [e, q_cl (by omega)]
  exact ⟨rfl, ha⟩
theorem z_wi.inj {n k : Nat} {h : z_H} (hSt : z_St n k h) {i j : Nat} (hi : i < n) (hj : j < n) (e : z_wi h i = z_wi h j) : i = j :=
  hSt.2.2.2.2.2.2.2.2.1 i j hi hj (by rw [(z_wi.e hSt hi).1, (z_wi.e hSt hj).1, e])
theorem q_mI : (-1 : Int32).toInt = -1 := by decide
theorem q_m1le {a : Nat} (ha : a < 1000) : (-1 : Int32) ≤ nI a := by
  rw [Int32.le_iff_toInt_le, q_mI, nI_toInt (q_b ha)]
  omega
theorem q_nlem1 {a : Nat} (ha : a < 1000) : ¬ nI a ≤ (-1 : Int32) := by
  rw [Int32.le_iff_toInt_le, q_mI, nI_toInt (q_b ha)]
  omega
-- the round of a wire: w r, w (w r), ..
def z_rd (w : Nat → Nat) (r : Nat) : Nat → Nat
  | 0 => w r
  | s + 1 => w (z_rd w r s)
theorem z_rd.lt {w : Nat → Nat} {n r : Nat} (hw : ∀ i, i < n → w i < n) (hr : r < n) : ∀ s, z_rd w r s < n
  | 0 => hw r hr
  | s + 1 => hw _ (z_rd.lt hw hr s)
theorem z_rd.back {w : Nat → Nat} {n r : Nat} (hw : ∀ i, i < n → w i < n) (hi : ∀ i j, i < n → j < n → w i = w j → i = j) (hr : r < n) : ∀ a b, z_rd w r a = z_rd w r (a + b + 1) → z_rd w r b = r
  | 0, b, e => by
    have e : w r = w (z_rd w r (0 + b)) := e
    rw [Nat.zero_add] at e
    exact (hi _ _ hr (z_rd.lt hw hr b) e).symm
  | a + 1, b, e => by
    have e : w (z_rd w r a) = w (z_rd w r (a + 1 + b)) := e
    have e2 := hi _ _ (z_rd.lt hw hr a) (z_rd.lt hw hr _) e
    refine z_rd.back hw hi hr a b ?_
    rw [e2, show a + 1 + b = a + b + 1 by omega]
theorem z_first (P : Nat → Prop) : ∀ n, (∃ s, s < n ∧ P s) → ∃ s, s < n ∧ P s ∧ ∀ t, t < s → ¬ P t
  | 0, ⟨s, h, _⟩ => by omega
  | n + 1, ⟨s, h, p⟩ => by
    by_cases e : ∃ s, s < n ∧ P s
    · obtain ⟨t, a, b, c⟩ := z_first P n e
      exact ⟨t, by omega, b, c⟩
    · refine ⟨s, h, p, fun t ht q => e ⟨t, by omega, q⟩⟩
theorem z_rd.ends {w : Nat → Nat} {n r : Nat} (hw : ∀ i, i < n → w i < n) (hi : ∀ i j, i < n → j < n → w i = w j → i = j) (hr : r < n) : ∃ s, s < n ∧ z_rd w r s ≤ r ∧ ∀ t, t < s → ¬ z_rd w r t ≤ r := by
  refine z_first (fun s => z_rd w r s ≤ r) n ?_
  refine Classical.byContradiction fun hx => ?_
  have hgt : ∀ s, s < n → r < z_rd w r s := fun s hs => by
    rcases Nat.lt_or_ge r (z_rd w r s) with q | q
    · exact q
    · exact absurd ⟨s, hs, q⟩ hx
  obtain ⟨i, j, hij, hj, e⟩ := fb_twice (m := n - 1) (n := n) (f := fun s => z_rd w r s - (r + 1)) (fun i hi' => by
    have a := hgt i hi'
    have b := z_rd.lt hw hr i
    show z_rd w r i - (r + 1) < n - 1
    omega) (by omega)
  have a := hgt i (by omega)
  have b := hgt j hj
  have e : z_rd w r i - (r + 1) = z_rd w r j - (r + 1) := e
  have e2 : z_rd w r i = z_rd w r j := by omega
  have c := z_rd.back hw hi hr i (j - i - 1) (by rw [e2]; congr 1; omega)
  have d := hgt (j - i - 1) (by omega)
  omega
theorem q_first11 {n k r s : Nat} {h : z_H} (hSt : z_St n k h) (hr : r < n) (hs : s < n) (h1 : z_rd (z_wi h) r s ≤ r) (h2 : ∀ t, t < s → ¬ z_rd (z_wi h) r t ≤ r) : ∀ (m t fu : Nat), t + m = s → m < fu → f_X0_isFirstOfItsCircle_L11 h fu (nI r) (nI (z_rd (z_wi h) r t)) (nI t) = some (if z_rd (z_wi h) r s = r then 1 else 0)
  | 0, t, fu + 1, hm, _ => by
    have s1 := hSt.1
    have ht : t = s := by omega
    rw [f_X0_isFirstOfItsCircle_L11, hSt.2.2.1, if_neg (by rw [q_le (by omega) (by omega)]; omega), ht]
    by_cases e : z_rd (z_wi h) r s = r
    · rw [if_pos e, if_pos (by rw [e])]
    · rw [if_neg e, if_neg (by rw [q_eq (by omega) (by omega)]; exact e), if_neg (by rw [q_le (by omega) (by omega)]; omega)]
  | m + 1, t, fu + 1, hm, hf => by
    have s1 := hSt.1
    have hl := z_rd.lt (w := z_wi h) (n := n) (r := r) (fun i hi => (z_wi.e hSt hi).2) hr t
    have hn := h2 t (by omega)
    rw [f_X0_isFirstOfItsCircle_L11, hSt.2.2.1, if_neg (by rw [q_le (by omega) (by omega)]; omega), if_neg (by rw [q_eq (by omega) (by omega)]; omega), if_pos (by rw [q_le (by omega) (by omega)]; omega), q_rg (by omega), (z_wi.e hSt hl).1, q_s]
    exact q_first11 hSt hr hs h1 h2 m (t + 1) fu (by omega) (by omega)
-- ===== the relation; what a call's number is; each answer beside the model's own =====
def z_fr (n : Nat) (h : z_H) : Prop := ∀ i, n ≤ i → i < 12 → h.2.1 4 i = 0
theorem z_fr.mv {n : Nat} {h h2 : z_H} (s : z_ST h h2) (H : z_fr n h) : z_fr n h2 := fun i a b => by
  rw [s.2.1 4 (by decide)]
  exact H i a b
theorem q_0I : (0 : Int32).toInt = 0 := by decide
theorem q_below {n : Nat} {v : Int32} (hn : n < 1000) (h0 : ¬ v < 0) (h : nI n ≤ v) : nI n - 1 < v := by
  rw [Int32.lt_iff_toInt_lt]
  have a0 : ¬ v.toInt < 0 := fun z => h0 (Int32.lt_iff_toInt_lt.mpr (by rw [q_0I]; exact z))
  have a1 := Int32.le_iff_toInt_le.mp h
  rw [nI_toInt (q_b hn)] at a1
  rcases Nat.eq_zero_or_pos n with e | e
  · rw [e, show nI 0 - 1 = -1 by decide, q_mI]; omega
  · rw [q_d1 e, nI_toInt (q_b (by omega))]; omega
theorem q_bo1 : z_bo 1 = some 1 := rfl
theorem q_bo0 : z_bo 0 = some 0 := rfl
theorem q_00 : ((0 : Int32) = 0) = True := eq_true rfl
-- ===== what changes the house, beside the model's =====
theorem q_app5 (h : z_H) (f : Nat → Int32) (v : Int32) : f_X0_pullBell (z_hR h 5 f) v = (f_X0_pullBell h v).bind (fun p => some (p.1, z_hR p.2 5 f)) := by
  unfold f_X0_pullBell
  show (if z_rg (h.2.1 4) v = 1 then some (0, z_hS (z_hR h 5 f) 6 (h.1 6 + 1)) else if f_X0_costFrom (z_rg (h.2.1 0) v) ≤ h.1 2 then (f_X1_placeOf h.2.2.1 (z_rg (h.2.1 3) v)).bind (fun x68 => if x68 = -1 then (f_X1_append h.2.2.1 (z_rg (h.2.1 3) v)).bind (fun x80 => some (1, z_hL (z_hS (z_hR h 5 f) 2 (h.1 2 - f_X0_costFrom (z_rg (h.2.1 0) v))) x80)) else some (1, z_hS (z_hR h 5 f) 2 (h.1 2 - f_X0_costFrom (z_rg (h.2.1 0) v)))) else some (0, z_hS (z_hR h 5 f) 6 (h.1 6 + 1))) = _
  by_cases e1 : z_rg (h.2.1 4) v = 1
  · rw [if_pos e1, if_pos e1]; rfl
  · rw [if_neg e1, if_neg e1]
    by_cases e2 : f_X0_costFrom (z_rg (h.2.1 0) v) ≤ h.1 2
    · rw [if_pos e2, if_pos e2]
      cases f_X1_placeOf h.2.2.1 (z_rg (h.2.1 3) v) with
      | none => rfl
      | some x =>
        rw [Option.bind_some, Option.bind_some]
        by_cases e3 : x = -1
        · rw [if_pos e3, if_pos e3]
          cases f_X1_append h.2.2.1 (z_rg (h.2.1 3) v) with
          | none => rfl
          | some y => rfl
        · rw [if_neg e3, if_neg e3]; rfl
    · rw [if_neg e2, if_neg e2]; rfl
theorem q_bor {b : Int32} (h : b = 0 ∨ b = 1) : z_bo b = some b := by
  unfold z_bo
  rw [if_pos h]
theorem z_fr.ct {n r : Nat} {h : z_H} {v : Int32} (F : z_fr n h) (hr : r < n) : z_fr n (z_hR h 4 (upd (h.2.1 4) r v)) := fun i a b => by
  show upd (h.2.1 4) r v i = 0
  rw [q_un (by omega)]
  exact F i a b
theorem q_nar1 : vp_nar .boolean 1 = 1 := by decide
theorem q_nar0 : vp_nar .boolean 0 = 0 := by decide
theorem q_pm (a : Int32) : a + 1 - 1 = a := by grind
