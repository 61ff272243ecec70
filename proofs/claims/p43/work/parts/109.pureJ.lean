-- ===== circles of wires =====
theorem z_rd.add (w : Nat → Nat) (r a : Nat) : ∀ b, z_rd w r (a + b + 1) = z_rd w (z_rd w r a) b
  | 0 => rfl
  | b + 1 => by
    show w (z_rd w r (a + b + 1)) = w (z_rd w (z_rd w r a) b)
    rw [z_rd.add w r a b]
def z_on (w : Nat → Nat) (x y : Nat) : Prop := ∃ s, z_rd w x s = y
def z_pm (n : Nat) (w : Nat → Nat) : Prop := (∀ i, i < n → w i < n) ∧ (∀ i j, i < n → j < n → w i = w j → i = j)
theorem z_wi.pm {n k : Nat} {h : z_H} (S : z_St n k h) : z_pm n (z_wi h) := ⟨fun i hi => (z_wi.e S hi).2, fun i j hi hj e => z_wi.inj S hi hj e⟩
theorem z_on.lt {n : Nat} {w : Nat → Nat} (hw : z_pm n w) {x y : Nat} (hx : x < n) : z_on w x y → y < n := fun ⟨s, e⟩ => by rw [← e]; exact z_rd.lt hw.1 hx s
theorem z_on.tr {w : Nat → Nat} {x y z : Nat} : z_on w x y → z_on w y z → z_on w x z := fun ⟨a, e⟩ ⟨b, e2⟩ => ⟨a + b + 1, by rw [z_rd.add, e]; exact e2⟩
theorem z_on.rf {n : Nat} {w : Nat → Nat} (hw : z_pm n w) {x : Nat} (hx : x < n) : z_on w x x := by
  obtain ⟨i, j, hij, hj, e⟩ := fb_twice (m := n) (n := n + 1) (f := fun s => z_rd w x s) (fun i _ => z_rd.lt hw.1 hx i) (by omega)
  have e : z_rd w x i = z_rd w x j := e
  exact ⟨j - i - 1, z_rd.back hw.1 hw.2 hx i (j - i - 1) (by rw [e]; congr 1; omega)⟩
theorem z_on.b1 {n : Nat} {w : Nat → Nat} (hw : z_pm n w) {x : Nat} (hx : x < n) : z_on w (w x) x := by
  obtain ⟨p, e⟩ := z_on.rf hw hx
  cases p with
  | zero =>
    have e : w x = x := e
    rw [e]; exact ⟨0, e⟩
  | succ p =>
    refine ⟨p, ?_⟩
    have e2 := z_rd.add w x 0 p
    rw [Nat.zero_add] at e2
    exact e2.symm.trans e
theorem z_on.sm {n : Nat} {w : Nat → Nat} (hw : z_pm n w) {x : Nat} (hx : x < n) : ∀ (s y : Nat), z_rd w x s = y → z_on w y x
  | 0, y, e => by
    have e : w x = y := e
    rw [← e]; exact z_on.b1 hw hx
  | s + 1, y, e => by
    have e : w (z_rd w x s) = y := e
    rw [← e]
    exact (z_on.b1 hw (z_rd.lt hw.1 hx s)).tr (z_on.sm hw hx s _ rfl)
theorem z_on.sy {n : Nat} {w : Nat → Nat} (hw : z_pm n w) {x y : Nat} (hx : x < n) : z_on w x y → z_on w y x := fun ⟨s, e⟩ => z_on.sm hw hx s y e
def z_mi (w : Nat → Nat) (r : Nat) : Prop := ∀ s, r ≤ z_rd w r s
def z_mx (w : Nat → Nat) (r : Nat) : Prop := ∀ s, z_rd w r s ≤ r
/-- what holds on the way back holds on the whole circle -/
theorem z_rd.all {w : Nat → Nat} {r s : Nat} (e : z_rd w r s = r) {P : Nat → Prop} (h : ∀ t, t ≤ s → P (z_rd w r t)) : ∀ t, P (z_rd w r t) := fun t => by
  induction t using Nat.strongRecOn with
  | ind t ih =>
    by_cases ht : t ≤ s
    · exact h t ht
    · have e2 := z_rd.add w r s (t - s - 1)
      rw [e, show s + (t - s - 1) + 1 = t by omega] at e2
      rw [e2]
      exact ih _ (by omega)
theorem z_mi.ex {n : Nat} {w : Nat → Nat} (hw : z_pm n w) {i : Nat} (hi : i < n) : ∃ m, m < n ∧ z_on w i m ∧ z_mi w m := by
  obtain ⟨m, m1, m2, m3⟩ := z_first (fun m => z_on w i m) n ⟨i, hi, z_on.rf hw hi⟩
  refine ⟨m, m1, m2, fun s => ?_⟩
  rcases Nat.lt_or_ge (z_rd w m s) m with q | q
  · exact absurd (m2.tr ⟨s, rfl⟩) (m3 _ q)
  · exact q
theorem z_mx.ex {n : Nat} {w : Nat → Nat} (hw : z_pm n w) {i : Nat} (hi : i < n) : ∃ m, m < n ∧ z_on w i m ∧ z_mx w m := by
  obtain ⟨m, m1, m2, m3⟩ := z_first (fun m => z_on w i (n - 1 - m)) n ⟨n - 1 - i, by omega, by rw [show n - 1 - (n - 1 - i) = i by omega]; exact z_on.rf hw hi⟩
  refine ⟨n - 1 - m, by omega, m2, fun s => ?_⟩
  rcases Nat.lt_or_ge (n - 1 - m) (z_rd w (n - 1 - m) s) with q | q
  · have o : z_on w i (z_rd w (n - 1 - m) s) := m2.tr ⟨s, rfl⟩
    have := o.lt hw hi
    refine absurd ?_ (m3 (n - 1 - z_rd w (n - 1 - m) s) (by omega))
    rw [show n - 1 - (n - 1 - z_rd w (n - 1 - m) s) = z_rd w (n - 1 - m) s by omega]
    exact o
  · exact q
theorem z_mi.u {n : Nat} {w : Nat → Nat} (hw : z_pm n w) {i j : Nat} (hi : i < n) (a : z_mi w i) (b : z_mi w j) (o : z_on w i j) : i = j := by
  obtain ⟨s, e⟩ := o
  obtain ⟨t, e2⟩ := z_on.sm hw hi s j e
  have x := a s
  have y := b t
  omega
theorem z_mx.u {n : Nat} {w : Nat → Nat} (hw : z_pm n w) {i j : Nat} (hi : i < n) (a : z_mx w i) (b : z_mx w j) (o : z_on w i j) : i = j := by
  obtain ⟨s, e⟩ := o
  obtain ⟨t, e2⟩ := z_on.sm hw hi s j e
  have x := a s
  have y := b t
  omega
-- counting
noncomputable def z_k1 (p : Prop) : Nat := @ite _ p (Classical.propDecidable p) 1 0
theorem z_k1.t {p : Prop} (h : p) : z_k1 p = 1 := if_pos h
theorem z_k1.f {p : Prop} (h : ¬ p) : z_k1 p = 0 := if_neg h
theorem z_k1.cg {p q : Prop} (h : p ↔ q) : z_k1 p = z_k1 q := by
  by_cases hp : p
  · rw [z_k1.t hp, z_k1.t (h.1 hp)]
  · rw [z_k1.f hp, z_k1.f (fun z => hp (h.2 z))]
noncomputable def z_cn (P : Nat → Prop) : Nat → Nat
  | 0 => 0
  | m + 1 => z_cn P m + z_k1 (P m)
theorem z_cn.cg {P Q : Nat → Prop} : ∀ n, (∀ i, i < n → (P i ↔ Q i)) → z_cn P n = z_cn Q n
  | 0, _ => rfl
  | n + 1, h => by
    rw [z_cn, z_cn, z_cn.cg n (fun i hi => h i (by omega)), z_k1.cg (h n (by omega))]
theorem z_cn.rm {P : Nat → Prop} {y : Nat} (hy : P y) : ∀ n, y < n → z_cn P n = z_cn (fun x => P x ∧ x ≠ y) n + 1
  | 0, h => by omega
  | n + 1, h => by
    rw [z_cn, z_cn]
    by_cases e : y = n
    · rw [z_cn.cg (P := P) (Q := fun x => P x ∧ x ≠ y) n (fun i hi => ⟨fun z => ⟨z, by omega⟩, fun z => z.1⟩), ← e, z_k1.t hy, z_k1.f (fun z => z.2 rfl)]
    · rw [z_cn.rm hy n (by omega), z_k1.cg (p := P n) (q := P n ∧ n ≠ y) ⟨fun z => ⟨z, by omega⟩, fun z => z.1⟩]
      omega
theorem z_cn.inj : ∀ (n m : Nat) (P Q : Nat → Prop) (f : Nat → Nat), (∀ i, i < n → P i → f i < m ∧ Q (f i)) → (∀ i j, i < n → j < n → P i → P j → f i = f j → i = j) → z_cn P n ≤ z_cn Q m
  | 0, m, P, Q, f, _, _ => Nat.zero_le _
  | n + 1, m, P, Q, f, h1, h2 => by
    rw [z_cn]
    by_cases hp : P n
    · rw [z_k1.t hp, z_cn.rm (h1 n (by omega) hp).2 m (h1 n (by omega) hp).1]
      have := z_cn.inj n m P (fun x => Q x ∧ x ≠ f n) f (fun i hi pi => ⟨(h1 i (by omega) pi).1, (h1 i (by omega) pi).2, fun e => by
        have := h2 i n (by omega) (by omega) pi hp e
        omega⟩) (fun i j hi hj => h2 i j (by omega) (by omega))
      omega
    · rw [z_k1.f hp]
      exact z_cn.inj n m P Q f (fun i hi => h1 i (by omega)) (fun i j hi hj => h2 i j (by omega) (by omega))
theorem z_cn.not (P : Nat → Prop) : ∀ n, z_cn P n + z_cn (fun x => ¬ P x) n = n
  | 0 => rfl
  | n + 1 => by
    have := z_cn.not P n
    rw [z_cn, z_cn]
    by_cases hp : P n
    · rw [z_k1.t hp, z_k1.f (fun z => z hp)]; omega
    · rw [z_k1.f hp, z_k1.t hp]; omega
theorem z_cn.and (P R : Nat → Prop) : ∀ n, z_cn P n = z_cn (fun x => P x ∧ R x) n + z_cn (fun x => P x ∧ ¬ R x) n
  | 0 => rfl
  | n + 1 => by
    have := z_cn.and P R n
    rw [z_cn, z_cn, z_cn]
    by_cases hp : P n
    · by_cases hr : R n
      · rw [z_k1.t hp, z_k1.t ⟨hp, hr⟩, z_k1.f (fun z => z.2 hr)]; omega
      · rw [z_k1.t hp, z_k1.f (fun z => hr z.2), z_k1.t ⟨hp, hr⟩]; omega
    · rw [z_k1.f hp, z_k1.f (fun z => hp z.1), z_k1.f (fun z => hp z.1)]; omega
/-- as many circles as there are firsts, as lasts -/
theorem z_cn.ch {n : Nat} {w : Nat → Nat} (hw : z_pm n w) {A B : Nat → Prop} (hA : ∀ i j, i < n → A i → A j → z_on w i j → i = j) (hB : ∀ i, i < n → ∃ m, m < n ∧ z_on w i m ∧ B m) : z_cn A n ≤ z_cn B n := by
  have hch : ∀ i, ∃ m, i < n → (m < n ∧ z_on w i m ∧ B m) := fun i => by
    by_cases hi : i < n
    · obtain ⟨m, hm⟩ := hB i hi
      exact ⟨m, fun _ => hm⟩
    · exact ⟨0, fun z => absurd z hi⟩
  refine z_cn.inj n n A B (fun i => Classical.choose (hch i)) (fun i hi _ => ?_) (fun i j hi hj ai aj e => ?_)
  · have := Classical.choose_spec (hch i) hi
    exact ⟨this.1, this.2.2⟩
  · have si := Classical.choose_spec (hch i) hi
    have sj := Classical.choose_spec (hch j) hj
    have e : Classical.choose (hch i) = Classical.choose (hch j) := e
    rw [e] at si
    exact hA i j hi ai aj (si.2.1.tr (sj.2.1.sy hw hj))
theorem z_cn.mm {n : Nat} {w : Nat → Nat} (hw : z_pm n w) : z_cn (fun r => ¬ z_mx w r) n = z_cn (fun r => ¬ z_mi w r) n := by
  have a := z_cn.ch hw (A := z_mi w) (B := z_mx w) (fun i j hi a b o => z_mi.u hw hi a b o) (fun i hi => z_mx.ex hw hi)
  have b := z_cn.ch hw (A := z_mx w) (B := z_mi w) (fun i j hi a b o => z_mx.u hw hi a b o) (fun i hi => z_mi.ex hw hi)
  have c := z_cn.not (z_mi w) n
  have d := z_cn.not (z_mx w) n
  omega
theorem z_cr.cn (w : Nat → Nat) : ∀ n, z_cr w n = z_cn (fun i => w i ≠ i) n
  | 0 => rfl
  | n + 1 => by
    rw [z_cr, z_cn, z_cr.cn w n]
    by_cases e : w n = n
    · rw [if_pos e, z_k1.f (fun z => z e)]
    · rw [if_neg e, z_k1.t e]
theorem z_rd.fx {w : Nat → Nat} {r : Nat} (e : w r = r) : ∀ s, z_rd w r s = r
  | 0 => e
  | s + 1 => by
    show w (z_rd w r s) = r
    rw [z_rd.fx e s]; exact e
/-- the crossings that are needed, and the wires that are crossed -/
theorem z_need {n : Nat} {w : Nat → Nat} (hw : z_pm n w) : z_cn (fun r => ¬ z_mi w r) n ≤ z_cr w n ∧ (0 < z_cr w n → z_cn (fun r => ¬ z_mi w r) n < z_cr w n) ∧ z_cr w n ≤ 2 * z_cn (fun r => ¬ z_mi w r) n := by
  rw [z_cr.cn]
  have nf : ∀ i, ¬ z_mi w i → w i ≠ i := fun i hm e => hm (fun s => by rw [z_rd.fx e s]; exact Nat.le_refl _)
  have h1 : z_cn (fun r => ¬ z_mi w r) n ≤ z_cn (fun i => w i ≠ i) n := z_cn.inj n n _ _ id (fun i hi hm => ⟨hi, nf i hm⟩) (fun i j _ _ _ _ e => e)
  refine ⟨h1, fun hp => ?_, ?_⟩
  · have hex : ∃ i, i < n ∧ w i ≠ i := by
      refine Classical.byContradiction fun hx => ?_
      have : z_cn (fun i => w i ≠ i) n = z_cn (fun _ => False) n := z_cn.cg n (fun i hi => ⟨fun z => hx ⟨i, hi, z⟩, fun z => z.elim⟩)
      have z : ∀ m, z_cn (fun _ => False) m = 0 := fun m => by
        induction m with
        | zero => rfl
        | succ m ih => rw [z_cn, ih, z_k1.f id]
      rw [this, z] at hp
      omega
    obtain ⟨i, hi, hwi⟩ := hex
    obtain ⟨m, m1, m2, m3⟩ := z_mi.ex hw hi
    have hm : w m ≠ m := fun e => by
      obtain ⟨s, e2⟩ := m2.sy hw hi
      rw [z_rd.fx e s] at e2
      rw [← e2] at hwi
      exact hwi e
    have a : z_cn (fun r => ¬ z_mi w r) n ≤ z_cn (fun x => w x ≠ x ∧ x ≠ m) n := z_cn.inj n n _ _ id (fun j hj hmj => ⟨hj, nf j hmj, fun e => hmj (by rw [show j = m from e]; exact m3)⟩) (fun i j _ _ _ _ e => e)
    have b := z_cn.rm (P := fun x => w x ≠ x) hm n m1
    omega
  · have a := z_cn.and (fun i => w i ≠ i) (z_mi w) n
    have b : z_cn (fun x => w x ≠ x ∧ z_mi w x) n ≤ z_cn (fun r => ¬ z_mi w r) n := z_cn.inj n n _ _ w (fun i hi z => ⟨hw.1 i hi, fun q => by
      have h0 := z.2 0
      have h0 : i ≤ w i := h0
      obtain ⟨s, e⟩ := z_on.b1 hw hi
      have := q s
      have := z.1
      omega⟩) (fun i j hi hj _ _ e => hw.2 i j hi hj e)
    have c : z_cn (fun x => w x ≠ x ∧ ¬ z_mi w x) n ≤ z_cn (fun r => ¬ z_mi w r) n := z_cn.inj n n _ _ id (fun i hi z => ⟨hi, z.2⟩) (fun i j _ _ _ _ e => e)
    omega
theorem c_first {n k : Nat} {h : z_H} (S : z_St n k h) {r : Nat} (hr : r < n) : (f_X0_isFirstOfItsCircle h (nI r) = some 1 ∧ z_mi (z_wi h) r) ∨ (f_X0_isFirstOfItsCircle h (nI r) = some 0 ∧ ¬ z_mi (z_wi h) r) := by
  have hn := S.1
  have hw := z_wi.pm S
  obtain ⟨s, s1, s2, s3⟩ := z_rd.ends hw.1 hw.2 hr
  have e := q_first11 S hr s1 s2 s3 s 0 z_FU (by omega) (by unfold z_FU; omega)
  have e2 : f_X0_isFirstOfItsCircle h (nI r) = some (if z_rd (z_wi h) r s = r then 1 else 0) := by
    unfold f_X0_isFirstOfItsCircle
    rw [q_rg (by omega), (z_wi.e S hr).1]
    exact e
  by_cases q : z_rd (z_wi h) r s = r
  · refine Or.inl ⟨by rw [e2, if_pos q], z_rd.all (P := fun x => r ≤ x) q (fun t ht => ?_)⟩
    by_cases e3 : t = s
    · rw [e3, q]; exact Nat.le_refl _
    · have := s3 t (by omega)
      omega
  · refine Or.inr ⟨by rw [e2, if_neg q], fun z => ?_⟩
    have := z s
    omega
theorem c_need4 {n k : Nat} {h T : z_H} (S : z_St n k h) : ∀ (m i fu : Nat), i + m = n → m < fu → f_X4_crossingsNeeded_L4 (h, T) fu (nI (z_cn (fun r => ¬ z_mi (z_wi h) r) i)) (nI i) = some (nI (z_cn (fun r => ¬ z_mi (z_wi h) r) n))
  | 0, i, fu + 1, hm, _ => by
    have hn := S.1
    rw [f_X4_crossingsNeeded_L4]
    show (if h.1 1 ≤ nI i then _ else _) = _
    rw [S.2.2.1, if_pos (by rw [q_le (by omega) (by omega)]; omega), show i = n by omega]
  | m + 1, i, fu + 1, hm, hf => by
    have hn := S.1
    have ih := c_need4 S (T := T) m (i + 1) fu (by omega) (by omega)
    rw [f_X4_crossingsNeeded_L4]
    show (if h.1 1 ≤ nI i then _ else (f_X0_isFirstOfItsCircle h (nI i)).bind _) = _
    rw [S.2.2.1, if_neg (by rw [q_le (by omega) (by omega)]; omega)]
    rw [z_cn] at ih
    rcases c_first S (r := i) (by omega) with ⟨a, b⟩ | ⟨a, b⟩
    · rw [a, Option.bind_some, if_neg (by decide), q_s]
      rw [z_k1.f (fun z => z b)] at ih
      exact ih
    · rw [a, Option.bind_some, if_pos rfl, q_s, q_s]
      rw [z_k1.t b] at ih
      exact ih
theorem c_needed {n k : Nat} {h T : z_H} (S : z_St n k h) : f_X4_crossingsNeeded (h, T) = some (nI (z_cn (fun r => ¬ z_mi (z_wi h) r) n)) := by
  have hn := S.1
  unfold f_X4_crossingsNeeded
  show (f_X4_crossingsNeeded_L4 (h, T) z_FU (nI (z_cn (fun r => ¬ z_mi (z_wi h) r) 0)) (nI 0)).bind _ = _
  rw [c_need4 S n 0 z_FU (by omega) (by unfold z_FU; omega)]; rfl
-- the crossings by hand
theorem z_wi.sw {h : z_H} {a b i : Nat} : z_wi (z_hR h 3 (z_sw (h.2.1 3) a b)) i = z_wi h (if i = b then a else if i = a then b else i) := by
  unfold z_wi
  show (z_sw (h.2.1 3) a b i).toNatClampNeg = _
  rw [z_sw.at]
theorem p_x23 {n k r : Nat} {tQ : z_Q} (ht : tQ.2.1.1 = n) : ∀ (m o fu u : Nat) (h : z_H) (Q : z_Q), o + m = n → m < fu → r < o → z_I n k h Q → ∃ (u' : Nat) (h' : z_H) (Q' : z_Q), f_X5_crossings_L23 tQ fu (nI u) (nI r) (nI o) Q = some (nI u', nI r, Q') ∧ z_I n k h' Q' ∧ (((∀ x, o ≤ x → x < n → z_wi h x ≠ r) ∧ u' = u ∧ h' = h) ∨ ∃ x, o ≤ x ∧ x < n ∧ z_wi h x = r ∧ u' = u + 1 ∧ ∀ i, z_wi h' i = z_wi h (if i = x then r else if i = r then x else i))
  | 0, o, fu + 1, u, h, Q, hm, _, hr, H => by
    have hn := H.1.1
    refine ⟨u, h, Q, ?_, H, Or.inl ⟨fun x x1 x2 => by omega, rfl, rfl⟩⟩
    rw [f_X5_crossings_L23]; (try dsimp only); rw [ht, if_pos (by rw [q_le (by omega) (by omega)]; omega)]
  | m + 1, o, fu + 1, u, h, Q, hm, hf, hr, H => by
    have hn := H.1.1
    have eo := z_wi.e H.1 (i := o) (by omega)
    have hQ1 : Q.2.1.1 = n ∧ Q.2.1.2 o 4 = nI (z_wi h o) := by
      obtain ⟨hSt, hDy, hF, s, R, V, c, L, rfl, hQ⟩ := H
      exact ⟨rfl, (hQ.2.1 o (by omega)).2.2.2.2.1.trans eo.1⟩
    have st : f_X5_crossings_L23 tQ (fu + 1) (nI u) (nI r) (nI o) Q = if z_wi h o = r then f_X5_crossings_L23 tQ fu (nI (u + 1)) (nI r) (nI (o + 1)) (g_sw Q r o) else f_X5_crossings_L23 tQ fu (nI u) (nI r) (nI (o + 1)) Q := by
      rw [f_X5_crossings_L23]; (try dsimp only); rw [ht, if_neg (by rw [q_le (by omega) (by omega)]; omega), hQ1.1, q_ai (by omega) (by omega), Option.bind_some, hQ1.2]
      by_cases e : z_wi h o = r
      · rw [if_pos e, if_pos (by rw [e]), p_crossQ hn hQ1.1 (by omega) (by omega)]
        simp only [Option.bind_some, q_s]
      · rw [if_neg e, if_neg (by rw [q_eq (by omega) (by omega)]; exact e), Option.bind_some, q_s]
    by_cases e : z_wi h o = r
    · have H2 := H.sw (a := r) (b := o) (by omega) (by omega)
      obtain ⟨u', h', Q', a1, a2, a3⟩ := p_x23 (r := r) ht m (o + 1) fu (u + 1) _ (g_sw Q r o) (by omega) (by omega) (by omega) H2
      have er : z_wi (z_hR h 3 (z_sw (h.2.1 3) r o)) r = r := by
        rw [z_wi.sw, if_neg (by omega), if_pos rfl]; exact e
      rcases a3 with ⟨b1, b2, b3⟩ | ⟨x, x1, x2, x3, x4, x5⟩
      · refine ⟨u', h', Q', by rw [st, if_pos e]; exact a1, a2, Or.inr ⟨o, Nat.le_refl _, by omega, e, b2, fun i => ?_⟩⟩
        rw [b3, z_wi.sw]
      · have := z_wi.inj H2.1 x2 (show r < n by omega) (x3.trans er.symm)
        omega
    · obtain ⟨u', h', Q', a1, a2, a3⟩ := p_x23 (r := r) ht m (o + 1) fu u h Q (by omega) (by omega) (by omega) H
      refine ⟨u', h', Q', by rw [st, if_neg e]; exact a1, a2, ?_⟩
      rcases a3 with ⟨b1, b2, b3⟩ | ⟨x, x1, x2⟩
      · refine Or.inl ⟨fun x x1 x2 => ?_, b2, b3⟩
        by_cases ee : x = o
        · rw [ee]; exact e
        · exact b1 x (by omega) x2
      · exact Or.inr ⟨x, by omega, x2⟩
def z_iv (n r : Nat) (w cur : Nat → Nat) : Prop := (∀ x, x < r → cur x = x) ∧ ∀ x, r ≤ x → x < n → ∃ s, z_rd w x s = cur x ∧ r ≤ cur x ∧ ∀ t, t < s → z_rd w x t < r
theorem p_x9 {n k : Nat} {tQ : z_Q} (ht : tQ.2.1.1 = n) {w : Nat → Nat} : ∀ (m r fu : Nat) (h : z_H) (Q : z_Q), r + m = n → m < fu → z_I n k h Q → z_iv n r w (z_wi h) → ∃ Q', f_X5_crossings_L9 tQ fu (nI (z_cn (fun r => ¬ z_mx w r) r)) (nI r) Q = some (nI (z_cn (fun r => ¬ z_mx w r) n), Q')
  | 0, r, fu + 1, h, Q, hm, _, H, hv => by
    have hn := H.1.1
    refine ⟨Q, ?_⟩
    rw [f_X5_crossings_L9]; (try dsimp only); rw [ht, if_pos (by rw [q_le (by omega) (by omega)]; omega), show r = n by omega]
  | m + 1, r, fu + 1, h, Q, hm, hf, H, hv => by
    have hn := H.1.1
    have hb : z_cn (fun r => ¬ z_mx w r) r ≤ r := by
      have := z_cn.not (fun r => ¬ z_mx w r) r
      omega
    obtain ⟨u', h', Q', a1, a2, a3⟩ := p_x23 ht m (r + 1) z_F14 (z_cn (fun r => ¬ z_mx w r) r) h Q (r := r) (by omega) (by unfold z_F14; omega) (by omega) H
    have hw := z_wi.pm H.1
    obtain ⟨s, s1, s2, s3⟩ := hv.2 r (Nat.le_refl _) (by omega)
    have st : ∀ c, u' = c → f_X5_crossings_L9 tQ (fu + 1) (nI (z_cn (fun r => ¬ z_mx w r) r)) (nI r) Q = f_X5_crossings_L9 tQ fu (nI c) (nI (r + 1)) Q' := fun c e => by
      rw [f_X5_crossings_L9]; (try dsimp only); rw [ht, if_neg (by rw [q_le (by omega) (by omega)]; omega), q_s, a1, e]
      simp only [Option.bind_some, q_s]
    rcases a3 with ⟨b1, b2, b3⟩ | ⟨x, x1, x2, x3, x4, x5⟩
    · have hrr : z_wi h r = r := by
        obtain ⟨x, hx, e⟩ := z_wi.on H.1 (d := r) (by omega)
        rcases Nat.lt_trichotomy x r with q | q | q
        · have := hv.1 x q
          omega
        · rw [← q]; rw [q] at e; rw [q]; exact e
        · exact absurd e (b1 x (by omega) hx)
      have hmx : z_mx w r := z_rd.all (P := fun x => x ≤ r) (s1.trans hrr) (fun t ht => by
        by_cases e3 : t = s
        · rw [e3, s1, hrr]; exact Nat.le_refl _
        · have := s3 t (by omega)
          omega)
      subst b3
      have hc : z_cn (fun r => ¬ z_mx w r) (r + 1) = z_cn (fun r => ¬ z_mx w r) r := by rw [z_cn, z_k1.f (fun z => z hmx)]; rfl
      obtain ⟨Q2, c⟩ := p_x9 ht (w := w) m (r + 1) fu h' Q' (by omega) (by omega) a2 ⟨fun x hx => by
        by_cases e : x = r
        · rw [e]; exact hrr
        · exact hv.1 x (by omega), fun x q1 q2 => by
        obtain ⟨t, t1, t2, t3⟩ := hv.2 x (by omega) q2
        refine ⟨t, t1, ?_, fun y hy => by have := t3 y hy; omega⟩
        have : z_wi h' x ≠ r := fun e => by
          have := hw.2 x r q2 (by omega) (e.trans hrr.symm)
          omega
        omega⟩
      rw [hc] at c
      exact ⟨Q2, by rw [st _ b2]; exact c⟩
    · have hxr : z_wi h r ≠ r := fun e => by
        have := hw.2 x r x2 (by omega) (x3.trans e.symm)
        omega
      have hmx : ¬ z_mx w r := fun z => by
        have := z s
        rw [s1] at this
        omega
      have hc : z_cn (fun r => ¬ z_mx w r) (r + 1) = z_cn (fun r => ¬ z_mx w r) r + 1 := by rw [z_cn, z_k1.t hmx]
      obtain ⟨Q2, c⟩ := p_x9 ht (w := w) m (r + 1) fu h' Q' (by omega) (by omega) a2 ⟨fun y hy => by
        rw [x5, if_neg (by omega)]
        by_cases e : y = r
        · rw [if_pos e, x3, e]
        · rw [if_neg e]; exact hv.1 y (by omega), fun y q1 q2 => by
        rw [x5]
        by_cases e : y = x
        · rw [if_pos e, e]
          obtain ⟨t, t1, t2, t3⟩ := hv.2 x (by omega) x2
          rw [x3] at t1
          refine ⟨t + s + 1, by rw [z_rd.add, t1]; exact s1, by omega, fun v hv' => ?_⟩
          rcases Nat.lt_trichotomy v t with q | q | q
          · have := t3 v q; omega
          · rw [q, t1]; omega
          · have e2 := z_rd.add w x t (v - t - 1)
            rw [show t + (v - t - 1) + 1 = v by omega, t1] at e2
            rw [e2]
            have := s3 (v - t - 1) (by omega)
            omega
        · rw [if_neg e, if_neg (by omega)]
          obtain ⟨t, t1, t2, t3⟩ := hv.2 y (by omega) q2
          refine ⟨t, t1, ?_, fun v hv' => by have := t3 v hv'; omega⟩
          have : z_wi h y ≠ r := fun ee => e (hw.2 y x q2 x2 (ee.trans x3.symm))
          omega⟩
      rw [hc] at c
      exact ⟨Q2, by rw [st _ x4]; exact c⟩
theorem p_crossings {n k : Nat} {h : z_H} {Q : z_Q} (H : z_I n k h Q) : f_X5_crossings Q = some (nI (z_cn (fun r => ¬ z_mi (z_wi h) r) n)) := by
  have hn := H.1.1
  have hk := H.1.2.1
  have e : Q.2.1.1 = n ∧ Q.2.2.1.1 = k := by
    obtain ⟨hSt, hDy, hF, s, R, V, c, L, rfl, hQ⟩ := H
    exact ⟨rfl, rfl⟩
  obtain ⟨Q', a⟩ := p_x9 e.1 (w := z_wi h) n 0 z_F14 h Q (by omega) (by unfold z_F14; omega) H ⟨fun x hx => by omega, fun x _ hx => ⟨0, rfl, Nat.zero_le _, fun t ht => by omega⟩⟩
  have a : f_X5_crossings_L9 Q z_F14 0 0 Q = some (nI (z_cn (fun r => ¬ z_mx (z_wi h) r) n), Q') := a
  unfold f_X5_crossings
  rw [if_neg (by omega), a, z_cn.mm (z_wi.pm H.1)]
  rfl
