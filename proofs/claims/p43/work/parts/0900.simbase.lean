-- ===== the house by hand (class X5): its state, its world; rows over it =====
-- scalars minute charge served inVain gaveUp unheard; rooms: how many, rows of 6; servants: how many, rows of 5; the line: how many, the drops
abbrev z_Q : Type := (Nat → Int32) × (Nat × (Nat → Nat → Int32)) × (Nat × (Nat → Nat → Int32)) × (Nat × (Nat → Int32))
-- where its rows lie: rooms, servants, line; each room's, each servant's
abbrev z_D : Type := (Nat × Nat × Nat) × (Nat → Nat) × (Nat → Nat)
def z_qS (Q : z_Q) (j : Nat) (v : Int32) : z_Q := (upd Q.1 j v, Q.2)
def z_qR (Q : z_Q) (i : Nat) (g : Nat → Int32) : z_Q := (Q.1, (Q.2.1.1, z_ur Q.2.1.2 i g), Q.2.2)
def z_qV (Q : z_Q) (i : Nat) (g : Nat → Int32) : z_Q := (Q.1, Q.2.1, (Q.2.2.1.1, z_ur Q.2.2.1.2 i g), Q.2.2.2)
def z_qL (Q : z_Q) (n : Nat) (g : Nat → Int32) : z_Q := (Q.1, Q.2.1, Q.2.2.1, (n, g))
def z_qNR (Q : z_Q) (g : Nat → Int32) : z_Q := (Q.1, (Q.2.1.1 + 1, z_ur Q.2.1.2 Q.2.1.1 g), Q.2.2)
def z_qNV (Q : z_Q) (g : Nat → Int32) : z_Q := (Q.1, Q.2.1, (Q.2.2.1.1 + 1, z_ur Q.2.2.1.2 Q.2.2.1.1 g), Q.2.2.2)
def z_dL (D : z_D) (q : Nat) : z_D := ((D.1.1, D.1.2.1, q), D.2)
def z_rows (X : z_X) (p : Nat → Nat) (c : Nat) (R : Nat → Nat → Int32) (n : Nat) : va_W := (List.range n).map (fun i => (p i, .inl (X.2.1, c, .inl (R i))))
def z_fs (D : z_D) (Q : z_Q) : List Value := [.ref D.1.1, .ref D.1.2.1, .ref D.1.2.2, .int (Q.1 0), .int (Q.1 1), .int (Q.1 2), .int (Q.1 3), .int (Q.1 4), .int (Q.1 5)]
abbrev z_pa (p : Nat → Nat) : Nat → Option Nat := fun i => some (p i)
abbrev z_ra (n : Nat) (p : Nat → Option Nat) : vp_A := (n, .inr (.inr (.inr (.inr p))))
def z_h4 (X : z_X) (a : Nat) (D : z_D) (Q : z_Q) : va_W := [(a, .inr (5, z_fs D Q)), (D.1.1, .inl (X.2.2.2, z_ra Q.2.1.1 (z_pa D.2.1))), (D.1.2.1, .inl (X.2.2.2, z_ra Q.2.2.1.1 (z_pa D.2.2))), (D.1.2.2, .inl (X.2.1, Q.2.2.2.1, .inl Q.2.2.2.2))]
def z_wS (X : z_X) (a : Nat) (D : z_D) (Q : z_Q) : va_W := z_h4 X a D Q ++ (z_rows X D.2.1 6 Q.2.1.2 Q.2.1.1 ++ z_rows X D.2.2 5 Q.2.2.1.2 Q.2.2.1.1)
/-- the world of the law's side: what stands ahead, the house by hand, what was made beside -/
def z_W (wl : va_W) (X : z_X) (a : Nat) (D : z_D) (Q : z_Q) (ex : va_W) : va_W := wl ++ (z_wS X a D Q ++ ex)
theorem z_rows_len (X : z_X) (p : Nat → Nat) (c : Nat) (R : Nat → Nat → Int32) (n : Nat) : (z_rows X p c R n).length = n := by simp [z_rows]
theorem z_rows_get {X : z_X} {p : Nat → Nat} {c : Nat} {R : Nat → Nat → Int32} {n i : Nat} (h : i < n) : (z_rows X p c R n)[i]? = some (p i, .inl (X.2.1, c, .inl (R i))) := by
  simp [z_rows, List.getElem?_map, List.getElem?_range h]
theorem z_rows_set {X : z_X} {p : Nat → Nat} {c : Nat} {R : Nat → Nat → Int32} {n i : Nat} {g : Nat → Int32} (h : i < n) : (z_rows X p c R n).set i (p i, .inl (X.2.1, c, .inl g)) = z_rows X p c (z_ur R i g) n := by
  refine List.ext_getElem? fun j => ?_
  by_cases e : j = i
  · subst e
    rw [List.getElem?_set_self (by rw [z_rows_len]; exact h), z_rows_get h]
    unfold z_ur; rw [if_pos rfl]
  · rw [List.getElem?_set_ne (Ne.symm e)]
    by_cases hj : j < n
    · rw [z_rows_get hj, z_rows_get hj]; unfold z_ur; rw [if_neg e]
    · rw [List.getElem?_eq_none (by rw [z_rows_len]; omega), List.getElem?_eq_none (by rw [z_rows_len]; omega)]
section ZQ
variable {wl ex : va_W} {X : z_X} {a : Nat} {D : z_D} {Q : z_Q}
theorem z_wS_len : (z_wS X a D Q).length = 4 + (Q.2.1.1 + Q.2.2.1.1) := by
  unfold z_wS; rw [List.length_append, List.length_append, z_rows_len, z_rows_len]; rfl
theorem zg_h {i : Nat} (h : i < 4) : (z_W wl X a D Q ex)[wl.length + i]? = (z_h4 X a D Q)[i]? := by
  unfold z_W z_wS
  rw [List.getElem?_append_right (Nat.le_add_right _ _), Nat.add_sub_cancel_left, List.append_assoc, List.getElem?_append_left h]
theorem zg_0 : (z_W wl X a D Q ex)[wl.length + 0]? = some (a, .inr (5, z_fs D Q)) := zg_h (by decide)
theorem zg_1 : (z_W wl X a D Q ex)[wl.length + 1]? = some (D.1.1, .inl (X.2.2.2, z_ra Q.2.1.1 (z_pa D.2.1))) := zg_h (by decide)
theorem zg_2 : (z_W wl X a D Q ex)[wl.length + 2]? = some (D.1.2.1, .inl (X.2.2.2, z_ra Q.2.2.1.1 (z_pa D.2.2))) := zg_h (by decide)
theorem zg_3 : (z_W wl X a D Q ex)[wl.length + 3]? = some (D.1.2.2, .inl (X.2.1, Q.2.2.2.1, .inl Q.2.2.2.2)) := zg_h (by decide)
theorem zg_r {i : Nat} (h : i < Q.2.1.1) : (z_W wl X a D Q ex)[wl.length + (4 + i)]? = some (D.2.1 i, .inl (X.2.1, 6, .inl (Q.2.1.2 i))) := by
  unfold z_W
  rw [List.getElem?_append_right (Nat.le_add_right _ _), Nat.add_sub_cancel_left, List.getElem?_append_left (by rw [z_wS_len]; omega)]
  unfold z_wS
  rw [show 4 + i = (z_h4 X a D Q).length + i from rfl, List.getElem?_append_right (Nat.le_add_right _ _), Nat.add_sub_cancel_left, List.getElem?_append_left (by rw [z_rows_len]; omega)]
  exact z_rows_get h
theorem zg_v {i : Nat} (h : i < Q.2.2.1.1) : (z_W wl X a D Q ex)[wl.length + (4 + (Q.2.1.1 + i))]? = some (D.2.2 i, .inl (X.2.1, 5, .inl (Q.2.2.1.2 i))) := by
  unfold z_W
  rw [List.getElem?_append_right (Nat.le_add_right _ _), Nat.add_sub_cancel_left, List.getElem?_append_left (by rw [z_wS_len]; omega)]
  unfold z_wS
  rw [show 4 + (Q.2.1.1 + i) = (z_h4 X a D Q).length + (Q.2.1.1 + i) from rfl, List.getElem?_append_right (Nat.le_add_right _ _), Nat.add_sub_cancel_left, List.getElem?_append_right (by rw [z_rows_len]; omega), z_rows_len, Nat.add_sub_cancel_left]
  exact z_rows_get h
theorem zg_e (i : Nat) : (z_W wl X a D Q ex)[wl.length + (4 + (Q.2.1.1 + Q.2.2.1.1) + i)]? = ex[i]? := by
  unfold z_W
  rw [List.getElem?_append_right (Nat.le_add_right _ _), Nat.add_sub_cancel_left, List.getElem?_append_right (by rw [z_wS_len]; omega), z_wS_len, Nat.add_sub_cancel_left]
theorem z_set_r {α : Type} {u v : List α} {i : Nat} {x : α} : (u ++ v).set (u.length + i) x = u ++ v.set i x := by
  rw [List.set_append_right _ _ (Nat.le_add_right _ _), Nat.add_sub_cancel_left]
theorem zs_0 {j : Nat} {v : Int32} (h : (z_fs D Q).set (3 + j) (.int v) = z_fs D (z_qS Q j v)) : (z_W wl X a D Q ex).set (wl.length + 0) (a, .inr (5, (z_fs D Q).set (3 + j) (.int v))) = z_W wl X a D (z_qS Q j v) ex := by
  rw [h]; unfold z_W; rw [z_set_r]; rfl
theorem zs_r {i : Nat} {g : Nat → Int32} (h : i < Q.2.1.1) : (z_W wl X a D Q ex).set (wl.length + (4 + i)) (D.2.1 i, .inl (X.2.1, 6, .inl g)) = z_W wl X a D (z_qR Q i g) ex := by
  unfold z_W
  rw [z_set_r, List.set_append_left _ _ (by rw [z_wS_len]; omega)]
  unfold z_wS
  rw [show 4 + i = (z_h4 X a D Q).length + i from rfl, z_set_r, List.set_append_left _ _ (by rw [z_rows_len]; omega), z_rows_set h]
  rfl
theorem zs_v {i : Nat} {g : Nat → Int32} (h : i < Q.2.2.1.1) : (z_W wl X a D Q ex).set (wl.length + (4 + (Q.2.1.1 + i))) (D.2.2 i, .inl (X.2.1, 5, .inl g)) = z_W wl X a D (z_qV Q i g) ex := by
  unfold z_W
  rw [z_set_r, List.set_append_left _ _ (by rw [z_wS_len]; omega)]
  unfold z_wS
  rw [show 4 + (Q.2.1.1 + i) = (z_h4 X a D Q).length + (Q.2.1.1 + i) from rfl, z_set_r]
  have e : Q.2.1.1 + i = (z_rows X D.2.1 6 Q.2.1.2 Q.2.1.1).length + i := by rw [z_rows_len]
  rw [e, z_set_r, z_rows_set h]
  rfl
theorem zs_e {i : Nat} {x : Nat × va_E} : (z_W wl X a D Q ex).set (wl.length + (4 + (Q.2.1.1 + Q.2.2.1.1) + i)) x = z_W wl X a D Q (ex.set i x) := by
  unfold z_W
  rw [z_set_r, ← z_wS_len (X := X) (a := a) (D := D) (Q := Q), z_set_r]
end ZQ
-- a world's middle part
theorem z_S_mid (wl wc wr : va_W) : z_S (wl ++ (wc ++ wr)) wc := by
  refine ⟨(List.range wc.length).map (fun i => wl.length + i), ?_, ?_⟩
  · refine List.ext_getElem? fun j => ?_
    rw [List.map_map, List.getElem?_map, List.getElem?_map]
    by_cases h : j < wc.length
    · rw [List.getElem?_range h]
      show some ((wl ++ (wc ++ wr))[wl.length + j]?) = _
      rw [List.getElem?_append_right (Nat.le_add_right _ _), Nat.add_sub_cancel_left, List.getElem?_append_left h, List.getElem?_eq_getElem h]; rfl
    · rw [List.getElem?_eq_none (by simp; omega), List.getElem?_eq_none (by omega)]; rfl
  · have key : ∀ (l : List Nat), l.Nodup → va_nd l = true := by
      intro l
      induction l with
      | nil => intro _; rfl
      | cons x l ih =>
        intro h
        obtain ⟨h1, h2⟩ := List.nodup_cons.mp h
        unfold va_nd
        rw [decide_eq_true h1, ih h2]; rfl
    refine key _ ?_
    refine List.Pairwise.map _ (fun x y h e => h (by omega)) List.nodup_range
/-- behind a call: what stands about the callee's part stays -/
theorem z_join3 {A0 : Nat → Prop} {D : va_G} {cl : List vw_C} {wl wc wr u : va_W} {H H1 : Heap} (hP : va_P D cl (wl ++ (wc ++ wr)) H) (hD : va_D A0 (wl ++ (wc ++ wr))) (hk : ∀ q : Nat, q < H.size → ¬ va_A wc H.size q → H1[q]? = H[q]?) (hf : ∀ q, va_A wc H.size q → A0 q) (hP1 : va_P D cl u H1) (hD1 : va_D (va_A wc H.size) u) : va_P D cl (wl ++ (u ++ wr)) H1 ∧ va_D A0 (wl ++ (u ++ wr)) := by
  have gl : ∀ (k : Nat) (q : Nat × va_E), wl[k]? = some q → (wl ++ (wc ++ wr))[k]? = some q := fun k q h => by
    rw [List.getElem?_append_left (List.getElem?_eq_some_iff.mp h).1]; exact h
  have gc : ∀ (k : Nat) (q : Nat × va_E), wc[k]? = some q → (wl ++ (wc ++ wr))[wl.length + k]? = some q := fun k q h => by
    rw [List.getElem?_append_right (Nat.le_add_right _ _), Nat.add_sub_cancel_left, List.getElem?_append_left (List.getElem?_eq_some_iff.mp h).1]; exact h
  have gr : ∀ (k : Nat) (q : Nat × va_E), wr[k]? = some q → (wl ++ (wc ++ wr))[wl.length + (wc.length + k)]? = some q := fun k q h => by
    rw [List.getElem?_append_right (Nat.le_add_right _ _), Nat.add_sub_cancel_left, List.getElem?_append_right (Nat.le_add_right _ _), Nat.add_sub_cancel_left]; exact h
  have outl : ∀ (k : Nat) (q : Nat × va_E), wl[k]? = some q → q.1 < H.size ∧ ¬ va_A wc H.size q.1 := fun k q h => by
    have hl := (hP k q (gl k q h)).lt
    refine ⟨hl, fun z => ?_⟩
    rcases z with ⟨j, e, z⟩ | z
    · have := hD.1 k (wl.length + j) q (q.1, e) (gl k q h) (gc j _ z) rfl
      have := (List.getElem?_eq_some_iff.mp h).1
      omega
    · omega
  have outr : ∀ (k : Nat) (q : Nat × va_E), wr[k]? = some q → q.1 < H.size ∧ ¬ va_A wc H.size q.1 := fun k q h => by
    have hl := (hP _ q (gr k q h)).lt
    refine ⟨hl, fun z => ?_⟩
    rcases z with ⟨j, e, z⟩ | z
    · have := hD.1 _ (wl.length + j) q (q.1, e) (gr k q h) (gc j _ z) rfl
      have := (List.getElem?_eq_some_iff.mp z).1
      omega
    · omega
  refine ⟨va_P.app (fun k q h => ?_) (va_P.app hP1 (fun k q h => ?_)), va_D.app ?_ (va_D.app (hD1.weaken (fun k q _ h => hf q.1 h)) ?_ (fun i j p q hp hq e => ?_)) (fun i j p q hp hq e => ?_)⟩
  · exact (hP k q (gl k q h)).kept (hk q.1 (outl k q h).1 (outl k q h).2)
  · exact (hP _ q (gr k q h)).kept (hk q.1 (outr k q h).1 (outr k q h).2)
  · exact ⟨fun i j p q hp hq e => hD.1 i j p q (gl i p hp) (gl j q hq) e, fun k q h => hD.2 k q (gl k q h)⟩
  · refine ⟨fun i j p q hp hq e => ?_, fun k q h => hD.2 _ q (gr k q h)⟩
    have := hD.1 _ _ p q (gr i p hp) (gr j q hq) e
    omega
  · exact (outr j q hq).2 (by rw [← e]; exact hD1.2 i p hp)
  · rcases List.mem_append.mp (List.mem_of_getElem? hq) with h | h
    · obtain ⟨j2, h2⟩ := List.getElem?_of_mem h
      exact (outl i p hp).2 (by rw [e]; exact hD1.2 j2 q h2)
    · obtain ⟨j2, h2⟩ := List.getElem?_of_mem h
      have := hD.1 i _ p q (gl i p hp) (gr j2 q h2) e
      have := (List.getElem?_eq_some_iff.mp hp).1
      omega
theorem z_dropP {D : va_G} {cl : List vw_C} {w ex : va_W} {H : Heap} (h : va_P D cl (w ++ ex) H) : va_P D cl w H := fun k q hk => h k q (by rw [List.getElem?_append_left (List.getElem?_eq_some_iff.mp hk).1]; exact hk)
theorem z_dropD {A : Nat → Prop} {w ex : va_W} (h : va_D A (w ++ ex)) : va_D A w := by
  have g : ∀ (k : Nat) (q : Nat × va_E), w[k]? = some q → (w ++ ex)[k]? = some q := fun k q hk => by rw [List.getElem?_append_left (List.getElem?_eq_some_iff.mp hk).1]; exact hk
  exact ⟨fun i j p q hp hq e => h.1 i j p q (g i p hp) (g j q hq) e, fun k q hk => h.2 k q (g k q hk)⟩
theorem z_dropW {D : va_G} {cl : List vw_C} {wl : va_W} {X : z_X} {a : Nat} {d : z_D} {Q : z_Q} {ex : va_W} {H : Heap} (h : va_P D cl (z_W wl X a d Q ex) H) : va_P D cl (z_W wl X a d Q []) H := by
  unfold z_W at h ⊢; rw [List.append_nil]; rw [← List.append_assoc] at h; exact z_dropP h
theorem z_dropV {A : Nat → Prop} {wl : va_W} {X : z_X} {a : Nat} {d : z_D} {Q : z_Q} {ex : va_W} (h : va_D A (z_W wl X a d Q ex)) : va_D A (z_W wl X a d Q []) := by
  unfold z_W at h ⊢; rw [List.append_nil]; rw [← List.append_assoc] at h; exact z_dropD h
-- places among the arrays of arrays, lengths of new rows
def z_ai (i : Int32) (n : Nat) : Option Nat := if i < 0 ∨ n ≤ i.toNatClampNeg then none else some i.toNatClampNeg
theorem z_ai_s {i : Int32} {n x : Nat} (h : z_ai i n = some x) : vp_in i n ∧ i.toNatClampNeg = x ∧ x < n := by
  unfold z_ai at h
  by_cases hc : i < 0 ∨ n ≤ i.toNatClampNeg
  · rw [if_pos hc] at h; cases h
  · rw [if_neg hc] at h
    have := Option.some.inj h
    exact ⟨hc, this, by rw [← this]; exact Nat.not_le.mp fun q => hc (Or.inr q)⟩
theorem z_ai_lt {i : Int32} {n x : Nat} (h : z_ai i n = some x) : x < n := (z_ai_s h).2.2
def z_ln (i : Int32) : Option Nat := if i < 0 ∨ 14 ≤ i.toNatClampNeg then none else some i.toNatClampNeg
theorem z_ln_s {i : Int32} {x : Nat} (h : z_ln i = some x) : ¬ i < 0 ∧ i.toNatClampNeg = x ∧ x ≤ 13 := by
  unfold z_ln at h
  by_cases hc : i < 0 ∨ 14 ≤ i.toNatClampNeg
  · rw [if_pos hc] at h; cases h
  · rw [if_neg hc] at h
    have := Option.some.inj h
    exact ⟨fun z => hc (Or.inl z), this, by rw [← this]; have : ¬ 14 ≤ i.toNatClampNeg := fun z => hc (Or.inr z); omega⟩
-- what the law's side knows of the tables: the class of arrays of rows
def z_AO (U : State) : Prop := (Cond.arrayOver (.array .int)).before #[] U = true
theorem z_AO.moved {u U : State} (hvm : u.vm.Alike U.vm) (h : z_AO u) : z_AO U := by
  obtain ⟨comp, c, k, h1, h2, h3, h4, h5⟩ := arrayOverA_spec (args := #[]) h
  obtain ⟨k', hk', he⟩ := hvm.2.2 _ _ h3
  have hi : (U.vm.classes.findIdx? fun (x : Class) => match x.kind with | .array component _ => component == comp | _ => false) = some c := by
    rw [hvm.findIdx?_eq _ (fun _ => rfl)]; exact h2
  have hkind : k'.kind = .array comp (.array .int) := by rw [he]; exact h4
  have f1 : U.vm.findClass (FieldType.array .int).toString = some comp := by rw [hvm.findClass]; exact h1
  have f2 : U.vm.findClass ("[" ++ (FieldType.array .int).toString) = some c := by rw [hvm.findClass]; exact h5
  unfold z_AO Cond.before Cond.holds
  simp only [Cond.value]
  rw [f1, Option.bind_some]
  refine (congrArg (fun o : Option Nat => (o.bind (fun c => (U.vm.classes[c]?).map fun (k : Class) => match k.kind with | .array _ ty => decide (ty = FieldType.array FieldType.int) && decide (U.vm.findClass ("[" ++ (FieldType.array .int).toString) = some c) | _ => false) == some true)) hi).trans ?_
  simp [hk', hkind, f2]
def z_A2 (X : z_X) (U : State) : Prop := (∃ kA : Class, U.vm.classes[X.2.2.2]? = some kA ∧ kA.kind = .array X.2.1 (.array .int)) ∧ z_AO U ∧ va_Nw (.castable "[I" "java/lang/Cloneable") U
theorem z_A2.warm {X : z_X} {u U : State} (hW : u.WarmedH U.vm) (a : z_A2 X u) : z_A2 X U := by
  obtain ⟨⟨kA, h1, h2⟩, h3, h4⟩ := a
  obtain ⟨k', hk', he⟩ := hW.alike.2.2 _ _ h1
  exact ⟨⟨k', hk', by rw [he]; exact h2⟩, h3.moved hW.alike, va_Nw.warmC hW h4⟩
theorem z_A2.same {X : z_X} {u U : State} (e : U.vm = u.vm) (a : z_A2 X u) : z_A2 X U := by
  obtain ⟨⟨kA, h1, h2⟩, h3, h4⟩ := a
  exact ⟨⟨kA, by rw [e]; exact h1, h2⟩, h3.moved (by rw [e]; exact Vm.Alike.refl _), va_Nw.same rfl e.symm h4⟩
def z_Pk (X : z_X) (w : va_W) (sz : Nat) : State → Prop := fun U => z_Pm X w sz U ∧ z_A2 X U
theorem z_bk (av : List Value) (X : z_X) (w : va_W) (sz : Nat) : FrameBlind (va_Pc av (z_Pk X w sz)) := fun a U g mk q => by
  obtain ⟨q0, ⟨q1, qP, qK, qN, qD⟩, qA⟩ := q
  exact ⟨q0, ⟨q1, qP, va_K.moved (u := U) (U := U.calling g mk a) (Vm.Alike.refl U.vm) qK, z_N.same (U := U.calling g mk a) rfl qN, qD⟩, z_A2.same (u := U) (U := U.calling g mk a) rfl qA⟩
abbrev z_R2 (fr lo mc ms : Nat) : Room := { frames := fr, cells := mc, slots := ms, locals := lo }
def z_kI (l : Launch) (y : MethodName) (ws : List Cond) (fr lo mc ms : Nat) (X : z_X) (av : List Value) (w : va_W) (post : Int32 → va_W → Prop) : Prop := ∀ sz : Nat, Met l y ws (z_R2 fr lo mc ms) (va_Pc av (z_Pk X w sz)) (va_Qi post (z_Bm X (va_A w sz)) (va_A w sz)) mc ms (va_A w sz)
def z_kV (l : Launch) (y : MethodName) (ws : List Cond) (fr lo mc ms : Nat) (X : z_X) (av : List Value) (w : va_W) (post : va_W → Prop) : Prop := ∀ sz : Nat, Met l y ws (z_R2 fr lo mc ms) (va_Pc av (z_Pk X w sz)) (va_Qv post (z_Bm X (va_A w sz)) (va_A w sz)) mc ms (va_A w sz)
def z_Br (X : z_X) (A : Nat → Prop) : va_W → Nat → State → Prop := fun u r t => va_P X.1 vwCl u t.heap ∧ va_D A u ∧ ∃ e, (u[0]? = some (r, e))
section ZK
variable {p : Program} {l : Launch} {e : Env} {R : Room} {s : State} {m : MethodId} {args : Array Value} {below : List Frame} {meth : Method} {c : Code} {H : Heap} {locs : List Loc} {cells slots : Nat} {Q : State → Prop}
variable {y : MethodName} {bytes cc : ByteArray} {maxL nL n index fr lo : Nat} {ret : Option FieldType} {ws : List Cond} {Ts : List Cond} {own C : String} {b : Addr} {As rest st0 : List Value} {ls : Array Slot} {pc : Nat} {X : z_X} {wl wc wr : va_W} {A : Nat → Prop} {H0 : Heap} {mc ms : Nat}
theorem z_prek (hP : va_P X.1 vwCl (wl ++ (wc ++ wr)) H) (hK : va_K X.1 vwCl (z_ty X) s) (hN : z_N s) (hA2 : z_A2 X s) (hD : va_D A (wl ++ (wc ++ wr))) (av : List Value) : ∀ U : State, U.heap = H → s.WarmedH U.vm → va_Pc av (z_Pk X wc H.size) av.toArray U := fun U hU hW => by
  obtain ⟨x1, x2⟩ := z_prem hP hK hN hD (z_S_mid wl wc wr) av U hU hW
  exact ⟨x1, x2, hA2.warm hW⟩
theorem z_ckI {post : Int32 → va_W → Prop} {ci : Nat} {q : vw_C} {fs : List Value} (S : CallFix p m c cc nL s args Ts own) (hM : z_kI l y ws fr lo mc ms X (.ref b :: As) wc post) (cw : CallW R s args own C index y bytes maxL ret ws (z_R2 fr lo mc ms) mc ms n) (hP : va_P X.1 vwCl (wl ++ (wc ++ wr)) H) (hK : va_K X.1 vwCl (z_ty X) s) (hN : z_N s) (hA2 : z_A2 X s) (hD : va_D A (wl ++ (wc ++ wr))) (hS : va_S A H0 H locs) (hA : ∀ q, H0.size ≤ q → A q) (hc : vwCl[ci]? = some q) (hq : q.1 = C) (he : wc[0]? = some (b, .inr (ci, fs))) (hf : cells + mc ≤ R.cells ∧ slots + ms ≤ R.slots) (hn : As.length = n) (hsz : ls.size = nL) (hst : st0 = As.reverse ++ .ref b :: rest) (hW : (rest.map fun v => v.category).sum ≤ 8) (hdg : decode cc pc = .ok (.invokevirtual index, 3)) (kk : ∀ (z : Int32) (u : va_W) (H1 : Heap) (locs1 : List Loc), post z u → va_P X.1 vwCl (wl ++ (u ++ wr)) H1 → va_D A (wl ++ (u ++ wr)) → va_S A H0 H1 locs1 → W p l e R s m args below meth c H1 locs1 (cells + mc) (slots + ms) Q (F0 m (pc + 3) ls (.int z :: rest))) : W p l e R s m args below meth c H locs cells slots Q (F0 m pc ls st0) := by
  have hs := z_S_mid wl wc wr
  have hfr := hs.free hD hS hA
  refine va_calli (va_runV (rest := rest) S (hM H.size) cw ⟨z_bk _ _ _ _, z_recv hP hK hN hs hc hq he, z_prek hP hK hN hA2 hD _⟩ rfl hn hsz hst (lv_room hW) hdg hf) hS (fun q _ h => hfr q h) hfr (fun z u t H1 locs1 ht hvm hw hB hz1 hk1 hS1 => ?_)
  obtain ⟨hP1, hD1⟩ := hB
  rw [ht] at hP1
  obtain ⟨a, b⟩ := z_join3 hP hD hk1 hfr hP1 hD1
  exact kk z u H1 locs1 hw a b hS1
theorem z_ckV {post : va_W → Prop} {ci : Nat} {q : vw_C} {fs : List Value} (S : CallFix p m c cc nL s args Ts own) (hM : z_kV l y ws fr lo mc ms X (.ref b :: As) wc post) (cw : CallW R s args own C index y bytes maxL ret ws (z_R2 fr lo mc ms) mc ms n) (hP : va_P X.1 vwCl (wl ++ (wc ++ wr)) H) (hK : va_K X.1 vwCl (z_ty X) s) (hN : z_N s) (hA2 : z_A2 X s) (hD : va_D A (wl ++ (wc ++ wr))) (hS : va_S A H0 H locs) (hA : ∀ q, H0.size ≤ q → A q) (hc : vwCl[ci]? = some q) (hq : q.1 = C) (he : wc[0]? = some (b, .inr (ci, fs))) (hf : cells + mc ≤ R.cells ∧ slots + ms ≤ R.slots) (hn : As.length = n) (hsz : ls.size = nL) (hst : st0 = As.reverse ++ .ref b :: rest) (hW : (rest.map fun v => v.category).sum ≤ 8) (hdg : decode cc pc = .ok (.invokevirtual index, 3)) (kk : ∀ (u : va_W) (H1 : Heap) (locs1 : List Loc), post u → va_P X.1 vwCl (wl ++ (u ++ wr)) H1 → va_D A (wl ++ (u ++ wr)) → va_S A H0 H1 locs1 → W p l e R s m args below meth c H1 locs1 (cells + mc) (slots + ms) Q (F0 m (pc + 3) ls rest)) : W p l e R s m args below meth c H locs cells slots Q (F0 m pc ls st0) := by
  have hs := z_S_mid wl wc wr
  have hfr := hs.free hD hS hA
  refine va_callv (va_runV (rest := rest) S (hM H.size) cw ⟨z_bk _ _ _ _, z_recv hP hK hN hs hc hq he, z_prek hP hK hN hA2 hD _⟩ rfl hn hsz hst (lv_room hW) hdg hf) hS (fun q _ h => hfr q h) hfr (fun u t H1 locs1 ht hvm hw hB hz1 hk1 hS1 => ?_)
  obtain ⟨hP1, hD1⟩ := hB
  rw [ht] at hP1
  obtain ⟨a, b⟩ := z_join3 hP hD hk1 hfr hP1 hD1
  exact kk u H1 locs1 hw a b hS1
variable {a : Nat} {D : va_G} {cl : List vw_C} {tys : List (ClassId × FieldType)} {W0 W1 : va_W}
/-- a row of the rows -/
theorem z_aald (hexec : p.tables.exec = Jvm.exec) (hb : c.code = cc) (hK : va_K D cl tys s) (hP : va_P D cl W0 H) (q0 t0 : Nat) {cA : ClassId} {n : Nat} {f : Nat → Nat} (ha : W0[q0]? = some (a, .inl (cA, z_ra n (z_pa f)))) (ht : tys[t0]? = some (cA, .array .int)) {i : Int32} {x : Nat} (hin : z_ai i n = some x) (hdg : decode cc pc = .ok (.aaload, 1)) (kk : W p l e R s m args below meth c H locs cells slots Q (F0 m (pc + 1) ls (.ref (f x) :: rest))) : W p l e R s m args below meth c H locs cells slots Q (F0 m pc ls (.int i :: .ref a :: rest)) := by
  obtain ⟨h1, h2, h3⟩ := z_ai_s hin
  subst h2
  exact W.aald (v := .ref (f i.toNatClampNeg)) (ty := .array .int) hexec hb (hP q0 _ ha) ((hK.2 t0 _ ht).1 n (fun j => va_rf (z_pa f j))) rfl (fun q => by cases q) (by show ¬ (i < 0 ∨ (arrV _ _ _).slots.size ≤ _); rw [arrV_size]; exact h1) (by show (arrV _ _ _).slots[_]? = _; rw [arrV_read _ _ h3]; rfl) rfl rfl hdg kk
/-- a new row of numbers, its length computed -/
theorem z_newV (hexec : p.tables.exec = Jvm.exec) (hb : c.code = cc) (harr : (Cond.arrayClass (newarray.typeOf .int)).before args s = true) (hK : va_K D cl tys s) (hP : va_P D cl W0 H) (hD : va_D A W0) (hS : va_S A H0 H locs) (hA : ∀ q, H0.size ≤ q → A q) (t0 : Nat) {cA0 : ClassId} (ht : tys[t0]? = some (cA0, .int)) {n : Int32} {N' : Nat} (hin : z_ln n = some N') (hcells : cells + 1 ≤ R.cells) (hslots : slots + 13 ≤ R.slots) (hdg : decode cc pc = .ok (.newarray .int, 2))
    (kk : ∀ (q : Nat) (H1 : Heap), va_P D cl (W0 ++ [(q, .inl (cA0, N', .inl (fun _ => 0)))]) H1 → va_D A (W0 ++ [(q, .inl (cA0, N', .inl (fun _ => 0)))]) → va_S A H0 H1 locs → W p l e R s m args below meth c H1 locs (cells + 1) (slots + 13) Q (F0 m (pc + 2) ls (.ref q :: rest))) : W p l e R s m args below meth c H locs cells slots Q (F0 m pc ls (.int n :: rest)) := by
  obtain ⟨h1, h2, h3⟩ := z_ln_s hin
  refine z_newa (atype := .int) (ty := .int) (N' := N') (a0 := (N', .inl (fun _ => 0))) hexec hb harr rfl hK hP hD hS hA t0 ht (fun _ h => nomatch h) (fun _ => rfl) h1 h2 (Nat.le_trans (Nat.mul_le_mul_right 4 h3) (by decide)) hcells (by omega) hdg (fun q H1 hP1 hD1 hS1 => ?_)
  exact W.widen (Nat.le_refl _) (by omega) (kk q H1 hP1 hD1 hS1)
theorem z_newZ (hexec : p.tables.exec = Jvm.exec) (hb : c.code = cc) (harr : (Cond.arrayClass (newarray.typeOf .boolean)).before args s = true) (hK : va_K D cl tys s) (hP : va_P D cl W0 H) (hD : va_D A W0) (hS : va_S A H0 H locs) (hA : ∀ q, H0.size ≤ q → A q) (t0 : Nat) {cA0 : ClassId} (ht : tys[t0]? = some (cA0, .boolean)) {n : Int32} {N' : Nat} (hin : z_ln n = some N') (hcells : cells + 1 ≤ R.cells) (hslots : slots + 13 ≤ R.slots) (hdg : decode cc pc = .ok (.newarray .boolean, 2))
    (kk : ∀ (q : Nat) (H1 : Heap), va_P D cl (W0 ++ [(q, .inl (cA0, N', .inl (fun _ => 0)))]) H1 → va_D A (W0 ++ [(q, .inl (cA0, N', .inl (fun _ => 0)))]) → va_S A H0 H1 locs → W p l e R s m args below meth c H1 locs (cells + 1) (slots + 13) Q (F0 m (pc + 2) ls (.ref q :: rest))) : W p l e R s m args below meth c H locs cells slots Q (F0 m pc ls (.int n :: rest)) := by
  obtain ⟨h1, h2, h3⟩ := z_ln_s hin
  refine z_newa (atype := .boolean) (ty := .boolean) (N' := N') (a0 := (N', .inl (fun _ => 0))) hexec hb harr rfl hK hP hD hS hA t0 ht (fun _ h => nomatch h) (fun _ => rfl) h1 h2 (Nat.le_trans (Nat.mul_le_mul_right 1 h3) (by decide)) hcells (by omega) hdg (fun q H1 hP1 hD1 hS1 => ?_)
  exact W.widen (Nat.le_refl _) (by omega) (kk q H1 hP1 hD1 hS1)
end ZK
theorem z_ext {wl : va_W} {X : z_X} {a : Nat} {D : z_D} {Q : z_Q} {ex ex2 : va_W} : z_W wl X a D Q ex ++ ex2 = z_W wl X a D Q (ex ++ ex2) := by
  unfold z_W; rw [List.append_assoc, List.append_assoc]
