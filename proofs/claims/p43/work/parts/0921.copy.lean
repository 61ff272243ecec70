-- ===== a copy; the line is shared =====
def z_wX (X : z_X) (a : Nat) (D : z_D) (Q : z_Q) : va_W := [(a, .inr (5, z_fs D Q)), (D.1.1, .inl (X.2.2.2, z_ra Q.2.1.1 (z_pa D.2.1))), (D.1.2.1, .inl (X.2.2.2, z_ra Q.2.2.1.1 (z_pa D.2.2)))] ++ (z_rows X D.2.1 6 Q.2.1.2 Q.2.1.1 ++ z_rows X D.2.2 5 Q.2.2.1.2 Q.2.2.1.1)
theorem z_app_l {α : Type} {u v : List α} {i : Nat} {x : α} (h : u[i]? = some x) : (u ++ v)[i]? = some x := by rw [List.getElem?_append_left (List.getElem?_eq_some_iff.mp h).1]; exact h
theorem z_app_r {α : Type} {u v : List α} {i : Nat} : (u ++ v)[u.length + i]? = v[i]? := by rw [List.getElem?_append_right (Nat.le_add_right _ _), Nat.add_sub_cancel_left]
theorem z_aiN {i n : Nat} (h : i < n) (hn : n ≤ 1000) : z_ai (nI i) n = some i := by unfold z_ai; rw [nI_clamp (show i < 2 ^ 31 by omega), if_neg (fun z => z.elim (nI_pos (by omega)) (by omega))]
section ZU
variable {X : z_X} {a : Nat} {D : z_D} {Q : z_Q}
theorem zu_h {i : Nat} (h : i < 4) : (z_wS X a D Q)[i]? = (z_h4 X a D Q)[i]? := by unfold z_wS; rw [List.getElem?_append_left h]
theorem zu_r {i : Nat} (h : i < Q.2.1.1) : (z_wS X a D Q)[4 + i]? = some (D.2.1 i, .inl (X.2.1, 6, .inl (Q.2.1.2 i))) := by
  unfold z_wS
  rw [show 4 + i = (z_h4 X a D Q).length + i from rfl, z_app_r, List.getElem?_append_left (by rw [z_rows_len]; exact h)]
  exact z_rows_get h
theorem zu_v {i : Nat} (h : i < Q.2.2.1.1) : (z_wS X a D Q)[4 + (Q.2.1.1 + i)]? = some (D.2.2 i, .inl (X.2.1, 5, .inl (Q.2.2.1.2 i))) := by
  unfold z_wS
  have e : Q.2.1.1 + i = (z_rows X D.2.1 6 Q.2.1.2 Q.2.1.1).length + i := by rw [z_rows_len]
  rw [show 4 + (Q.2.1.1 + i) = (z_h4 X a D Q).length + (Q.2.1.1 + i) from rfl, z_app_r, e, z_app_r]
  exact z_rows_get h
end ZU
/-- the copy being made: its object, its rooms so far -/
def z_c1 (X : z_X) (o q1 n : Nat) (fs : List Value) (f : Nat → Option Nat) (rr : Nat → Nat) (R : Nat → Nat → Int32) (i : Nat) : va_W := [(o, .inr (5, fs)), (q1, .inl (X.2.2.2, z_ra n f))] ++ z_rows X rr 6 R i
def z_c2 (X : z_X) (q2 k : Nat) (f : Nat → Option Nat) (sr : Nat → Nat) (V : Nat → Nat → Int32) (j : Nat) : va_W := (q2, .inl (X.2.2.2, z_ra k f)) :: z_rows X sr 5 V j
theorem z_perm {α : Type} (h0 h1 h2 h3 o q1 q2 : α) (U R V : List α) : ([h0, h1, h2, h3] ++ U ++ (([o, q1] ++ R) ++ (q2 :: V))).Perm (([h0, h1, h2] ++ U) ++ ([o, q1, q2, h3] ++ (R ++ V))) := by
  show (h0 :: h1 :: h2 :: h3 :: (U ++ (([o, q1] ++ R) ++ (q2 :: V)))).Perm (h0 :: h1 :: h2 :: (U ++ (o :: q1 :: q2 :: h3 :: (R ++ V))))
  refine List.Perm.cons _ (List.Perm.cons _ (List.Perm.cons _ ?_))
  refine List.perm_middle.symm.trans (List.Perm.append_left U ?_)
  have e1 : (([o, q1] ++ R) ++ (q2 :: V)).Perm (q2 :: (([o, q1] ++ R) ++ V)) := List.perm_middle
  have e2 : (q2 :: (o :: q1 :: (R ++ V))).Perm (o :: q1 :: q2 :: (R ++ V)) := (List.perm_middle (l₁ := [o, q1])).symm
  exact ((e1.trans e2).cons h3).trans (List.perm_middle (l₁ := [o, q1, q2])).symm
theorem z_cpp (X : z_X) (a o q1 q2 : Nat) (D : z_D) (Q : z_Q) (rr sr : Nat → Nat) : (z_wS X a D Q ++ (z_c1 X o q1 Q.2.1.1 [.ref q1, .ref q2, .ref D.1.2.2, .int (Q.1 0), .int (Q.1 1), .int (Q.1 2), .int (Q.1 3), .int (Q.1 4), .int (Q.1 5)] (z_pa rr) rr Q.2.1.2 Q.2.1.1 ++ z_c2 X q2 Q.2.2.1.1 (z_pa sr) sr Q.2.2.1.2 Q.2.2.1.1)).Perm (z_wX X a D Q ++ z_wS X o ((q1, q2, D.1.2.2), rr, sr) Q) := z_perm _ _ _ _ _ _ _ _ _ _
theorem z_cint {cA : ClassId} {n : Nat} {f : Nat → Int32} {i : Nat} {v : Value} (h : (vp_cell cA (n, .inl f)).slots[i]? = some v) : ∃ z : Int32, v = .int z := by
  have hi : i < n := by
    have := (Array.getElem?_eq_some_iff.mp h).1
    have e : (vp_cell cA (n, .inl f)).slots.size = n := arrV_size _ _ _
    omega
  have h2 : (vp_cell cA (n, .inl f)).slots[i]? = some (.int (f i)) := arrV_read _ _ hi
  exact ⟨f i, (Option.some.inj (h.symm.trans h2))⟩
theorem z_cgP2 {D : va_G} {cl : List vw_C} {w1 w2 : va_W} {H : Heap} {x : Nat × va_E} {q n : Nat} {cA : ClassId} {f g : Nat → Option Nat} (e : ∀ i, i < n → f i = g i) (h : va_P D cl (w1 ++ ([x, (q, .inl (cA, z_ra n f))] ++ w2)) H) : va_P D cl (w1 ++ ([x, (q, .inl (cA, z_ra n g))] ++ w2)) H := by
  have h1 : va_P D cl ((w1 ++ [x]) ++ ((q, .inl (cA, z_ra n f)) :: w2)) H := by rw [List.append_assoc]; exact h
  have h2 := z_cgP e h1
  rw [List.append_assoc] at h2; exact h2
theorem z_cgD2 {A : Nat → Prop} {w1 w2 : va_W} {x : Nat × va_E} {q : Nat} {e1 e2 : va_E} (h : va_D A (w1 ++ ([x, (q, e1)] ++ w2))) : va_D A (w1 ++ ([x, (q, e2)] ++ w2)) := z_evD h (by simp)
theorem hdX5_copy : yX5_copy.cls = RX5 ∧ yX5_copy.cls ≠ "java/lang/invoke/MethodHandle" ∧ yX5_copy.cls ≠ "java/lang/invoke/VarHandle" ∧ (parseMethodDescriptor yX5_copy.desc).map (fun d => d.parameters.length) = some 0 := by decide +kernel
set_option maxHeartbeats 4000000 in
set_option maxRecDepth 100000 in
theorem m_X5_copy (l : Launch) (X : z_X) (a : Nat) (D : z_D) (Q : z_Q) (hn : Q.2.1.1 ≤ 12) (hk : Q.2.2.1.1 ≤ 6) : z_kR l yX5_copy wsX5_copy 2 40 24 129 X [.ref a] (z_wS X a D Q) (fun u o => ∃ D2 : z_D, D2.1.2.2 = D.1.2.2 ∧ u = z_wX X a D Q ++ z_wS X o D2 Q) := by
  intro sz
  refine Met.ofW (cc := cX5_copy) (maxL := 3) (ret := (some (.object "HouseBellsLaw$Sim"))) (by decide) rfl ?_
  intro p e s m args below meth c s₁ Bd hml hv
  obtain ⟨rfl, ⟨hsz, hP, hK, hN, hD0⟩, hA2⟩ := hv
  have hx := Bd.exec
  have hb := Bd.bytes
  have hr := Bd.returns
  have hts := atoms_spec (ws := wsX5_copy) Bd.pre
  have hown : s.vm.findClass RX5 = some m.cls := findClass_of_methodNamed Bd.named
  have hlocks := Bd.notSynchronized
  have S : CallFix p m c cX5_copy 3 s _ wsX5_copy RX5 := ⟨hx, hb, hml, hown, hts⟩
  have in_X5 : ∀ w ∈ wsX50, w ∈ wsX5_copy := fun _ h => (List.mem_cons_of_mem _ (List.mem_append_right _ h))
  subst hsz
  have hD := hD0.self (sz := s.heap.size)
  generalize hAe : va_A (z_wS X a D Q) s.heap.size = A at hD ⊢
  have hA : ∀ q : Nat, s.heap.size ≤ q → A q := fun q h => by rw [← hAe]; exact Or.inr h
  have hS : va_S A s.heap s.heap [] := va_S.rf
  have hl := lv_entry ([.ref a]) (n := 3) (Nat.le_of_ble_eq_true rfl)
  rw [lg_entry_eq]
  generalize (lg_sl ([.ref a]) ++ List.replicate (3 - (lg_sl ([.ref a])).length) Slot.unset).toArray = ls at hl ⊢
  have hl : lv_has ls 3 [(0, .ref a)] := hl
  have hnm : s.vm.findClass "[I" = some X.2.1 := va_nm_int (hK.2 0 _ rfl).2
  have lp_102 : ∀ (o q1 q2 s0 l0 : Nat) (rr sr : Nat → Nat) (H : Heap) (locs : List Loc), va_P X.1 vwCl (z_wS X a D Q ++ (z_c1 X o q1 Q.2.1.1 [.ref q1, .ref q2, .ref l0, .int 0, .int 200, .int 0, .int 0, .int 0, .int 0] (z_pa rr) rr Q.2.1.2 Q.2.1.1 ++ z_c2 X q2 Q.2.2.1.1 (z_pa sr) sr Q.2.2.1.2 Q.2.2.1.1)) H → va_D A (z_wS X a D Q ++ (z_c1 X o q1 Q.2.1.1 [.ref q1, .ref q2, .ref l0, .int 0, .int 200, .int 0, .int 0, .int 0, .int 0] (z_pa rr) rr Q.2.1.2 Q.2.1.1 ++ z_c2 X q2 Q.2.2.1.1 (z_pa sr) sr Q.2.2.1.2 Q.2.2.1.1)) → va_S A s.heap H locs → ∀ (ls : Array Slot), lv_has ls 3 [(0, .ref a), (1, .ref o)] → W p l e (headSpec wsX5_copy (z_R2 2 40 24 129)).room s m ([.ref a] : List Value).toArray below meth c H locs 24 129 (MQ below (va_Qr (fun _ : va_W => True) (fun u q t => (fun u o => ∃ D2 : z_D, D2.1.2.2 = D.1.2.2 ∧ u = z_wX X a D Q ++ z_wS X o D2 Q) u q ∧ z_Bm X A u t) A) ([.ref a] : List Value).toArray s 24 129 A) (F0 m 102 ls []) := by
    intro o q1 q2 s0 l0 rr sr H locs hP hD hS ls hl
    refine lv_aload_n (pc := 102) hx hb dX5_copy_102 rfl (lv_at hl 1 rfl) ?_
    refine lv_aload_n (pc := 103) hx hb dX5_copy_103 rfl (lv_at hl 0 rfl) ?_
    refine va_get (pc := 104) (ci := 5) (C := RX5) (T := TX5) (N := 9) (v := .ref D.1.2.2) hx hb hts in_X5 hown hK hP _ (z_app_l (zu_h (i := 0) (by decide))) rfl 2 (by decide) (hts (.fieldLink RX5 18 "HouseBellsLaw$Sim" "line" "[I") (List.mem_of_getElem? (i := 12) rfl)) (fun _ h9 => h9) rfl dX5_copy_104 ?_
    refine va_put (pc := 107) (D := X.1) (ci := 5) (C := RX5) (T := TX5) (N := 9) (v := .ref D.1.2.2) (ty := tyX5 2) hx hb hts in_X5 tyX5 tyX5_ok nmX5 hown hK hP hD hS ((z_wS X a D Q).length + 0) z_app_r rfl 2 (by decide) (hts (.fieldLink RX5 18 "HouseBellsLaw$Sim" "line" "[I") (List.mem_of_getElem? (i := 12) rfl)) (fun _ h9 => h9) rfl (by decide +kernel) rfl rfl (Nat.le_of_ble_eq_true rfl) dX5_copy_107 (fun H locs hP hD hS => ?_)
    have hP : va_P X.1 vwCl (z_wS X a D Q ++ (z_c1 X o q1 Q.2.1.1 [.ref q1, .ref q2, .ref D.1.2.2, .int 0, .int 200, .int 0, .int 0, .int 0, .int 0] (z_pa rr) rr Q.2.1.2 Q.2.1.1 ++ z_c2 X q2 Q.2.2.1.1 (z_pa sr) sr Q.2.2.1.2 Q.2.2.1.1)) H := by rw [z_set_r] at hP; exact hP
    have hD : va_D A (z_wS X a D Q ++ (z_c1 X o q1 Q.2.1.1 [.ref q1, .ref q2, .ref D.1.2.2, .int 0, .int 200, .int 0, .int 0, .int 0, .int 0] (z_pa rr) rr Q.2.1.2 Q.2.1.1 ++ z_c2 X q2 Q.2.2.1.1 (z_pa sr) sr Q.2.2.1.2 Q.2.2.1.1)) := by rw [z_set_r] at hD; exact hD
    refine lv_aload_n (pc := 110) hx hb dX5_copy_110 rfl (lv_at hl 1 rfl) ?_
    refine lv_aload_n (pc := 111) hx hb dX5_copy_111 rfl (lv_at hl 0 rfl) ?_
    refine va_get (pc := 112) (ci := 5) (C := RX5) (T := TX5) (N := 9) (v := .int (Q.1 0)) hx hb hts in_X5 hown hK hP _ (z_app_l (zu_h (i := 0) (by decide))) rfl 3 (by decide) (hts (.fieldLink RX5 30 "HouseBellsLaw$Sim" "minute" "I") (List.mem_of_getElem? (i := 13) rfl)) (fun _ h9 => h9) rfl dX5_copy_112 ?_
    refine va_put (pc := 115) (D := X.1) (ci := 5) (C := RX5) (T := TX5) (N := 9) (v := .int (Q.1 0)) (ty := tyX5 3) hx hb hts in_X5 tyX5 tyX5_ok nmX5 hown hK hP hD hS ((z_wS X a D Q).length + 0) z_app_r rfl 3 (by decide) (hts (.fieldLink RX5 30 "HouseBellsLaw$Sim" "minute" "I") (List.mem_of_getElem? (i := 13) rfl)) (fun _ h9 => h9) rfl (by decide +kernel) rfl rfl (Nat.le_of_ble_eq_true rfl) dX5_copy_115 (fun H locs hP hD hS => ?_)
    have hP : va_P X.1 vwCl (z_wS X a D Q ++ (z_c1 X o q1 Q.2.1.1 [.ref q1, .ref q2, .ref D.1.2.2, .int (Q.1 0), .int 200, .int 0, .int 0, .int 0, .int 0] (z_pa rr) rr Q.2.1.2 Q.2.1.1 ++ z_c2 X q2 Q.2.2.1.1 (z_pa sr) sr Q.2.2.1.2 Q.2.2.1.1)) H := by rw [z_set_r] at hP; exact hP
    have hD : va_D A (z_wS X a D Q ++ (z_c1 X o q1 Q.2.1.1 [.ref q1, .ref q2, .ref D.1.2.2, .int (Q.1 0), .int 200, .int 0, .int 0, .int 0, .int 0] (z_pa rr) rr Q.2.1.2 Q.2.1.1 ++ z_c2 X q2 Q.2.2.1.1 (z_pa sr) sr Q.2.2.1.2 Q.2.2.1.1)) := by rw [z_set_r] at hD; exact hD
    refine lv_aload_n (pc := 118) hx hb dX5_copy_118 rfl (lv_at hl 1 rfl) ?_
    refine lv_aload_n (pc := 119) hx hb dX5_copy_119 rfl (lv_at hl 0 rfl) ?_
    refine va_get (pc := 120) (ci := 5) (C := RX5) (T := TX5) (N := 9) (v := .int (Q.1 1)) hx hb hts in_X5 hown hK hP _ (z_app_l (zu_h (i := 0) (by decide))) rfl 4 (by decide) (hts (.fieldLink RX5 21 "HouseBellsLaw$Sim" "charge" "I") (List.mem_of_getElem? (i := 14) rfl)) (fun _ h9 => h9) rfl dX5_copy_120 ?_
    refine va_put (pc := 123) (D := X.1) (ci := 5) (C := RX5) (T := TX5) (N := 9) (v := .int (Q.1 1)) (ty := tyX5 4) hx hb hts in_X5 tyX5 tyX5_ok nmX5 hown hK hP hD hS ((z_wS X a D Q).length + 0) z_app_r rfl 4 (by decide) (hts (.fieldLink RX5 21 "HouseBellsLaw$Sim" "charge" "I") (List.mem_of_getElem? (i := 14) rfl)) (fun _ h9 => h9) rfl (by decide +kernel) rfl rfl (Nat.le_of_ble_eq_true rfl) dX5_copy_123 (fun H locs hP hD hS => ?_)
    have hP : va_P X.1 vwCl (z_wS X a D Q ++ (z_c1 X o q1 Q.2.1.1 [.ref q1, .ref q2, .ref D.1.2.2, .int (Q.1 0), .int (Q.1 1), .int 0, .int 0, .int 0, .int 0] (z_pa rr) rr Q.2.1.2 Q.2.1.1 ++ z_c2 X q2 Q.2.2.1.1 (z_pa sr) sr Q.2.2.1.2 Q.2.2.1.1)) H := by rw [z_set_r] at hP; exact hP
    have hD : va_D A (z_wS X a D Q ++ (z_c1 X o q1 Q.2.1.1 [.ref q1, .ref q2, .ref D.1.2.2, .int (Q.1 0), .int (Q.1 1), .int 0, .int 0, .int 0, .int 0] (z_pa rr) rr Q.2.1.2 Q.2.1.1 ++ z_c2 X q2 Q.2.2.1.1 (z_pa sr) sr Q.2.2.1.2 Q.2.2.1.1)) := by rw [z_set_r] at hD; exact hD
    refine lv_aload_n (pc := 126) hx hb dX5_copy_126 rfl (lv_at hl 1 rfl) ?_
    refine lv_aload_n (pc := 127) hx hb dX5_copy_127 rfl (lv_at hl 0 rfl) ?_
    refine va_get (pc := 128) (ci := 5) (C := RX5) (T := TX5) (N := 9) (v := .int (Q.1 2)) hx hb hts in_X5 hown hK hP _ (z_app_l (zu_h (i := 0) (by decide))) rfl 5 (by decide) (hts (.fieldLink RX5 33 "HouseBellsLaw$Sim" "served" "I") (List.mem_of_getElem? (i := 15) rfl)) (fun _ h9 => h9) rfl dX5_copy_128 ?_
    refine va_put (pc := 131) (D := X.1) (ci := 5) (C := RX5) (T := TX5) (N := 9) (v := .int (Q.1 2)) (ty := tyX5 5) hx hb hts in_X5 tyX5 tyX5_ok nmX5 hown hK hP hD hS ((z_wS X a D Q).length + 0) z_app_r rfl 5 (by decide) (hts (.fieldLink RX5 33 "HouseBellsLaw$Sim" "served" "I") (List.mem_of_getElem? (i := 15) rfl)) (fun _ h9 => h9) rfl (by decide +kernel) rfl rfl (Nat.le_of_ble_eq_true rfl) dX5_copy_131 (fun H locs hP hD hS => ?_)
    have hP : va_P X.1 vwCl (z_wS X a D Q ++ (z_c1 X o q1 Q.2.1.1 [.ref q1, .ref q2, .ref D.1.2.2, .int (Q.1 0), .int (Q.1 1), .int (Q.1 2), .int 0, .int 0, .int 0] (z_pa rr) rr Q.2.1.2 Q.2.1.1 ++ z_c2 X q2 Q.2.2.1.1 (z_pa sr) sr Q.2.2.1.2 Q.2.2.1.1)) H := by rw [z_set_r] at hP; exact hP
    have hD : va_D A (z_wS X a D Q ++ (z_c1 X o q1 Q.2.1.1 [.ref q1, .ref q2, .ref D.1.2.2, .int (Q.1 0), .int (Q.1 1), .int (Q.1 2), .int 0, .int 0, .int 0] (z_pa rr) rr Q.2.1.2 Q.2.1.1 ++ z_c2 X q2 Q.2.2.1.1 (z_pa sr) sr Q.2.2.1.2 Q.2.2.1.1)) := by rw [z_set_r] at hD; exact hD
    refine lv_aload_n (pc := 134) hx hb dX5_copy_134 rfl (lv_at hl 1 rfl) ?_
    refine lv_aload_n (pc := 135) hx hb dX5_copy_135 rfl (lv_at hl 0 rfl) ?_
    refine va_get (pc := 136) (ci := 5) (C := RX5) (T := TX5) (N := 9) (v := .int (Q.1 3)) hx hb hts in_X5 hown hK hP _ (z_app_l (zu_h (i := 0) (by decide))) rfl 6 (by decide) (hts (.fieldLink RX5 36 "HouseBellsLaw$Sim" "inVain" "I") (List.mem_of_getElem? (i := 16) rfl)) (fun _ h9 => h9) rfl dX5_copy_136 ?_
    refine va_put (pc := 139) (D := X.1) (ci := 5) (C := RX5) (T := TX5) (N := 9) (v := .int (Q.1 3)) (ty := tyX5 6) hx hb hts in_X5 tyX5 tyX5_ok nmX5 hown hK hP hD hS ((z_wS X a D Q).length + 0) z_app_r rfl 6 (by decide) (hts (.fieldLink RX5 36 "HouseBellsLaw$Sim" "inVain" "I") (List.mem_of_getElem? (i := 16) rfl)) (fun _ h9 => h9) rfl (by decide +kernel) rfl rfl (Nat.le_of_ble_eq_true rfl) dX5_copy_139 (fun H locs hP hD hS => ?_)
    have hP : va_P X.1 vwCl (z_wS X a D Q ++ (z_c1 X o q1 Q.2.1.1 [.ref q1, .ref q2, .ref D.1.2.2, .int (Q.1 0), .int (Q.1 1), .int (Q.1 2), .int (Q.1 3), .int 0, .int 0] (z_pa rr) rr Q.2.1.2 Q.2.1.1 ++ z_c2 X q2 Q.2.2.1.1 (z_pa sr) sr Q.2.2.1.2 Q.2.2.1.1)) H := by rw [z_set_r] at hP; exact hP
    have hD : va_D A (z_wS X a D Q ++ (z_c1 X o q1 Q.2.1.1 [.ref q1, .ref q2, .ref D.1.2.2, .int (Q.1 0), .int (Q.1 1), .int (Q.1 2), .int (Q.1 3), .int 0, .int 0] (z_pa rr) rr Q.2.1.2 Q.2.1.1 ++ z_c2 X q2 Q.2.2.1.1 (z_pa sr) sr Q.2.2.1.2 Q.2.2.1.1)) := by rw [z_set_r] at hD; exact hD
    refine lv_aload_n (pc := 142) hx hb dX5_copy_142 rfl (lv_at hl 1 rfl) ?_
    refine lv_aload_n (pc := 143) hx hb dX5_copy_143 rfl (lv_at hl 0 rfl) ?_
    refine va_get (pc := 144) (ci := 5) (C := RX5) (T := TX5) (N := 9) (v := .int (Q.1 4)) hx hb hts in_X5 hown hK hP _ (z_app_l (zu_h (i := 0) (by decide))) rfl 7 (by decide) (hts (.fieldLink RX5 39 "HouseBellsLaw$Sim" "gaveUp" "I") (List.mem_of_getElem? (i := 17) rfl)) (fun _ h9 => h9) rfl dX5_copy_144 ?_
    refine va_put (pc := 147) (D := X.1) (ci := 5) (C := RX5) (T := TX5) (N := 9) (v := .int (Q.1 4)) (ty := tyX5 7) hx hb hts in_X5 tyX5 tyX5_ok nmX5 hown hK hP hD hS ((z_wS X a D Q).length + 0) z_app_r rfl 7 (by decide) (hts (.fieldLink RX5 39 "HouseBellsLaw$Sim" "gaveUp" "I") (List.mem_of_getElem? (i := 17) rfl)) (fun _ h9 => h9) rfl (by decide +kernel) rfl rfl (Nat.le_of_ble_eq_true rfl) dX5_copy_147 (fun H locs hP hD hS => ?_)
    have hP : va_P X.1 vwCl (z_wS X a D Q ++ (z_c1 X o q1 Q.2.1.1 [.ref q1, .ref q2, .ref D.1.2.2, .int (Q.1 0), .int (Q.1 1), .int (Q.1 2), .int (Q.1 3), .int (Q.1 4), .int 0] (z_pa rr) rr Q.2.1.2 Q.2.1.1 ++ z_c2 X q2 Q.2.2.1.1 (z_pa sr) sr Q.2.2.1.2 Q.2.2.1.1)) H := by rw [z_set_r] at hP; exact hP
    have hD : va_D A (z_wS X a D Q ++ (z_c1 X o q1 Q.2.1.1 [.ref q1, .ref q2, .ref D.1.2.2, .int (Q.1 0), .int (Q.1 1), .int (Q.1 2), .int (Q.1 3), .int (Q.1 4), .int 0] (z_pa rr) rr Q.2.1.2 Q.2.1.1 ++ z_c2 X q2 Q.2.2.1.1 (z_pa sr) sr Q.2.2.1.2 Q.2.2.1.1)) := by rw [z_set_r] at hD; exact hD
    refine lv_aload_n (pc := 150) hx hb dX5_copy_150 rfl (lv_at hl 1 rfl) ?_
    refine lv_aload_n (pc := 151) hx hb dX5_copy_151 rfl (lv_at hl 0 rfl) ?_
    refine va_get (pc := 152) (ci := 5) (C := RX5) (T := TX5) (N := 9) (v := .int (Q.1 5)) hx hb hts in_X5 hown hK hP _ (z_app_l (zu_h (i := 0) (by decide))) rfl 8 (by decide) (hts (.fieldLink RX5 42 "HouseBellsLaw$Sim" "unheard" "I") (List.mem_of_getElem? (i := 18) rfl)) (fun _ h9 => h9) rfl dX5_copy_152 ?_
    refine va_put (pc := 155) (D := X.1) (ci := 5) (C := RX5) (T := TX5) (N := 9) (v := .int (Q.1 5)) (ty := tyX5 8) hx hb hts in_X5 tyX5 tyX5_ok nmX5 hown hK hP hD hS ((z_wS X a D Q).length + 0) z_app_r rfl 8 (by decide) (hts (.fieldLink RX5 42 "HouseBellsLaw$Sim" "unheard" "I") (List.mem_of_getElem? (i := 18) rfl)) (fun _ h9 => h9) rfl (by decide +kernel) rfl rfl (Nat.le_of_ble_eq_true rfl) dX5_copy_155 (fun H locs hP hD hS => ?_)
    have hP : va_P X.1 vwCl (z_wS X a D Q ++ (z_c1 X o q1 Q.2.1.1 [.ref q1, .ref q2, .ref D.1.2.2, .int (Q.1 0), .int (Q.1 1), .int (Q.1 2), .int (Q.1 3), .int (Q.1 4), .int (Q.1 5)] (z_pa rr) rr Q.2.1.2 Q.2.1.1 ++ z_c2 X q2 Q.2.2.1.1 (z_pa sr) sr Q.2.2.1.2 Q.2.2.1.1)) H := by rw [z_set_r] at hP; exact hP
    have hD : va_D A (z_wS X a D Q ++ (z_c1 X o q1 Q.2.1.1 [.ref q1, .ref q2, .ref D.1.2.2, .int (Q.1 0), .int (Q.1 1), .int (Q.1 2), .int (Q.1 3), .int (Q.1 4), .int (Q.1 5)] (z_pa rr) rr Q.2.1.2 Q.2.1.1 ++ z_c2 X q2 Q.2.2.1.1 (z_pa sr) sr Q.2.2.1.2 Q.2.2.1.1)) := by rw [z_set_r] at hD; exact hD
    refine lv_aload_n (pc := 158) hx hb dX5_copy_158 rfl (lv_at hl 1 rfl) ?_
    have hPf : va_P X.1 vwCl (z_wX X a D Q ++ z_wS X o ((q1, q2, D.1.2.2), rr, sr) Q) H := z_mvP hP (fun x hx => (z_cpp X a o q1 q2 D Q rr sr).mem_iff.mpr hx)
    have hDf : va_D A (z_wX X a D Q ++ z_wS X o ((q1, q2, D.1.2.2), rr, sr) Q) := z_mvD hD (l := z_wS X a D Q ++ (z_c1 X o q1 Q.2.1.1 [.ref q1, .ref q2, .ref D.1.2.2, .int (Q.1 0), .int (Q.1 1), .int (Q.1 2), .int (Q.1 3), .int (Q.1 4), .int (Q.1 5)] (z_pa rr) rr Q.2.1.2 Q.2.1.1 ++ z_c2 X q2 Q.2.2.1.1 (z_pa sr) sr Q.2.2.1.2 Q.2.2.1.1)) (z_cpp X a o q1 q2 D Q rr sr) (List.Sublist.refl _)
    exact W.aret (pc := 159) hx hb hr (Or.inl ⟨_, rfl⟩) (Or.inr ⟨_, rfl⟩) (fun t ht hW => ⟨⟨_, o, rfl, trivial, ⟨((q1, q2, D.1.2.2), rr, sr), rfl, rfl⟩, by rw [ht]; exact hPf, hDf⟩, hS.F ht⟩) hS.2.2 dX5_copy_159
  have lp_69 : ∀ (o q1 q2 l0 : Nat) (rr : Nat → Nat) (d j : Nat) (f : Nat → Option Nat) (sr : Nat → Nat), j + d = Q.2.2.1.1 → (∀ i, i < j → f i = some (sr i)) → ∀ (H : Heap) (locs : List Loc), va_P X.1 vwCl (z_wS X a D Q ++ (z_c1 X o q1 Q.2.1.1 [.ref q1, .ref q2, .ref l0, .int 0, .int 200, .int 0, .int 0, .int 0, .int 0] (z_pa rr) rr Q.2.1.2 Q.2.1.1 ++ z_c2 X q2 Q.2.2.1.1 f sr Q.2.2.1.2 j)) H → va_D A (z_wS X a D Q ++ (z_c1 X o q1 Q.2.1.1 [.ref q1, .ref q2, .ref l0, .int 0, .int 200, .int 0, .int 0, .int 0, .int 0] (z_pa rr) rr Q.2.1.2 Q.2.1.1 ++ z_c2 X q2 Q.2.2.1.1 f sr Q.2.2.1.2 j)) → va_S A s.heap H locs → ∀ (ls : Array Slot), lv_has ls 3 [(0, .ref a), (1, .ref o), (2, .int (nI j))] → W p l e (headSpec wsX5_copy (z_R2 2 40 24 129)).room s m ([.ref a] : List Value).toArray below meth c H locs (18 + j) (99 + 5 * j) (MQ below (va_Qr (fun _ : va_W => True) (fun u q t => (fun u o => ∃ D2 : z_D, D2.1.2.2 = D.1.2.2 ∧ u = z_wX X a D Q ++ z_wS X o D2 Q) u q ∧ z_Bm X A u t) A) ([.ref a] : List Value).toArray s 24 129 A) (F0 m 69 ls []) := by
    intro o q1 q2 l0 rr d
    induction d with
    | zero =>
      intro j f sr hj hf H locs hP hD hS ls hl
      have hj : j = Q.2.2.1.1 := hj
      refine lv_iload_n (pc := 69) hx hb dX5_copy_69 rfl (lv_at hl 2 rfl) ?_
      refine lv_aload_n (pc := 70) hx hb dX5_copy_70 rfl (lv_at hl 0 rfl) ?_
      refine va_get (pc := 71) (ci := 5) (C := RX5) (T := TX5) (N := 9) (v := .ref D.1.2.1) hx hb hts in_X5 hown hK hP _ (z_app_l (zu_h (i := 0) (by decide))) rfl 1 (by decide) (hts (.fieldLink RX5 15 "HouseBellsLaw$Sim" "servants" "[[I") (List.mem_of_getElem? (i := 11) rfl)) (fun _ h9 => h9) rfl dX5_copy_71 ?_
      refine va_alen (v := nI Q.2.2.1.1) (pc := 74) hx hb hK hP _ 2 (z_app_l (zu_h (i := 2) (by decide))) rfl rfl dX5_copy_74 ?_
      refine lv_icmp_ge (pc := 75) (tgt := 102) hx hb dX5_copy_75 (by decide) (fun c_75 => ?_) (fun c_75 => absurd ((nI_leI (by omega) (by omega)).mpr (by omega)) c_75)
      subst hj
      have hP : va_P X.1 vwCl (z_wS X a D Q ++ (z_c1 X o q1 Q.2.1.1 [.ref q1, .ref q2, .ref l0, .int 0, .int 200, .int 0, .int 0, .int 0, .int 0] (z_pa rr) rr Q.2.1.2 Q.2.1.1 ++ z_c2 X q2 Q.2.2.1.1 (z_pa sr) sr Q.2.2.1.2 Q.2.2.1.1)) H := by unfold z_c2 at hP ⊢; rw [← List.append_assoc] at hP ⊢; exact z_cgP hf hP
      have hD : va_D A (z_wS X a D Q ++ (z_c1 X o q1 Q.2.1.1 [.ref q1, .ref q2, .ref l0, .int 0, .int 200, .int 0, .int 0, .int 0, .int 0] (z_pa rr) rr Q.2.1.2 Q.2.1.1 ++ z_c2 X q2 Q.2.2.1.1 (z_pa sr) sr Q.2.2.1.2 Q.2.2.1.1)) := by unfold z_c2 at hD ⊢; rw [← List.append_assoc] at hD ⊢; exact z_cgD hD
      refine W.widen (k := 24) (n := 129) (by omega) (by omega) ?_
      exact lp_102 o q1 q2 q2 l0 rr sr H locs hP hD hS ls (lv_sub hl [0, 1] rfl)
    | succ d ih =>
      intro j f sr hj hf H locs hP hD hS ls hl
      have hA1 : (z_wS X a D Q ++ (z_c1 X o q1 Q.2.1.1 [.ref q1, .ref q2, .ref l0, .int 0, .int 200, .int 0, .int 0, .int 0, .int 0] (z_pa rr) rr Q.2.1.2 Q.2.1.1 ++ z_c2 X q2 Q.2.2.1.1 f sr Q.2.2.1.2 j)) = (z_wS X a D Q ++ z_c1 X o q1 Q.2.1.1 [.ref q1, .ref q2, .ref l0, .int 0, .int 200, .int 0, .int 0, .int 0, .int 0] (z_pa rr) rr Q.2.1.2 Q.2.1.1) ++ z_c2 X q2 Q.2.2.1.1 f sr Q.2.2.1.2 j := (List.append_assoc _ _ _).symm
      refine lv_iload_n (pc := 69) hx hb dX5_copy_69 rfl (lv_at hl 2 rfl) ?_
      refine lv_aload_n (pc := 70) hx hb dX5_copy_70 rfl (lv_at hl 0 rfl) ?_
      refine va_get (pc := 71) (ci := 5) (C := RX5) (T := TX5) (N := 9) (v := .ref D.1.2.1) hx hb hts in_X5 hown hK hP _ (z_app_l (zu_h (i := 0) (by decide))) rfl 1 (by decide) (hts (.fieldLink RX5 15 "HouseBellsLaw$Sim" "servants" "[[I") (List.mem_of_getElem? (i := 11) rfl)) (fun _ h9 => h9) rfl dX5_copy_71 ?_
      refine va_alen (v := nI Q.2.2.1.1) (pc := 74) hx hb hK hP _ 2 (z_app_l (zu_h (i := 2) (by decide))) rfl rfl dX5_copy_74 ?_
      refine lv_icmp_ge (pc := 75) (tgt := 102) hx hb dX5_copy_75 (by decide) (fun c_75 => absurd ((nI_leI (by omega) (by omega)).mp c_75) (by omega)) (fun c_75 => ?_)
      refine lv_aload_n (pc := 78) hx hb dX5_copy_78 rfl (lv_at hl 1 rfl) ?_
      refine va_get (pc := 79) (ci := 5) (C := RX5) (T := TX5) (N := 9) (v := .ref q2) hx hb hts in_X5 hown hK hP ((z_wS X a D Q).length + 0) z_app_r rfl 1 (by decide) (hts (.fieldLink RX5 15 "HouseBellsLaw$Sim" "servants" "[[I") (List.mem_of_getElem? (i := 11) rfl)) (fun _ h9 => h9) rfl dX5_copy_79 ?_
      refine lv_iload_n (pc := 82) hx hb dX5_copy_82 rfl (lv_at hl 2 rfl) ?_
      refine lv_aload_n (pc := 83) hx hb dX5_copy_83 rfl (lv_at hl 0 rfl) ?_
      refine va_get (pc := 84) (ci := 5) (C := RX5) (T := TX5) (N := 9) (v := .ref D.1.2.1) hx hb hts in_X5 hown hK hP _ (z_app_l (zu_h (i := 0) (by decide))) rfl 1 (by decide) (hts (.fieldLink RX5 15 "HouseBellsLaw$Sim" "servants" "[[I") (List.mem_of_getElem? (i := 11) rfl)) (fun _ h9 => h9) rfl dX5_copy_84 ?_
      refine lv_iload_n (pc := 87) hx hb dX5_copy_87 rfl (lv_at hl 2 rfl) ?_
      refine z_aald (pc := 88) hx hb hK hP _ 2 (z_app_l (zu_h (i := 2) (by decide))) rfl (z_aiN (i := j) (by omega) (by omega)) dX5_copy_88 ?_
      have hml2 : c.maxLocals = ls.size := by rw [hml]; exact hl.1.symm
      refine va_clone (pc := 89) hx hb hml2 hown (hts _ (List.mem_of_getElem? (i := 6) rfl)) (hts _ (List.mem_of_getElem? (i := 7) rfl)) (hts _ (List.mem_of_getElem? (i := 8) rfl)) (hts _ (List.mem_of_getElem? (i := 9) rfl)) (hts _ (List.mem_of_getElem? (i := 10) rfl)) hA2.2.2 hK hP hD hS hA _ 0 (z_app_l (zu_v (i := j) (by omega))) rfl hnm (fun i v hv => by obtain ⟨z, rfl⟩ := z_cint hv; rfl) (show 1 ≤ 2 by decide) (Nat.le_of_ble_eq_true rfl) (show 18 + j + 1 ≤ 24 by omega) (show 99 + 5 * j + 5 ≤ 129 by omega) dX5_copy_89 (fun q H hK3 hP hD hS => ?_)
      have hP : va_P X.1 vwCl (z_wS X a D Q ++ (z_c1 X o q1 Q.2.1.1 [.ref q1, .ref q2, .ref l0, .int 0, .int 200, .int 0, .int 0, .int 0, .int 0] (z_pa rr) rr Q.2.1.2 Q.2.1.1 ++ z_c2 X q2 Q.2.2.1.1 f (z_up sr j q) Q.2.2.1.2 (j + 1))) H := by rw [hA1, List.append_assoc] at hP; unfold z_c2 at hP ⊢; rw [List.cons_append, z_rows_push, List.append_assoc] at hP; exact hP
      have hD : va_D A (z_wS X a D Q ++ (z_c1 X o q1 Q.2.1.1 [.ref q1, .ref q2, .ref l0, .int 0, .int 200, .int 0, .int 0, .int 0, .int 0] (z_pa rr) rr Q.2.1.2 Q.2.1.1 ++ z_c2 X q2 Q.2.2.1.1 f (z_up sr j q) Q.2.2.1.2 (j + 1))) := by rw [hA1, List.append_assoc] at hD; unfold z_c2 at hD ⊢; rw [List.cons_append, z_rows_push, List.append_assoc] at hD; exact hD
      have hA2x : (z_wS X a D Q ++ (z_c1 X o q1 Q.2.1.1 [.ref q1, .ref q2, .ref l0, .int 0, .int 200, .int 0, .int 0, .int 0, .int 0] (z_pa rr) rr Q.2.1.2 Q.2.1.1 ++ z_c2 X q2 Q.2.2.1.1 f (z_up sr j q) Q.2.2.1.2 (j + 1))) = (z_wS X a D Q ++ z_c1 X o q1 Q.2.1.1 [.ref q1, .ref q2, .ref l0, .int 0, .int 200, .int 0, .int 0, .int 0, .int 0] (z_pa rr) rr Q.2.1.2 Q.2.1.1) ++ z_c2 X q2 Q.2.2.1.1 f (z_up sr j q) Q.2.2.1.2 (j + 1) := (List.append_assoc _ _ _).symm
      rw [hA2x] at hP hD
      have hcell : ((z_wS X a D Q ++ z_c1 X o q1 Q.2.1.1 [.ref q1, .ref q2, .ref l0, .int 0, .int 200, .int 0, .int 0, .int 0, .int 0] (z_pa rr) rr Q.2.1.2 Q.2.1.1) ++ z_c2 X q2 Q.2.2.1.1 f (z_up sr j q) Q.2.2.1.2 (j + 1))[(z_wS X a D Q ++ z_c1 X o q1 Q.2.1.1 [.ref q1, .ref q2, .ref l0, .int 0, .int 200, .int 0, .int 0, .int 0, .int 0] (z_pa rr) rr Q.2.1.2 Q.2.1.1).length + (1 + j)]? = some (q, .inl (X.2.1, 5, .inl (Q.2.2.1.2 j))) := by
            rw [z_app_r]; unfold z_c2
            rw [show 1 + j = j + 1 from Nat.add_comm 1 j, List.getElem?_cons_succ, z_rows_get (show j < j + 1 by omega), z_up_s]
      refine va_castA (pc := 92) hx hb hown (hts (.classLink RX5 7 "[I") (List.mem_of_getElem? (i := 5) rfl)) hP _ hcell hnm dX5_copy_92 ?_
      refine z_aast (pc := 95) hx hb hA2 hK hP hD hS ((z_wS X a D Q ++ z_c1 X o q1 Q.2.1.1 [.ref q1, .ref q2, .ref l0, .int 0, .int 200, .int 0, .int 0, .int 0, .int 0] (z_pa rr) rr Q.2.1.2 Q.2.1.1).length + 0) _ z_app_r hcell (vp_in_nI (by omega) (by omega)) dX5_copy_95 (fun H locs hP hD hS => ?_)
      rw [z_set_r, nI_clamp (show j < 2 ^ 31 by omega)] at hP hD
      have hP := (List.append_assoc _ _ _ ▸ hP : va_P X.1 vwCl (z_wS X a D Q ++ (z_c1 X o q1 Q.2.1.1 [.ref q1, .ref q2, .ref l0, .int 0, .int 200, .int 0, .int 0, .int 0, .int 0] (z_pa rr) rr Q.2.1.2 Q.2.1.1 ++ z_c2 X q2 Q.2.2.1.1 (va_up f j (some q)) (z_up sr j q) Q.2.2.1.2 (j + 1))) H)
      have hD := (List.append_assoc _ _ _ ▸ hD : va_D A (z_wS X a D Q ++ (z_c1 X o q1 Q.2.1.1 [.ref q1, .ref q2, .ref l0, .int 0, .int 200, .int 0, .int 0, .int 0, .int 0] (z_pa rr) rr Q.2.1.2 Q.2.1.1 ++ z_c2 X q2 Q.2.2.1.1 (va_up f j (some q)) (z_up sr j q) Q.2.2.1.2 (j + 1))))
      refine lv_iinc (pc := 96) (v := (nI (j + 1))) (lv' := [(2, .int (nI (j + 1))), (0, .ref a), (1, .ref o)]) hx hb dX5_copy_96 hl (k := 2) (rfl) (by first | rfl | exact nI_1 _) (by decide) rfl (fun ls hl => ?_)
      refine lv_goto (pc := 99) (tgt := 69) hx hb dX5_copy_99 (by decide) ?_
      refine W.widen (k := 18 + (j + 1)) (n := 99 + 5 * (j + 1)) (by omega) (by omega) ?_
      refine ih (j + 1) _ (z_up sr j q) (by omega) (fun i hi => ?_) H locs hP hD hS ls (lv_sub hl [1, 2, 0] rfl)
      by_cases e : i = j
      · rw [e, z_up_s]; exact if_pos rfl
      · rw [z_up_n e, ← hf i (by omega)]; exact if_neg e
  have lp_22 : ∀ (o q1 s0 l0 : Nat) (d j : Nat) (f : Nat → Option Nat) (rr : Nat → Nat), j + d = Q.2.1.1 → (∀ i, i < j → f i = some (rr i)) → ∀ (H : Heap) (locs : List Loc), va_P X.1 vwCl (z_wS X a D Q ++ z_c1 X o q1 Q.2.1.1 [.ref q1, .ref s0, .ref l0, .int 0, .int 200, .int 0, .int 0, .int 0, .int 0] f rr Q.2.1.2 j) H → va_D A (z_wS X a D Q ++ z_c1 X o q1 Q.2.1.1 [.ref q1, .ref s0, .ref l0, .int 0, .int 200, .int 0, .int 0, .int 0, .int 0] f rr Q.2.1.2 j) → va_S A s.heap H locs → ∀ (ls : Array Slot), lv_has ls 3 [(0, .ref a), (1, .ref o), (2, .int (nI j))] → W p l e (headSpec wsX5_copy (z_R2 2 40 24 129)).room s m ([.ref a] : List Value).toArray below meth c H locs (5 + j) (21 + 6 * j) (MQ below (va_Qr (fun _ : va_W => True) (fun u q t => (fun u o => ∃ D2 : z_D, D2.1.2.2 = D.1.2.2 ∧ u = z_wX X a D Q ++ z_wS X o D2 Q) u q ∧ z_Bm X A u t) A) ([.ref a] : List Value).toArray s 24 129 A) (F0 m 22 ls []) := by
    intro o q1 s0 l0 d
    induction d with
    | zero =>
      intro j f rr hj hf H locs hP hD hS ls hl
      have hj : j = Q.2.1.1 := hj
      refine lv_iload_n (pc := 22) hx hb dX5_copy_22 rfl (lv_at hl 2 rfl) ?_
      refine lv_aload_n (pc := 23) hx hb dX5_copy_23 rfl (lv_at hl 0 rfl) ?_
      refine va_get (pc := 24) (ci := 5) (C := RX5) (T := TX5) (N := 9) (v := .ref D.1.1) hx hb hts in_X5 hown hK hP _ (z_app_l (zu_h (i := 0) (by decide))) rfl 0 (by decide) (hts (.fieldLink RX5 9 "HouseBellsLaw$Sim" "rooms" "[[I") (List.mem_of_getElem? (i := 4) rfl)) (fun _ h9 => h9) rfl dX5_copy_24 ?_
      refine va_alen (v := nI Q.2.1.1) (pc := 27) hx hb hK hP _ 2 (z_app_l (zu_h (i := 1) (by decide))) rfl rfl dX5_copy_27 ?_
      refine lv_icmp_ge (pc := 28) (tgt := 55) hx hb dX5_copy_28 (by decide) (fun c_28 => ?_) (fun c_28 => absurd ((nI_leI (by omega) (by omega)).mpr (by omega)) c_28)
      subst hj
      have hP : va_P X.1 vwCl (z_wS X a D Q ++ z_c1 X o q1 Q.2.1.1 [.ref q1, .ref s0, .ref l0, .int 0, .int 200, .int 0, .int 0, .int 0, .int 0] (z_pa rr) rr Q.2.1.2 Q.2.1.1) H := by unfold z_c1 at hP ⊢; exact z_cgP2 hf hP
      have hD : va_D A (z_wS X a D Q ++ z_c1 X o q1 Q.2.1.1 [.ref q1, .ref s0, .ref l0, .int 0, .int 200, .int 0, .int 0, .int 0, .int 0] (z_pa rr) rr Q.2.1.2 Q.2.1.1) := by unfold z_c1 at hD ⊢; exact z_cgD2 hD
      refine lv_aload_n (pc := 55) hx hb dX5_copy_55 rfl (lv_at hl 1 rfl) ?_
      refine lv_aload_n (pc := 56) hx hb dX5_copy_56 rfl (lv_at hl 0 rfl) ?_
      refine va_get (pc := 57) (ci := 5) (C := RX5) (T := TX5) (N := 9) (v := .ref D.1.2.1) hx hb hts in_X5 hown hK hP _ (z_app_l (zu_h (i := 0) (by decide))) rfl 1 (by decide) (hts (.fieldLink RX5 15 "HouseBellsLaw$Sim" "servants" "[[I") (List.mem_of_getElem? (i := 11) rfl)) (fun _ h9 => h9) rfl dX5_copy_57 ?_
      refine va_alen (v := nI Q.2.2.1.1) (pc := 60) hx hb hK hP _ 2 (z_app_l (zu_h (i := 2) (by decide))) rfl rfl dX5_copy_60 ?_
      refine z_newA (pc := 61) (N' := Q.2.2.1.1) hx hb hown (hts (.classLink RX5 7 "[I") (List.mem_of_getElem? (i := 5) rfl)) hA2 hK hP hD hS hA (nI_pos (by omega)) (nI_clamp (by omega)) (by omega) (show 5 + Q.2.1.1 + 1 ≤ 24 by omega) (show 21 + 6 * Q.2.1.1 + Q.2.2.1.1 ≤ 129 by omega) dX5_copy_61 (fun q2 H hP hD hS => ?_)
      rw [List.append_assoc] at hP hD
      refine va_put (pc := 64) (D := X.1) (ci := 5) (C := RX5) (T := TX5) (N := 9) (v := .ref q2) (ty := tyX5 1) hx hb hts in_X5 tyX5 tyX5_ok nmX5 hown hK hP hD hS ((z_wS X a D Q).length + 0) z_app_r rfl 1 (by decide) (hts (.fieldLink RX5 15 "HouseBellsLaw$Sim" "servants" "[[I") (List.mem_of_getElem? (i := 11) rfl)) (fun _ h9 => h9) rfl (by decide +kernel) rfl rfl (Nat.le_of_ble_eq_true rfl) dX5_copy_64 (fun H locs hP hD hS => ?_)
      have hP : va_P X.1 vwCl (z_wS X a D Q ++ (z_c1 X o q1 Q.2.1.1 [.ref q1, .ref q2, .ref l0, .int 0, .int 200, .int 0, .int 0, .int 0, .int 0] (z_pa rr) rr Q.2.1.2 Q.2.1.1 ++ z_c2 X q2 Q.2.2.1.1 (fun _ => none) (fun _ => 0) Q.2.2.1.2 0)) H := by rw [z_set_r] at hP; exact hP
      have hD : va_D A (z_wS X a D Q ++ (z_c1 X o q1 Q.2.1.1 [.ref q1, .ref q2, .ref l0, .int 0, .int 200, .int 0, .int 0, .int 0, .int 0] (z_pa rr) rr Q.2.1.2 Q.2.1.1 ++ z_c2 X q2 Q.2.2.1.1 (fun _ => none) (fun _ => 0) Q.2.2.1.2 0)) := by rw [z_set_r] at hD; exact hD
      refine lv_iconst (v := 0) (pc := 67) hx hb dX5_copy_67 (by decide) ?_
      refine lv_istore_n (pc := 68) (lv' := [(2, .int (nI 0)), (0, .ref a), (1, .ref o)]) hx hb dX5_copy_68 rfl hl (by decide) rfl (fun ls hl => ?_)
      refine W.widen (k := 18 + 0) (n := 99 + 5 * 0) (by omega) (by omega) ?_
      exact lp_69 o q1 q2 l0 rr Q.2.2.1.1 0 _ _ (by omega) (fun i hi => absurd hi (Nat.not_lt_zero i)) H _ hP hD hS ls (lv_sub hl [1, 2, 0] rfl)
    | succ d ih =>
      intro j f rr hj hf H locs hP hD hS ls hl
      refine lv_iload_n (pc := 22) hx hb dX5_copy_22 rfl (lv_at hl 2 rfl) ?_
      refine lv_aload_n (pc := 23) hx hb dX5_copy_23 rfl (lv_at hl 0 rfl) ?_
      refine va_get (pc := 24) (ci := 5) (C := RX5) (T := TX5) (N := 9) (v := .ref D.1.1) hx hb hts in_X5 hown hK hP _ (z_app_l (zu_h (i := 0) (by decide))) rfl 0 (by decide) (hts (.fieldLink RX5 9 "HouseBellsLaw$Sim" "rooms" "[[I") (List.mem_of_getElem? (i := 4) rfl)) (fun _ h9 => h9) rfl dX5_copy_24 ?_
      refine va_alen (v := nI Q.2.1.1) (pc := 27) hx hb hK hP _ 2 (z_app_l (zu_h (i := 1) (by decide))) rfl rfl dX5_copy_27 ?_
      refine lv_icmp_ge (pc := 28) (tgt := 55) hx hb dX5_copy_28 (by decide) (fun c_28 => absurd ((nI_leI (by omega) (by omega)).mp c_28) (by omega)) (fun c_28 => ?_)
      refine lv_aload_n (pc := 31) hx hb dX5_copy_31 rfl (lv_at hl 1 rfl) ?_
      refine va_get (pc := 32) (ci := 5) (C := RX5) (T := TX5) (N := 9) (v := .ref q1) hx hb hts in_X5 hown hK hP ((z_wS X a D Q).length + 0) z_app_r rfl 0 (by decide) (hts (.fieldLink RX5 9 "HouseBellsLaw$Sim" "rooms" "[[I") (List.mem_of_getElem? (i := 4) rfl)) (fun _ h9 => h9) rfl dX5_copy_32 ?_
      refine lv_iload_n (pc := 35) hx hb dX5_copy_35 rfl (lv_at hl 2 rfl) ?_
      refine lv_aload_n (pc := 36) hx hb dX5_copy_36 rfl (lv_at hl 0 rfl) ?_
      refine va_get (pc := 37) (ci := 5) (C := RX5) (T := TX5) (N := 9) (v := .ref D.1.1) hx hb hts in_X5 hown hK hP _ (z_app_l (zu_h (i := 0) (by decide))) rfl 0 (by decide) (hts (.fieldLink RX5 9 "HouseBellsLaw$Sim" "rooms" "[[I") (List.mem_of_getElem? (i := 4) rfl)) (fun _ h9 => h9) rfl dX5_copy_37 ?_
      refine lv_iload_n (pc := 40) hx hb dX5_copy_40 rfl (lv_at hl 2 rfl) ?_
      refine z_aald (pc := 41) hx hb hK hP _ 2 (z_app_l (zu_h (i := 1) (by decide))) rfl (z_aiN (i := j) (by omega) (by omega)) dX5_copy_41 ?_
      have hml2 : c.maxLocals = ls.size := by rw [hml]; exact hl.1.symm
      refine va_clone (pc := 42) hx hb hml2 hown (hts _ (List.mem_of_getElem? (i := 6) rfl)) (hts _ (List.mem_of_getElem? (i := 7) rfl)) (hts _ (List.mem_of_getElem? (i := 8) rfl)) (hts _ (List.mem_of_getElem? (i := 9) rfl)) (hts _ (List.mem_of_getElem? (i := 10) rfl)) hA2.2.2 hK hP hD hS hA _ 0 (z_app_l (zu_r (i := j) (by omega))) rfl hnm (fun i v hv => by obtain ⟨z, rfl⟩ := z_cint hv; rfl) (show 1 ≤ 2 by decide) (Nat.le_of_ble_eq_true rfl) (show 5 + j + 1 ≤ 24 by omega) (show 21 + 6 * j + 6 ≤ 129 by omega) dX5_copy_42 (fun q H hK3 hP hD hS => ?_)
      have hP : va_P X.1 vwCl (z_wS X a D Q ++ z_c1 X o q1 Q.2.1.1 [.ref q1, .ref s0, .ref l0, .int 0, .int 200, .int 0, .int 0, .int 0, .int 0] f (z_up rr j q) Q.2.1.2 (j + 1)) H := by unfold z_c1 at hP ⊢; rw [List.append_assoc, List.append_assoc, z_rows_push] at hP; exact hP
      have hD : va_D A (z_wS X a D Q ++ z_c1 X o q1 Q.2.1.1 [.ref q1, .ref s0, .ref l0, .int 0, .int 200, .int 0, .int 0, .int 0, .int 0] f (z_up rr j q) Q.2.1.2 (j + 1)) := by unfold z_c1 at hD ⊢; rw [List.append_assoc, List.append_assoc, z_rows_push] at hD; exact hD
      have hcell : (z_wS X a D Q ++ z_c1 X o q1 Q.2.1.1 [.ref q1, .ref s0, .ref l0, .int 0, .int 200, .int 0, .int 0, .int 0, .int 0] f (z_up rr j q) Q.2.1.2 (j + 1))[(z_wS X a D Q).length + (2 + j)]? = some (q, .inl (X.2.1, 6, .inl (Q.2.1.2 j))) := by
            rw [z_app_r]; unfold z_c1
            rw [show 2 + j = ([(o, .inr (5, [.ref q1, .ref s0, .ref l0, .int 0, .int 200, .int 0, .int 0, .int 0, .int 0])), (q1, .inl (X.2.2.2, z_ra Q.2.1.1 f))] : va_W).length + j from rfl, z_app_r, z_rows_get (show j < j + 1 by omega), z_up_s]
      refine va_castA (pc := 45) hx hb hown (hts (.classLink RX5 7 "[I") (List.mem_of_getElem? (i := 5) rfl)) hP _ hcell hnm dX5_copy_45 ?_
      refine z_aast (pc := 48) hx hb hA2 hK hP hD hS ((z_wS X a D Q).length + 1) _ z_app_r hcell (vp_in_nI (by omega) (by omega)) dX5_copy_48 (fun H locs hP hD hS => ?_)
      rw [z_set_r, nI_clamp (show j < 2 ^ 31 by omega)] at hP hD
      have hP : va_P X.1 vwCl (z_wS X a D Q ++ z_c1 X o q1 Q.2.1.1 [.ref q1, .ref s0, .ref l0, .int 0, .int 200, .int 0, .int 0, .int 0, .int 0] (va_up f j (some q)) (z_up rr j q) Q.2.1.2 (j + 1)) H := hP
      have hD : va_D A (z_wS X a D Q ++ z_c1 X o q1 Q.2.1.1 [.ref q1, .ref s0, .ref l0, .int 0, .int 200, .int 0, .int 0, .int 0, .int 0] (va_up f j (some q)) (z_up rr j q) Q.2.1.2 (j + 1)) := hD
      refine lv_iinc (pc := 49) (v := (nI (j + 1))) (lv' := [(2, .int (nI (j + 1))), (0, .ref a), (1, .ref o)]) hx hb dX5_copy_49 hl (k := 2) (rfl) (by first | rfl | exact nI_1 _) (by decide) rfl (fun ls hl => ?_)
      refine lv_goto (pc := 52) (tgt := 22) hx hb dX5_copy_52 (by decide) ?_
      refine W.widen (k := 5 + (j + 1)) (n := 21 + 6 * (j + 1)) (by omega) (by omega) ?_
      refine ih (j + 1) _ (z_up rr j q) (by omega) (fun i hi => ?_) H locs hP hD hS ls (lv_sub hl [1, 2, 0] rfl)
      by_cases e : i = j
      · rw [e, z_up_s]; exact if_pos rfl
      · rw [z_up_n e, ← hf i (by omega)]; exact if_neg e
  refine va_new (pc := 0) (ci := 5) (fs := [.null, .null, .null, .int 0, .int 0, .int 0, .int 0, .int 0, .int 0]) (C := RX5) (T := TX5) (N := 9) hx hb hts in_X5 tyX5 tyX5_ok hown (hts (.classLink RX5 10 RX5) (List.mem_of_getElem? (i := 1) rfl)) (hts (.instantiable RX5 9) (List.mem_of_getElem? (i := 2) rfl)) (hts (.initialized RX5) (List.mem_of_getElem? (i := 3) rfl)) hK hP hD hS hA rfl (fun j hj => by rcases (show j = 0 ∨ j = 1 ∨ j = 2 ∨ j = 3 ∨ j = 4 ∨ j = 5 ∨ j = 6 ∨ j = 7 ∨ j = 8 by omega) with rfl | rfl | rfl | rfl | rfl | rfl | rfl | rfl | rfl <;> rfl) (Nat.le_of_ble_eq_true rfl) (Nat.le_of_ble_eq_true rfl) dX5_copy_0 (fun o H hP hD hS => ?_)
  refine lv_dup (pc := 3) hx hb dX5_copy_3 rfl ?_
  refine z_ckC (pc := 4) (wl := z_wS X a D Q) (wr := []) S (m_X5_init l X o) (cwI 0 hts gX5_copy_X5_init rfl rfl rfl (hts (.initialized RX5) (List.mem_of_getElem? (i := 3) rfl)) (hts _ (List.mem_of_getElem? (i := 19) rfl)) (hts _ (List.mem_of_getElem? (i := 20) rfl)) rfl hdX5_init ⟨Nat.le_of_ble_eq_true rfl, Nat.le_of_ble_eq_true rfl⟩) hP hK hN hA2 hD hS hA ⟨Nat.le_of_ble_eq_true rfl, Nat.le_of_ble_eq_true rfl⟩ rfl hl.1 rfl (Nat.le_of_ble_eq_true rfl) dX5_copy_4 (fun u H locs hu hP hD hS => ?_)
  obtain ⟨D0, rfl⟩ := hu
  have hP : va_P X.1 vwCl (z_wS X a D Q ++ [(o, .inr (5, [.ref D0.1.1, .ref D0.1.2.1, .ref D0.1.2.2, .int 0, .int 200, .int 0, .int 0, .int 0, .int 0]))]) H := by rw [List.append_nil] at hP; exact z_dropP (ex := [(D0.1.1, .inl (X.2.2.2, z_ra 0 (z_pa D0.2.1))), (D0.1.2.1, .inl (X.2.2.2, z_ra 0 (z_pa D0.2.2))), (D0.1.2.2, .inl (X.2.1, 0, .inl (fun _ => 0)))]) (by rw [List.append_assoc]; exact hP)
  have hD : va_D A (z_wS X a D Q ++ [(o, .inr (5, [.ref D0.1.1, .ref D0.1.2.1, .ref D0.1.2.2, .int 0, .int 200, .int 0, .int 0, .int 0, .int 0]))]) := by rw [List.append_nil] at hD; exact z_dropD (ex := [(D0.1.1, .inl (X.2.2.2, z_ra 0 (z_pa D0.2.1))), (D0.1.2.1, .inl (X.2.2.2, z_ra 0 (z_pa D0.2.2))), (D0.1.2.2, .inl (X.2.1, 0, .inl (fun _ => 0)))]) (by rw [List.append_assoc]; exact hD)
  refine lv_astore_n (pc := 7) (lv' := [(1, .ref o), (0, .ref a)]) hx hb dX5_copy_7 rfl hl (by decide) rfl (fun ls hl => ?_)
  refine lv_aload_n (pc := 8) hx hb dX5_copy_8 rfl (lv_at hl 0 rfl) ?_
  refine lv_aload_n (pc := 9) hx hb dX5_copy_9 rfl (lv_at hl 1 rfl) ?_
  refine va_get (pc := 10) (ci := 5) (C := RX5) (T := TX5) (N := 9) (v := .ref D.1.1) hx hb hts in_X5 hown hK hP _ (z_app_l (zu_h (i := 0) (by decide))) rfl 0 (by decide) (hts (.fieldLink RX5 9 "HouseBellsLaw$Sim" "rooms" "[[I") (List.mem_of_getElem? (i := 4) rfl)) (fun _ h9 => h9) rfl dX5_copy_10 ?_
  refine va_alen (v := nI Q.2.1.1) (pc := 13) hx hb hK hP _ 2 (z_app_l (zu_h (i := 1) (by decide))) rfl rfl dX5_copy_13 ?_
  refine z_newA (pc := 14) (N' := Q.2.1.1) hx hb hown (hts (.classLink RX5 7 "[I") (List.mem_of_getElem? (i := 5) rfl)) hA2 hK hP hD hS hA (nI_pos (by omega)) (nI_clamp (by omega)) (by omega) (show 0 + 1 + 3 + 1 ≤ 24 by omega) (show 0 + 9 + 0 + Q.2.1.1 ≤ 129 by omega) dX5_copy_14 (fun q1 H hP hD hS => ?_)
  rw [List.append_assoc] at hP hD
  refine va_put (pc := 17) (D := X.1) (ci := 5) (C := RX5) (T := TX5) (N := 9) (v := .ref q1) (ty := tyX5 0) hx hb hts in_X5 tyX5 tyX5_ok nmX5 hown hK hP hD hS ((z_wS X a D Q).length + 0) z_app_r rfl 0 (by decide) (hts (.fieldLink RX5 9 "HouseBellsLaw$Sim" "rooms" "[[I") (List.mem_of_getElem? (i := 4) rfl)) (fun _ h9 => h9) rfl (by decide +kernel) rfl rfl (Nat.le_of_ble_eq_true rfl) dX5_copy_17 (fun H locs hP hD hS => ?_)
  rw [z_set_r] at hP hD
  refine lv_iconst (v := 0) (pc := 20) hx hb dX5_copy_20 (by decide) ?_
  refine lv_istore_n (pc := 21) (lv' := [(2, .int (nI 0)), (1, .ref o), (0, .ref a)]) hx hb dX5_copy_21 rfl hl (by decide) rfl (fun ls hl => ?_)
  refine W.widen (k := 5 + 0) (n := 21 + 6 * 0) (by omega) (by omega) ?_
  exact lp_22 o q1 D0.1.2.1 D0.1.2.2 Q.2.1.1 0 (fun _ => none) (fun _ => 0) (by omega) (fun i hi => absurd hi (Nat.not_lt_zero i)) H _ hP hD hS ls (lv_sub hl [2, 1, 0] rfl)
