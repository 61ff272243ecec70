-- ===== making a house by hand, a row more, a copy =====
def z_q0 : z_Q := (upd (fun _ => 0) 1 200, (0, fun _ _ => 0), (0, fun _ _ => 0), (0, fun _ => 0))
theorem hdX5_init : yX5_init.cls ≠ "java/lang/invoke/MethodHandle" ∧ yX5_init.cls ≠ "java/lang/invoke/VarHandle" ∧ (parseMethodDescriptor yX5_init.desc).map (fun d => d.parameters.length) = some 0 := by decide +kernel
set_option maxHeartbeats 4000000 in
set_option maxRecDepth 100000 in
theorem m_X5_init (l : Launch) (X : z_X) (a : Nat) : z_kV l yX5_init wsX5_init 1 12 3 0 X [.ref a] [(a, .inr (5, [.null, .null, .null, .int 0, .int 0, .int 0, .int 0, .int 0, .int 0]))] (fun u => ∃ D : z_D, u = z_wS X a D z_q0) := by
  intro sz
  refine Met.ofW (cc := cX5_init) (maxL := 1) (ret := none) (by decide) rfl ?_
  intro p e s m args below meth c s₁ Bd hml hv
  obtain ⟨rfl, ⟨hsz, hP, hK, hN, hD0⟩, hA2⟩ := hv
  have hx := Bd.exec
  have hb := Bd.bytes
  have hr := Bd.returns
  have hts := atoms_spec (ws := wsX5_init) Bd.pre
  have hown : s.vm.findClass RX5 = some m.cls := findClass_of_methodNamed Bd.named
  have hlocks := Bd.notSynchronized
  have S : CallFix p m c cX5_init 1 s _ wsX5_init RX5 := ⟨hx, hb, hml, hown, hts⟩
  have in_X5 : ∀ w ∈ wsX50, w ∈ wsX5_init := fun _ h => (List.mem_cons_of_mem _ (List.mem_append_right _ h))
  subst hsz
  have hD := hD0.self (sz := s.heap.size)
  generalize hAe : va_A [(a, .inr (5, [.null, .null, .null, .int 0, .int 0, .int 0, .int 0, .int 0, .int 0]))] s.heap.size = A at hD ⊢
  have hA : ∀ q : Nat, s.heap.size ≤ q → A q := fun q h => by rw [← hAe]; exact Or.inr h
  have hS : va_S A s.heap s.heap [] := va_S.rf
  have hl := lv_entry ([.ref a]) (n := 1) (Nat.le_of_ble_eq_true rfl)
  rw [lg_entry_eq]
  generalize (lg_sl ([.ref a]) ++ List.replicate (1 - (lg_sl ([.ref a])).length) Slot.unset).toArray = ls at hl ⊢
  have hl : lv_has ls 1 [(0, .ref a)] := hl
  refine lv_aload_n (pc := 0) hx hb dX5_init_0 rfl (lv_at hl 0 rfl) ?_
  refine W.objInit hx hb hown (hts (.methodLink RX5 1 objectInit) (List.mem_of_getElem? (i := 1) rfl)) (hts (.instanceMethod objectInit) (List.mem_of_getElem? (i := 2) rfl)) (hts _ (List.mem_of_getElem? (i := 3) rfl)) rfl (by rw [hml]; exact hl.1) rfl dX5_init_1 (Nat.le_of_ble_eq_true rfl) (Nat.le_of_ble_eq_true rfl) ?_
  refine W.eq (g2 := F0 m 4 ls []) rfl ?_
  refine lv_aload_n (pc := 4) hx hb dX5_init_4 rfl (lv_at hl 0 rfl) ?_
  refine lv_iconst (v := 0) (pc := 5) hx hb dX5_init_5 (by decide) ?_
  refine z_newA (pc := 6) (N' := 0) hx hb hown (hts (.classLink RX5 7 "[I") (List.mem_of_getElem? (i := 4) rfl)) hA2 hK hP hD hS hA (by decide) rfl (by decide) (Nat.le_of_ble_eq_true rfl) (Nat.le_of_ble_eq_true rfl) dX5_init_6 (fun q1 H hP hD hS => ?_)
  have hP : va_P X.1 vwCl [(a, .inr (5, [.null, .null, .null, .int 0, .int 0, .int 0, .int 0, .int 0, .int 0])), (q1, .inl (X.2.2.2, z_ra 0 (fun _ => none)))] H := hP
  have hD : va_D A [(a, .inr (5, [.null, .null, .null, .int 0, .int 0, .int 0, .int 0, .int 0, .int 0])), (q1, .inl (X.2.2.2, z_ra 0 (fun _ => none)))] := hD
  refine va_put (pc := 9) (D := X.1) (ci := 5) (C := RX5) (T := TX5) (N := 9) (v := .ref q1) (ty := tyX5 0) hx hb hts in_X5 tyX5 tyX5_ok nmX5 hown hK hP hD hS 0 rfl rfl 0 (by decide) (hts (.fieldLink RX5 9 "HouseBellsLaw$Sim" "rooms" "[[I") (List.mem_of_getElem? (i := 5) rfl)) (fun _ h9 => h9) rfl (by decide +kernel) rfl rfl (Nat.le_of_ble_eq_true rfl) dX5_init_9 (fun H locs hP hD hS => ?_)
  have hP : va_P X.1 vwCl [(a, .inr (5, [.ref q1, .null, .null, .int 0, .int 0, .int 0, .int 0, .int 0, .int 0])), (q1, .inl (X.2.2.2, z_ra 0 (fun _ => none)))] H := hP
  have hD : va_D A [(a, .inr (5, [.ref q1, .null, .null, .int 0, .int 0, .int 0, .int 0, .int 0, .int 0])), (q1, .inl (X.2.2.2, z_ra 0 (fun _ => none)))] := hD
  refine lv_aload_n (pc := 12) hx hb dX5_init_12 rfl (lv_at hl 0 rfl) ?_
  refine lv_iconst (v := 0) (pc := 13) hx hb dX5_init_13 (by decide) ?_
  refine z_newA (pc := 14) (N' := 0) hx hb hown (hts (.classLink RX5 7 "[I") (List.mem_of_getElem? (i := 4) rfl)) hA2 hK hP hD hS hA (by decide) rfl (by decide) (Nat.le_of_ble_eq_true rfl) (Nat.le_of_ble_eq_true rfl) dX5_init_14 (fun q2 H hP hD hS => ?_)
  have hP : va_P X.1 vwCl [(a, .inr (5, [.ref q1, .null, .null, .int 0, .int 0, .int 0, .int 0, .int 0, .int 0])), (q1, .inl (X.2.2.2, z_ra 0 (fun _ => none))), (q2, .inl (X.2.2.2, z_ra 0 (fun _ => none)))] H := hP
  have hD : va_D A [(a, .inr (5, [.ref q1, .null, .null, .int 0, .int 0, .int 0, .int 0, .int 0, .int 0])), (q1, .inl (X.2.2.2, z_ra 0 (fun _ => none))), (q2, .inl (X.2.2.2, z_ra 0 (fun _ => none)))] := hD
  refine va_put (pc := 17) (D := X.1) (ci := 5) (C := RX5) (T := TX5) (N := 9) (v := .ref q2) (ty := tyX5 1) hx hb hts in_X5 tyX5 tyX5_ok nmX5 hown hK hP hD hS 0 rfl rfl 1 (by decide) (hts (.fieldLink RX5 15 "HouseBellsLaw$Sim" "servants" "[[I") (List.mem_of_getElem? (i := 6) rfl)) (fun _ h9 => h9) rfl (by decide +kernel) rfl rfl (Nat.le_of_ble_eq_true rfl) dX5_init_17 (fun H locs hP hD hS => ?_)
  have hP : va_P X.1 vwCl [(a, .inr (5, [.ref q1, .ref q2, .null, .int 0, .int 0, .int 0, .int 0, .int 0, .int 0])), (q1, .inl (X.2.2.2, z_ra 0 (fun _ => none))), (q2, .inl (X.2.2.2, z_ra 0 (fun _ => none)))] H := hP
  have hD : va_D A [(a, .inr (5, [.ref q1, .ref q2, .null, .int 0, .int 0, .int 0, .int 0, .int 0, .int 0])), (q1, .inl (X.2.2.2, z_ra 0 (fun _ => none))), (q2, .inl (X.2.2.2, z_ra 0 (fun _ => none)))] := hD
  refine lv_aload_n (pc := 20) hx hb dX5_init_20 rfl (lv_at hl 0 rfl) ?_
  refine lv_iconst (v := 0) (pc := 21) hx hb dX5_init_21 (by decide) ?_
  refine z_newa (pc := 22) (atype := .int) (ty := .int) (N' := 0) (a0 := (0, .inl (fun _ => 0))) hx hb (hts (.arrayClass .int) (List.mem_of_getElem? (i := 7) rfl)) rfl hK hP hD hS hA 0 rfl (fun _ h => nomatch h) (fun _ => rfl) (by decide) rfl (by decide) (Nat.le_of_ble_eq_true rfl) (Nat.le_of_ble_eq_true rfl) dX5_init_22 (fun q3 H hP hD hS => ?_)
  have hP : va_P X.1 vwCl [(a, .inr (5, [.ref q1, .ref q2, .null, .int 0, .int 0, .int 0, .int 0, .int 0, .int 0])), (q1, .inl (X.2.2.2, z_ra 0 (fun _ => none))), (q2, .inl (X.2.2.2, z_ra 0 (fun _ => none))), (q3, .inl (X.2.1, 0, .inl (fun _ => 0)))] H := hP
  have hD : va_D A [(a, .inr (5, [.ref q1, .ref q2, .null, .int 0, .int 0, .int 0, .int 0, .int 0, .int 0])), (q1, .inl (X.2.2.2, z_ra 0 (fun _ => none))), (q2, .inl (X.2.2.2, z_ra 0 (fun _ => none))), (q3, .inl (X.2.1, 0, .inl (fun _ => 0)))] := hD
  refine va_put (pc := 24) (D := X.1) (ci := 5) (C := RX5) (T := TX5) (N := 9) (v := .ref q3) (ty := tyX5 2) hx hb hts in_X5 tyX5 tyX5_ok nmX5 hown hK hP hD hS 0 rfl rfl 2 (by decide) (hts (.fieldLink RX5 18 "HouseBellsLaw$Sim" "line" "[I") (List.mem_of_getElem? (i := 8) rfl)) (fun _ h9 => h9) rfl (by decide +kernel) rfl rfl (Nat.le_of_ble_eq_true rfl) dX5_init_24 (fun H locs hP hD hS => ?_)
  have hP : va_P X.1 vwCl [(a, .inr (5, [.ref q1, .ref q2, .ref q3, .int 0, .int 0, .int 0, .int 0, .int 0, .int 0])), (q1, .inl (X.2.2.2, z_ra 0 (fun _ => none))), (q2, .inl (X.2.2.2, z_ra 0 (fun _ => none))), (q3, .inl (X.2.1, 0, .inl (fun _ => 0)))] H := hP
  have hD : va_D A [(a, .inr (5, [.ref q1, .ref q2, .ref q3, .int 0, .int 0, .int 0, .int 0, .int 0, .int 0])), (q1, .inl (X.2.2.2, z_ra 0 (fun _ => none))), (q2, .inl (X.2.2.2, z_ra 0 (fun _ => none))), (q3, .inl (X.2.1, 0, .inl (fun _ => 0)))] := hD
  refine lv_aload_n (pc := 27) hx hb dX5_init_27 rfl (lv_at hl 0 rfl) ?_
  refine lv_sipush (v := 200) (pc := 28) hx hb dX5_init_28 (by decide) ?_
  refine va_put (pc := 31) (D := X.1) (ci := 5) (C := RX5) (T := TX5) (N := 9) (v := .int 200) (ty := tyX5 4) hx hb hts in_X5 tyX5 tyX5_ok nmX5 hown hK hP hD hS 0 rfl rfl 4 (by decide) (hts (.fieldLink RX5 21 "HouseBellsLaw$Sim" "charge" "I") (List.mem_of_getElem? (i := 9) rfl)) (fun _ h9 => h9) rfl (by decide +kernel) rfl rfl (Nat.le_of_ble_eq_true rfl) dX5_init_31 (fun H locs hP hD hS => ?_)
  have hP : va_P X.1 vwCl [(a, .inr (5, [.ref q1, .ref q2, .ref q3, .int 0, .int 200, .int 0, .int 0, .int 0, .int 0])), (q1, .inl (X.2.2.2, z_ra 0 (fun _ => none))), (q2, .inl (X.2.2.2, z_ra 0 (fun _ => none))), (q3, .inl (X.2.1, 0, .inl (fun _ => 0)))] H := hP
  have hD : va_D A [(a, .inr (5, [.ref q1, .ref q2, .ref q3, .int 0, .int 200, .int 0, .int 0, .int 0, .int 0])), (q1, .inl (X.2.2.2, z_ra 0 (fun _ => none))), (q2, .inl (X.2.2.2, z_ra 0 (fun _ => none))), (q3, .inl (X.2.1, 0, .inl (fun _ => 0)))] := hD
  have hP : va_P X.1 vwCl (z_wS X a ((q1, q2, q3), (fun _ => 0), (fun _ => 0)) z_q0) H := z_cgP (w1 := [_, _]) (f := fun _ => none) (fun i hi => absurd hi (Nat.not_lt_zero i)) (z_cgP (w1 := [_]) (f := fun _ => none) (g := z_pa (fun _ => 0)) (fun i hi => absurd hi (Nat.not_lt_zero i)) hP)
  have hD : va_D A (z_wS X a ((q1, q2, q3), (fun _ => 0), (fun _ => 0)) z_q0) := z_cgD (w1 := [_, _]) (e1 := .inl (X.2.2.2, z_ra 0 (fun _ => none))) (z_cgD (w1 := [_]) (e1 := .inl (X.2.2.2, z_ra 0 (fun _ => none))) hD)
  exact W.vret (pc := 34) hx hb hr (fun t ht hW => ⟨⟨_, rfl, ⟨((q1, q2, q3), (fun _ => 0), (fun _ => 0)), rfl⟩, by rw [ht]; exact hP, hD⟩, hS.F ht⟩) hS.2.2 dX5_init_34
theorem hdX5_with : yX5_with.cls ≠ "java/lang/invoke/MethodHandle" ∧ yX5_with.cls ≠ "java/lang/invoke/VarHandle" ∧ (parseMethodDescriptor yX5_with.desc).map (fun d => d.parameters.length) = some 2 := by decide +kernel
set_option maxHeartbeats 4000000 in
set_option maxRecDepth 100000 in
theorem m_X5_with (l : Launch) (X : z_X) (W0 : va_W) (ra lq n k0 : Nat) (pr : Nat → Nat) (g : Nat → Int32) (i0 iq : Nat) (h0 : W0[i0]? = some (ra, .inl (X.2.2.2, z_ra n (z_pa pr)))) (hq : W0[iq]? = some (lq, .inl (X.2.1, k0, .inl g))) (hp : ∀ i, i < n → ∃ (k k1 : Nat) (f : Nat → Int32), W0[k]? = some (pr i, .inl (X.2.1, k1, .inl f))) (hn : n ≤ 12) : z_kR l yX5_with wsX5_with 0 0 1 13 X [.ref ra, .ref lq] W0 (fun u q => u = W0 ++ [(q, .inl (X.2.2.2, z_ra (n + 1) (z_pa (z_up pr n lq))))]) := by
  intro sz
  refine Met.ofW (cc := cX5_with) (maxL := 4) (ret := (some (.array (.array .int)))) (by decide) rfl ?_
  intro p e s m args below meth c s₁ Bd hml hv
  obtain ⟨rfl, ⟨hsz, hP, hK, hN, hD0⟩, hA2⟩ := hv
  have hx := Bd.exec
  have hb := Bd.bytes
  have hr := Bd.returns
  have hts := atoms_spec (ws := wsX5_with) Bd.pre
  have hown : s.vm.findClass RX5 = some m.cls := findClass_of_methodNamed Bd.named
  have hlocks := Bd.notSynchronized
  have S : CallFix p m c cX5_with 4 s _ wsX5_with RX5 := ⟨hx, hb, hml, hown, hts⟩
  subst hsz
  have hD := hD0.self (sz := s.heap.size)
  generalize hAe : va_A W0 s.heap.size = A at hD ⊢
  have hA : ∀ q : Nat, s.heap.size ≤ q → A q := fun q h => by rw [← hAe]; exact Or.inr h
  have hS : va_S A s.heap s.heap [] := va_S.rf
  have hl := lv_entry ([.ref ra, .ref lq]) (n := 4) (Nat.le_of_ble_eq_true rfl)
  rw [lg_entry_eq]
  generalize (lg_sl ([.ref ra, .ref lq]) ++ List.replicate (4 - (lg_sl ([.ref ra, .ref lq])).length) Slot.unset).toArray = ls at hl ⊢
  have hl : lv_has ls 4 [(0, .ref ra), (1, .ref lq)] := hl
  have hq1 : ∀ (x : va_E) (q2 : Nat) (k : Nat) (z : Nat × va_E), W0[k]? = some z → (W0 ++ [(q2, x)])[k]? = some z := fun x q2 k z h => by rw [List.getElem?_append_left (List.getElem?_eq_some_iff.mp h).1]; exact h
  have hqe : ∀ (x : va_E) (q2 : Nat), (W0 ++ [(q2, x)])[W0.length]? = some (q2, x) := fun x q2 => by rw [List.getElem?_append_right (Nat.le_refl _), Nat.sub_self]; rfl
  have hqs : ∀ (x y : va_E) (q2 : Nat), (W0 ++ [(q2, x)]).set W0.length (q2, y) = W0 ++ [(q2, y)] := fun x y q2 => by rw [List.set_append_right _ _ (Nat.le_refl _), Nat.sub_self]; rfl
  have lp_10 : ∀ (q2 d i : Nat) (f : Nat → Option Nat), i + d = n → (∀ j, j < i → f j = some (pr j)) → ∀ (H : Heap) (locs : List Loc), va_P X.1 vwCl (W0 ++ [(q2, .inl (X.2.2.2, z_ra (n + 1) f))]) H → va_D A (W0 ++ [(q2, .inl (X.2.2.2, z_ra (n + 1) f))]) → va_S A s.heap H locs → ∀ (ls : Array Slot), lv_has ls 4 [(0, .ref ra), (1, .ref lq), (2, .ref q2), (3, .int (nI i))] → W p l e (headSpec wsX5_with (z_R2 0 0 1 13)).room s m ([.ref ra, .ref lq] : List Value).toArray below meth c H locs 1 13 (MQ below (va_Qr (fun _ : va_W => True) (fun u q t => (fun u q => u = W0 ++ [(q, .inl (X.2.2.2, z_ra (n + 1) (z_pa (z_up pr n lq))))]) u q ∧ z_Bm X A u t) A) ([.ref ra, .ref lq] : List Value).toArray s 1 13 A) (F0 m 10 ls []) := by
    intro q2 d
    induction d with
    | zero =>
      intro i f hi hf H locs hP hD hS ls hl
      obtain rfl : i = n := hi
      refine lv_iload_n (pc := 10) hx hb dX5_with_10 rfl (lv_at hl 3 rfl) ?_
      refine lv_aload_n (pc := 11) hx hb dX5_with_11 rfl (lv_at hl 0 rfl) ?_
      refine va_alen (v := nI i) (pc := 12) hx hb hK hP _ 2 (hq1 _ _ _ _ h0) rfl rfl dX5_with_12 ?_
      refine lv_icmp_ge (pc := 13) (tgt := 28) hx hb dX5_with_13 (by decide) (fun c_13 => ?_) (fun c_13 => absurd ((nI_leI (by omega) (by omega)).mpr (Nat.le_refl _)) c_13)
      refine lv_aload_n (pc := 28) hx hb dX5_with_28 rfl (lv_at hl 2 rfl) ?_
      refine lv_aload_n (pc := 29) hx hb dX5_with_29 rfl (lv_at hl 0 rfl) ?_
      refine va_alen (v := nI i) (pc := 30) hx hb hK hP _ 2 (hq1 _ _ _ _ h0) rfl rfl dX5_with_30 ?_
      refine lv_aload_n (pc := 31) hx hb dX5_with_31 rfl (lv_at hl 1 rfl) ?_
      refine z_aast (pc := 32) hx hb hA2 hK hP hD hS W0.length iq (hqe _ _) (hq1 _ _ _ _ hq) (vp_in_nI (by omega) (by omega)) dX5_with_32 (fun H locs hP hD hS => ?_)
      rw [hqs] at hP hD
      refine lv_aload_n (pc := 33) hx hb dX5_with_33 rfl (lv_at hl 2 rfl) ?_
      have hP : va_P X.1 vwCl (W0 ++ [(q2, .inl (X.2.2.2, z_ra (i + 1) (z_pa (z_up pr i lq))))]) H := z_cgP (w2 := []) (fun j hj => by
      rw [nI_clamp (show i < 2 ^ 31 by omega)]
      show va_up f i (some lq) j = some (z_up pr i lq j)
      by_cases e : j = i
      · rw [e, z_up_s]; exact if_pos rfl
      · rw [z_up_n e, ← hf j (by omega)]; exact if_neg e) hP
      have hD : va_D A (W0 ++ [(q2, .inl (X.2.2.2, z_ra (i + 1) (z_pa (z_up pr i lq))))]) := z_cgD (w2 := []) hD
      exact W.aret (pc := 34) hx hb hr (Or.inr ⟨_, rfl⟩) (Or.inr ⟨_, rfl⟩) (fun t ht hW => ⟨⟨_, q2, rfl, trivial, rfl, by rw [ht]; exact hP, hD⟩, hS.F ht⟩) hS.2.2 dX5_with_34
    | succ d ih =>
      intro i f hi hf H locs hP hD hS ls hl
      refine lv_iload_n (pc := 10) hx hb dX5_with_10 rfl (lv_at hl 3 rfl) ?_
      refine lv_aload_n (pc := 11) hx hb dX5_with_11 rfl (lv_at hl 0 rfl) ?_
      refine va_alen (v := nI n) (pc := 12) hx hb hK hP _ 2 (hq1 _ _ _ _ h0) rfl rfl dX5_with_12 ?_
      refine lv_icmp_ge (pc := 13) (tgt := 28) hx hb dX5_with_13 (by decide) (fun c_13 => absurd ((nI_leI (by omega) (by omega)).mp c_13) (by omega)) (fun c_13 => ?_)
      refine lv_aload_n (pc := 16) hx hb dX5_with_16 rfl (lv_at hl 2 rfl) ?_
      refine lv_iload_n (pc := 17) hx hb dX5_with_17 rfl (lv_at hl 3 rfl) ?_
      refine lv_aload_n (pc := 18) hx hb dX5_with_18 rfl (lv_at hl 0 rfl) ?_
      refine lv_iload_n (pc := 19) hx hb dX5_with_19 rfl (lv_at hl 3 rfl) ?_
      refine z_aald (pc := 20) hx hb hK hP _ 2 (hq1 _ _ _ _ h0) rfl (show z_ai (nI i) n = some i by unfold z_ai; rw [nI_clamp (show i < 2 ^ 31 by omega), if_neg (fun z => z.elim (nI_pos (by omega)) (by omega))]) dX5_with_20 ?_
      obtain ⟨k, k1, g1, hk⟩ := hp i (by omega)
      refine z_aast (pc := 21) hx hb hA2 hK hP hD hS W0.length k (hqe _ _) (hq1 _ _ _ _ hk) (vp_in_nI (by omega) (by omega)) dX5_with_21 (fun H locs hP hD hS => ?_)
      rw [hqs] at hP hD
      refine lv_iinc (pc := 22) (v := (nI (i + 1))) (lv' := [(3, .int (nI (i + 1))), (0, .ref ra), (1, .ref lq), (2, .ref q2)]) hx hb dX5_with_22 hl (k := 3) (rfl) (by first | rfl | exact nI_1 _) (by decide) rfl (fun ls hl => ?_)
      refine lv_goto (pc := 25) (tgt := 10) hx hb dX5_with_25 (by decide) ?_
      refine ih (i + 1) _ (by omega) (fun j hj => ?_) H locs hP hD hS ls (lv_sub hl [1, 2, 3, 0] rfl)
      rw [nI_clamp (show i < 2 ^ 31 by omega)]
      by_cases e : j = i
      · rw [e]; exact if_pos rfl
      · rw [← hf j (by omega)]; exact if_neg e
  refine lv_aload_n (pc := 0) hx hb dX5_with_0 rfl (lv_at hl 0 rfl) ?_
  refine va_alen (v := nI n) (pc := 1) hx hb hK hP _ 2 h0 rfl rfl dX5_with_1 ?_
  refine lv_iconst (v := 1) (pc := 2) hx hb dX5_with_2 (by decide) ?_
  refine lv_iadd (pc := 3) hx hb dX5_with_3 ?_
  rw [nI_1]
  refine z_newA (pc := 4) (N' := n + 1) hx hb hown (hts (.classLink RX5 7 "[I") (List.mem_of_getElem? (i := 1) rfl)) hA2 hK hP hD hS hA (nI_pos (by omega)) (nI_clamp (by omega)) (by omega) (show 0 + 1 ≤ 1 by omega) (show 0 + (n + 1) ≤ 13 by omega) dX5_with_4 (fun q2 H hP hD hS => ?_)
  refine W.widen (k := 1) (n := 13) (by omega) (by omega) ?_
  refine lv_astore_n (pc := 7) (lv' := [(2, .ref q2), (0, .ref ra), (1, .ref lq)]) hx hb dX5_with_7 rfl hl (by decide) rfl (fun ls hl => ?_)
  refine lv_iconst (v := 0) (pc := 8) hx hb dX5_with_8 (by decide) ?_
  refine lv_istore_n (pc := 9) (lv' := [(3, .int (nI 0)), (2, .ref q2), (0, .ref ra), (1, .ref lq)]) hx hb dX5_with_9 rfl hl (by decide) rfl (fun ls hl => ?_)
  exact lp_10 q2 n 0 _ (by omega) (fun j hj => absurd hj (Nat.not_lt_zero j)) H _ hP hD hS ls (lv_sub hl [2, 3, 1, 0] rfl)
