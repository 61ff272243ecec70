-- ===== throwing: what a method that throws stands on, and its contract =====
def z_sl : List (Nat × String) := [(25, "no such floor, patience or need"), (36, "the house has all its rooms"), (43, "no such pace"), (54, "the house has all its servants"), (81, "a wire is not crossed with itself"), (95, "the wire is cut already"), (104, "the wire is whole already"), (106, "no such charge"), (120, "the drop stands already"), (275, "no such room or drop"), (278, "no such servant"), (280, "no such number of minutes")]
def z_en : Nat → String := fun k => match k with
  | 0 => "java/lang/IllegalArgumentException"
  | 1 => "java/lang/IllegalStateException"
  | _ => "java/lang/IndexOutOfBoundsException"
def z_dl : List MethodName := [⟨"java/lang/RuntimeException", "<init>", "(Ljava/lang/String;)V"⟩, ⟨"java/lang/Exception", "<init>", "(Ljava/lang/String;)V"⟩, ⟨"java/lang/Throwable", "<init>", "(Ljava/lang/String;)V"⟩]
def z_T0 (U : State) : Prop := (∀ y ∈ z_dl, va_Nw (.declares y) U) ∧ (∀ k, k < 3 → va_Nw (.castable (z_en k) (z_en k)) U) ∧ (va_Nc (z_en 0) (z_en 1) U ∧ va_Nc (z_en 2) (z_en 1) U ∧ va_Nc (z_en 2) (z_en 1) U) ∧ (∀ q ∈ z_sl, ∃ a : Nat, vk_R "HouseBells" q.1 q.2 a U)
def z_T (A : Nat → Prop) (U : State) (H : Heap) : Prop := z_T0 U ∧ vx_Zq Bundle.tN "UNASSIGNED_STACK" Bundle.steD A U H ∧ vx_Zq Bundle.tN "SUPPRESSED_SENTINEL" Bundle.listD A U H
theorem z_T0.warm {s U : State} (hW : s.WarmedH U.vm) (h : z_T0 s) : z_T0 U := by
  obtain ⟨h0, h1, ⟨h2, h3, h4⟩, h5⟩ := h
  refine ⟨fun y hy => va_Nw.warmD hW (h0 y hy), fun k hk => va_Nw.warmC hW (h1 k hk), ⟨h2.moved hW.alike, h3.moved hW.alike, h4.moved hW.alike⟩, fun q hq => ?_⟩
  obtain ⟨a, ha⟩ := h5 q hq
  exact ⟨a, vk_R.warm hW ha⟩
theorem z_T0.same {u U : State} (e : U.vm = u.vm) (h : z_T0 u) : z_T0 U := by
  obtain ⟨h0, h1, ⟨h2, h3, h4⟩, h5⟩ := h
  have ea : u.vm.Alike U.vm := by rw [e]; exact Vm.Alike.refl _
  refine ⟨fun y hy => va_Nw.same rfl e.symm (h0 y hy), fun k hk => va_Nw.same rfl e.symm (h1 k hk), ⟨h2.moved ea, h3.moved ea, h4.moved ea⟩, fun q hq => ?_⟩
  obtain ⟨a, ha⟩ := h5 q hq
  exact ⟨a, vk_R.same e ha⟩
theorem z_T.warm {A : Nat → Prop} {s U : State} {H : Heap} (hW : s.WarmedH U.vm) (h : z_T A s H) : z_T A U H := ⟨h.1.warm hW, h.2.1.moved hW.alike, h.2.2.moved hW.alike⟩
theorem z_T.same {A : Nat → Prop} {u U : State} {H : Heap} (e : U.vm = u.vm) (h : z_T A u H) : z_T A U H := ⟨h.1.same e, h.2.1.moved (by rw [e]; exact Vm.Alike.refl _), h.2.2.moved (by rw [e]; exact Vm.Alike.refl _)⟩
theorem z_T.kept {A : Nat → Prop} {U : State} {H H1 : Heap} (h : z_T A U H) (hq : ∀ a : Nat, a < H.size → ¬ A a → H1[a]? = H[a]?) : z_T A U H1 := ⟨h.1, h.2.1.kept hq, h.2.2.kept hq⟩
theorem z_T.narrow {A B : Nat → Prop} {U : State} {H : Heap} (h : z_T A U H) (hAB : ∀ q, B q → A q) : z_T B U H := ⟨h.1, h.2.1.narrow hAB, h.2.2.narrow hAB⟩
abbrev z_no : Nat → Prop := fun _ => False
def z_Px (X : z_X) (w : va_W) : State → Prop := fun U => z_Pp X w U ∧ z_T z_no U U.heap
abbrev z_R1 (fr lo : Nat) : Room := { frames := fr, cells := 1, slots := 6, locals := lo }
def z_tX (l : Launch) (y : MethodName) (ws : List Cond) (fr lo : Nat) (X : z_X) (av : List Value) (w : va_W) (k : Nat) : Prop := vx_Met l y ws (z_R1 fr lo) (va_Pc av (z_Px X w)) (va_Qv (fun _ : Unit => False) (fun _ _ => True) z_no) (vx_X (fun _ : Unit => True) (fun E _ _ => E = z_en k) z_no) 1 6 z_no
theorem z_bx (av : List Value) (X : z_X) (w : va_W) : FrameBlind (va_Pc av (z_Px X w)) := fun a U g mk q => by
  obtain ⟨q0, ⟨qP, qK, qN⟩, qT⟩ := q
  exact ⟨q0, ⟨qP, va_K.moved (u := U) (U := U.calling g mk a) (Vm.Alike.refl U.vm) qK, z_N.same (U := U.calling g mk a) rfl qN⟩, z_T.same (U := U.calling g mk a) rfl qT⟩
def z_or (o r : Option Nat) : Option Nat := match o with
  | some k => some k
  | none => r
theorem z_or_n {o r v : Option Nat} (h : o = none) (hf : z_or o r = v) : r = v := by subst h; exact hf
theorem z_or_s {o r : Option Nat} {k j : Nat} (h : o = some k) (hf : z_or o r = some j) : k = j := by subst h; exact Option.some.inj hf
section ZT
variable {p : Program} {l : Launch} {e : Env} {R : Room} {s : State} {m : MethodId} {args : Array Value} {below : List Frame} {meth : Method} {c : Code} {H : Heap} {locs : List Loc} {cells slots : Nat} {Q : State → Prop}
variable {y : MethodName} {bytes cc : ByteArray} {maxL nL n index fr lo : Nat} {ret : Option FieldType} {ws : List Cond} {Ts : List Cond} {own C : String} {b : Addr} {As rest st0 : List Value} {ls : Array Slot} {pc : Nat} {X : z_X} {W0 wc : va_W} {A : Nat → Prop} {H0 : Heap}
/-- a call that throws: q9 is on its way, nothing old was written -/
theorem z_ctV {k ci : Nat} {q : vw_C} {fs : List Value} (S : CallFix p m c cc nL s args Ts own) (hM : z_tX l y ws fr lo X (.ref b :: As) wc k) (cw : CallW R s args own C index y bytes maxL ret ws (z_R1 fr lo) 1 6 n) (hP : va_P X.1 vwCl W0 H) (hK : va_K X.1 vwCl (z_ty X) s) (hN : z_N s) (hT : z_T z_no s H) (hs : z_S W0 wc) (hS : va_S A H0 H locs) (hc : vwCl[ci]? = some q) (hq : q.1 = C) (he : wc[0]? = some (b, .inr (ci, fs))) (hf : cells + 1 ≤ R.cells ∧ slots + 6 ≤ R.slots) (hn : As.length = n) (hsz : ls.size = nL) (hst : st0 = As.reverse ++ .ref b :: rest) (hW : (rest.map fun v => v.category).sum ≤ 8) (hdg : decode cc pc = .ok (.invokevirtual index, 3)) (kx : ∀ (ce : Cell) (q9 : Addr) (H1 : Heap) (locs1 : List Loc), H.size ≤ H1.size → (∀ q : Nat, q < H.size → H1[q]? = H[q]?) → va_S A H0 H1 locs1 → H1[q9]? = some ce → ce.vm = .none → s.vm.findClass (z_en k) = some ce.cls → vx_W p l e R s m args below meth c H1 locs1 (cells + 1) (slots + 6) Q (F0 m pc ls rest) q9) : W p l e R s m args below meth c H locs cells slots Q (F0 m pc ls st0) := by
  refine vx_callv (vx_runV (rest := rest) S hM cw ⟨z_bx _ _ _, z_recv hP hK hN hs hc hq he, fun U hU hW => ?_⟩ rfl hn hsz hst (lv_room hW) hdg hf) hS (fun q _ h => h.elim) (fun q h => h.elim) (fun q _ h => h.elim) (fun E ce q9 u t H1 locs1 ht hvm hu hE hz1 hk1 hS1 hce hcv hcl => ?_) (fun u t H1 locs1 ht hvm hu hB hz1 hk1 hS1 => hu.elim)
  · obtain ⟨a1, a2, a3, a4⟩ := z_pre hP hK hN hs (.ref b :: As) U hU hW
    exact ⟨a1, ⟨a2, a3, a4⟩, by rw [hU]; exact hT.warm hW⟩
  · cases hE
    exact kx ce q9 H1 locs1 hz1 (fun q hq => hk1 q hq (fun h => h)) hS1 hce hcv hcl
theorem z_ctS {k : Nat} (S : CallFix p m c cc nL s args Ts own) (hM : z_tX l y ws fr lo X As wc k) (cw : CallB R s args own index y bytes maxL ret ws (z_R1 fr lo) 1 6 n ∧ (Cond.static y).before args s = true) (hP : va_P X.1 vwCl W0 H) (hK : va_K X.1 vwCl (z_ty X) s) (hN : z_N s) (hT : z_T z_no s H) (hs : z_S W0 wc) (hS : va_S A H0 H locs) (hf : cells + 1 ≤ R.cells ∧ slots + 6 ≤ R.slots) (hn : As.length = n) (hsz : ls.size = nL) (hst : st0 = As.reverse ++ rest) (hW : (rest.map fun v => v.category).sum ≤ 8) (hdg : decode cc pc = .ok (.invokestatic index, 3)) (kx : ∀ (ce : Cell) (q9 : Addr) (H1 : Heap) (locs1 : List Loc), H.size ≤ H1.size → (∀ q : Nat, q < H.size → H1[q]? = H[q]?) → va_S A H0 H1 locs1 → H1[q9]? = some ce → ce.vm = .none → s.vm.findClass (z_en k) = some ce.cls → vx_W p l e R s m args below meth c H1 locs1 (cells + 1) (slots + 6) Q (F0 m pc ls rest) q9) : W p l e R s m args below meth c H locs cells slots Q (F0 m pc ls st0) := by
  refine vx_callv (vx_runS (rest := rest) S hM cw ⟨z_bx _ _ _, fun U hU hW => ?_⟩ rfl hn hsz hst (lv_room hW) hdg hf) hS (fun q _ h => h.elim) (fun q h => h.elim) (fun q _ h => h.elim) (fun E ce q9 u t H1 locs1 ht hvm hu hE hz1 hk1 hS1 hce hcv hcl => ?_) (fun u t H1 locs1 ht hvm hu hB hz1 hk1 hS1 => hu.elim)
  · obtain ⟨a1, a2, a3, a4⟩ := z_pre hP hK hN hs As U hU hW
    exact ⟨a1, ⟨a2, a3, a4⟩, by rw [hU]; exact hT.warm hW⟩
  · cases hE
    exact kx ce q9 H1 locs1 hz1 (fun q hq => hk1 q hq (fun h => h)) hS1 hce hcv hcl
end ZT
def x_X4_requireRoom (B : z_B) (v1 : Int32) : Option Nat := (if v1 < 0 then some 2 else (if v1 < (B.1.1 1) then none else some 2))
set_option maxHeartbeats 4000000 in
set_option maxRecDepth 100000 in
theorem t_X4_requireRoom (l : Launch) (hl0 : l.stackTraces = false) (X : z_X) (a : Nat) (d d2 : Nat → Nat) (B : z_B) (v1 : Int32) {k : Nat} (hf : x_X4_requireRoom B v1 = some k) : z_tX l yX4_requireRoom wsX4_requireRoom 6 90 X [.ref a, .int v1] (z_wB X a d d2 B) k := by
  refine vx_ofW (cc := cX4_requireRoom) (maxL := 2) (ret := none) (by decide) rfl ?_
  intro p e s m args below meth c s₁ Bd hml hnt hv
  obtain ⟨rfl, ⟨hP, hK, hN⟩, hT⟩ := hv
  have hx := Bd.exec
  have hb := Bd.bytes
  have hr := Bd.returns
  have hts := atoms_spec (ws := wsX4_requireRoom) Bd.pre
  have hown : s.vm.findClass RX4 = some m.cls := findClass_of_methodNamed Bd.named
  have hlocks := Bd.notSynchronized
  have S : CallFix p m c cX4_requireRoom 2 s _ wsX4_requireRoom RX4 := ⟨hx, hb, hml, hown, hts⟩
  have lk_cl273 := hts (.classLink RX4 273 "java/lang/IndexOutOfBoundsException") (List.mem_of_getElem? (i := 1) rfl)
  have lk_fi10 := hts (.fieldLink RX4 10 "HouseBells" "house" "LHouseBells$House;") (List.mem_of_getElem? (i := 3) rfl)
  have in_X0 : ∀ w ∈ wsX00, w ∈ wsX4_requireRoom := fun _ h => (List.mem_cons_of_mem _ (List.mem_append_left _ (List.mem_append_right _ h)))
  have in_X4 : ∀ w ∈ wsX40, w ∈ wsX4_requireRoom := fun _ h => (List.mem_cons_of_mem _ (List.mem_append_left _ (List.mem_append_left _ (List.mem_append_right _ h))))
  have hl := lv_entry ([.ref a, .int v1]) (n := 2) (Nat.le_of_ble_eq_true rfl)
  rw [lg_entry_eq]
  generalize (lg_sl ([.ref a, .int v1]) ++ List.replicate (2 - (lg_sl ([.ref a, .int v1])).length) Slot.unset).toArray = ls at hl ⊢
  have hl : lv_has ls 2 [(0, .ref a), (1, .int v1)] := hl
  unfold x_X4_requireRoom at hf
  refine lv_iload_n (pc := 0) hx hb dX4_requireRoom_0 rfl (lv_at hl 1 rfl) ?_
  refine lv_if_lt (pc := 1) (tgt := 15) hx hb dX4_requireRoom_1 (by decide) (fun c_1 => ?_) (fun c_1 => ?_)
  · replace hf := z_ip c_1 hf
    have hat15 : ∀ w ∈ (vx_atS RX4 277 "java/lang/IndexOutOfBoundsException" ["java/lang/RuntimeException", "java/lang/Exception"]), w.before _ s = true := vx_hat (fun _ h => hts _ ((List.mem_cons_of_mem _ (List.mem_append_right _ h)))) (B := [.castable "java/lang/IndexOutOfBoundsException" "java/lang/IndexOutOfBoundsException", .declares (z_dl[0]), .declares (z_dl[1]), .declares (z_dl[2])]) (by decide +kernel) (vx_c (va_Nw.use rfl (hT.1.2.1 2 (by decide))) (vx_c (va_Nw.use rfl (hT.1.1 _ (List.getElem_mem _))) (vx_c (va_Nw.use rfl (hT.1.1 _ (List.getElem_mem _))) (vx_c (va_Nw.use rfl (hT.1.1 _ (List.getElem_mem _))) vx_n))))
    obtain ⟨sa, hsa⟩ := hT.1.2.2.2 (275, "no such room or drop") (List.mem_of_getElem? (i := 9) rfl)
    exact vx_throwSW (pc := 15) (A := z_no) (names := ["java/lang/RuntimeException", "java/lang/Exception"]) hx hb hl0 hown (by decide +kernel) (by decide +kernel) lk_cl273 (hts (.initialized "java/lang/IndexOutOfBoundsException") (List.mem_of_getElem? (i := 2) rfl)) hsa hat15 (by decide +kernel) hT.2.1 hT.2.2 (va_S.rf (A := z_no)) (by rw [hml]; exact hl.1) dX4_requireRoom_15 dX4_requireRoom_18 dX4_requireRoom_19 dX4_requireRoom_22 dX4_requireRoom_25 (fun x hx => (hnt x hx).elim) (Nat.le_of_ble_eq_true rfl) (Nat.le_of_ble_eq_true rfl) (Nat.le_of_ble_eq_true rfl) (Nat.le_of_ble_eq_true rfl) hlocks (fun t ht hz hk => ⟨(), trivial, congrArg z_en (Option.some.inj hf), hz, fun q hq _ => hk q hq⟩) (fun _ h => nomatch h) (Nat.le_refl _) (Nat.le_refl _)
  · replace hf := z_in c_1 hf
    refine lv_iload_n (pc := 4) hx hb dX4_requireRoom_4 rfl (lv_at hl 1 rfl) ?_
    refine lv_aload_n (pc := 5) hx hb dX4_requireRoom_5 rfl (lv_at hl 0 rfl) ?_
    refine va_get (pc := 6) (ci := 4) (C := RX4) (T := TX4) (N := 2) hx hb hts in_X4 hown hK hP 0 rfl rfl 0 (by decide) lk_fi10 (fun _ h9 => h9) rfl dX4_requireRoom_6 ?_
    refine va_getN (pc := 9) (ci := 0) (C := RX0) (T := TX0) (N := 15) hx hb hts in_X0 hown hK hP 1 rfl rfl 1 (by decide) (z_n13 hN) (fun _ h9 => h9) rfl dX4_requireRoom_9 ?_
    refine lv_icmp_lt (pc := 12) (tgt := 26) hx hb dX4_requireRoom_12 (by decide) (fun c_12 => ?_) (fun c_12 => ?_)
    · replace hf := z_ip c_12 hf
      cases hf
    · replace hf := z_in c_12 hf
      have hat15 : ∀ w ∈ (vx_atS RX4 277 "java/lang/IndexOutOfBoundsException" ["java/lang/RuntimeException", "java/lang/Exception"]), w.before _ s = true := vx_hat (fun _ h => hts _ ((List.mem_cons_of_mem _ (List.mem_append_right _ h)))) (B := [.castable "java/lang/IndexOutOfBoundsException" "java/lang/IndexOutOfBoundsException", .declares (z_dl[0]), .declares (z_dl[1]), .declares (z_dl[2])]) (by decide +kernel) (vx_c (va_Nw.use rfl (hT.1.2.1 2 (by decide))) (vx_c (va_Nw.use rfl (hT.1.1 _ (List.getElem_mem _))) (vx_c (va_Nw.use rfl (hT.1.1 _ (List.getElem_mem _))) (vx_c (va_Nw.use rfl (hT.1.1 _ (List.getElem_mem _))) vx_n))))
      obtain ⟨sa, hsa⟩ := hT.1.2.2.2 (275, "no such room or drop") (List.mem_of_getElem? (i := 9) rfl)
      exact vx_throwSW (pc := 15) (A := z_no) (names := ["java/lang/RuntimeException", "java/lang/Exception"]) hx hb hl0 hown (by decide +kernel) (by decide +kernel) lk_cl273 (hts (.initialized "java/lang/IndexOutOfBoundsException") (List.mem_of_getElem? (i := 2) rfl)) hsa hat15 (by decide +kernel) hT.2.1 hT.2.2 (va_S.rf (A := z_no)) (by rw [hml]; exact hl.1) dX4_requireRoom_15 dX4_requireRoom_18 dX4_requireRoom_19 dX4_requireRoom_22 dX4_requireRoom_25 (fun x hx => (hnt x hx).elim) (Nat.le_of_ble_eq_true rfl) (Nat.le_of_ble_eq_true rfl) (Nat.le_of_ble_eq_true rfl) (Nat.le_of_ble_eq_true rfl) hlocks (fun t ht hz hk => ⟨(), trivial, congrArg z_en (Option.some.inj hf), hz, fun q hq _ => hk q hq⟩) (fun _ h => nomatch h) (Nat.le_refl _) (Nat.le_refl _)
def x_X4_addRoom (B : z_B) (v1 : Int32) (v2 : Int32) (v3 : Int32) : Option Nat := (if (f_X4_isWithin v1 0 5) = 0 then some 0 else (if (f_X4_isWithin v2 1 9) = 0 then some 0 else (if (f_X4_isWithin v3 1 9) = 0 then some 0 else (if (B.1.1 1) < 12 then none else some 1))))
set_option maxHeartbeats 4000000 in
set_option maxRecDepth 100000 in
theorem t_X4_addRoom (l : Launch) (hl0 : l.stackTraces = false) (X : z_X) (a : Nat) (d d2 : Nat → Nat) (B : z_B) (v1 : Int32) (v2 : Int32) (v3 : Int32) {k : Nat} (hf : x_X4_addRoom B v1 v2 v3 = some k) : z_tX l yX4_addRoom wsX4_addRoom 6 90 X [.ref a, .int v1, .int v2, .int v3] (z_wB X a d d2 B) k := by
  refine vx_ofW (cc := cX4_addRoom) (maxL := 4) (ret := (some .int)) (by decide) rfl ?_
  intro p e s m args below meth c s₁ Bd hml hnt hv
  obtain ⟨rfl, ⟨hP, hK, hN⟩, hT⟩ := hv
  have hx := Bd.exec
  have hb := Bd.bytes
  have hr := Bd.returns
  have hts := atoms_spec (ws := wsX4_addRoom) Bd.pre
  have hown : s.vm.findClass RX4 = some m.cls := findClass_of_methodNamed Bd.named
  have hlocks := Bd.notSynchronized
  have S : CallFix p m c cX4_addRoom 4 s _ wsX4_addRoom RX4 := ⟨hx, hb, hml, hown, hts⟩
  have lk_cl23 := hts (.classLink RX4 23 "java/lang/IllegalArgumentException") (List.mem_of_getElem? (i := 1) rfl)
  have lk_fi10 := hts (.fieldLink RX4 10 "HouseBells" "house" "LHouseBells$House;") (List.mem_of_getElem? (i := 5) rfl)
  have lk_cl34 := hts (.classLink RX4 34 "java/lang/IllegalStateException") (List.mem_of_getElem? (i := 3) rfl)
  have in_X0 : ∀ w ∈ wsX00, w ∈ wsX4_addRoom := fun _ h => (List.mem_cons_of_mem _ (List.mem_append_left _ (List.mem_append_left _ (List.mem_append_left _ (List.mem_append_right _ h)))))
  have in_X4 : ∀ w ∈ wsX40, w ∈ wsX4_addRoom := fun _ h => (List.mem_cons_of_mem _ (List.mem_append_left _ (List.mem_append_left _ (List.mem_append_left _ (List.mem_append_left _ (List.mem_append_right _ h))))))
  have hl := lv_entry ([.ref a, .int v1, .int v2, .int v3]) (n := 4) (Nat.le_of_ble_eq_true rfl)
  rw [lg_entry_eq]
  generalize (lg_sl ([.ref a, .int v1, .int v2, .int v3]) ++ List.replicate (4 - (lg_sl ([.ref a, .int v1, .int v2, .int v3])).length) Slot.unset).toArray = ls at hl ⊢
  have hl : lv_has ls 4 [(0, .ref a), (1, .int v1), (2, .int v2), (3, .int v3)] := hl
  unfold x_X4_addRoom at hf
  refine lv_iload_n (pc := 0) hx hb dX4_addRoom_0 rfl (lv_at hl 1 rfl) ?_
  refine lv_iconst (v := 0) (pc := 1) hx hb dX4_addRoom_1 (by decide) ?_
  refine lv_iconst (v := 5) (pc := 2) hx hb dX4_addRoom_2 (by decide) ?_
  refine z_csI (pc := 3) S (m_X4_isWithin l X v1 0 5 rfl) (va_cwS 3 hts gX4_addRoom_X4_isWithin rfl rfl rfl hdX4_isWithin ⟨Nat.le_of_ble_eq_true rfl, Nat.le_of_ble_eq_true rfl⟩) hP hK hN (s_nil _) ⟨Nat.le_of_ble_eq_true rfl, Nat.le_of_ble_eq_true rfl⟩ rfl hl.1 rfl (Nat.le_of_ble_eq_true rfl) dX4_addRoom_3 ?_
  refine lv_if_eq (pc := 6) (tgt := 29) hx hb dX4_addRoom_6 (by decide) (fun c_6 => ?_) (fun c_6 => ?_)
  · replace hf := z_ip c_6 hf
    have hat29 : ∀ w ∈ (vx_atS RX4 27 "java/lang/IllegalArgumentException" ["java/lang/RuntimeException", "java/lang/Exception"]), w.before _ s = true := vx_hat (fun _ h => hts _ ((List.mem_cons_of_mem _ (List.mem_append_left _ (List.mem_append_right _ h))))) (B := [.castable "java/lang/IllegalArgumentException" "java/lang/IllegalArgumentException", .declares (z_dl[0]), .declares (z_dl[1]), .declares (z_dl[2])]) (by decide +kernel) (vx_c (va_Nw.use rfl (hT.1.2.1 0 (by decide))) (vx_c (va_Nw.use rfl (hT.1.1 _ (List.getElem_mem _))) (vx_c (va_Nw.use rfl (hT.1.1 _ (List.getElem_mem _))) (vx_c (va_Nw.use rfl (hT.1.1 _ (List.getElem_mem _))) vx_n))))
    obtain ⟨sa, hsa⟩ := hT.1.2.2.2 (25, "no such floor, patience or need") (List.mem_of_getElem? (i := 0) rfl)
    exact vx_throwS (pc := 29) (A := z_no) (names := ["java/lang/RuntimeException", "java/lang/Exception"]) hx hb hl0 hown (by decide +kernel) (by decide +kernel) lk_cl23 (hts (.initialized "java/lang/IllegalArgumentException") (List.mem_of_getElem? (i := 2) rfl)) hsa hat29 (by decide +kernel) hT.2.1 hT.2.2 (va_S.rf (A := z_no)) (by rw [hml]; exact hl.1) dX4_addRoom_29 dX4_addRoom_32 dX4_addRoom_33 dX4_addRoom_35 dX4_addRoom_38 (fun x hx => (hnt x hx).elim) (Nat.le_of_ble_eq_true rfl) (Nat.le_of_ble_eq_true rfl) (Nat.le_of_ble_eq_true rfl) (Nat.le_of_ble_eq_true rfl) hlocks (fun t ht hz hk => ⟨(), trivial, congrArg z_en (Option.some.inj hf), hz, fun q hq _ => hk q hq⟩) (fun _ h => nomatch h) (Nat.le_refl _) (Nat.le_refl _)
  · replace hf := z_in c_6 hf
    refine lv_iload_n (pc := 9) hx hb dX4_addRoom_9 rfl (lv_at hl 2 rfl) ?_
    refine lv_iconst (v := 1) (pc := 10) hx hb dX4_addRoom_10 (by decide) ?_
    refine lv_bipush (v := 9) (pc := 11) hx hb dX4_addRoom_11 (by decide) ?_
    refine z_csI (pc := 13) S (m_X4_isWithin l X v2 1 9 rfl) (va_cwS 3 hts gX4_addRoom_X4_isWithin rfl rfl rfl hdX4_isWithin ⟨Nat.le_of_ble_eq_true rfl, Nat.le_of_ble_eq_true rfl⟩) hP hK hN (s_nil _) ⟨Nat.le_of_ble_eq_true rfl, Nat.le_of_ble_eq_true rfl⟩ rfl hl.1 rfl (Nat.le_of_ble_eq_true rfl) dX4_addRoom_13 ?_
    refine lv_if_eq (pc := 16) (tgt := 29) hx hb dX4_addRoom_16 (by decide) (fun c_16 => ?_) (fun c_16 => ?_)
    · replace hf := z_ip c_16 hf
      have hat29 : ∀ w ∈ (vx_atS RX4 27 "java/lang/IllegalArgumentException" ["java/lang/RuntimeException", "java/lang/Exception"]), w.before _ s = true := vx_hat (fun _ h => hts _ ((List.mem_cons_of_mem _ (List.mem_append_left _ (List.mem_append_right _ h))))) (B := [.castable "java/lang/IllegalArgumentException" "java/lang/IllegalArgumentException", .declares (z_dl[0]), .declares (z_dl[1]), .declares (z_dl[2])]) (by decide +kernel) (vx_c (va_Nw.use rfl (hT.1.2.1 0 (by decide))) (vx_c (va_Nw.use rfl (hT.1.1 _ (List.getElem_mem _))) (vx_c (va_Nw.use rfl (hT.1.1 _ (List.getElem_mem _))) (vx_c (va_Nw.use rfl (hT.1.1 _ (List.getElem_mem _))) vx_n))))
      obtain ⟨sa, hsa⟩ := hT.1.2.2.2 (25, "no such floor, patience or need") (List.mem_of_getElem? (i := 0) rfl)
      exact vx_throwS (pc := 29) (A := z_no) (names := ["java/lang/RuntimeException", "java/lang/Exception"]) hx hb hl0 hown (by decide +kernel) (by decide +kernel) lk_cl23 (hts (.initialized "java/lang/IllegalArgumentException") (List.mem_of_getElem? (i := 2) rfl)) hsa hat29 (by decide +kernel) hT.2.1 hT.2.2 (va_S.rf (A := z_no)) (by rw [hml]; exact hl.1) dX4_addRoom_29 dX4_addRoom_32 dX4_addRoom_33 dX4_addRoom_35 dX4_addRoom_38 (fun x hx => (hnt x hx).elim) (Nat.le_of_ble_eq_true rfl) (Nat.le_of_ble_eq_true rfl) (Nat.le_of_ble_eq_true rfl) (Nat.le_of_ble_eq_true rfl) hlocks (fun t ht hz hk => ⟨(), trivial, congrArg z_en (Option.some.inj hf), hz, fun q hq _ => hk q hq⟩) (fun _ h => nomatch h) (Nat.le_refl _) (Nat.le_refl _)
    · replace hf := z_in c_16 hf
      refine lv_iload_n (pc := 19) hx hb dX4_addRoom_19 rfl (lv_at hl 3 rfl) ?_
      refine lv_iconst (v := 1) (pc := 20) hx hb dX4_addRoom_20 (by decide) ?_
      refine lv_bipush (v := 9) (pc := 21) hx hb dX4_addRoom_21 (by decide) ?_
      refine z_csI (pc := 23) S (m_X4_isWithin l X v3 1 9 rfl) (va_cwS 3 hts gX4_addRoom_X4_isWithin rfl rfl rfl hdX4_isWithin ⟨Nat.le_of_ble_eq_true rfl, Nat.le_of_ble_eq_true rfl⟩) hP hK hN (s_nil _) ⟨Nat.le_of_ble_eq_true rfl, Nat.le_of_ble_eq_true rfl⟩ rfl hl.1 rfl (Nat.le_of_ble_eq_true rfl) dX4_addRoom_23 ?_
      refine lv_if_ne (pc := 26) (tgt := 39) hx hb dX4_addRoom_26 (by decide) (fun c_26 => ?_) (fun c_26 => ?_)
      · replace hf := z_in c_26 hf
        refine lv_aload_n (pc := 39) hx hb dX4_addRoom_39 rfl (lv_at hl 0 rfl) ?_
        refine va_get (pc := 40) (ci := 4) (C := RX4) (T := TX4) (N := 2) hx hb hts in_X4 hown hK hP 0 rfl rfl 0 (by decide) lk_fi10 (fun _ h9 => h9) rfl dX4_addRoom_40 ?_
        refine va_getN (pc := 43) (ci := 0) (C := RX0) (T := TX0) (N := 15) hx hb hts in_X0 hown hK hP 1 rfl rfl 1 (by decide) (z_n13 hN) (fun _ h9 => h9) rfl dX4_addRoom_43 ?_
        refine lv_bipush (v := 12) (pc := 46) hx hb dX4_addRoom_46 (by decide) ?_
        refine lv_icmp_lt (pc := 48) (tgt := 61) hx hb dX4_addRoom_48 (by decide) (fun c_48 => ?_) (fun c_48 => ?_)
        · replace hf := z_ip c_48 hf
          cases hf
        · replace hf := z_in c_48 hf
          have hat51 : ∀ w ∈ (vx_atS RX4 38 "java/lang/IllegalStateException" ["java/lang/RuntimeException", "java/lang/Exception"]), w.before _ s = true := vx_hat (fun _ h => hts _ ((List.mem_cons_of_mem _ (List.mem_append_right _ h)))) (B := [.castable "java/lang/IllegalStateException" "java/lang/IllegalStateException", .declares (z_dl[0]), .declares (z_dl[1]), .declares (z_dl[2])]) (by decide +kernel) (vx_c (va_Nw.use rfl (hT.1.2.1 1 (by decide))) (vx_c (va_Nw.use rfl (hT.1.1 _ (List.getElem_mem _))) (vx_c (va_Nw.use rfl (hT.1.1 _ (List.getElem_mem _))) (vx_c (va_Nw.use rfl (hT.1.1 _ (List.getElem_mem _))) vx_n))))
          obtain ⟨sa, hsa⟩ := hT.1.2.2.2 (36, "the house has all its rooms") (List.mem_of_getElem? (i := 1) rfl)
          exact vx_throwS (pc := 51) (A := z_no) (names := ["java/lang/RuntimeException", "java/lang/Exception"]) hx hb hl0 hown (by decide +kernel) (by decide +kernel) lk_cl34 (hts (.initialized "java/lang/IllegalStateException") (List.mem_of_getElem? (i := 4) rfl)) hsa hat51 (by decide +kernel) hT.2.1 hT.2.2 (va_S.rf (A := z_no)) (by rw [hml]; exact hl.1) dX4_addRoom_51 dX4_addRoom_54 dX4_addRoom_55 dX4_addRoom_57 dX4_addRoom_60 (fun x hx => (hnt x hx).elim) (Nat.le_of_ble_eq_true rfl) (Nat.le_of_ble_eq_true rfl) (Nat.le_of_ble_eq_true rfl) (Nat.le_of_ble_eq_true rfl) hlocks (fun t ht hz hk => ⟨(), trivial, congrArg z_en (Option.some.inj hf), hz, fun q hq _ => hk q hq⟩) (fun _ h => nomatch h) (Nat.le_refl _) (Nat.le_refl _)
      · replace hf := z_ip c_26 hf
        have hat29 : ∀ w ∈ (vx_atS RX4 27 "java/lang/IllegalArgumentException" ["java/lang/RuntimeException", "java/lang/Exception"]), w.before _ s = true := vx_hat (fun _ h => hts _ ((List.mem_cons_of_mem _ (List.mem_append_left _ (List.mem_append_right _ h))))) (B := [.castable "java/lang/IllegalArgumentException" "java/lang/IllegalArgumentException", .declares (z_dl[0]), .declares (z_dl[1]), .declares (z_dl[2])]) (by decide +kernel) (vx_c (va_Nw.use rfl (hT.1.2.1 0 (by decide))) (vx_c (va_Nw.use rfl (hT.1.1 _ (List.getElem_mem _))) (vx_c (va_Nw.use rfl (hT.1.1 _ (List.getElem_mem _))) (vx_c (va_Nw.use rfl (hT.1.1 _ (List.getElem_mem _))) vx_n))))
        obtain ⟨sa, hsa⟩ := hT.1.2.2.2 (25, "no such floor, patience or need") (List.mem_of_getElem? (i := 0) rfl)
        exact vx_throwS (pc := 29) (A := z_no) (names := ["java/lang/RuntimeException", "java/lang/Exception"]) hx hb hl0 hown (by decide +kernel) (by decide +kernel) lk_cl23 (hts (.initialized "java/lang/IllegalArgumentException") (List.mem_of_getElem? (i := 2) rfl)) hsa hat29 (by decide +kernel) hT.2.1 hT.2.2 (va_S.rf (A := z_no)) (by rw [hml]; exact hl.1) dX4_addRoom_29 dX4_addRoom_32 dX4_addRoom_33 dX4_addRoom_35 dX4_addRoom_38 (fun x hx => (hnt x hx).elim) (Nat.le_of_ble_eq_true rfl) (Nat.le_of_ble_eq_true rfl) (Nat.le_of_ble_eq_true rfl) (Nat.le_of_ble_eq_true rfl) hlocks (fun t ht hz hk => ⟨(), trivial, congrArg z_en (Option.some.inj hf), hz, fun q hq _ => hk q hq⟩) (fun _ h => nomatch h) (Nat.le_refl _) (Nat.le_refl _)
def x_X4_addServant (B : z_B) (v1 : Int32) : Option Nat := (if (f_X4_isWithin v1 1 4) = 0 then some 0 else (if B.1.2.2.2.1 < 6 then none else some 1))
set_option maxHeartbeats 4000000 in
set_option maxRecDepth 100000 in
theorem t_X4_addServant (l : Launch) (hl0 : l.stackTraces = false) (X : z_X) (a : Nat) (d d2 : Nat → Nat) (B : z_B) (v1 : Int32) {k : Nat} (hf : x_X4_addServant B v1 = some k) : z_tX l yX4_addServant wsX4_addServant 6 90 X [.ref a, .int v1] (z_wB X a d d2 B) k := by
  refine vx_ofW (cc := cX4_addServant) (maxL := 2) (ret := (some .int)) (by decide) rfl ?_
  intro p e s m args below meth c s₁ Bd hml hnt hv
  obtain ⟨rfl, ⟨hP, hK, hN⟩, hT⟩ := hv
  have hx := Bd.exec
  have hb := Bd.bytes
  have hr := Bd.returns
  have hts := atoms_spec (ws := wsX4_addServant) Bd.pre
  have hown : s.vm.findClass RX4 = some m.cls := findClass_of_methodNamed Bd.named
  have hlocks := Bd.notSynchronized
  have S : CallFix p m c cX4_addServant 2 s _ wsX4_addServant RX4 := ⟨hx, hb, hml, hown, hts⟩
  have lk_fi10 := hts (.fieldLink RX4 10 "HouseBells" "house" "LHouseBells$House;") (List.mem_of_getElem? (i := 5) rfl)
  have lk_cl34 := hts (.classLink RX4 34 "java/lang/IllegalStateException") (List.mem_of_getElem? (i := 3) rfl)
  have lk_cl23 := hts (.classLink RX4 23 "java/lang/IllegalArgumentException") (List.mem_of_getElem? (i := 1) rfl)
  have in_X0 : ∀ w ∈ wsX00, w ∈ wsX4_addServant := fun _ h => (List.mem_cons_of_mem _ (List.mem_append_left _ (List.mem_append_left _ (List.mem_append_left _ (List.mem_append_left _ (List.mem_append_right _ h))))))
  have in_X3 : ∀ w ∈ wsX30, w ∈ wsX4_addServant := fun _ h => (List.mem_cons_of_mem _ (List.mem_append_left _ (List.mem_append_left _ (List.mem_append_left _ (List.mem_append_right _ h)))))
  have in_X4 : ∀ w ∈ wsX40, w ∈ wsX4_addServant := fun _ h => (List.mem_cons_of_mem _ (List.mem_append_left _ (List.mem_append_left _ (List.mem_append_left _ (List.mem_append_left _ (List.mem_append_left _ (List.mem_append_right _ h)))))))
  have hl := lv_entry ([.ref a, .int v1]) (n := 2) (Nat.le_of_ble_eq_true rfl)
  rw [lg_entry_eq]
  generalize (lg_sl ([.ref a, .int v1]) ++ List.replicate (2 - (lg_sl ([.ref a, .int v1])).length) Slot.unset).toArray = ls at hl ⊢
  have hl : lv_has ls 2 [(0, .ref a), (1, .int v1)] := hl
  unfold x_X4_addServant at hf
  refine lv_iload_n (pc := 0) hx hb dX4_addServant_0 rfl (lv_at hl 1 rfl) ?_
  refine lv_iconst (v := 1) (pc := 1) hx hb dX4_addServant_1 (by decide) ?_
  refine lv_iconst (v := 4) (pc := 2) hx hb dX4_addServant_2 (by decide) ?_
  refine z_csI (pc := 3) S (m_X4_isWithin l X v1 1 4 rfl) (va_cwS 3 hts gX4_addServant_X4_isWithin rfl rfl rfl hdX4_isWithin ⟨Nat.le_of_ble_eq_true rfl, Nat.le_of_ble_eq_true rfl⟩) hP hK hN (s_nil _) ⟨Nat.le_of_ble_eq_true rfl, Nat.le_of_ble_eq_true rfl⟩ rfl hl.1 rfl (Nat.le_of_ble_eq_true rfl) dX4_addServant_3 ?_
  refine lv_if_ne (pc := 6) (tgt := 19) hx hb dX4_addServant_6 (by decide) (fun c_6 => ?_) (fun c_6 => ?_)
  · replace hf := z_in c_6 hf
    refine lv_aload_n (pc := 19) hx hb dX4_addServant_19 rfl (lv_at hl 0 rfl) ?_
    refine va_get (pc := 20) (ci := 4) (C := RX4) (T := TX4) (N := 2) hx hb hts in_X4 hown hK hP 0 rfl rfl 0 (by decide) lk_fi10 (fun _ h9 => h9) rfl dX4_addServant_20 ?_
    refine va_getN (pc := 23) (ci := 0) (C := RX0) (T := TX0) (N := 15) hx hb hts in_X0 hown hK hP 1 rfl rfl 14 (by decide) (z_n24 hN) (fun _ h9 => h9) rfl dX4_addServant_23 ?_
    refine va_getN (pc := 26) (ci := 3) (C := RX3) (T := TX3) (N := 6) hx hb hts in_X3 hown hK hP 16 rfl rfl 0 (by decide) (z_n2 hN) (fun _ h9 => h9) rfl dX4_addServant_26 ?_
    refine lv_bipush (v := 6) (pc := 29) hx hb dX4_addServant_29 (by decide) ?_
    refine lv_icmp_lt (pc := 31) (tgt := 44) hx hb dX4_addServant_31 (by decide) (fun c_31 => ?_) (fun c_31 => ?_)
    · replace hf := z_ip c_31 hf
      cases hf
    · replace hf := z_in c_31 hf
      have hat34 : ∀ w ∈ (vx_atS RX4 38 "java/lang/IllegalStateException" ["java/lang/RuntimeException", "java/lang/Exception"]), w.before _ s = true := vx_hat (fun _ h => hts _ ((List.mem_cons_of_mem _ (List.mem_append_right _ h)))) (B := [.castable "java/lang/IllegalStateException" "java/lang/IllegalStateException", .declares (z_dl[0]), .declares (z_dl[1]), .declares (z_dl[2])]) (by decide +kernel) (vx_c (va_Nw.use rfl (hT.1.2.1 1 (by decide))) (vx_c (va_Nw.use rfl (hT.1.1 _ (List.getElem_mem _))) (vx_c (va_Nw.use rfl (hT.1.1 _ (List.getElem_mem _))) (vx_c (va_Nw.use rfl (hT.1.1 _ (List.getElem_mem _))) vx_n))))
      obtain ⟨sa, hsa⟩ := hT.1.2.2.2 (54, "the house has all its servants") (List.mem_of_getElem? (i := 3) rfl)
      exact vx_throwS (pc := 34) (A := z_no) (names := ["java/lang/RuntimeException", "java/lang/Exception"]) hx hb hl0 hown (by decide +kernel) (by decide +kernel) lk_cl34 (hts (.initialized "java/lang/IllegalStateException") (List.mem_of_getElem? (i := 4) rfl)) hsa hat34 (by decide +kernel) hT.2.1 hT.2.2 (va_S.rf (A := z_no)) (by rw [hml]; exact hl.1) dX4_addServant_34 dX4_addServant_37 dX4_addServant_38 dX4_addServant_40 dX4_addServant_43 (fun x hx => (hnt x hx).elim) (Nat.le_of_ble_eq_true rfl) (Nat.le_of_ble_eq_true rfl) (Nat.le_of_ble_eq_true rfl) (Nat.le_of_ble_eq_true rfl) hlocks (fun t ht hz hk => ⟨(), trivial, congrArg z_en (Option.some.inj hf), hz, fun q hq _ => hk q hq⟩) (fun _ h => nomatch h) (Nat.le_refl _) (Nat.le_refl _)
  · replace hf := z_ip c_6 hf
    have hat9 : ∀ w ∈ (vx_atS RX4 27 "java/lang/IllegalArgumentException" ["java/lang/RuntimeException", "java/lang/Exception"]), w.before _ s = true := vx_hat (fun _ h => hts _ ((List.mem_cons_of_mem _ (List.mem_append_left _ (List.mem_append_right _ h))))) (B := [.castable "java/lang/IllegalArgumentException" "java/lang/IllegalArgumentException", .declares (z_dl[0]), .declares (z_dl[1]), .declares (z_dl[2])]) (by decide +kernel) (vx_c (va_Nw.use rfl (hT.1.2.1 0 (by decide))) (vx_c (va_Nw.use rfl (hT.1.1 _ (List.getElem_mem _))) (vx_c (va_Nw.use rfl (hT.1.1 _ (List.getElem_mem _))) (vx_c (va_Nw.use rfl (hT.1.1 _ (List.getElem_mem _))) vx_n))))
    obtain ⟨sa, hsa⟩ := hT.1.2.2.2 (43, "no such pace") (List.mem_of_getElem? (i := 2) rfl)
    exact vx_throwS (pc := 9) (A := z_no) (names := ["java/lang/RuntimeException", "java/lang/Exception"]) hx hb hl0 hown (by decide +kernel) (by decide +kernel) lk_cl23 (hts (.initialized "java/lang/IllegalArgumentException") (List.mem_of_getElem? (i := 2) rfl)) hsa hat9 (by decide +kernel) hT.2.1 hT.2.2 (va_S.rf (A := z_no)) (by rw [hml]; exact hl.1) dX4_addServant_9 dX4_addServant_12 dX4_addServant_13 dX4_addServant_15 dX4_addServant_18 (fun x hx => (hnt x hx).elim) (Nat.le_of_ble_eq_true rfl) (Nat.le_of_ble_eq_true rfl) (Nat.le_of_ble_eq_true rfl) (Nat.le_of_ble_eq_true rfl) hlocks (fun t ht hz hk => ⟨(), trivial, congrArg z_en (Option.some.inj hf), hz, fun q hq _ => hk q hq⟩) (fun _ h => nomatch h) (Nat.le_refl _) (Nat.le_refl _)
def x_X4_cut (B : z_B) (v1 : Int32) : Option Nat := (z_or (x_X4_requireRoom B v1) ((f_X4_requireRoom B v1).bind (fun x2 => (if (f_X0_isWireCut B.1 v1) = 0 then none else some 1))))
set_option maxHeartbeats 4000000 in
set_option maxRecDepth 100000 in
theorem t_X4_cut (l : Launch) (hl0 : l.stackTraces = false) (X : z_X) (a : Nat) (d d2 : Nat → Nat) (B : z_B) (v1 : Int32) {k : Nat} (hf : x_X4_cut B v1 = some k) : z_tX l yX4_cut wsX4_cut 7 111 X [.ref a, .int v1] (z_wB X a d d2 B) k := by
  refine vx_ofW (cc := cX4_cut) (maxL := 2) (ret := (some .int)) (by decide) rfl ?_
  intro p e s m args below meth c s₁ Bd hml hnt hv
  obtain ⟨rfl, ⟨hP, hK, hN⟩, hT⟩ := hv
  have hx := Bd.exec
  have hb := Bd.bytes
  have hr := Bd.returns
  have hts := atoms_spec (ws := wsX4_cut) Bd.pre
  have hown : s.vm.findClass RX4 = some m.cls := findClass_of_methodNamed Bd.named
  have hlocks := Bd.notSynchronized
  have S : CallFix p m c cX4_cut 2 s _ wsX4_cut RX4 := ⟨hx, hb, hml, hown, hts⟩
  have lk_fi10 := hts (.fieldLink RX4 10 "HouseBells" "house" "LHouseBells$House;") (List.mem_of_getElem? (i := 3) rfl)
  have lk_cl34 := hts (.classLink RX4 34 "java/lang/IllegalStateException") (List.mem_of_getElem? (i := 1) rfl)
  have in_X4 : ∀ w ∈ wsX40, w ∈ wsX4_cut := fun _ h => (List.mem_cons_of_mem _ (List.mem_append_left _ (List.mem_append_left _ (List.mem_append_left _ (List.mem_append_left _ (List.mem_append_right _ h))))))
  have hl := lv_entry ([.ref a, .int v1]) (n := 2) (Nat.le_of_ble_eq_true rfl)
  rw [lg_entry_eq]
  generalize (lg_sl ([.ref a, .int v1]) ++ List.replicate (2 - (lg_sl ([.ref a, .int v1])).length) Slot.unset).toArray = ls at hl ⊢
  have hl : lv_has ls 2 [(0, .ref a), (1, .int v1)] := hl
  unfold x_X4_cut at hf
  refine lv_aload_n (pc := 0) hx hb dX4_cut_0 rfl (lv_at hl 0 rfl) ?_
  refine lv_iload_n (pc := 1) hx hb dX4_cut_1 rfl (lv_at hl 1 rfl) ?_
  rcases hx2 : x_X4_requireRoom B v1 with _ | k2
  · replace hf := z_or_n hx2 hf
    obtain ⟨x2, e2, hf⟩ := z_bd hf
    refine z_cpV (pc := 2) S (m_X4_requireRoom l X a d d2 B v1 e2) (cwV 1 hts gX4_cut_X4_requireRoom rfl rfl rfl hdX4_requireRoom ⟨Nat.le_of_ble_eq_true rfl, Nat.le_of_ble_eq_true rfl⟩) hP hK hN (s_B_B X a d d2 B) (ci := 4) rfl rfl rfl ⟨Nat.le_of_ble_eq_true rfl, Nat.le_of_ble_eq_true rfl⟩ rfl hl.1 rfl (Nat.le_of_ble_eq_true rfl) dX4_cut_2 ?_
    refine lv_aload_n (pc := 5) hx hb dX4_cut_5 rfl (lv_at hl 0 rfl) ?_
    refine va_get (pc := 6) (ci := 4) (C := RX4) (T := TX4) (N := 2) hx hb hts in_X4 hown hK hP 0 rfl rfl 0 (by decide) lk_fi10 (fun _ h9 => h9) rfl dX4_cut_6 ?_
    refine lv_iload_n (pc := 9) hx hb dX4_cut_9 rfl (lv_at hl 1 rfl) ?_
    refine z_cpI (pc := 10) S (m_X0_isWireCut l X d B.1 v1 rfl) (cwV 1 hts gX4_cut_X0_isWireCut rfl rfl rfl hdX0_isWireCut ⟨Nat.le_of_ble_eq_true rfl, Nat.le_of_ble_eq_true rfl⟩) hP hK hN (s_B_H1 X a d d2 B) (ci := 0) rfl rfl rfl ⟨Nat.le_of_ble_eq_true rfl, Nat.le_of_ble_eq_true rfl⟩ rfl hl.1 rfl (Nat.le_of_ble_eq_true rfl) dX4_cut_10 ?_
    refine lv_if_eq (pc := 13) (tgt := 26) hx hb dX4_cut_13 (by decide) (fun c_13 => ?_) (fun c_13 => ?_)
    · replace hf := z_ip c_13 hf
      cases hf
    · replace hf := z_in c_13 hf
      have hat16 : ∀ w ∈ (vx_atS RX4 38 "java/lang/IllegalStateException" ["java/lang/RuntimeException", "java/lang/Exception"]), w.before _ s = true := vx_hat (fun _ h => hts _ ((List.mem_cons_of_mem _ (List.mem_append_left _ (List.mem_append_right _ h))))) (B := [.castable "java/lang/IllegalStateException" "java/lang/IllegalStateException", .declares (z_dl[0]), .declares (z_dl[1]), .declares (z_dl[2])]) (by decide +kernel) (vx_c (va_Nw.use rfl (hT.1.2.1 1 (by decide))) (vx_c (va_Nw.use rfl (hT.1.1 _ (List.getElem_mem _))) (vx_c (va_Nw.use rfl (hT.1.1 _ (List.getElem_mem _))) (vx_c (va_Nw.use rfl (hT.1.1 _ (List.getElem_mem _))) vx_n))))
      obtain ⟨sa, hsa⟩ := hT.1.2.2.2 (95, "the wire is cut already") (List.mem_of_getElem? (i := 5) rfl)
      exact vx_throwS (pc := 16) (A := z_no) (names := ["java/lang/RuntimeException", "java/lang/Exception"]) hx hb hl0 hown (by decide +kernel) (by decide +kernel) lk_cl34 (hts (.initialized "java/lang/IllegalStateException") (List.mem_of_getElem? (i := 2) rfl)) hsa hat16 (by decide +kernel) hT.2.1 hT.2.2 (va_S.rf (A := z_no)) (by rw [hml]; exact hl.1) dX4_cut_16 dX4_cut_19 dX4_cut_20 dX4_cut_22 dX4_cut_25 (fun x hx => (hnt x hx).elim) (Nat.le_of_ble_eq_true rfl) (Nat.le_of_ble_eq_true rfl) (Nat.le_of_ble_eq_true rfl) (Nat.le_of_ble_eq_true rfl) hlocks (fun t ht hz hk => ⟨(), trivial, congrArg z_en (Option.some.inj hf), hz, fun q hq _ => hk q hq⟩) (fun _ h => nomatch h) (Nat.le_refl _) (Nat.le_refl _)
  · obtain rfl := z_or_s hx2 hf
    refine z_ctV (pc := 2) S (t_X4_requireRoom l hl0 X a d d2 B v1 hx2) (cwV 1 hts gX4_cut_X4_requireRoom rfl rfl rfl hdX4_requireRoom ⟨Nat.le_of_ble_eq_true rfl, Nat.le_of_ble_eq_true rfl⟩) hP hK hN hT (s_B_B X a d d2 B) (va_S.rf (A := z_no)) (ci := 4) rfl rfl rfl ⟨Nat.le_of_ble_eq_true rfl, Nat.le_of_ble_eq_true rfl⟩ rfl hl.1 rfl (Nat.le_of_ble_eq_true rfl) dX4_cut_2 (fun ce q9 H1 locs1 hz1 hk1 hS1 hce hcv hcl => ?_)
    exact vx_out (fun x hx => (hnt x hx).elim) hlocks hce hcv hcl (fun t ht hvm => ⟨(), trivial, rfl, by rw [ht]; exact hz1, fun q hq _ => by rw [ht]; exact hk1 q hq⟩) hS1.2.2 (Nat.le_refl _) (Nat.le_refl _)
def x_X4_mend (B : z_B) (v1 : Int32) : Option Nat := (z_or (x_X4_requireRoom B v1) ((f_X4_requireRoom B v1).bind (fun x2 => (if (f_X0_isWireCut B.1 v1) = 0 then some 1 else none))))
set_option maxHeartbeats 4000000 in
set_option maxRecDepth 100000 in
theorem t_X4_mend (l : Launch) (hl0 : l.stackTraces = false) (X : z_X) (a : Nat) (d d2 : Nat → Nat) (B : z_B) (v1 : Int32) {k : Nat} (hf : x_X4_mend B v1 = some k) : z_tX l yX4_mend wsX4_mend 7 111 X [.ref a, .int v1] (z_wB X a d d2 B) k := by
  refine vx_ofW (cc := cX4_mend) (maxL := 2) (ret := (some .int)) (by decide) rfl ?_
  intro p e s m args below meth c s₁ Bd hml hnt hv
  obtain ⟨rfl, ⟨hP, hK, hN⟩, hT⟩ := hv
  have hx := Bd.exec
  have hb := Bd.bytes
  have hr := Bd.returns
  have hts := atoms_spec (ws := wsX4_mend) Bd.pre
  have hown : s.vm.findClass RX4 = some m.cls := findClass_of_methodNamed Bd.named
  have hlocks := Bd.notSynchronized
  have S : CallFix p m c cX4_mend 2 s _ wsX4_mend RX4 := ⟨hx, hb, hml, hown, hts⟩
  have lk_fi10 := hts (.fieldLink RX4 10 "HouseBells" "house" "LHouseBells$House;") (List.mem_of_getElem? (i := 3) rfl)
  have lk_cl34 := hts (.classLink RX4 34 "java/lang/IllegalStateException") (List.mem_of_getElem? (i := 1) rfl)
  have in_X4 : ∀ w ∈ wsX40, w ∈ wsX4_mend := fun _ h => (List.mem_cons_of_mem _ (List.mem_append_left _ (List.mem_append_left _ (List.mem_append_left _ (List.mem_append_left _ (List.mem_append_right _ h))))))
  have hl := lv_entry ([.ref a, .int v1]) (n := 2) (Nat.le_of_ble_eq_true rfl)
  rw [lg_entry_eq]
  generalize (lg_sl ([.ref a, .int v1]) ++ List.replicate (2 - (lg_sl ([.ref a, .int v1])).length) Slot.unset).toArray = ls at hl ⊢
  have hl : lv_has ls 2 [(0, .ref a), (1, .int v1)] := hl
  unfold x_X4_mend at hf
  refine lv_aload_n (pc := 0) hx hb dX4_mend_0 rfl (lv_at hl 0 rfl) ?_
  refine lv_iload_n (pc := 1) hx hb dX4_mend_1 rfl (lv_at hl 1 rfl) ?_
  rcases hx2 : x_X4_requireRoom B v1 with _ | k2
  · replace hf := z_or_n hx2 hf
    obtain ⟨x2, e2, hf⟩ := z_bd hf
    refine z_cpV (pc := 2) S (m_X4_requireRoom l X a d d2 B v1 e2) (cwV 1 hts gX4_mend_X4_requireRoom rfl rfl rfl hdX4_requireRoom ⟨Nat.le_of_ble_eq_true rfl, Nat.le_of_ble_eq_true rfl⟩) hP hK hN (s_B_B X a d d2 B) (ci := 4) rfl rfl rfl ⟨Nat.le_of_ble_eq_true rfl, Nat.le_of_ble_eq_true rfl⟩ rfl hl.1 rfl (Nat.le_of_ble_eq_true rfl) dX4_mend_2 ?_
    refine lv_aload_n (pc := 5) hx hb dX4_mend_5 rfl (lv_at hl 0 rfl) ?_
    refine va_get (pc := 6) (ci := 4) (C := RX4) (T := TX4) (N := 2) hx hb hts in_X4 hown hK hP 0 rfl rfl 0 (by decide) lk_fi10 (fun _ h9 => h9) rfl dX4_mend_6 ?_
    refine lv_iload_n (pc := 9) hx hb dX4_mend_9 rfl (lv_at hl 1 rfl) ?_
    refine z_cpI (pc := 10) S (m_X0_isWireCut l X d B.1 v1 rfl) (cwV 1 hts gX4_mend_X0_isWireCut rfl rfl rfl hdX0_isWireCut ⟨Nat.le_of_ble_eq_true rfl, Nat.le_of_ble_eq_true rfl⟩) hP hK hN (s_B_H1 X a d d2 B) (ci := 0) rfl rfl rfl ⟨Nat.le_of_ble_eq_true rfl, Nat.le_of_ble_eq_true rfl⟩ rfl hl.1 rfl (Nat.le_of_ble_eq_true rfl) dX4_mend_10 ?_
    refine lv_if_ne (pc := 13) (tgt := 26) hx hb dX4_mend_13 (by decide) (fun c_13 => ?_) (fun c_13 => ?_)
    · replace hf := z_in c_13 hf
      cases hf
    · replace hf := z_ip c_13 hf
      have hat16 : ∀ w ∈ (vx_atS RX4 38 "java/lang/IllegalStateException" ["java/lang/RuntimeException", "java/lang/Exception"]), w.before _ s = true := vx_hat (fun _ h => hts _ ((List.mem_cons_of_mem _ (List.mem_append_left _ (List.mem_append_right _ h))))) (B := [.castable "java/lang/IllegalStateException" "java/lang/IllegalStateException", .declares (z_dl[0]), .declares (z_dl[1]), .declares (z_dl[2])]) (by decide +kernel) (vx_c (va_Nw.use rfl (hT.1.2.1 1 (by decide))) (vx_c (va_Nw.use rfl (hT.1.1 _ (List.getElem_mem _))) (vx_c (va_Nw.use rfl (hT.1.1 _ (List.getElem_mem _))) (vx_c (va_Nw.use rfl (hT.1.1 _ (List.getElem_mem _))) vx_n))))
      obtain ⟨sa, hsa⟩ := hT.1.2.2.2 (104, "the wire is whole already") (List.mem_of_getElem? (i := 6) rfl)
      exact vx_throwS (pc := 16) (A := z_no) (names := ["java/lang/RuntimeException", "java/lang/Exception"]) hx hb hl0 hown (by decide +kernel) (by decide +kernel) lk_cl34 (hts (.initialized "java/lang/IllegalStateException") (List.mem_of_getElem? (i := 2) rfl)) hsa hat16 (by decide +kernel) hT.2.1 hT.2.2 (va_S.rf (A := z_no)) (by rw [hml]; exact hl.1) dX4_mend_16 dX4_mend_19 dX4_mend_20 dX4_mend_22 dX4_mend_25 (fun x hx => (hnt x hx).elim) (Nat.le_of_ble_eq_true rfl) (Nat.le_of_ble_eq_true rfl) (Nat.le_of_ble_eq_true rfl) (Nat.le_of_ble_eq_true rfl) hlocks (fun t ht hz hk => ⟨(), trivial, congrArg z_en (Option.some.inj hf), hz, fun q hq _ => hk q hq⟩) (fun _ h => nomatch h) (Nat.le_refl _) (Nat.le_refl _)
  · obtain rfl := z_or_s hx2 hf
    refine z_ctV (pc := 2) S (t_X4_requireRoom l hl0 X a d d2 B v1 hx2) (cwV 1 hts gX4_mend_X4_requireRoom rfl rfl rfl hdX4_requireRoom ⟨Nat.le_of_ble_eq_true rfl, Nat.le_of_ble_eq_true rfl⟩) hP hK hN hT (s_B_B X a d d2 B) (va_S.rf (A := z_no)) (ci := 4) rfl rfl rfl ⟨Nat.le_of_ble_eq_true rfl, Nat.le_of_ble_eq_true rfl⟩ rfl hl.1 rfl (Nat.le_of_ble_eq_true rfl) dX4_mend_2 (fun ce q9 H1 locs1 hz1 hk1 hS1 hce hcv hcl => ?_)
    exact vx_out (fun x hx => (hnt x hx).elim) hlocks hce hcv hcl (fun t ht hvm => ⟨(), trivial, rfl, by rw [ht]; exact hz1, fun q hq _ => by rw [ht]; exact hk1 q hq⟩) hS1.2.2 (Nat.le_refl _) (Nat.le_refl _)
def x_X4_putUp (B : z_B) (v1 : Int32) : Option Nat := (z_or (x_X4_requireRoom B v1) ((f_X4_requireRoom B v1).bind (fun x2 => (f_X1_placeOf B.1.2.2.1 v1).bind (fun x13 => (if x13 = (-1) then some 1 else none)))))
set_option maxHeartbeats 4000000 in
set_option maxRecDepth 100000 in
theorem t_X4_putUp (l : Launch) (hl0 : l.stackTraces = false) (X : z_X) (a : Nat) (d d2 : Nat → Nat) (B : z_B) (v1 : Int32) {k : Nat} (hf : x_X4_putUp B v1 = some k) : z_tX l yX4_putUp wsX4_putUp 7 111 X [.ref a, .int v1] (z_wB X a d d2 B) k := by
  refine vx_ofW (cc := cX4_putUp) (maxL := 2) (ret := (some .int)) (by decide) rfl ?_
  intro p e s m args below meth c s₁ Bd hml hnt hv
  obtain ⟨rfl, ⟨hP, hK, hN⟩, hT⟩ := hv
  have hx := Bd.exec
  have hb := Bd.bytes
  have hr := Bd.returns
  have hts := atoms_spec (ws := wsX4_putUp) Bd.pre
  have hown : s.vm.findClass RX4 = some m.cls := findClass_of_methodNamed Bd.named
  have hlocks := Bd.notSynchronized
  have S : CallFix p m c cX4_putUp 2 s _ wsX4_putUp RX4 := ⟨hx, hb, hml, hown, hts⟩
  have lk_fi10 := hts (.fieldLink RX4 10 "HouseBells" "house" "LHouseBells$House;") (List.mem_of_getElem? (i := 3) rfl)
  have lk_cl34 := hts (.classLink RX4 34 "java/lang/IllegalStateException") (List.mem_of_getElem? (i := 1) rfl)
  have in_X0 : ∀ w ∈ wsX00, w ∈ wsX4_putUp := fun _ h => (List.mem_cons_of_mem _ (List.mem_append_left _ (List.mem_append_left _ (List.mem_append_left _ (List.mem_append_right _ h)))))
  have in_X4 : ∀ w ∈ wsX40, w ∈ wsX4_putUp := fun _ h => (List.mem_cons_of_mem _ (List.mem_append_left _ (List.mem_append_left _ (List.mem_append_left _ (List.mem_append_left _ (List.mem_append_right _ h))))))
  have hl := lv_entry ([.ref a, .int v1]) (n := 2) (Nat.le_of_ble_eq_true rfl)
  rw [lg_entry_eq]
  generalize (lg_sl ([.ref a, .int v1]) ++ List.replicate (2 - (lg_sl ([.ref a, .int v1])).length) Slot.unset).toArray = ls at hl ⊢
  have hl : lv_has ls 2 [(0, .ref a), (1, .int v1)] := hl
  unfold x_X4_putUp at hf
  refine lv_aload_n (pc := 0) hx hb dX4_putUp_0 rfl (lv_at hl 0 rfl) ?_
  refine lv_iload_n (pc := 1) hx hb dX4_putUp_1 rfl (lv_at hl 1 rfl) ?_
  rcases hx2 : x_X4_requireRoom B v1 with _ | k2
  · replace hf := z_or_n hx2 hf
    obtain ⟨x2, e2, hf⟩ := z_bd hf
    refine z_cpV (pc := 2) S (m_X4_requireRoom l X a d d2 B v1 e2) (cwV 1 hts gX4_putUp_X4_requireRoom rfl rfl rfl hdX4_requireRoom ⟨Nat.le_of_ble_eq_true rfl, Nat.le_of_ble_eq_true rfl⟩) hP hK hN (s_B_B X a d d2 B) (ci := 4) rfl rfl rfl ⟨Nat.le_of_ble_eq_true rfl, Nat.le_of_ble_eq_true rfl⟩ rfl hl.1 rfl (Nat.le_of_ble_eq_true rfl) dX4_putUp_2 ?_
    refine lv_aload_n (pc := 5) hx hb dX4_putUp_5 rfl (lv_at hl 0 rfl) ?_
    refine va_get (pc := 6) (ci := 4) (C := RX4) (T := TX4) (N := 2) hx hb hts in_X4 hown hK hP 0 rfl rfl 0 (by decide) lk_fi10 (fun _ h9 => h9) rfl dX4_putUp_6 ?_
    refine va_getN (pc := 9) (ci := 0) (C := RX0) (T := TX0) (N := 15) hx hb hts in_X0 hown hK hP 1 rfl rfl 13 (by decide) (z_n23 hN) (fun _ h9 => h9) rfl dX4_putUp_9 ?_
    refine lv_iload_n (pc := 12) hx hb dX4_putUp_12 rfl (lv_at hl 1 rfl) ?_
    obtain ⟨x13, e13, hf⟩ := z_bd hf
    refine z_cpI (pc := 13) S (m_X1_placeOf l X d B.1.2.2.1 v1 e13) (cwV 1 hts gX4_putUp_X1_placeOf rfl rfl rfl hdX1_placeOf ⟨Nat.le_of_ble_eq_true rfl, Nat.le_of_ble_eq_true rfl⟩) hP hK hN (s_B_L14 X a d d2 B) (ci := 1) rfl rfl rfl ⟨Nat.le_of_ble_eq_true rfl, Nat.le_of_ble_eq_true rfl⟩ rfl hl.1 rfl (Nat.le_of_ble_eq_true rfl) dX4_putUp_13 ?_
    refine lv_iconst (v := (-1)) (pc := 16) hx hb dX4_putUp_16 (by decide) ?_
    refine lv_icmp_ne (pc := 17) (tgt := 30) hx hb dX4_putUp_17 (by decide) (fun c_17 => ?_) (fun c_17 => ?_)
    · replace hf := z_in c_17 hf
      cases hf
    · replace hf := z_ip c_17 hf
      have hat20 : ∀ w ∈ (vx_atS RX4 38 "java/lang/IllegalStateException" ["java/lang/RuntimeException", "java/lang/Exception"]), w.before _ s = true := vx_hat (fun _ h => hts _ ((List.mem_cons_of_mem _ (List.mem_append_left _ (List.mem_append_right _ h))))) (B := [.castable "java/lang/IllegalStateException" "java/lang/IllegalStateException", .declares (z_dl[0]), .declares (z_dl[1]), .declares (z_dl[2])]) (by decide +kernel) (vx_c (va_Nw.use rfl (hT.1.2.1 1 (by decide))) (vx_c (va_Nw.use rfl (hT.1.1 _ (List.getElem_mem _))) (vx_c (va_Nw.use rfl (hT.1.1 _ (List.getElem_mem _))) (vx_c (va_Nw.use rfl (hT.1.1 _ (List.getElem_mem _))) vx_n))))
      obtain ⟨sa, hsa⟩ := hT.1.2.2.2 (120, "the drop stands already") (List.mem_of_getElem? (i := 8) rfl)
      exact vx_throwS (pc := 20) (A := z_no) (names := ["java/lang/RuntimeException", "java/lang/Exception"]) hx hb hl0 hown (by decide +kernel) (by decide +kernel) lk_cl34 (hts (.initialized "java/lang/IllegalStateException") (List.mem_of_getElem? (i := 2) rfl)) hsa hat20 (by decide +kernel) hT.2.1 hT.2.2 (va_S.rf (A := z_no)) (by rw [hml]; exact hl.1) dX4_putUp_20 dX4_putUp_23 dX4_putUp_24 dX4_putUp_26 dX4_putUp_29 (fun x hx => (hnt x hx).elim) (Nat.le_of_ble_eq_true rfl) (Nat.le_of_ble_eq_true rfl) (Nat.le_of_ble_eq_true rfl) (Nat.le_of_ble_eq_true rfl) hlocks (fun t ht hz hk => ⟨(), trivial, congrArg z_en (Option.some.inj hf), hz, fun q hq _ => hk q hq⟩) (fun _ h => nomatch h) (Nat.le_refl _) (Nat.le_refl _)
  · obtain rfl := z_or_s hx2 hf
    refine z_ctV (pc := 2) S (t_X4_requireRoom l hl0 X a d d2 B v1 hx2) (cwV 1 hts gX4_putUp_X4_requireRoom rfl rfl rfl hdX4_requireRoom ⟨Nat.le_of_ble_eq_true rfl, Nat.le_of_ble_eq_true rfl⟩) hP hK hN hT (s_B_B X a d d2 B) (va_S.rf (A := z_no)) (ci := 4) rfl rfl rfl ⟨Nat.le_of_ble_eq_true rfl, Nat.le_of_ble_eq_true rfl⟩ rfl hl.1 rfl (Nat.le_of_ble_eq_true rfl) dX4_putUp_2 (fun ce q9 H1 locs1 hz1 hk1 hS1 hce hcv hcl => ?_)
    exact vx_out (fun x hx => (hnt x hx).elim) hlocks hce hcv hcl (fun t ht hvm => ⟨(), trivial, rfl, by rw [ht]; exact hz1, fun q hq _ => by rw [ht]; exact hk1 q hq⟩) hS1.2.2 (Nat.le_refl _) (Nat.le_refl _)
