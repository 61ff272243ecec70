-- ===== crossings that are needed, by hand =====
theorem zw_l {wl ex : va_W} {X : z_X} {a : Nat} {D : z_D} {Q : z_Q} {i : Nat} {x : Nat × va_E} (h : wl[i]? = some x) : (z_W wl X a D Q ex)[i]? = some x := z_app_l h
theorem z_cxP {D0 : va_G} {cl : List vw_C} {X : z_X} {ta a : Nat} {tD D : z_D} {tQ Q : z_Q} {H : Heap} (hd : D.1.2.2 = tD.1.2.2) (hq : Q.2.2 = tQ.2.2) (h : va_P D0 cl (z_W (z_wX X ta tD tQ) X a D Q []) H) : va_P D0 cl (z_wS X ta tD tQ) H := by
  refine z_mvP h (fun x hx => ?_)
  have hl : (tD.1.2.2, .inl (X.2.1, tQ.2.2.2.1, .inl tQ.2.2.2.2)) ∈ z_wS X a D Q := by
    rw [← hd, ← hq]
    exact List.mem_append_left _ (List.mem_cons_of_mem _ (List.mem_cons_of_mem _ (List.mem_cons_of_mem _ List.mem_cons_self)))
  unfold z_W
  unfold z_wS z_h4 at hx
  rcases List.mem_append.mp hx with hx | hx
  · simp only [List.mem_cons, List.not_mem_nil, or_false] at hx
    rcases hx with rfl | rfl | rfl | rfl
    · exact List.mem_append_left _ (List.mem_append_left _ List.mem_cons_self)
    · exact List.mem_append_left _ (List.mem_append_left _ (List.mem_cons_of_mem _ List.mem_cons_self))
    · exact List.mem_append_left _ (List.mem_append_left _ (List.mem_cons_of_mem _ (List.mem_cons_of_mem _ List.mem_cons_self)))
    · exact List.mem_append_right _ (List.mem_append_left _ hl)
  · exact List.mem_append_left _ (List.mem_append_right _ hx)
theorem z_cxD {A : Nat → Prop} {X : z_X} {ta a : Nat} {tD D : z_D} {tQ Q : z_Q} (hd : D.1.2.2 = tD.1.2.2) (hq : Q.2.2 = tQ.2.2) (h : va_D A (z_W (z_wX X ta tD tQ) X a D Q [])) : va_D A (z_wS X ta tD tQ) := by
  have hl : (tD.1.2.2, .inl (X.2.1, tQ.2.2.2.1, .inl tQ.2.2.2.2)) ∈ z_wS X a D Q := by
    rw [← hd, ← hq]
    exact List.mem_append_left _ (List.mem_cons_of_mem _ (List.mem_cons_of_mem _ (List.mem_cons_of_mem _ List.mem_cons_self)))
  refine z_mvD h (l := z_wX X ta tD tQ ++ [(tD.1.2.2, .inl (X.2.1, tQ.2.2.2.1, .inl tQ.2.2.2.2))]) ?_ ?_
  · unfold z_wX z_wS z_h4
    rw [List.append_assoc]
    exact List.Perm.cons _ (List.Perm.cons _ (List.Perm.cons _ (List.perm_append_singleton _ _)))
  · unfold z_W
    exact List.Sublist.append_left (List.singleton_sublist.mpr (List.mem_append_left _ hl)) _
theorem hdX5_crossings : yX5_crossings.cls = RX5 ∧ yX5_crossings.cls ≠ "java/lang/invoke/MethodHandle" ∧ yX5_crossings.cls ≠ "java/lang/invoke/VarHandle" ∧ (parseMethodDescriptor yX5_crossings.desc).map (fun d => d.parameters.length) = some 0 := by decide +kernel
def f_X5_crossings_L23 (tQ : z_Q) : Nat → Int32 → Int32 → Int32 → z_Q → Option (Int32 × Int32 × z_Q)
  | 0, _, _, _, _ => none
  | n + 1, u2, u3, u4, Q => (if (nI tQ.2.1.1) ≤ u4 then some (u2, u3, Q) else (z_ai u4 Q.2.1.1).bind (fun x39 => ((if (Q.2.1.2 x39 4) = u3 then (f_X5_cross Q u3 u4).bind (fun x53 => some ((u2 + 1), x53)) else some (u2, Q))).bind (fun (y43 : Int32 × z_Q) => f_X5_crossings_L23 tQ n y43.1 u3 (u4 + 1) y43.2)))
def f_X5_crossings_L9 (tQ : z_Q) : Nat → Int32 → Int32 → z_Q → Option (Int32 × z_Q)
  | 0, _, _, _ => none
  | n + 1, u2, u3, Q => (if (nI tQ.2.1.1) ≤ u3 then some (u2, Q) else (f_X5_crossings_L23 tQ z_F14 u2 u3 (u3 + 1) Q).bind (fun x23 => f_X5_crossings_L9 tQ n x23.1 (x23.2.1 + 1) x23.2.2))
def f_X5_crossings (tQ : z_Q) : Option Int32 := if 12 < tQ.2.1.1 ∨ 6 < tQ.2.2.1.1 then none else (f_X5_crossings_L9 tQ z_F14 0 0 tQ).bind (fun x9 => some x9.1)
theorem cx_c {Q Q2 : z_Q} {v1 v2 : Int32} (h : f_X5_cross Q v1 v2 = some Q2) : Q2.2.2 = Q.2.2 := by
  unfold f_X5_cross at h
  obtain ⟨x, -, h⟩ := z_bd h
  obtain ⟨x2, -, h⟩ := z_bd h
  obtain ⟨x3, -, h⟩ := z_bd h
  obtain ⟨x4, -, h⟩ := z_bd h
  obtain rfl := Option.some.inj h
  rfl
theorem cx_23 {tQ : z_Q} : ∀ (n : Nat) (u2 u3 u4 : Int32) (Q : z_Q) (T : Int32 × Int32 × z_Q), f_X5_crossings_L23 tQ n u2 u3 u4 Q = some T → T.2.2.2.2 = Q.2.2
  | 0, _, _, _, _, _, h => by cases h
  | n + 1, u2, u3, u4, Q, T, h => by
    rw [f_X5_crossings_L23] at h
    split at h
    · obtain rfl := Option.some.inj h; rfl
    · obtain ⟨x, -, h⟩ := z_bd h
      obtain ⟨y, hy, h⟩ := z_bd h
      rw [cx_23 n _ _ _ _ _ h]
      split at hy
      · obtain ⟨z, hz, hy⟩ := z_bd hy
        obtain rfl := Option.some.inj hy
        exact cx_c hz
      · obtain rfl := Option.some.inj hy; rfl
theorem cx_9 {tQ : z_Q} : ∀ {n : Nat} {u2 u3 : Int32} {Q : z_Q} {T : Int32 × z_Q}, f_X5_crossings_L9 tQ n u2 u3 Q = some T → T.2.2.2 = Q.2.2
  | 0, _, _, _, _, h => by cases h
  | n + 1, u2, u3, Q, T, h => by
    rw [f_X5_crossings_L9] at h
    split at h
    · obtain rfl := Option.some.inj h; rfl
    · obtain ⟨x, hx, h⟩ := z_bd h
      rw [cx_9 h]; exact cx_23 _ _ _ _ _ _ hx
set_option maxHeartbeats 4000000 in
set_option maxRecDepth 100000 in
theorem m_X5_crossings (l : Launch) (X : z_X) (ta : Nat) (tD : z_D) (tQ : z_Q) {RR : Int32} (hf : f_X5_crossings tQ = some RR) : z_kI l yX5_crossings wsX5_crossings 5 162 24 129 X [.ref ta] (z_wS X ta tD tQ) (fun (z : Int32) (u : va_W) => z = RR ∧ ∃ D1 : z_D, u = z_wS X ta D1 tQ) := by
  intro sz
  refine Met.ofW (cc := cX5_crossings) (maxL := 5) (ret := (some .int)) (by decide) rfl ?_
  intro p e s m args below meth c s₁ Bd hml hv
  obtain ⟨rfl, ⟨hsz, hP, hK, hN, hD0⟩, hA2⟩ := hv
  have hx := Bd.exec
  have hb := Bd.bytes
  have hr := Bd.returns
  have hts := atoms_spec (ws := wsX5_crossings) Bd.pre
  have hown : s.vm.findClass RX5 = some m.cls := findClass_of_methodNamed Bd.named
  have hlocks := Bd.notSynchronized
  have S : CallFix p m c cX5_crossings 5 s _ wsX5_crossings RX5 := ⟨hx, hb, hml, hown, hts⟩
  have lk_fi9 := hts (.fieldLink RX5 9 "HouseBellsLaw$Sim" "rooms" "[[I") (List.mem_of_getElem? (i := 1) rfl)
  have in_X5 : ∀ w ∈ wsX50, w ∈ wsX5_crossings := fun _ h => (List.mem_cons_of_mem _ (List.mem_append_right _ h))
  subst hsz
  have hD := hD0.self (sz := s.heap.size)
  generalize hAe : va_A (z_wS X ta tD tQ) s.heap.size = A at hD ⊢
  have hA : ∀ q : Nat, s.heap.size ≤ q → A q := fun q h => by rw [← hAe]; exact Or.inr h
  have hS : va_S A s.heap s.heap [] := va_S.rf
  have hl := lv_entry ([.ref ta]) (n := 5) (Nat.le_of_ble_eq_true rfl)
  rw [lg_entry_eq]
  generalize (lg_sl ([.ref ta]) ++ List.replicate (5 - (lg_sl ([.ref ta])).length) Slot.unset).toArray = ls at hl ⊢
  have hl : lv_has ls 5 [(0, .ref ta)] := hl
  unfold f_X5_crossings at hf
  have hn : ¬ (12 < tQ.2.1.1 ∨ 6 < tQ.2.2.1.1) := fun z => by rw [if_pos z] at hf; cases hf
  rw [if_neg hn] at hf
  have lp_23 : ∀ (n : Nat) (a : Nat) (D : z_D) (u2 : Int32) (u3 : Int32) (u4 : Int32) (Q : z_Q) (T : (Int32 × Int32 × z_Q)) (H : Heap) (locs : List Loc), va_P X.1 vwCl (z_W (z_wX X ta tD tQ) X a D Q []) H → va_D A (z_W (z_wX X ta tD tQ) X a D Q []) → va_S A s.heap H locs → ∀ (ls : Array Slot), lv_has ls 5 [(0, .ref ta), (1, .ref a), (2, .int u2), (3, .int u3), (4, .int u4)] → f_X5_crossings_L23 tQ n u2 u3 u4 Q = some T → (∀ (H : Heap) (locs : List Loc), va_P X.1 vwCl (z_W (z_wX X ta tD tQ) X a D T.2.2 []) H → va_D A (z_W (z_wX X ta tD tQ) X a D T.2.2 []) → va_S A s.heap H locs → ∀ (ls : Array Slot), lv_has ls 5 [(0, .ref ta), (1, .ref a), (2, .int T.1), (3, .int T.2.1)] → W p l e (headSpec wsX5_crossings (z_R2 5 162 24 129)).room s m ([.ref ta] : List Value).toArray below meth c H locs 24 129 (MQ below (va_Qi (fun (z : Int32) (u : va_W) => z = RR ∧ ∃ D1 : z_D, u = z_wS X ta D1 tQ) (z_Bm X A) A) ([.ref ta] : List Value).toArray s 24 129 A) (F0 m 65 ls [])) → W p l e (headSpec wsX5_crossings (z_R2 5 162 24 129)).room s m ([.ref ta] : List Value).toArray below meth c H locs 24 129 (MQ below (va_Qi (fun (z : Int32) (u : va_W) => z = RR ∧ ∃ D1 : z_D, u = z_wS X ta D1 tQ) (z_Bm X A) A) ([.ref ta] : List Value).toArray s 24 129 A) (F0 m 23 ls []) := by
    intro n
    induction n with
    | zero =>
      intro a D u2 u3 u4 Q T H locs hP hD hS ls hl hf kk
      cases hf
    | succ n ih =>
      intro a D u2 u3 u4 Q T H locs hP hD hS ls hl hf kk
      rw [f_X5_crossings_L23] at hf
      refine lv_iload (pc := 23) hx hb dX5_crossings_23 (lv_at hl 4 rfl) ?_
      refine lv_aload_n (pc := 25) hx hb dX5_crossings_25 rfl (lv_at hl 0 rfl) ?_
      refine va_get (pc := 26) (ci := 5) (C := RX5) (T := TX5) (N := 9) (v := .ref tD.1.1) hx hb hts in_X5 hown hK hP _ (zw_l (i := 0) rfl) rfl 0 (by decide) lk_fi9 (fun _ h9 => h9) rfl dX5_crossings_26 ?_
      refine va_alen (v := (nI tQ.2.1.1)) (pc := 29) hx hb hK hP _ 2 (zw_l (i := 1) rfl) rfl rfl dX5_crossings_29 ?_
      refine lv_icmp_ge (pc := 30) (tgt := 65) hx hb dX5_crossings_30 (by decide) (fun c_30 => ?_) (fun c_30 => ?_)
      · replace hf := z_ip c_30 hf
        obtain rfl := Option.some.inj hf
        exact kk H locs hP hD hS ls (lv_sub hl [0, 1, 2, 3] rfl)
      · replace hf := z_in c_30 hf
        refine lv_aload_n (pc := 33) hx hb dX5_crossings_33 rfl (lv_at hl 1 rfl) ?_
        refine va_get (pc := 34) (ci := 5) (C := RX5) (T := TX5) (N := 9) (v := .ref D.1.1) hx hb hts in_X5 hown hK hP _ zg_0 rfl 0 (by decide) lk_fi9 (fun _ h9 => h9) rfl dX5_crossings_34 ?_
        refine lv_iload (pc := 37) hx hb dX5_crossings_37 (lv_at hl 4 rfl) ?_
        obtain ⟨x39, e39, hf⟩ := z_bd hf
        refine z_aald (pc := 39) hx hb hK hP _ 2 zg_1 rfl e39 dX5_crossings_39 ?_
        refine lv_iconst (v := 4) (pc := 40) hx hb dX5_crossings_40 (by decide) ?_
        refine z_iald (pc := 41) hx hb hK hP _ 0 (zg_r (z_ai_lt e39)) rfl (show z_at _ 4 _ = some (Q.2.1.2 x39 4) from rfl) dX5_crossings_41 ?_
        refine lv_iload_n (pc := 42) hx hb dX5_crossings_42 rfl (lv_at hl 3 rfl) ?_
        obtain ⟨y43, ey43, hf⟩ := z_bd hf
        suffices jp_43 : ∀ (H : Heap) (locs : List Loc) (_ : va_P X.1 vwCl (z_W (z_wX X ta tD tQ) X a D y43.2 []) H) (_ : va_D A (z_W (z_wX X ta tD tQ) X a D y43.2 [])) (_ : va_S A s.heap H locs) (ls : Array Slot) (_ : lv_has ls 5 [(0, .ref ta), (1, .ref a), (2, .int y43.1), (3, .int u3), (4, .int u4)]), W p l e (headSpec wsX5_crossings (z_R2 5 162 24 129)).room s m ([.ref ta] : List Value).toArray below meth c H locs 24 129 (MQ below (va_Qi (fun (z : Int32) (u : va_W) => z = RR ∧ ∃ D1 : z_D, u = z_wS X ta D1 tQ) (z_Bm X A) A) ([.ref ta] : List Value).toArray s 24 129 A) (F0 m 59 ls []) by
          have hf := ey43
          refine lv_icmp_eq (pc := 43) (tgt := 49) hx hb dX5_crossings_43 (by decide) (fun c_43 => ?_) (fun c_43 => ?_)
          · replace hf := z_ip c_43 hf
            refine lv_aload_n (pc := 49) hx hb dX5_crossings_49 rfl (lv_at hl 1 rfl) ?_
            refine lv_iload_n (pc := 50) hx hb dX5_crossings_50 rfl (lv_at hl 3 rfl) ?_
            refine lv_iload (pc := 51) hx hb dX5_crossings_51 (lv_at hl 4 rfl) ?_
            obtain ⟨x53, e53, hf⟩ := z_bd hf
            refine z_ckV (pc := 53) (wl := (z_wX X ta tD tQ)) (wr := []) S (m_X5_cross l X a D Q u3 u4 e53) (cwV 2 hts gX5_crossings_X5_cross rfl rfl rfl hdX5_cross ⟨Nat.le_of_ble_eq_true rfl, Nat.le_of_ble_eq_true rfl⟩) hP hK hN hA2 hD hS hA (ci := 5) rfl rfl rfl ⟨Nat.le_of_ble_eq_true rfl, Nat.le_of_ble_eq_true rfl⟩ rfl hl.1 rfl (Nat.le_of_ble_eq_true rfl) dX5_crossings_53 (fun u H locs hpost hP hD hS => ?_)
            obtain rfl := hpost
            have hP : va_P X.1 vwCl (z_W (z_wX X ta tD tQ) X a D x53 []) H := hP
            have hD : va_D A (z_W (z_wX X ta tD tQ) X a D x53 []) := hD
            refine lv_iinc (pc := 56) (v := (u2 + 1)) (lv' := [(2, .int (u2 + 1)), (0, .ref ta), (1, .ref a), (3, .int u3), (4, .int u4)]) hx hb dX5_crossings_56 hl (k := 2) rfl rfl (by decide) rfl (fun ls hl => ?_)
            obtain rfl := Option.some.inj hf
            exact jp_43 H locs hP hD hS ls (lv_sub hl [1, 2, 0, 3, 4] rfl)
          · replace hf := z_in c_43 hf
            refine lv_goto (pc := 46) (tgt := 59) hx hb dX5_crossings_46 (by decide) ?_
            obtain rfl := Option.some.inj hf
            exact jp_43 H locs hP hD hS ls (lv_sub hl [0, 1, 2, 3, 4] rfl)
        intro H locs hP hD hS ls hl
        refine lv_iinc (pc := 59) (v := (u4 + 1)) (lv' := [(4, .int (u4 + 1)), (0, .ref ta), (1, .ref a), (2, .int y43.1), (3, .int u3)]) hx hb dX5_crossings_59 hl (k := 4) rfl rfl (by decide) rfl (fun ls hl => ?_)
        refine lv_goto (pc := 62) (tgt := 23) hx hb dX5_crossings_62 (by decide) ?_
        exact ih a D y43.1 u3 (u4 + 1) y43.2 T H locs hP hD hS ls (lv_sub hl [1, 2, 3, 4, 0] rfl) hf kk
  have lp_9 : ∀ (n : Nat) (a : Nat) (D : z_D) (u2 : Int32) (u3 : Int32) (Q : z_Q) (T : (Int32 × z_Q)) (H : Heap) (locs : List Loc), va_P X.1 vwCl (z_W (z_wX X ta tD tQ) X a D Q []) H → va_D A (z_W (z_wX X ta tD tQ) X a D Q []) → va_S A s.heap H locs → ∀ (ls : Array Slot), lv_has ls 5 [(0, .ref ta), (1, .ref a), (2, .int u2), (3, .int u3)] → f_X5_crossings_L9 tQ n u2 u3 Q = some T → (∀ (H : Heap) (locs : List Loc), va_P X.1 vwCl (z_W (z_wX X ta tD tQ) X a D T.2 []) H → va_D A (z_W (z_wX X ta tD tQ) X a D T.2 []) → va_S A s.heap H locs → ∀ (ls : Array Slot), lv_has ls 5 [(2, .int T.1)] → W p l e (headSpec wsX5_crossings (z_R2 5 162 24 129)).room s m ([.ref ta] : List Value).toArray below meth c H locs 24 129 (MQ below (va_Qi (fun (z : Int32) (u : va_W) => z = RR ∧ ∃ D1 : z_D, u = z_wS X ta D1 tQ) (z_Bm X A) A) ([.ref ta] : List Value).toArray s 24 129 A) (F0 m 71 ls [])) → W p l e (headSpec wsX5_crossings (z_R2 5 162 24 129)).room s m ([.ref ta] : List Value).toArray below meth c H locs 24 129 (MQ below (va_Qi (fun (z : Int32) (u : va_W) => z = RR ∧ ∃ D1 : z_D, u = z_wS X ta D1 tQ) (z_Bm X A) A) ([.ref ta] : List Value).toArray s 24 129 A) (F0 m 9 ls []) := by
    intro n
    induction n with
    | zero =>
      intro a D u2 u3 Q T H locs hP hD hS ls hl hf kk
      cases hf
    | succ n ih =>
      intro a D u2 u3 Q T H locs hP hD hS ls hl hf kk
      rw [f_X5_crossings_L9] at hf
      refine lv_iload_n (pc := 9) hx hb dX5_crossings_9 rfl (lv_at hl 3 rfl) ?_
      refine lv_aload_n (pc := 10) hx hb dX5_crossings_10 rfl (lv_at hl 0 rfl) ?_
      refine va_get (pc := 11) (ci := 5) (C := RX5) (T := TX5) (N := 9) (v := .ref tD.1.1) hx hb hts in_X5 hown hK hP _ (zw_l (i := 0) rfl) rfl 0 (by decide) lk_fi9 (fun _ h9 => h9) rfl dX5_crossings_11 ?_
      refine va_alen (v := (nI tQ.2.1.1)) (pc := 14) hx hb hK hP _ 2 (zw_l (i := 1) rfl) rfl rfl dX5_crossings_14 ?_
      refine lv_icmp_ge (pc := 15) (tgt := 71) hx hb dX5_crossings_15 (by decide) (fun c_15 => ?_) (fun c_15 => ?_)
      · replace hf := z_ip c_15 hf
        obtain rfl := Option.some.inj hf
        exact kk H locs hP hD hS ls (lv_sub hl [2] rfl)
      · replace hf := z_in c_15 hf
        refine lv_iload_n (pc := 18) hx hb dX5_crossings_18 rfl (lv_at hl 3 rfl) ?_
        refine lv_iconst (v := 1) (pc := 19) hx hb dX5_crossings_19 (by decide) ?_
        refine lv_iadd (pc := 20) hx hb dX5_crossings_20 ?_
        refine lv_istore (pc := 21) (lv' := [(4, .int (u3 + 1)), (0, .ref ta), (1, .ref a), (2, .int u2), (3, .int u3)]) hx hb dX5_crossings_21 hl (by decide) rfl (fun ls hl => ?_)
        obtain ⟨x23, e23, hf⟩ := z_bd hf
        refine lp_23 z_F14 a D u2 u3 (u3 + 1) Q x23 H locs hP hD hS ls (lv_sub hl [1, 2, 3, 4, 0] rfl) e23 (fun H locs hP hD hS ls hl => ?_)
        refine lv_iinc (pc := 65) (v := (x23.2.1 + 1)) (lv' := [(3, .int (x23.2.1 + 1)), (0, .ref ta), (1, .ref a), (2, .int x23.1)]) hx hb dX5_crossings_65 hl (k := 3) rfl rfl (by decide) rfl (fun ls hl => ?_)
        refine lv_goto (pc := 68) (tgt := 9) hx hb dX5_crossings_68 (by decide) ?_
        exact ih a D x23.1 (x23.2.1 + 1) x23.2.2 T H locs hP hD hS ls (lv_sub hl [1, 2, 3, 0] rfl) hf kk
  refine lv_aload_n (pc := 0) hx hb dX5_crossings_0 rfl (lv_at hl 0 rfl) ?_
  refine z_ckRV (pc := 1) (wl := []) (wc := z_wS X ta tD tQ) (wr := []) S (m_X5_copy l X ta tD tQ (by omega) (by omega)) (cwV 0 hts gX5_crossings_X5_copy rfl rfl rfl hdX5_copy ⟨Nat.le_of_ble_eq_true rfl, Nat.le_of_ble_eq_true rfl⟩) (by rw [List.append_nil]; exact hP) hK hN hA2 (by rw [List.append_nil]; exact hD) hS hA (ci := 5) rfl rfl rfl ⟨Nat.le_of_ble_eq_true rfl, Nat.le_of_ble_eq_true rfl⟩ rfl hl.1 rfl (Nat.le_of_ble_eq_true rfl) dX5_crossings_1 (fun u a H locs hu hP hD hS => ?_)
  obtain ⟨D, hDD, rfl⟩ := hu
  have hP : va_P X.1 vwCl (z_W (z_wX X ta tD tQ) X a D tQ []) H := by rw [List.append_assoc] at hP; exact hP
  have hD : va_D A (z_W (z_wX X ta tD tQ) X a D tQ []) := by rw [List.append_assoc] at hD; exact hD
  refine W.widen (k := 24) (n := 129) (by omega) (by omega) ?_
  refine lv_astore_n (pc := 4) (lv' := [(1, .ref a), (0, .ref ta)]) hx hb dX5_crossings_4 rfl hl (by decide) rfl (fun ls hl => ?_)
  refine lv_iconst (v := 0) (pc := 5) hx hb dX5_crossings_5 (by decide) ?_
  refine lv_istore_n (pc := 6) (lv' := [(2, .int 0), (1, .ref a), (0, .ref ta)]) hx hb dX5_crossings_6 rfl hl (by decide) rfl (fun ls hl => ?_)
  refine lv_iconst (v := 0) (pc := 7) hx hb dX5_crossings_7 (by decide) ?_
  refine lv_istore_n (pc := 8) (lv' := [(3, .int 0), (2, .int 0), (1, .ref a), (0, .ref ta)]) hx hb dX5_crossings_8 rfl hl (by decide) rfl (fun ls hl => ?_)
  obtain ⟨x9, e9, hf⟩ := z_bd hf
  refine lp_9 z_F14 a D 0 0 tQ x9 H locs hP hD hS ls (lv_sub hl [3, 2, 1, 0] rfl) e9 (fun H locs hP hD hS ls hl => ?_)
  refine lv_iload_n (pc := 71) hx hb dX5_crossings_71 rfl (lv_at hl 0 rfl) ?_
  exact W.iret (pc := 72) (v := x9.1) hx hb hr (fun t ht hW => ⟨⟨_, z_wS X ta tD tQ, rfl, ⟨Option.some.inj hf, tD, rfl⟩, by rw [ht]; exact z_cxP hDD (cx_9 e9) hP, z_cxD hDD (cx_9 e9) hD⟩, hS.F ht⟩) hS.2.2 dX5_crossings_72
