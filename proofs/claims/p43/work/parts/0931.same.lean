theorem hdX5_isSame : yX5_isSame.cls = RX5 ∧ yX5_isSame.cls ≠ "java/lang/invoke/MethodHandle" ∧ yX5_isSame.cls ≠ "java/lang/invoke/VarHandle" ∧ (parseMethodDescriptor yX5_isSame.desc).map (fun d => d.parameters.length) = some 1 := by decide +kernel
def f_X5_isSame_L13 : Nat → Int32 → Int32 → Int32 → Int32 → Int32 → z_Q → z_B → Option (Int32 × Int32 × Int32 × Int32)
  | 0, _, _, _, _, _, _, _ => none
  | n + 1, u2, u3, u4, u5, u6, Q, B => (if (nI Q.2.1.1) ≤ u6 then some (u2, u3, u4, u5) else (z_ai u6 Q.2.1.1).bind (fun x29 => ((if (Q.2.1.2 x29 4) = u6 then some 0 else some 1)).bind (fun (y39 : Int32) => ((if (Q.2.1.2 x29 3) < 0 then some (u3, u4, u5) else (if u3 < 0 then some (u6, (u4 + (Q.2.1.2 x29 3)), (u5 + 1)) else (z_ai u3 Q.2.1.1).bind (fun x81 => (if (Q.2.1.2 x29 3) ≤ (Q.2.1.2 x81 3) then some (u3, (u4 + (Q.2.1.2 x29 3)), (u5 + 1)) else some (u6, (u4 + (Q.2.1.2 x29 3)), (u5 + 1))))))).bind (fun (y53 : Int32 × Int32 × Int32) => (f_X4_dropOf B u6).bind (fun x93 => (if x93 = (Q.2.1.2 x29 4) then (f_X4_roomOf B (Q.2.1.2 x29 4)).bind (fun x108 => (if x108 = u6 then (f_X4_isCut B u6).bind (fun x119 => ((if (Q.2.1.2 x29 5) = 1 then some 1 else some 0)).bind (fun (y127 : Int32) => (if x119 = y127 then (f_X4_waitedFor B u6).bind (fun x141 => (if x141 = (Q.2.1.2 x29 3) then (f_X4_placeInLine B u6).bind (fun x154 => (f_X5_place Q u6).bind (fun x160 => (if x154 = x160 then (f_X4_hasFallen B u6).bind (fun x169 => (f_X5_place Q u6).bind (fun x175 => ((if x175 < 0 then some 0 else some 1)).bind (fun (y178 : Int32) => (if x169 = y178 then (f_X4_ringsLeft B u6).bind (fun x192 => ((if (Q.2.1.2 x29 5) = 1 then some 0 else (z_dv (Q.1 1) ((Q.2.1.2 x29 0) + 1)).bind (fun x217 => some x217))).bind (fun (y200 : Int32) => (if x192 = y200 then (f_X4_nearestIdle B u6).bind (fun x224 => (f_X5_nearest Q u6).bind (fun x230 => (if x224 = x230 then f_X5_isSame_L13 n (u2 + y39) y53.1 y53.2.1 y53.2.2 (u6 + 1) Q B else none))) else none))) else none)))) else none))) else none)) else none))) else none)) else none))))))
def f_X5_isSame_L336 : Nat → Int32 → Int32 → Int32 → Int32 → Int32 → Int32 → z_Q → z_B → Option (Int32 × Int32 × Int32 × Int32 × Int32)
  | 0, _, _, _, _, _, _, _, _ => none
  | n + 1, u2, u3, u4, u5, u6, u8, Q, B => (if (nI Q.2.1.1) ≤ u8 then some (u2, u3, u4, u5, u6) else (f_X4_wayTo B u6 u8).bind (fun x351 => (f_X5_way Q u6 u8).bind (fun x359 => (if x351 = x359 then f_X5_isSame_L336 n u2 u3 u4 u5 u6 (u8 + 1) Q B else none))))
def f_X5_isSame_L247 : Nat → Int32 → Int32 → Int32 → Int32 → Int32 → z_Q → z_B → Option (Int32 × Int32 × Int32 × Int32)
  | 0, _, _, _, _, _, _, _ => none
  | n + 1, u2, u3, u4, u5, u6, Q, B => (if (nI Q.2.2.1.1) ≤ u6 then some (u2, u3, u4, u5) else (z_ai u6 Q.2.2.1.1).bind (fun x263 => (f_X4_floorOf B u6).bind (fun x269 => (if x269 = (Q.2.2.1.2 x263 1) then (f_X4_goesTo B u6).bind (fun x282 => (if x282 = (Q.2.2.1.2 x263 2) then (f_X4_serves B u6).bind (fun x295 => (if x295 = (Q.2.2.1.2 x263 3) then (f_X4_minutesLeft B u6).bind (fun x308 => (f_X5_isIdle Q u6).bind (fun x314 => ((if x314 = 0 then some (Q.2.2.1.2 x263 4) else some 0)).bind (fun (y317 : Int32) => (if x308 = y317 then (f_X5_isSame_L336 z_F14 u2 u3 u4 u5 u6 0 Q B).bind (fun x336 => f_X5_isSame_L247 n x336.1 x336.2.1 x336.2.2.1 x336.2.2.2.1 (x336.2.2.2.2 + 1) Q B) else none)))) else none)) else none)) else none))))
def f_X5_isSame (B : z_B) (Q : z_Q)  : Option Int32 := (f_X5_isSame_L13 z_F14 0 (-1) 0 0 0 Q B).bind (fun x13 => (f_X5_isSame_L247 z_F14 x13.1 x13.2.1 x13.2.2.1 x13.2.2.2 0 Q B).bind (fun x247 => ((if (f_X4_minute B) = (Q.1 0) then (if (f_X4_rooms B) = (nI Q.2.1.1) then (if (f_X4_servants B) = (nI Q.2.2.1.1) then (if (f_X4_charge B) = (Q.1 1) then (if (f_X4_served B) = (Q.1 2) then (if (f_X4_inVain B) = (Q.1 3) then (if (f_X4_gaveUp B) = (Q.1 4) then (if (f_X4_unheard B) = (Q.1 5) then (f_X4_longestWaiting B).bind (fun x470 => (if x470 = x247.2.1 then (f_X4_crossed B).bind (fun x478 => (if x478 = x247.1 then (f_X4_crossingsNeeded B).bind (fun x486 => (f_X5_crossings Q).bind (fun x490 => (if x486 = x490 then (if (f_X4_fallen B) = (nI Q.2.2.2.1) then (f_X4_nextDrop B).bind (fun x509 => ((if (nI Q.2.2.2.1) = 0 then some (-1) else (z_at Q.2.2.2.2 0 Q.2.2.2.1).bind (fun x529 => some x529))).bind (fun (y517 : Int32) => (if x509 = y517 then (f_X4_meanWait B).bind (fun x534 => ((if x247.2.2.2 = 0 then some FP.dconst0 else (z_dd (FP.i2d x247.2.2.1) (FP.i2d x247.2.2.2)).bind (fun x552 => some x552))).bind (fun (y539 : UInt64) => (if (Op.cmpValue (FP.dcmp x534 y539) .l) = 0 then some 1 else some 0))) else some 0))) else some 0) else some 0))) else some 0)) else some 0)) else some 0) else some 0) else some 0) else some 0) else some 0) else some 0) else some 0) else some 0)).bind (fun (y387 : Int32) => (z_bo y387).bind (fun x562 => some x562))))
set_option maxHeartbeats 16000000 in
set_option maxRecDepth 100000 in
theorem m_X5_isSame (l : Launch) (X : z_X) (b : Nat) (d d2 : Nat → Nat) (B : z_B) (a : Nat) (D : z_D) (Q : z_Q)  {RR : Int32} (hf : f_X5_isSame B Q = some RR) : z_kI l yX5_isSame wsX5_isSame 6 186 24 129 X [.ref a, .ref b] (z_W (z_wB X b d d2 B) X a D Q []) (fun (z : Int32) (u : va_W) => z = RR ∧ ∃ D1 : z_D, u = z_W (z_wB X b d d2 B) X a D1 Q []) := by
  intro sz
  refine Met.ofW (cc := cX5_isSame) (maxL := 9) (ret := (some .boolean)) (by decide) rfl ?_
  intro p e s m args below meth c s₁ Bd hml hv
  obtain ⟨rfl, ⟨hsz, hP, hK, hN, hD0⟩, hA2⟩ := hv
  have hx := Bd.exec
  have hb := Bd.bytes
  have hr := Bd.returns
  have hts := atoms_spec (ws := wsX5_isSame) Bd.pre
  have hown : s.vm.findClass RX5 = some m.cls := findClass_of_methodNamed Bd.named
  have hlocks := Bd.notSynchronized
  have S : CallFix p m c cX5_isSame 9 s _ wsX5_isSame RX5 := ⟨hx, hb, hml, hown, hts⟩
  have lk_fi9 := hts (.fieldLink RX5 9 "HouseBellsLaw$Sim" "rooms" "[[I") (List.mem_of_getElem? (i := 1) rfl)
  have lk_fi21 := hts (.fieldLink RX5 21 "HouseBellsLaw$Sim" "charge" "I") (List.mem_of_getElem? (i := 2) rfl)
  have lk_fi15 := hts (.fieldLink RX5 15 "HouseBellsLaw$Sim" "servants" "[[I") (List.mem_of_getElem? (i := 3) rfl)
  have lk_fi30 := hts (.fieldLink RX5 30 "HouseBellsLaw$Sim" "minute" "I") (List.mem_of_getElem? (i := 4) rfl)
  have lk_fi33 := hts (.fieldLink RX5 33 "HouseBellsLaw$Sim" "served" "I") (List.mem_of_getElem? (i := 5) rfl)
  have lk_fi36 := hts (.fieldLink RX5 36 "HouseBellsLaw$Sim" "inVain" "I") (List.mem_of_getElem? (i := 6) rfl)
  have lk_fi39 := hts (.fieldLink RX5 39 "HouseBellsLaw$Sim" "gaveUp" "I") (List.mem_of_getElem? (i := 7) rfl)
  have lk_fi42 := hts (.fieldLink RX5 42 "HouseBellsLaw$Sim" "unheard" "I") (List.mem_of_getElem? (i := 8) rfl)
  have lk_fi18 := hts (.fieldLink RX5 18 "HouseBellsLaw$Sim" "line" "[I") (List.mem_of_getElem? (i := 9) rfl)
  have in_X5 : ∀ w ∈ wsX50, w ∈ wsX5_isSame := fun _ h => (List.mem_cons_of_mem _ (List.mem_append_left _ (List.mem_append_left _ (List.mem_append_left _ (List.mem_append_left _ (List.mem_append_left _ (List.mem_append_left _ (List.mem_append_right _ h))))))))
  subst hsz
  have hD := hD0.self (sz := s.heap.size)
  generalize hAe : va_A (z_W (z_wB X b d d2 B) X a D Q []) s.heap.size = A at hD ⊢
  have hA : ∀ q : Nat, s.heap.size ≤ q → A q := fun q h => by rw [← hAe]; exact Or.inr h
  have hS : va_S A s.heap s.heap [] := va_S.rf
  have hl := lv_entry ([.ref a, .ref b]) (n := 9) (Nat.le_of_ble_eq_true rfl)
  rw [lg_entry_eq]
  generalize (lg_sl ([.ref a, .ref b]) ++ List.replicate (9 - (lg_sl ([.ref a, .ref b])).length) Slot.unset).toArray = ls at hl ⊢
  have hl : lv_has ls 9 [(0, .ref a), (1, .ref b)] := hl
  have lp_13 : ∀ (n : Nat) (kc ks : Nat) (hk : kc ≤ 24 ∧ ks ≤ 129) (D : z_D) (u2 : Int32) (u3 : Int32) (u4 : Int32) (u5 : Int32) (u6 : Int32) (Q : z_Q) (B : z_B) (T : (Int32 × Int32 × Int32 × Int32)) (H : Heap) (locs : List Loc), va_P X.1 vwCl (z_W (z_wB X b d d2 B) X a D Q []) H → va_D A (z_W (z_wB X b d d2 B) X a D Q []) → va_S A s.heap H locs → ∀ (ls : Array Slot), lv_has ls 9 [(0, .ref a), (1, .ref b), (2, .int u2), (3, .int u3), (4, .int u4), (5, .int u5), (6, .int u6)] → f_X5_isSame_L13 n u2 u3 u4 u5 u6 Q B = some T → (∀ (H : Heap) (locs : List Loc), va_P X.1 vwCl (z_W (z_wB X b d d2 B) X a D Q []) H → va_D A (z_W (z_wB X b d d2 B) X a D Q []) → va_S A s.heap H locs → ∀ (ls : Array Slot), lv_has ls 9 [(0, .ref a), (1, .ref b), (2, .int T.1), (3, .int T.2.1), (4, .int T.2.2.1), (5, .int T.2.2.2)] → W p l e (headSpec wsX5_isSame (z_R2 6 186 24 129)).room s m ([.ref a, .ref b] : List Value).toArray below meth c H locs kc ks (MQ below (va_Qi (fun (z : Int32) (u : va_W) => z = RR ∧ ∃ D1 : z_D, u = z_W (z_wB X b d d2 B) X a D1 Q []) (z_Bm X A) A) ([.ref a, .ref b] : List Value).toArray s 24 129 A) (F0 m 244 ls [])) → W p l e (headSpec wsX5_isSame (z_R2 6 186 24 129)).room s m ([.ref a, .ref b] : List Value).toArray below meth c H locs kc ks (MQ below (va_Qi (fun (z : Int32) (u : va_W) => z = RR ∧ ∃ D1 : z_D, u = z_W (z_wB X b d d2 B) X a D1 Q []) (z_Bm X A) A) ([.ref a, .ref b] : List Value).toArray s 24 129 A) (F0 m 13 ls []) := by
    intro n
    induction n with
    | zero =>
      intro kc ks hk D u2 u3 u4 u5 u6 Q B T H locs hP hD hS ls hl hf kk
      cases hf
    | succ n ih =>
      intro kc ks hk D u2 u3 u4 u5 u6 Q B T H locs hP hD hS ls hl hf kk
      rw [f_X5_isSame_L13] at hf
      refine lv_iload (pc := 13) hx hb dX5_isSame_13 (lv_at hl 6 rfl) ?_
      refine lv_aload_n (pc := 15) hx hb dX5_isSame_15 rfl (lv_at hl 0 rfl) ?_
      refine va_get (pc := 16) (ci := 5) (C := RX5) (T := TX5) (N := 9) (v := .ref D.1.1) hx hb hts in_X5 hown hK hP _ zg_0 rfl 0 (by decide) lk_fi9 (fun _ h9 => h9) rfl dX5_isSame_16 ?_
      refine va_alen (v := (nI Q.2.1.1)) (pc := 19) hx hb hK hP _ 2 zg_1 rfl rfl dX5_isSame_19 ?_
      refine lv_icmp_ge (pc := 20) (tgt := 244) hx hb dX5_isSame_20 (by decide) (fun c_20 => ?_) (fun c_20 => ?_)
      · replace hf := z_ip c_20 hf
        obtain rfl := Option.some.inj hf
        exact kk H locs hP hD hS ls (lv_sub hl [0, 1, 2, 3, 4, 5] rfl)
      · replace hf := z_in c_20 hf
        refine lv_aload_n (pc := 23) hx hb dX5_isSame_23 rfl (lv_at hl 0 rfl) ?_
        refine va_get (pc := 24) (ci := 5) (C := RX5) (T := TX5) (N := 9) (v := .ref D.1.1) hx hb hts in_X5 hown hK hP _ zg_0 rfl 0 (by decide) lk_fi9 (fun _ h9 => h9) rfl dX5_isSame_24 ?_
        refine lv_iload (pc := 27) hx hb dX5_isSame_27 (lv_at hl 6 rfl) ?_
        obtain ⟨x29, e29, hf⟩ := z_bd hf
        refine z_aald (pc := 29) hx hb hK hP _ 2 zg_1 rfl e29 dX5_isSame_29 ?_
        refine lv_astore (pc := 30) (lv' := [(7, .ref (D.2.1 x29)), (0, .ref a), (1, .ref b), (2, .int u2), (3, .int u3), (4, .int u4), (5, .int u5), (6, .int u6)]) hx hb dX5_isSame_30 hl (by decide) rfl (fun ls hl => ?_)
        refine lv_iload_n (pc := 32) hx hb dX5_isSame_32 rfl (lv_at hl 3 rfl) ?_
        refine lv_aload (pc := 33) hx hb dX5_isSame_33 (lv_at hl 0 rfl) ?_
        refine lv_iconst (v := 4) (pc := 35) hx hb dX5_isSame_35 (by decide) ?_
        refine z_iald (pc := 36) hx hb hK hP _ 0 (zg_r (z_ai_lt e29)) rfl (show z_at _ 4 _ = some (Q.2.1.2 x29 4) from rfl) dX5_isSame_36 ?_
        refine lv_iload (pc := 37) hx hb dX5_isSame_37 (lv_at hl 7 rfl) ?_
        obtain ⟨y39, ey39, hf⟩ := z_bd hf
        suffices jp_39 : ∀ (H : Heap) (locs : List Loc) (_ : va_P X.1 vwCl (z_W (z_wB X b d d2 B) X a D Q []) H) (_ : va_D A (z_W (z_wB X b d d2 B) X a D Q [])) (_ : va_S A s.heap H locs) (ls : Array Slot) (_ : lv_has ls 9 [(0, .ref a), (1, .ref b), (3, .int u3), (4, .int u4), (5, .int u5), (6, .int u6), (7, .ref (D.2.1 x29))]), W p l e (headSpec wsX5_isSame (z_R2 6 186 24 129)).room s m ([.ref a, .ref b] : List Value).toArray below meth c H locs kc ks (MQ below (va_Qi (fun (z : Int32) (u : va_W) => z = RR ∧ ∃ D1 : z_D, u = z_W (z_wB X b d d2 B) X a D1 Q []) (z_Bm X A) A) ([.ref a, .ref b] : List Value).toArray s 24 129 A) (F0 m 47 ls [.int y39, .int u2]) by
          have hf := ey39
          refine lv_icmp_ne (pc := 39) (tgt := 46) hx hb dX5_isSame_39 (by decide) (fun c_39 => ?_) (fun c_39 => ?_)
          · replace hf := z_in c_39 hf
            refine lv_iconst (v := 1) (pc := 46) hx hb dX5_isSame_46 (by decide) ?_
            obtain rfl := Option.some.inj hf
            exact jp_39 H locs hP hD hS ls (lv_sub hl [1, 2, 4, 5, 6, 7, 0] rfl)
          · replace hf := z_ip c_39 hf
            refine lv_iconst (v := 0) (pc := 42) hx hb dX5_isSame_42 (by decide) ?_
            refine lv_goto (pc := 43) (tgt := 47) hx hb dX5_isSame_43 (by decide) ?_
            obtain rfl := Option.some.inj hf
            exact jp_39 H locs hP hD hS ls (lv_sub hl [1, 2, 4, 5, 6, 7, 0] rfl)
        intro H locs hP hD hS ls hl
        refine lv_iadd (pc := 47) hx hb dX5_isSame_47 ?_
        refine lv_istore_n (pc := 48) (lv' := [(2, .int (u2 + y39)), (0, .ref a), (1, .ref b), (3, .int u3), (4, .int u4), (5, .int u5), (6, .int u6), (7, .ref (D.2.1 x29))]) hx hb dX5_isSame_48 rfl hl (by decide) rfl (fun ls hl => ?_)
        refine lv_aload (pc := 49) hx hb dX5_isSame_49 (lv_at hl 7 rfl) ?_
        refine lv_iconst (v := 3) (pc := 51) hx hb dX5_isSame_51 (by decide) ?_
        refine z_iald (pc := 52) hx hb hK hP _ 0 (zg_r (z_ai_lt e29)) rfl (show z_at _ 3 _ = some (Q.2.1.2 x29 3) from rfl) dX5_isSame_52 ?_
        obtain ⟨y53, ey53, hf⟩ := z_bd hf
        suffices jp_53 : ∀ (H : Heap) (locs : List Loc) (_ : va_P X.1 vwCl (z_W (z_wB X b d d2 B) X a D Q []) H) (_ : va_D A (z_W (z_wB X b d d2 B) X a D Q [])) (_ : va_S A s.heap H locs) (ls : Array Slot) (_ : lv_has ls 9 [(0, .ref a), (1, .ref b), (2, .int (u2 + y39)), (3, .int y53.1), (4, .int y53.2.1), (5, .int y53.2.2), (6, .int u6), (7, .ref (D.2.1 x29))]), W p l e (headSpec wsX5_isSame (z_R2 6 186 24 129)).room s m ([.ref a, .ref b] : List Value).toArray below meth c H locs kc ks (MQ below (va_Qi (fun (z : Int32) (u : va_W) => z = RR ∧ ∃ D1 : z_D, u = z_W (z_wB X b d d2 B) X a D1 Q []) (z_Bm X A) A) ([.ref a, .ref b] : List Value).toArray s 24 129 A) (F0 m 90 ls []) by
          have hf := ey53
          refine lv_if_lt (pc := 53) (tgt := 90) hx hb dX5_isSame_53 (by decide) (fun c_53 => ?_) (fun c_53 => ?_)
          · replace hf := z_ip c_53 hf
            obtain rfl := Option.some.inj hf
            exact jp_53 H locs hP hD hS ls (lv_sub hl [1, 2, 0, 3, 4, 5, 6, 7] rfl)
          · replace hf := z_in c_53 hf
            refine lv_iload (pc := 56) hx hb dX5_isSame_56 (lv_at hl 4 rfl) ?_
            refine lv_aload (pc := 58) hx hb dX5_isSame_58 (lv_at hl 7 rfl) ?_
            refine lv_iconst (v := 3) (pc := 60) hx hb dX5_isSame_60 (by decide) ?_
            refine z_iald (pc := 61) hx hb hK hP _ 0 (zg_r (z_ai_lt e29)) rfl (show z_at _ 3 _ = some (Q.2.1.2 x29 3) from rfl) dX5_isSame_61 ?_
            refine lv_iadd (pc := 62) hx hb dX5_isSame_62 ?_
            refine lv_istore (pc := 63) (lv' := [(4, .int (u4 + (Q.2.1.2 x29 3))), (2, .int (u2 + y39)), (0, .ref a), (1, .ref b), (3, .int u3), (5, .int u5), (6, .int u6), (7, .ref (D.2.1 x29))]) hx hb dX5_isSame_63 hl (by decide) rfl (fun ls hl => ?_)
            refine lv_iinc (pc := 65) (v := (u5 + 1)) (lv' := [(5, .int (u5 + 1)), (4, .int (u4 + (Q.2.1.2 x29 3))), (2, .int (u2 + y39)), (0, .ref a), (1, .ref b), (3, .int u3), (6, .int u6), (7, .ref (D.2.1 x29))]) hx hb dX5_isSame_65 hl (k := 5) rfl rfl (by decide) rfl (fun ls hl => ?_)
            refine lv_iload_n (pc := 68) hx hb dX5_isSame_68 rfl (lv_at hl 5 rfl) ?_
            refine lv_if_lt (pc := 69) (tgt := 87) hx hb dX5_isSame_69 (by decide) (fun c_69 => ?_) (fun c_69 => ?_)
            · replace hf := z_ip c_69 hf
              refine lv_iload (pc := 87) hx hb dX5_isSame_87 (lv_at hl 6 rfl) ?_
              refine lv_istore_n (pc := 89) (lv' := [(3, .int u6), (5, .int (u5 + 1)), (4, .int (u4 + (Q.2.1.2 x29 3))), (2, .int (u2 + y39)), (0, .ref a), (1, .ref b), (6, .int u6), (7, .ref (D.2.1 x29))]) hx hb dX5_isSame_89 rfl hl (by decide) rfl (fun ls hl => ?_)
              obtain rfl := Option.some.inj hf
              exact jp_53 H locs hP hD hS ls (lv_sub hl [4, 5, 3, 0, 2, 1, 6, 7] rfl)
            · replace hf := z_in c_69 hf
              refine lv_aload (pc := 72) hx hb dX5_isSame_72 (lv_at hl 7 rfl) ?_
              refine lv_iconst (v := 3) (pc := 74) hx hb dX5_isSame_74 (by decide) ?_
              refine z_iald (pc := 75) hx hb hK hP _ 0 (zg_r (z_ai_lt e29)) rfl (show z_at _ 3 _ = some (Q.2.1.2 x29 3) from rfl) dX5_isSame_75 ?_
              refine lv_aload_n (pc := 76) hx hb dX5_isSame_76 rfl (lv_at hl 3 rfl) ?_
              refine va_get (pc := 77) (ci := 5) (C := RX5) (T := TX5) (N := 9) (v := .ref D.1.1) hx hb hts in_X5 hown hK hP _ zg_0 rfl 0 (by decide) lk_fi9 (fun _ h9 => h9) rfl dX5_isSame_77 ?_
              refine lv_iload_n (pc := 80) hx hb dX5_isSame_80 rfl (lv_at hl 5 rfl) ?_
              obtain ⟨x81, e81, hf⟩ := z_bd hf
              refine z_aald (pc := 81) hx hb hK hP _ 2 zg_1 rfl e81 dX5_isSame_81 ?_
              refine lv_iconst (v := 3) (pc := 82) hx hb dX5_isSame_82 (by decide) ?_
              refine z_iald (pc := 83) hx hb hK hP _ 0 (zg_r (z_ai_lt e81)) rfl (show z_at _ 3 _ = some (Q.2.1.2 x81 3) from rfl) dX5_isSame_83 ?_
              refine lv_icmp_le (pc := 84) (tgt := 90) hx hb dX5_isSame_84 (by decide) (fun c_84 => ?_) (fun c_84 => ?_)
              · replace hf := z_ip c_84 hf
                obtain rfl := Option.some.inj hf
                exact jp_53 H locs hP hD hS ls (lv_sub hl [3, 4, 2, 5, 1, 0, 6, 7] rfl)
              · replace hf := z_in c_84 hf
                refine lv_iload (pc := 87) hx hb dX5_isSame_87 (lv_at hl 6 rfl) ?_
                refine lv_istore_n (pc := 89) (lv' := [(3, .int u6), (5, .int (u5 + 1)), (4, .int (u4 + (Q.2.1.2 x29 3))), (2, .int (u2 + y39)), (0, .ref a), (1, .ref b), (6, .int u6), (7, .ref (D.2.1 x29))]) hx hb dX5_isSame_89 rfl hl (by decide) rfl (fun ls hl => ?_)
                obtain rfl := Option.some.inj hf
                exact jp_53 H locs hP hD hS ls (lv_sub hl [4, 5, 3, 0, 2, 1, 6, 7] rfl)
        intro H locs hP hD hS ls hl
        refine lv_aload_n (pc := 90) hx hb dX5_isSame_90 rfl (lv_at hl 1 rfl) ?_
        refine lv_iload (pc := 91) hx hb dX5_isSame_91 (lv_at hl 6 rfl) ?_
        obtain ⟨x93, e93, hf⟩ := z_bd hf
        refine z_cpI (pc := 93) S (m_X4_dropOf l X b d d2 B u6 e93) (cwV 1 hts gX5_isSame_X4_dropOf rfl rfl rfl hdX4_dropOf ⟨Nat.le_of_ble_eq_true rfl, Nat.le_of_ble_eq_true rfl⟩) hP hK hN z_S_L (ci := 4) rfl rfl rfl (show kc ≤ 24 ∧ ks ≤ 129 from ⟨by omega, by omega⟩) rfl hl.1 rfl (Nat.le_of_ble_eq_true rfl) dX5_isSame_93 ?_
        refine lv_aload (pc := 96) hx hb dX5_isSame_96 (lv_at hl 7 rfl) ?_
        refine lv_iconst (v := 4) (pc := 98) hx hb dX5_isSame_98 (by decide) ?_
        refine z_iald (pc := 99) hx hb hK hP _ 0 (zg_r (z_ai_lt e29)) rfl (show z_at _ 4 _ = some (Q.2.1.2 x29 4) from rfl) dX5_isSame_99 ?_
        refine lv_icmp_ne (pc := 100) (tgt := 236) hx hb dX5_isSame_100 (by decide) (fun c_100 => ?_) (fun c_100 => ?_)
        · replace hf := z_in c_100 hf
          cases hf
        · replace hf := z_ip c_100 hf
          refine lv_aload_n (pc := 103) hx hb dX5_isSame_103 rfl (lv_at hl 1 rfl) ?_
          refine lv_aload (pc := 104) hx hb dX5_isSame_104 (lv_at hl 7 rfl) ?_
          refine lv_iconst (v := 4) (pc := 106) hx hb dX5_isSame_106 (by decide) ?_
          refine z_iald (pc := 107) hx hb hK hP _ 0 (zg_r (z_ai_lt e29)) rfl (show z_at _ 4 _ = some (Q.2.1.2 x29 4) from rfl) dX5_isSame_107 ?_
          obtain ⟨x108, e108, hf⟩ := z_bd hf
          refine z_cpI (pc := 108) S (m_X4_roomOf l X b d d2 B (Q.2.1.2 x29 4) e108) (cwV 1 hts gX5_isSame_X4_roomOf rfl rfl rfl hdX4_roomOf ⟨Nat.le_of_ble_eq_true rfl, Nat.le_of_ble_eq_true rfl⟩) hP hK hN z_S_L (ci := 4) rfl rfl rfl (show kc ≤ 24 ∧ ks ≤ 129 from ⟨by omega, by omega⟩) rfl hl.1 rfl (Nat.le_of_ble_eq_true rfl) dX5_isSame_108 ?_
          refine lv_iload (pc := 111) hx hb dX5_isSame_111 (lv_at hl 6 rfl) ?_
          refine lv_icmp_ne (pc := 113) (tgt := 236) hx hb dX5_isSame_113 (by decide) (fun c_113 => ?_) (fun c_113 => ?_)
          · replace hf := z_in c_113 hf
            cases hf
          · replace hf := z_ip c_113 hf
            refine lv_aload_n (pc := 116) hx hb dX5_isSame_116 rfl (lv_at hl 1 rfl) ?_
            refine lv_iload (pc := 117) hx hb dX5_isSame_117 (lv_at hl 6 rfl) ?_
            obtain ⟨x119, e119, hf⟩ := z_bd hf
            refine z_cpI (pc := 119) S (m_X4_isCut l X b d d2 B u6 e119) (cwV 1 hts gX5_isSame_X4_isCut rfl rfl rfl hdX4_isCut ⟨Nat.le_of_ble_eq_true rfl, Nat.le_of_ble_eq_true rfl⟩) hP hK hN z_S_L (ci := 4) rfl rfl rfl (show kc ≤ 24 ∧ ks ≤ 129 from ⟨by omega, by omega⟩) rfl hl.1 rfl (Nat.le_of_ble_eq_true rfl) dX5_isSame_119 ?_
            refine lv_aload (pc := 122) hx hb dX5_isSame_122 (lv_at hl 7 rfl) ?_
            refine lv_iconst (v := 5) (pc := 124) hx hb dX5_isSame_124 (by decide) ?_
            refine z_iald (pc := 125) hx hb hK hP _ 0 (zg_r (z_ai_lt e29)) rfl (show z_at _ 5 _ = some (Q.2.1.2 x29 5) from rfl) dX5_isSame_125 ?_
            refine lv_iconst (v := 1) (pc := 126) hx hb dX5_isSame_126 (by decide) ?_
            obtain ⟨y127, ey127, hf⟩ := z_bd hf
            suffices jp_127 : ∀ (H : Heap) (locs : List Loc) (_ : va_P X.1 vwCl (z_W (z_wB X b d d2 B) X a D Q []) H) (_ : va_D A (z_W (z_wB X b d d2 B) X a D Q [])) (_ : va_S A s.heap H locs) (ls : Array Slot) (_ : lv_has ls 9 [(0, .ref a), (1, .ref b), (2, .int (u2 + y39)), (3, .int y53.1), (4, .int y53.2.1), (5, .int y53.2.2), (6, .int u6), (7, .ref (D.2.1 x29))]), W p l e (headSpec wsX5_isSame (z_R2 6 186 24 129)).room s m ([.ref a, .ref b] : List Value).toArray below meth c H locs kc ks (MQ below (va_Qi (fun (z : Int32) (u : va_W) => z = RR ∧ ∃ D1 : z_D, u = z_W (z_wB X b d d2 B) X a D1 Q []) (z_Bm X A) A) ([.ref a, .ref b] : List Value).toArray s 24 129 A) (F0 m 135 ls [.int y127, .int x119]) by
              have hf := ey127
              refine lv_icmp_ne (pc := 127) (tgt := 134) hx hb dX5_isSame_127 (by decide) (fun c_127 => ?_) (fun c_127 => ?_)
              · replace hf := z_in c_127 hf
                refine lv_iconst (v := 0) (pc := 134) hx hb dX5_isSame_134 (by decide) ?_
                obtain rfl := Option.some.inj hf
                exact jp_127 H locs hP hD hS ls (lv_sub hl [0, 1, 2, 3, 4, 5, 6, 7] rfl)
              · replace hf := z_ip c_127 hf
                refine lv_iconst (v := 1) (pc := 130) hx hb dX5_isSame_130 (by decide) ?_
                refine lv_goto (pc := 131) (tgt := 135) hx hb dX5_isSame_131 (by decide) ?_
                obtain rfl := Option.some.inj hf
                exact jp_127 H locs hP hD hS ls (lv_sub hl [0, 1, 2, 3, 4, 5, 6, 7] rfl)
            intro H locs hP hD hS ls hl
            refine lv_icmp_ne (pc := 135) (tgt := 236) hx hb dX5_isSame_135 (by decide) (fun c_135 => ?_) (fun c_135 => ?_)
            · replace hf := z_in c_135 hf
              cases hf
            · replace hf := z_ip c_135 hf
              refine lv_aload_n (pc := 138) hx hb dX5_isSame_138 rfl (lv_at hl 1 rfl) ?_
              refine lv_iload (pc := 139) hx hb dX5_isSame_139 (lv_at hl 6 rfl) ?_
              obtain ⟨x141, e141, hf⟩ := z_bd hf
              refine z_cpI (pc := 141) S (m_X4_waitedFor l X b d d2 B u6 e141) (cwV 1 hts gX5_isSame_X4_waitedFor rfl rfl rfl hdX4_waitedFor ⟨Nat.le_of_ble_eq_true rfl, Nat.le_of_ble_eq_true rfl⟩) hP hK hN z_S_L (ci := 4) rfl rfl rfl (show kc ≤ 24 ∧ ks ≤ 129 from ⟨by omega, by omega⟩) rfl hl.1 rfl (Nat.le_of_ble_eq_true rfl) dX5_isSame_141 ?_
              refine lv_aload (pc := 144) hx hb dX5_isSame_144 (lv_at hl 7 rfl) ?_
              refine lv_iconst (v := 3) (pc := 146) hx hb dX5_isSame_146 (by decide) ?_
              refine z_iald (pc := 147) hx hb hK hP _ 0 (zg_r (z_ai_lt e29)) rfl (show z_at _ 3 _ = some (Q.2.1.2 x29 3) from rfl) dX5_isSame_147 ?_
              refine lv_icmp_ne (pc := 148) (tgt := 236) hx hb dX5_isSame_148 (by decide) (fun c_148 => ?_) (fun c_148 => ?_)
              · replace hf := z_in c_148 hf
                cases hf
              · replace hf := z_ip c_148 hf
                refine lv_aload_n (pc := 151) hx hb dX5_isSame_151 rfl (lv_at hl 1 rfl) ?_
                refine lv_iload (pc := 152) hx hb dX5_isSame_152 (lv_at hl 6 rfl) ?_
                obtain ⟨x154, e154, hf⟩ := z_bd hf
                refine z_cpI (pc := 154) S (m_X4_placeInLine l X b d d2 B u6 e154) (cwV 1 hts gX5_isSame_X4_placeInLine rfl rfl rfl hdX4_placeInLine ⟨Nat.le_of_ble_eq_true rfl, Nat.le_of_ble_eq_true rfl⟩) hP hK hN z_S_L (ci := 4) rfl rfl rfl (show kc ≤ 24 ∧ ks ≤ 129 from ⟨by omega, by omega⟩) rfl hl.1 rfl (Nat.le_of_ble_eq_true rfl) dX5_isSame_154 ?_
                refine lv_aload_n (pc := 157) hx hb dX5_isSame_157 rfl (lv_at hl 0 rfl) ?_
                refine lv_iload (pc := 158) hx hb dX5_isSame_158 (lv_at hl 6 rfl) ?_
                obtain ⟨x160, e160, hf⟩ := z_bd hf
                refine z_cpI (pc := 160) S (m_X5_place l X a D Q u6 e160) (cwV 1 hts gX5_isSame_X5_place rfl rfl rfl hdX5_place ⟨Nat.le_of_ble_eq_true rfl, Nat.le_of_ble_eq_true rfl⟩) hP hK hN z_S_W (ci := 5) rfl rfl rfl (show kc ≤ 24 ∧ ks ≤ 129 from ⟨by omega, by omega⟩) rfl hl.1 rfl (Nat.le_of_ble_eq_true rfl) dX5_isSame_160 ?_
                refine lv_icmp_ne (pc := 163) (tgt := 236) hx hb dX5_isSame_163 (by decide) (fun c_163 => ?_) (fun c_163 => ?_)
                · replace hf := z_in c_163 hf
                  cases hf
                · replace hf := z_ip c_163 hf
                  refine lv_aload_n (pc := 166) hx hb dX5_isSame_166 rfl (lv_at hl 1 rfl) ?_
                  refine lv_iload (pc := 167) hx hb dX5_isSame_167 (lv_at hl 6 rfl) ?_
                  obtain ⟨x169, e169, hf⟩ := z_bd hf
                  refine z_cpI (pc := 169) S (m_X4_hasFallen l X b d d2 B u6 e169) (cwV 1 hts gX5_isSame_X4_hasFallen rfl rfl rfl hdX4_hasFallen ⟨Nat.le_of_ble_eq_true rfl, Nat.le_of_ble_eq_true rfl⟩) hP hK hN z_S_L (ci := 4) rfl rfl rfl (show kc ≤ 24 ∧ ks ≤ 129 from ⟨by omega, by omega⟩) rfl hl.1 rfl (Nat.le_of_ble_eq_true rfl) dX5_isSame_169 ?_
                  refine lv_aload_n (pc := 172) hx hb dX5_isSame_172 rfl (lv_at hl 0 rfl) ?_
                  refine lv_iload (pc := 173) hx hb dX5_isSame_173 (lv_at hl 6 rfl) ?_
                  obtain ⟨x175, e175, hf⟩ := z_bd hf
                  refine z_cpI (pc := 175) S (m_X5_place l X a D Q u6 e175) (cwV 1 hts gX5_isSame_X5_place rfl rfl rfl hdX5_place ⟨Nat.le_of_ble_eq_true rfl, Nat.le_of_ble_eq_true rfl⟩) hP hK hN z_S_W (ci := 5) rfl rfl rfl (show kc ≤ 24 ∧ ks ≤ 129 from ⟨by omega, by omega⟩) rfl hl.1 rfl (Nat.le_of_ble_eq_true rfl) dX5_isSame_175 ?_
                  obtain ⟨y178, ey178, hf⟩ := z_bd hf
                  suffices jp_178 : ∀ (H : Heap) (locs : List Loc) (_ : va_P X.1 vwCl (z_W (z_wB X b d d2 B) X a D Q []) H) (_ : va_D A (z_W (z_wB X b d d2 B) X a D Q [])) (_ : va_S A s.heap H locs) (ls : Array Slot) (_ : lv_has ls 9 [(0, .ref a), (1, .ref b), (2, .int (u2 + y39)), (3, .int y53.1), (4, .int y53.2.1), (5, .int y53.2.2), (6, .int u6), (7, .ref (D.2.1 x29))]), W p l e (headSpec wsX5_isSame (z_R2 6 186 24 129)).room s m ([.ref a, .ref b] : List Value).toArray below meth c H locs kc ks (MQ below (va_Qi (fun (z : Int32) (u : va_W) => z = RR ∧ ∃ D1 : z_D, u = z_W (z_wB X b d d2 B) X a D1 Q []) (z_Bm X A) A) ([.ref a, .ref b] : List Value).toArray s 24 129 A) (F0 m 186 ls [.int y178, .int x169]) by
                    have hf := ey178
                    refine lv_if_lt (pc := 178) (tgt := 185) hx hb dX5_isSame_178 (by decide) (fun c_178 => ?_) (fun c_178 => ?_)
                    · replace hf := z_ip c_178 hf
                      refine lv_iconst (v := 0) (pc := 185) hx hb dX5_isSame_185 (by decide) ?_
                      obtain rfl := Option.some.inj hf
                      exact jp_178 H locs hP hD hS ls (lv_sub hl [0, 1, 2, 3, 4, 5, 6, 7] rfl)
                    · replace hf := z_in c_178 hf
                      refine lv_iconst (v := 1) (pc := 181) hx hb dX5_isSame_181 (by decide) ?_
                      refine lv_goto (pc := 182) (tgt := 186) hx hb dX5_isSame_182 (by decide) ?_
                      obtain rfl := Option.some.inj hf
                      exact jp_178 H locs hP hD hS ls (lv_sub hl [0, 1, 2, 3, 4, 5, 6, 7] rfl)
                  intro H locs hP hD hS ls hl
                  refine lv_icmp_ne (pc := 186) (tgt := 236) hx hb dX5_isSame_186 (by decide) (fun c_186 => ?_) (fun c_186 => ?_)
                  · replace hf := z_in c_186 hf
                    cases hf
                  · replace hf := z_ip c_186 hf
                    refine lv_aload_n (pc := 189) hx hb dX5_isSame_189 rfl (lv_at hl 1 rfl) ?_
                    refine lv_iload (pc := 190) hx hb dX5_isSame_190 (lv_at hl 6 rfl) ?_
                    obtain ⟨x192, e192, hf⟩ := z_bd hf
                    refine z_cpI (pc := 192) S (m_X4_ringsLeft l X b d d2 B u6 e192) (cwV 1 hts gX5_isSame_X4_ringsLeft rfl rfl rfl hdX4_ringsLeft ⟨Nat.le_of_ble_eq_true rfl, Nat.le_of_ble_eq_true rfl⟩) hP hK hN z_S_L (ci := 4) rfl rfl rfl (show kc ≤ 24 ∧ ks ≤ 129 from ⟨by omega, by omega⟩) rfl hl.1 rfl (Nat.le_of_ble_eq_true rfl) dX5_isSame_192 ?_
                    refine lv_aload (pc := 195) hx hb dX5_isSame_195 (lv_at hl 7 rfl) ?_
                    refine lv_iconst (v := 5) (pc := 197) hx hb dX5_isSame_197 (by decide) ?_
                    refine z_iald (pc := 198) hx hb hK hP _ 0 (zg_r (z_ai_lt e29)) rfl (show z_at _ 5 _ = some (Q.2.1.2 x29 5) from rfl) dX5_isSame_198 ?_
                    refine lv_iconst (v := 1) (pc := 199) hx hb dX5_isSame_199 (by decide) ?_
                    obtain ⟨y200, ey200, hf⟩ := z_bd hf
                    suffices jp_200 : ∀ (H : Heap) (locs : List Loc) (_ : va_P X.1 vwCl (z_W (z_wB X b d d2 B) X a D Q []) H) (_ : va_D A (z_W (z_wB X b d d2 B) X a D Q [])) (_ : va_S A s.heap H locs) (ls : Array Slot) (_ : lv_has ls 9 [(0, .ref a), (1, .ref b), (2, .int (u2 + y39)), (3, .int y53.1), (4, .int y53.2.1), (5, .int y53.2.2), (6, .int u6)]), W p l e (headSpec wsX5_isSame (z_R2 6 186 24 129)).room s m ([.ref a, .ref b] : List Value).toArray below meth c H locs kc ks (MQ below (va_Qi (fun (z : Int32) (u : va_W) => z = RR ∧ ∃ D1 : z_D, u = z_W (z_wB X b d d2 B) X a D1 Q []) (z_Bm X A) A) ([.ref a, .ref b] : List Value).toArray s 24 129 A) (F0 m 218 ls [.int y200, .int x192]) by
                      have hf := ey200
                      refine lv_icmp_ne (pc := 200) (tgt := 207) hx hb dX5_isSame_200 (by decide) (fun c_200 => ?_) (fun c_200 => ?_)
                      · replace hf := z_in c_200 hf
                        refine lv_aload_n (pc := 207) hx hb dX5_isSame_207 rfl (lv_at hl 0 rfl) ?_
                        refine va_get (pc := 208) (ci := 5) (C := RX5) (T := TX5) (N := 9) (v := .int (Q.1 1)) hx hb hts in_X5 hown hK hP _ zg_0 rfl 4 (by decide) lk_fi21 (fun _ h9 => h9) rfl dX5_isSame_208 ?_
                        refine lv_aload (pc := 211) hx hb dX5_isSame_211 (lv_at hl 7 rfl) ?_
                        refine lv_iconst (v := 0) (pc := 213) hx hb dX5_isSame_213 (by decide) ?_
                        refine z_iald (pc := 214) hx hb hK hP _ 0 (zg_r (z_ai_lt e29)) rfl (show z_at _ 0 _ = some (Q.2.1.2 x29 0) from rfl) dX5_isSame_214 ?_
                        refine lv_iconst (v := 1) (pc := 215) hx hb dX5_isSame_215 (by decide) ?_
                        refine lv_iadd (pc := 216) hx hb dX5_isSame_216 ?_
                        obtain ⟨x217, e217, hf⟩ := z_bd hf
                        refine z_idiv (pc := 217) hx hb e217 dX5_isSame_217 ?_
                        obtain rfl := Option.some.inj hf
                        exact jp_200 H locs hP hD hS ls (lv_sub hl [0, 1, 2, 3, 4, 5, 6] rfl)
                      · replace hf := z_ip c_200 hf
                        refine lv_iconst (v := 0) (pc := 203) hx hb dX5_isSame_203 (by decide) ?_
                        refine lv_goto (pc := 204) (tgt := 218) hx hb dX5_isSame_204 (by decide) ?_
                        obtain rfl := Option.some.inj hf
                        exact jp_200 H locs hP hD hS ls (lv_sub hl [0, 1, 2, 3, 4, 5, 6] rfl)
                    intro H locs hP hD hS ls hl
                    refine lv_icmp_ne (pc := 218) (tgt := 236) hx hb dX5_isSame_218 (by decide) (fun c_218 => ?_) (fun c_218 => ?_)
                    · replace hf := z_in c_218 hf
                      cases hf
                    · replace hf := z_ip c_218 hf
                      refine lv_aload_n (pc := 221) hx hb dX5_isSame_221 rfl (lv_at hl 1 rfl) ?_
                      refine lv_iload (pc := 222) hx hb dX5_isSame_222 (lv_at hl 6 rfl) ?_
                      obtain ⟨x224, e224, hf⟩ := z_bd hf
                      refine z_cpI (pc := 224) S (m_X4_nearestIdle l X b d d2 B u6 e224) (cwV 1 hts gX5_isSame_X4_nearestIdle rfl rfl rfl hdX4_nearestIdle ⟨Nat.le_of_ble_eq_true rfl, Nat.le_of_ble_eq_true rfl⟩) hP hK hN z_S_L (ci := 4) rfl rfl rfl (show kc ≤ 24 ∧ ks ≤ 129 from ⟨by omega, by omega⟩) rfl hl.1 rfl (Nat.le_of_ble_eq_true rfl) dX5_isSame_224 ?_
                      refine lv_aload_n (pc := 227) hx hb dX5_isSame_227 rfl (lv_at hl 0 rfl) ?_
                      refine lv_iload (pc := 228) hx hb dX5_isSame_228 (lv_at hl 6 rfl) ?_
                      obtain ⟨x230, e230, hf⟩ := z_bd hf
                      refine z_cpI (pc := 230) S (m_X5_nearest l X a D Q u6 e230) (cwV 1 hts gX5_isSame_X5_nearest rfl rfl rfl hdX5_nearest ⟨Nat.le_of_ble_eq_true rfl, Nat.le_of_ble_eq_true rfl⟩) hP hK hN z_S_W (ci := 5) rfl rfl rfl (show kc ≤ 24 ∧ ks ≤ 129 from ⟨by omega, by omega⟩) rfl hl.1 rfl (Nat.le_of_ble_eq_true rfl) dX5_isSame_230 ?_
                      refine lv_icmp_eq (pc := 233) (tgt := 238) hx hb dX5_isSame_233 (by decide) (fun c_233 => ?_) (fun c_233 => ?_)
                      · replace hf := z_ip c_233 hf
                        refine lv_iinc (pc := 238) (v := (u6 + 1)) (lv' := [(6, .int (u6 + 1)), (0, .ref a), (1, .ref b), (2, .int (u2 + y39)), (3, .int y53.1), (4, .int y53.2.1), (5, .int y53.2.2)]) hx hb dX5_isSame_238 hl (k := 6) rfl rfl (by decide) rfl (fun ls hl => ?_)
                        refine lv_goto (pc := 241) (tgt := 13) hx hb dX5_isSame_241 (by decide) ?_
                        exact ih kc ks (by omega) D (u2 + y39) y53.1 y53.2.1 y53.2.2 (u6 + 1) Q B T H locs hP hD hS ls (lv_sub hl [1, 2, 3, 4, 5, 6, 0] rfl) hf kk
                      · replace hf := z_in c_233 hf
                        cases hf
  have lp_336 : ∀ (n : Nat) (kc ks : Nat) (hk : kc ≤ 24 ∧ ks ≤ 129) (D : z_D) (u2 : Int32) (u3 : Int32) (u4 : Int32) (u5 : Int32) (u6 : Int32) (u8 : Int32) (Q : z_Q) (B : z_B) (T : (Int32 × Int32 × Int32 × Int32 × Int32)) (H : Heap) (locs : List Loc), va_P X.1 vwCl (z_W (z_wB X b d d2 B) X a D Q []) H → va_D A (z_W (z_wB X b d d2 B) X a D Q []) → va_S A s.heap H locs → ∀ (ls : Array Slot), lv_has ls 9 [(0, .ref a), (1, .ref b), (2, .int u2), (3, .int u3), (4, .int u4), (5, .int u5), (6, .int u6), (8, .int u8)] → f_X5_isSame_L336 n u2 u3 u4 u5 u6 u8 Q B = some T → (∀ (H : Heap) (locs : List Loc), va_P X.1 vwCl (z_W (z_wB X b d d2 B) X a D Q []) H → va_D A (z_W (z_wB X b d d2 B) X a D Q []) → va_S A s.heap H locs → ∀ (ls : Array Slot), lv_has ls 9 [(0, .ref a), (1, .ref b), (2, .int T.1), (3, .int T.2.1), (4, .int T.2.2.1), (5, .int T.2.2.2.1), (6, .int T.2.2.2.2)] → W p l e (headSpec wsX5_isSame (z_R2 6 186 24 129)).room s m ([.ref a, .ref b] : List Value).toArray below meth c H locs kc ks (MQ below (va_Qi (fun (z : Int32) (u : va_W) => z = RR ∧ ∃ D1 : z_D, u = z_W (z_wB X b d d2 B) X a D1 Q []) (z_Bm X A) A) ([.ref a, .ref b] : List Value).toArray s 24 129 A) (F0 m 373 ls [])) → W p l e (headSpec wsX5_isSame (z_R2 6 186 24 129)).room s m ([.ref a, .ref b] : List Value).toArray below meth c H locs kc ks (MQ below (va_Qi (fun (z : Int32) (u : va_W) => z = RR ∧ ∃ D1 : z_D, u = z_W (z_wB X b d d2 B) X a D1 Q []) (z_Bm X A) A) ([.ref a, .ref b] : List Value).toArray s 24 129 A) (F0 m 336 ls []) := by
    intro n
    induction n with
    | zero =>
      intro kc ks hk D u2 u3 u4 u5 u6 u8 Q B T H locs hP hD hS ls hl hf kk
      cases hf
    | succ n ih =>
      intro kc ks hk D u2 u3 u4 u5 u6 u8 Q B T H locs hP hD hS ls hl hf kk
      rw [f_X5_isSame_L336] at hf
      refine lv_iload (pc := 336) hx hb dX5_isSame_336 (lv_at hl 7 rfl) ?_
      refine lv_aload_n (pc := 338) hx hb dX5_isSame_338 rfl (lv_at hl 0 rfl) ?_
      refine va_get (pc := 339) (ci := 5) (C := RX5) (T := TX5) (N := 9) (v := .ref D.1.1) hx hb hts in_X5 hown hK hP _ zg_0 rfl 0 (by decide) lk_fi9 (fun _ h9 => h9) rfl dX5_isSame_339 ?_
      refine va_alen (v := (nI Q.2.1.1)) (pc := 342) hx hb hK hP _ 2 zg_1 rfl rfl dX5_isSame_342 ?_
      refine lv_icmp_ge (pc := 343) (tgt := 373) hx hb dX5_isSame_343 (by decide) (fun c_343 => ?_) (fun c_343 => ?_)
      · replace hf := z_ip c_343 hf
        obtain rfl := Option.some.inj hf
        exact kk H locs hP hD hS ls (lv_sub hl [0, 1, 2, 3, 4, 5, 6] rfl)
      · replace hf := z_in c_343 hf
        refine lv_aload_n (pc := 346) hx hb dX5_isSame_346 rfl (lv_at hl 1 rfl) ?_
        refine lv_iload (pc := 347) hx hb dX5_isSame_347 (lv_at hl 6 rfl) ?_
        refine lv_iload (pc := 349) hx hb dX5_isSame_349 (lv_at hl 7 rfl) ?_
        obtain ⟨x351, e351, hf⟩ := z_bd hf
        refine z_cpI (pc := 351) S (m_X4_wayTo l X b d d2 B u6 u8 e351) (cwV 2 hts gX5_isSame_X4_wayTo rfl rfl rfl hdX4_wayTo ⟨Nat.le_of_ble_eq_true rfl, Nat.le_of_ble_eq_true rfl⟩) hP hK hN z_S_L (ci := 4) rfl rfl rfl (show kc ≤ 24 ∧ ks ≤ 129 from ⟨by omega, by omega⟩) rfl hl.1 rfl (Nat.le_of_ble_eq_true rfl) dX5_isSame_351 ?_
        refine lv_aload_n (pc := 354) hx hb dX5_isSame_354 rfl (lv_at hl 0 rfl) ?_
        refine lv_iload (pc := 355) hx hb dX5_isSame_355 (lv_at hl 6 rfl) ?_
        refine lv_iload (pc := 357) hx hb dX5_isSame_357 (lv_at hl 7 rfl) ?_
        obtain ⟨x359, e359, hf⟩ := z_bd hf
        refine z_cpI (pc := 359) S (m_X5_way l X a D Q u6 u8 e359) (cwV 2 hts gX5_isSame_X5_way rfl rfl rfl hdX5_way ⟨Nat.le_of_ble_eq_true rfl, Nat.le_of_ble_eq_true rfl⟩) hP hK hN z_S_W (ci := 5) rfl rfl rfl (show kc ≤ 24 ∧ ks ≤ 129 from ⟨by omega, by omega⟩) rfl hl.1 rfl (Nat.le_of_ble_eq_true rfl) dX5_isSame_359 ?_
        refine lv_icmp_eq (pc := 362) (tgt := 367) hx hb dX5_isSame_362 (by decide) (fun c_362 => ?_) (fun c_362 => ?_)
        · replace hf := z_ip c_362 hf
          refine lv_iinc (pc := 367) (v := (u8 + 1)) (lv' := [(8, .int (u8 + 1)), (0, .ref a), (1, .ref b), (2, .int u2), (3, .int u3), (4, .int u4), (5, .int u5), (6, .int u6)]) hx hb dX5_isSame_367 hl (k := 7) rfl rfl (by decide) rfl (fun ls hl => ?_)
          refine lv_goto (pc := 370) (tgt := 336) hx hb dX5_isSame_370 (by decide) ?_
          exact ih kc ks (by omega) D u2 u3 u4 u5 u6 (u8 + 1) Q B T H locs hP hD hS ls (lv_sub hl [1, 2, 3, 4, 5, 6, 7, 0] rfl) hf kk
        · replace hf := z_in c_362 hf
          cases hf
  have lp_247 : ∀ (n : Nat) (kc ks : Nat) (hk : kc ≤ 24 ∧ ks ≤ 129) (D : z_D) (u2 : Int32) (u3 : Int32) (u4 : Int32) (u5 : Int32) (u6 : Int32) (Q : z_Q) (B : z_B) (T : (Int32 × Int32 × Int32 × Int32)) (H : Heap) (locs : List Loc), va_P X.1 vwCl (z_W (z_wB X b d d2 B) X a D Q []) H → va_D A (z_W (z_wB X b d d2 B) X a D Q []) → va_S A s.heap H locs → ∀ (ls : Array Slot), lv_has ls 9 [(0, .ref a), (1, .ref b), (2, .int u2), (3, .int u3), (4, .int u4), (5, .int u5), (6, .int u6)] → f_X5_isSame_L247 n u2 u3 u4 u5 u6 Q B = some T → (∀ (H : Heap) (locs : List Loc), va_P X.1 vwCl (z_W (z_wB X b d d2 B) X a D Q []) H → va_D A (z_W (z_wB X b d d2 B) X a D Q []) → va_S A s.heap H locs → ∀ (ls : Array Slot), lv_has ls 9 [(0, .ref a), (1, .ref b), (2, .int T.1), (3, .int T.2.1), (4, .int T.2.2.1), (5, .int T.2.2.2)] → W p l e (headSpec wsX5_isSame (z_R2 6 186 24 129)).room s m ([.ref a, .ref b] : List Value).toArray below meth c H locs kc ks (MQ below (va_Qi (fun (z : Int32) (u : va_W) => z = RR ∧ ∃ D1 : z_D, u = z_W (z_wB X b d d2 B) X a D1 Q []) (z_Bm X A) A) ([.ref a, .ref b] : List Value).toArray s 24 129 A) (F0 m 379 ls [])) → W p l e (headSpec wsX5_isSame (z_R2 6 186 24 129)).room s m ([.ref a, .ref b] : List Value).toArray below meth c H locs kc ks (MQ below (va_Qi (fun (z : Int32) (u : va_W) => z = RR ∧ ∃ D1 : z_D, u = z_W (z_wB X b d d2 B) X a D1 Q []) (z_Bm X A) A) ([.ref a, .ref b] : List Value).toArray s 24 129 A) (F0 m 247 ls []) := by
    intro n
    induction n with
    | zero =>
      intro kc ks hk D u2 u3 u4 u5 u6 Q B T H locs hP hD hS ls hl hf kk
      cases hf
    | succ n ih =>
      intro kc ks hk D u2 u3 u4 u5 u6 Q B T H locs hP hD hS ls hl hf kk
      rw [f_X5_isSame_L247] at hf
      refine lv_iload (pc := 247) hx hb dX5_isSame_247 (lv_at hl 6 rfl) ?_
      refine lv_aload_n (pc := 249) hx hb dX5_isSame_249 rfl (lv_at hl 0 rfl) ?_
      refine va_get (pc := 250) (ci := 5) (C := RX5) (T := TX5) (N := 9) (v := .ref D.1.2.1) hx hb hts in_X5 hown hK hP _ zg_0 rfl 1 (by decide) lk_fi15 (fun _ h9 => h9) rfl dX5_isSame_250 ?_
      refine va_alen (v := (nI Q.2.2.1.1)) (pc := 253) hx hb hK hP _ 2 zg_2 rfl rfl dX5_isSame_253 ?_
      refine lv_icmp_ge (pc := 254) (tgt := 379) hx hb dX5_isSame_254 (by decide) (fun c_254 => ?_) (fun c_254 => ?_)
      · replace hf := z_ip c_254 hf
        obtain rfl := Option.some.inj hf
        exact kk H locs hP hD hS ls (lv_sub hl [0, 1, 2, 3, 4, 5] rfl)
      · replace hf := z_in c_254 hf
        refine lv_aload_n (pc := 257) hx hb dX5_isSame_257 rfl (lv_at hl 0 rfl) ?_
        refine va_get (pc := 258) (ci := 5) (C := RX5) (T := TX5) (N := 9) (v := .ref D.1.2.1) hx hb hts in_X5 hown hK hP _ zg_0 rfl 1 (by decide) lk_fi15 (fun _ h9 => h9) rfl dX5_isSame_258 ?_
        refine lv_iload (pc := 261) hx hb dX5_isSame_261 (lv_at hl 6 rfl) ?_
        obtain ⟨x263, e263, hf⟩ := z_bd hf
        refine z_aald (pc := 263) hx hb hK hP _ 2 zg_2 rfl e263 dX5_isSame_263 ?_
        refine lv_astore (pc := 264) (lv' := [(7, .ref (D.2.2 x263)), (0, .ref a), (1, .ref b), (2, .int u2), (3, .int u3), (4, .int u4), (5, .int u5), (6, .int u6)]) hx hb dX5_isSame_264 hl (by decide) rfl (fun ls hl => ?_)
        refine lv_aload_n (pc := 266) hx hb dX5_isSame_266 rfl (lv_at hl 2 rfl) ?_
        refine lv_iload (pc := 267) hx hb dX5_isSame_267 (lv_at hl 7 rfl) ?_
        obtain ⟨x269, e269, hf⟩ := z_bd hf
        refine z_cpI (pc := 269) S (m_X4_floorOf l X b d d2 B u6 e269) (cwV 1 hts gX5_isSame_X4_floorOf rfl rfl rfl hdX4_floorOf ⟨Nat.le_of_ble_eq_true rfl, Nat.le_of_ble_eq_true rfl⟩) hP hK hN z_S_L (ci := 4) rfl rfl rfl (show kc ≤ 24 ∧ ks ≤ 129 from ⟨by omega, by omega⟩) rfl hl.1 rfl (Nat.le_of_ble_eq_true rfl) dX5_isSame_269 ?_
        refine lv_aload (pc := 272) hx hb dX5_isSame_272 (lv_at hl 0 rfl) ?_
        refine lv_iconst (v := 1) (pc := 274) hx hb dX5_isSame_274 (by decide) ?_
        refine z_iald (pc := 275) hx hb hK hP _ 0 (zg_v (z_ai_lt e263)) rfl (show z_at _ 1 _ = some (Q.2.2.1.2 x263 1) from rfl) dX5_isSame_275 ?_
        refine lv_icmp_ne (pc := 276) (tgt := 331) hx hb dX5_isSame_276 (by decide) (fun c_276 => ?_) (fun c_276 => ?_)
        · replace hf := z_in c_276 hf
          cases hf
        · replace hf := z_ip c_276 hf
          refine lv_aload_n (pc := 279) hx hb dX5_isSame_279 rfl (lv_at hl 2 rfl) ?_
          refine lv_iload (pc := 280) hx hb dX5_isSame_280 (lv_at hl 7 rfl) ?_
          obtain ⟨x282, e282, hf⟩ := z_bd hf
          refine z_cpI (pc := 282) S (m_X4_goesTo l X b d d2 B u6 e282) (cwV 1 hts gX5_isSame_X4_goesTo rfl rfl rfl hdX4_goesTo ⟨Nat.le_of_ble_eq_true rfl, Nat.le_of_ble_eq_true rfl⟩) hP hK hN z_S_L (ci := 4) rfl rfl rfl (show kc ≤ 24 ∧ ks ≤ 129 from ⟨by omega, by omega⟩) rfl hl.1 rfl (Nat.le_of_ble_eq_true rfl) dX5_isSame_282 ?_
          refine lv_aload (pc := 285) hx hb dX5_isSame_285 (lv_at hl 0 rfl) ?_
          refine lv_iconst (v := 2) (pc := 287) hx hb dX5_isSame_287 (by decide) ?_
          refine z_iald (pc := 288) hx hb hK hP _ 0 (zg_v (z_ai_lt e263)) rfl (show z_at _ 2 _ = some (Q.2.2.1.2 x263 2) from rfl) dX5_isSame_288 ?_
          refine lv_icmp_ne (pc := 289) (tgt := 331) hx hb dX5_isSame_289 (by decide) (fun c_289 => ?_) (fun c_289 => ?_)
          · replace hf := z_in c_289 hf
            cases hf
          · replace hf := z_ip c_289 hf
            refine lv_aload_n (pc := 292) hx hb dX5_isSame_292 rfl (lv_at hl 2 rfl) ?_
            refine lv_iload (pc := 293) hx hb dX5_isSame_293 (lv_at hl 7 rfl) ?_
            obtain ⟨x295, e295, hf⟩ := z_bd hf
            refine z_cpI (pc := 295) S (m_X4_serves l X b d d2 B u6 e295) (cwV 1 hts gX5_isSame_X4_serves rfl rfl rfl hdX4_serves ⟨Nat.le_of_ble_eq_true rfl, Nat.le_of_ble_eq_true rfl⟩) hP hK hN z_S_L (ci := 4) rfl rfl rfl (show kc ≤ 24 ∧ ks ≤ 129 from ⟨by omega, by omega⟩) rfl hl.1 rfl (Nat.le_of_ble_eq_true rfl) dX5_isSame_295 ?_
            refine lv_aload (pc := 298) hx hb dX5_isSame_298 (lv_at hl 0 rfl) ?_
            refine lv_iconst (v := 3) (pc := 300) hx hb dX5_isSame_300 (by decide) ?_
            refine z_iald (pc := 301) hx hb hK hP _ 0 (zg_v (z_ai_lt e263)) rfl (show z_at _ 3 _ = some (Q.2.2.1.2 x263 3) from rfl) dX5_isSame_301 ?_
            refine lv_icmp_ne (pc := 302) (tgt := 331) hx hb dX5_isSame_302 (by decide) (fun c_302 => ?_) (fun c_302 => ?_)
            · replace hf := z_in c_302 hf
              cases hf
            · replace hf := z_ip c_302 hf
              refine lv_aload_n (pc := 305) hx hb dX5_isSame_305 rfl (lv_at hl 2 rfl) ?_
              refine lv_iload (pc := 306) hx hb dX5_isSame_306 (lv_at hl 7 rfl) ?_
              obtain ⟨x308, e308, hf⟩ := z_bd hf
              refine z_cpI (pc := 308) S (m_X4_minutesLeft l X b d d2 B u6 e308) (cwV 1 hts gX5_isSame_X4_minutesLeft rfl rfl rfl hdX4_minutesLeft ⟨Nat.le_of_ble_eq_true rfl, Nat.le_of_ble_eq_true rfl⟩) hP hK hN z_S_L (ci := 4) rfl rfl rfl (show kc ≤ 24 ∧ ks ≤ 129 from ⟨by omega, by omega⟩) rfl hl.1 rfl (Nat.le_of_ble_eq_true rfl) dX5_isSame_308 ?_
              refine lv_aload_n (pc := 311) hx hb dX5_isSame_311 rfl (lv_at hl 1 rfl) ?_
              refine lv_iload (pc := 312) hx hb dX5_isSame_312 (lv_at hl 7 rfl) ?_
              obtain ⟨x314, e314, hf⟩ := z_bd hf
              refine z_cpI (pc := 314) S (m_X5_isIdle l X a D Q u6 e314) (cwV 1 hts gX5_isSame_X5_isIdle rfl rfl rfl hdX5_isIdle ⟨Nat.le_of_ble_eq_true rfl, Nat.le_of_ble_eq_true rfl⟩) hP hK hN z_S_W (ci := 5) rfl rfl rfl (show kc ≤ 24 ∧ ks ≤ 129 from ⟨by omega, by omega⟩) rfl hl.1 rfl (Nat.le_of_ble_eq_true rfl) dX5_isSame_314 ?_
              obtain ⟨y317, ey317, hf⟩ := z_bd hf
              suffices jp_317 : ∀ (H : Heap) (locs : List Loc) (_ : va_P X.1 vwCl (z_W (z_wB X b d d2 B) X a D Q []) H) (_ : va_D A (z_W (z_wB X b d d2 B) X a D Q [])) (_ : va_S A s.heap H locs) (ls : Array Slot) (_ : lv_has ls 9 [(0, .ref a), (1, .ref b), (2, .int u2), (3, .int u3), (4, .int u4), (5, .int u5), (6, .int u6)]), W p l e (headSpec wsX5_isSame (z_R2 6 186 24 129)).room s m ([.ref a, .ref b] : List Value).toArray below meth c H locs kc ks (MQ below (va_Qi (fun (z : Int32) (u : va_W) => z = RR ∧ ∃ D1 : z_D, u = z_W (z_wB X b d d2 B) X a D1 Q []) (z_Bm X A) A) ([.ref a, .ref b] : List Value).toArray s 24 129 A) (F0 m 328 ls [.int y317, .int x308]) by
                have hf := ey317
                refine lv_if_eq (pc := 317) (tgt := 324) hx hb dX5_isSame_317 (by decide) (fun c_317 => ?_) (fun c_317 => ?_)
                · replace hf := z_ip c_317 hf
                  refine lv_aload (pc := 324) hx hb dX5_isSame_324 (lv_at hl 0 rfl) ?_
                  refine lv_iconst (v := 4) (pc := 326) hx hb dX5_isSame_326 (by decide) ?_
                  refine z_iald (pc := 327) hx hb hK hP _ 0 (zg_v (z_ai_lt e263)) rfl (show z_at _ 4 _ = some (Q.2.2.1.2 x263 4) from rfl) dX5_isSame_327 ?_
                  obtain rfl := Option.some.inj hf
                  exact jp_317 H locs hP hD hS ls (lv_sub hl [1, 2, 3, 4, 5, 6, 7] rfl)
                · replace hf := z_in c_317 hf
                  refine lv_iconst (v := 0) (pc := 320) hx hb dX5_isSame_320 (by decide) ?_
                  refine lv_goto (pc := 321) (tgt := 328) hx hb dX5_isSame_321 (by decide) ?_
                  obtain rfl := Option.some.inj hf
                  exact jp_317 H locs hP hD hS ls (lv_sub hl [1, 2, 3, 4, 5, 6, 7] rfl)
              intro H locs hP hD hS ls hl
              refine lv_icmp_eq (pc := 328) (tgt := 333) hx hb dX5_isSame_328 (by decide) (fun c_328 => ?_) (fun c_328 => ?_)
              · replace hf := z_ip c_328 hf
                refine lv_iconst (v := 0) (pc := 333) hx hb dX5_isSame_333 (by decide) ?_
                refine lv_istore (pc := 334) (lv' := [(8, .int 0), (0, .ref a), (1, .ref b), (2, .int u2), (3, .int u3), (4, .int u4), (5, .int u5), (6, .int u6)]) hx hb dX5_isSame_334 hl (by decide) rfl (fun ls hl => ?_)
                obtain ⟨x336, e336, hf⟩ := z_bd hf
                refine lp_336 z_F14 kc ks (by omega) D u2 u3 u4 u5 u6 0 Q B x336 H locs hP hD hS ls (lv_sub hl [1, 2, 3, 4, 5, 6, 7, 0] rfl) e336 (fun H locs hP hD hS ls hl => ?_)
                refine lv_iinc (pc := 373) (v := (x336.2.2.2.2 + 1)) (lv' := [(6, .int (x336.2.2.2.2 + 1)), (0, .ref a), (1, .ref b), (2, .int x336.1), (3, .int x336.2.1), (4, .int x336.2.2.1), (5, .int x336.2.2.2.1)]) hx hb dX5_isSame_373 hl (k := 6) rfl rfl (by decide) rfl (fun ls hl => ?_)
                refine lv_goto (pc := 376) (tgt := 247) hx hb dX5_isSame_376 (by decide) ?_
                exact ih kc ks (by omega) D x336.1 x336.2.1 x336.2.2.1 x336.2.2.2.1 (x336.2.2.2.2 + 1) Q B T H locs hP hD hS ls (lv_sub hl [1, 2, 3, 4, 5, 6, 0] rfl) hf kk
              · replace hf := z_in c_328 hf
                cases hf
  suffices hgo : ∀ (H : Heap) (locs : List Loc), va_P X.1 vwCl (z_W (z_wB X b d d2 B) X a D Q []) H → va_D A (z_W (z_wB X b d d2 B) X a D Q []) → va_S A s.heap H locs → W p l e (headSpec wsX5_isSame (z_R2 6 186 24 129)).room s m ([.ref a, .ref b] : List Value).toArray below meth c H locs 0 0 (MQ below (va_Qi (fun (z : Int32) (u : va_W) => z = RR ∧ ∃ D1 : z_D, u = z_W (z_wB X b d d2 B) X a D1 Q []) (z_Bm X A) A) ([.ref a, .ref b] : List Value).toArray s 24 129 A) (F0 m 0 ls []) from hgo _ _ hP hD hS
  clear hP hD hS
  intro H locs hP hD hS
  unfold f_X5_isSame at hf
  refine lv_iconst (v := 0) (pc := 0) hx hb dX5_isSame_0 (by decide) ?_
  refine lv_istore_n (pc := 1) (lv' := [(2, .int 0), (0, .ref a), (1, .ref b)]) hx hb dX5_isSame_1 rfl hl (by decide) rfl (fun ls hl => ?_)
  refine lv_iconst (v := (-1)) (pc := 2) hx hb dX5_isSame_2 (by decide) ?_
  refine lv_istore_n (pc := 3) (lv' := [(3, .int (-1)), (2, .int 0), (0, .ref a), (1, .ref b)]) hx hb dX5_isSame_3 rfl hl (by decide) rfl (fun ls hl => ?_)
  refine lv_iconst (v := 0) (pc := 4) hx hb dX5_isSame_4 (by decide) ?_
  refine lv_istore (pc := 5) (lv' := [(4, .int 0), (3, .int (-1)), (2, .int 0), (0, .ref a), (1, .ref b)]) hx hb dX5_isSame_5 hl (by decide) rfl (fun ls hl => ?_)
  refine lv_iconst (v := 0) (pc := 7) hx hb dX5_isSame_7 (by decide) ?_
  refine lv_istore (pc := 8) (lv' := [(5, .int 0), (4, .int 0), (3, .int (-1)), (2, .int 0), (0, .ref a), (1, .ref b)]) hx hb dX5_isSame_8 hl (by decide) rfl (fun ls hl => ?_)
  refine lv_iconst (v := 0) (pc := 10) hx hb dX5_isSame_10 (by decide) ?_
  refine lv_istore (pc := 11) (lv' := [(6, .int 0), (5, .int 0), (4, .int 0), (3, .int (-1)), (2, .int 0), (0, .ref a), (1, .ref b)]) hx hb dX5_isSame_11 hl (by decide) rfl (fun ls hl => ?_)
  obtain ⟨x13, e13, hf⟩ := z_bd hf
  refine lp_13 z_F14 0 0 (by omega) D 0 (-1) 0 0 0 Q B x13 H locs hP hD hS ls (lv_sub hl [5, 6, 4, 3, 2, 1, 0] rfl) e13 (fun H locs hP hD hS ls hl => ?_)
  refine lv_iconst (v := 0) (pc := 244) hx hb dX5_isSame_244 (by decide) ?_
  refine lv_istore (pc := 245) (lv' := [(6, .int 0), (0, .ref a), (1, .ref b), (2, .int x13.1), (3, .int x13.2.1), (4, .int x13.2.2.1), (5, .int x13.2.2.2)]) hx hb dX5_isSame_245 hl (by decide) rfl (fun ls hl => ?_)
  obtain ⟨x247, e247, hf⟩ := z_bd hf
  refine lp_247 z_F14 0 0 (by omega) D x13.1 x13.2.1 x13.2.2.1 x13.2.2.2 0 Q B x247 H locs hP hD hS ls (lv_sub hl [1, 2, 3, 4, 5, 6, 0] rfl) e247 (fun H locs hP hD hS ls hl => ?_)
  refine lv_aload_n (pc := 379) hx hb dX5_isSame_379 rfl (lv_at hl 1 rfl) ?_
  refine z_cpI (pc := 380) S (m_X4_minute l X b d d2 B rfl) (cwV 0 hts gX5_isSame_X4_minute rfl rfl rfl hdX4_minute ⟨Nat.le_of_ble_eq_true rfl, Nat.le_of_ble_eq_true rfl⟩) hP hK hN z_S_L (ci := 4) rfl rfl rfl (show 0 ≤ 24 ∧ 0 ≤ 129 from ⟨by omega, by omega⟩) rfl hl.1 rfl (Nat.le_of_ble_eq_true rfl) dX5_isSame_380 ?_
  refine lv_aload_n (pc := 383) hx hb dX5_isSame_383 rfl (lv_at hl 0 rfl) ?_
  refine va_get (pc := 384) (ci := 5) (C := RX5) (T := TX5) (N := 9) (v := .int (Q.1 0)) hx hb hts in_X5 hown hK hP _ zg_0 rfl 3 (by decide) lk_fi30 (fun _ h9 => h9) rfl dX5_isSame_384 ?_
  obtain ⟨y387, ey387, hf⟩ := z_bd hf
  suffices jp_387 : ∀ (k387 s387 : Nat) (hk387 : k387 ≤ 0 + 24 ∧ s387 ≤ 0 + 129) (D387 : z_D) (H : Heap) (locs : List Loc) (_ : va_P X.1 vwCl (z_W (z_wB X b d d2 B) X a D387 Q []) H) (_ : va_D A (z_W (z_wB X b d d2 B) X a D387 Q [])) (_ : va_S A s.heap H locs) (ls : Array Slot) (_ : lv_has ls 9 []), W p l e (headSpec wsX5_isSame (z_R2 6 186 24 129)).room s m ([.ref a, .ref b] : List Value).toArray below meth c H locs k387 s387 (MQ below (va_Qi (fun (z : Int32) (u : va_W) => z = RR ∧ ∃ D1 : z_D, u = z_W (z_wB X b d d2 B) X a D1 Q []) (z_Bm X A) A) ([.ref a, .ref b] : List Value).toArray s 24 129 A) (F0 m 562 ls [.int y387]) by
    have hf := ey387
    refine lv_icmp_ne (pc := 387) (tgt := 561) hx hb dX5_isSame_387 (by decide) (fun c_387 => ?_) (fun c_387 => ?_)
    · replace hf := z_in c_387 hf
      refine lv_iconst (v := 0) (pc := 561) hx hb dX5_isSame_561 (by decide) ?_
      obtain rfl := Option.some.inj hf
      exact jp_387 0 0 (by omega) D H locs hP hD hS ls (lv_sub hl [] rfl)
    · replace hf := z_ip c_387 hf
      refine lv_aload_n (pc := 390) hx hb dX5_isSame_390 rfl (lv_at hl 1 rfl) ?_
      refine z_cpI (pc := 391) S (m_X4_rooms l X b d d2 B rfl) (cwV 0 hts gX5_isSame_X4_rooms rfl rfl rfl hdX4_rooms ⟨Nat.le_of_ble_eq_true rfl, Nat.le_of_ble_eq_true rfl⟩) hP hK hN z_S_L (ci := 4) rfl rfl rfl (show 0 ≤ 24 ∧ 0 ≤ 129 from ⟨by omega, by omega⟩) rfl hl.1 rfl (Nat.le_of_ble_eq_true rfl) dX5_isSame_391 ?_
      refine lv_aload_n (pc := 394) hx hb dX5_isSame_394 rfl (lv_at hl 0 rfl) ?_
      refine va_get (pc := 395) (ci := 5) (C := RX5) (T := TX5) (N := 9) (v := .ref D.1.1) hx hb hts in_X5 hown hK hP _ zg_0 rfl 0 (by decide) lk_fi9 (fun _ h9 => h9) rfl dX5_isSame_395 ?_
      refine va_alen (v := (nI Q.2.1.1)) (pc := 398) hx hb hK hP _ 2 zg_1 rfl rfl dX5_isSame_398 ?_
      refine lv_icmp_ne (pc := 399) (tgt := 561) hx hb dX5_isSame_399 (by decide) (fun c_399 => ?_) (fun c_399 => ?_)
      · replace hf := z_in c_399 hf
        refine lv_iconst (v := 0) (pc := 561) hx hb dX5_isSame_561 (by decide) ?_
        obtain rfl := Option.some.inj hf
        exact jp_387 0 0 (by omega) D H locs hP hD hS ls (lv_sub hl [] rfl)
      · replace hf := z_ip c_399 hf
        refine lv_aload_n (pc := 402) hx hb dX5_isSame_402 rfl (lv_at hl 1 rfl) ?_
        refine z_cpI (pc := 403) S (m_X4_servants l X b d d2 B rfl) (cwV 0 hts gX5_isSame_X4_servants rfl rfl rfl hdX4_servants ⟨Nat.le_of_ble_eq_true rfl, Nat.le_of_ble_eq_true rfl⟩) hP hK hN z_S_L (ci := 4) rfl rfl rfl (show 0 ≤ 24 ∧ 0 ≤ 129 from ⟨by omega, by omega⟩) rfl hl.1 rfl (Nat.le_of_ble_eq_true rfl) dX5_isSame_403 ?_
        refine lv_aload_n (pc := 406) hx hb dX5_isSame_406 rfl (lv_at hl 0 rfl) ?_
        refine va_get (pc := 407) (ci := 5) (C := RX5) (T := TX5) (N := 9) (v := .ref D.1.2.1) hx hb hts in_X5 hown hK hP _ zg_0 rfl 1 (by decide) lk_fi15 (fun _ h9 => h9) rfl dX5_isSame_407 ?_
        refine va_alen (v := (nI Q.2.2.1.1)) (pc := 410) hx hb hK hP _ 2 zg_2 rfl rfl dX5_isSame_410 ?_
        refine lv_icmp_ne (pc := 411) (tgt := 561) hx hb dX5_isSame_411 (by decide) (fun c_411 => ?_) (fun c_411 => ?_)
        · replace hf := z_in c_411 hf
          refine lv_iconst (v := 0) (pc := 561) hx hb dX5_isSame_561 (by decide) ?_
          obtain rfl := Option.some.inj hf
          exact jp_387 0 0 (by omega) D H locs hP hD hS ls (lv_sub hl [] rfl)
        · replace hf := z_ip c_411 hf
          refine lv_aload_n (pc := 414) hx hb dX5_isSame_414 rfl (lv_at hl 1 rfl) ?_
          refine z_cpI (pc := 415) S (m_X4_charge l X b d d2 B rfl) (cwV 0 hts gX5_isSame_X4_charge rfl rfl rfl hdX4_charge ⟨Nat.le_of_ble_eq_true rfl, Nat.le_of_ble_eq_true rfl⟩) hP hK hN z_S_L (ci := 4) rfl rfl rfl (show 0 ≤ 24 ∧ 0 ≤ 129 from ⟨by omega, by omega⟩) rfl hl.1 rfl (Nat.le_of_ble_eq_true rfl) dX5_isSame_415 ?_
          refine lv_aload_n (pc := 418) hx hb dX5_isSame_418 rfl (lv_at hl 0 rfl) ?_
          refine va_get (pc := 419) (ci := 5) (C := RX5) (T := TX5) (N := 9) (v := .int (Q.1 1)) hx hb hts in_X5 hown hK hP _ zg_0 rfl 4 (by decide) lk_fi21 (fun _ h9 => h9) rfl dX5_isSame_419 ?_
          refine lv_icmp_ne (pc := 422) (tgt := 561) hx hb dX5_isSame_422 (by decide) (fun c_422 => ?_) (fun c_422 => ?_)
          · replace hf := z_in c_422 hf
            refine lv_iconst (v := 0) (pc := 561) hx hb dX5_isSame_561 (by decide) ?_
            obtain rfl := Option.some.inj hf
            exact jp_387 0 0 (by omega) D H locs hP hD hS ls (lv_sub hl [] rfl)
          · replace hf := z_ip c_422 hf
            refine lv_aload_n (pc := 425) hx hb dX5_isSame_425 rfl (lv_at hl 1 rfl) ?_
            refine z_cpI (pc := 426) S (m_X4_served l X b d d2 B rfl) (cwV 0 hts gX5_isSame_X4_served rfl rfl rfl hdX4_served ⟨Nat.le_of_ble_eq_true rfl, Nat.le_of_ble_eq_true rfl⟩) hP hK hN z_S_L (ci := 4) rfl rfl rfl (show 0 ≤ 24 ∧ 0 ≤ 129 from ⟨by omega, by omega⟩) rfl hl.1 rfl (Nat.le_of_ble_eq_true rfl) dX5_isSame_426 ?_
            refine lv_aload_n (pc := 429) hx hb dX5_isSame_429 rfl (lv_at hl 0 rfl) ?_
            refine va_get (pc := 430) (ci := 5) (C := RX5) (T := TX5) (N := 9) (v := .int (Q.1 2)) hx hb hts in_X5 hown hK hP _ zg_0 rfl 5 (by decide) lk_fi33 (fun _ h9 => h9) rfl dX5_isSame_430 ?_
            refine lv_icmp_ne (pc := 433) (tgt := 561) hx hb dX5_isSame_433 (by decide) (fun c_433 => ?_) (fun c_433 => ?_)
            · replace hf := z_in c_433 hf
              refine lv_iconst (v := 0) (pc := 561) hx hb dX5_isSame_561 (by decide) ?_
              obtain rfl := Option.some.inj hf
              exact jp_387 0 0 (by omega) D H locs hP hD hS ls (lv_sub hl [] rfl)
            · replace hf := z_ip c_433 hf
              refine lv_aload_n (pc := 436) hx hb dX5_isSame_436 rfl (lv_at hl 1 rfl) ?_
              refine z_cpI (pc := 437) S (m_X4_inVain l X b d d2 B rfl) (cwV 0 hts gX5_isSame_X4_inVain rfl rfl rfl hdX4_inVain ⟨Nat.le_of_ble_eq_true rfl, Nat.le_of_ble_eq_true rfl⟩) hP hK hN z_S_L (ci := 4) rfl rfl rfl (show 0 ≤ 24 ∧ 0 ≤ 129 from ⟨by omega, by omega⟩) rfl hl.1 rfl (Nat.le_of_ble_eq_true rfl) dX5_isSame_437 ?_
              refine lv_aload_n (pc := 440) hx hb dX5_isSame_440 rfl (lv_at hl 0 rfl) ?_
              refine va_get (pc := 441) (ci := 5) (C := RX5) (T := TX5) (N := 9) (v := .int (Q.1 3)) hx hb hts in_X5 hown hK hP _ zg_0 rfl 6 (by decide) lk_fi36 (fun _ h9 => h9) rfl dX5_isSame_441 ?_
              refine lv_icmp_ne (pc := 444) (tgt := 561) hx hb dX5_isSame_444 (by decide) (fun c_444 => ?_) (fun c_444 => ?_)
              · replace hf := z_in c_444 hf
                refine lv_iconst (v := 0) (pc := 561) hx hb dX5_isSame_561 (by decide) ?_
                obtain rfl := Option.some.inj hf
                exact jp_387 0 0 (by omega) D H locs hP hD hS ls (lv_sub hl [] rfl)
              · replace hf := z_ip c_444 hf
                refine lv_aload_n (pc := 447) hx hb dX5_isSame_447 rfl (lv_at hl 1 rfl) ?_
                refine z_cpI (pc := 448) S (m_X4_gaveUp l X b d d2 B rfl) (cwV 0 hts gX5_isSame_X4_gaveUp rfl rfl rfl hdX4_gaveUp ⟨Nat.le_of_ble_eq_true rfl, Nat.le_of_ble_eq_true rfl⟩) hP hK hN z_S_L (ci := 4) rfl rfl rfl (show 0 ≤ 24 ∧ 0 ≤ 129 from ⟨by omega, by omega⟩) rfl hl.1 rfl (Nat.le_of_ble_eq_true rfl) dX5_isSame_448 ?_
                refine lv_aload_n (pc := 451) hx hb dX5_isSame_451 rfl (lv_at hl 0 rfl) ?_
                refine va_get (pc := 452) (ci := 5) (C := RX5) (T := TX5) (N := 9) (v := .int (Q.1 4)) hx hb hts in_X5 hown hK hP _ zg_0 rfl 7 (by decide) lk_fi39 (fun _ h9 => h9) rfl dX5_isSame_452 ?_
                refine lv_icmp_ne (pc := 455) (tgt := 561) hx hb dX5_isSame_455 (by decide) (fun c_455 => ?_) (fun c_455 => ?_)
                · replace hf := z_in c_455 hf
                  refine lv_iconst (v := 0) (pc := 561) hx hb dX5_isSame_561 (by decide) ?_
                  obtain rfl := Option.some.inj hf
                  exact jp_387 0 0 (by omega) D H locs hP hD hS ls (lv_sub hl [] rfl)
                · replace hf := z_ip c_455 hf
                  refine lv_aload_n (pc := 458) hx hb dX5_isSame_458 rfl (lv_at hl 1 rfl) ?_
                  refine z_cpI (pc := 459) S (m_X4_unheard l X b d d2 B rfl) (cwV 0 hts gX5_isSame_X4_unheard rfl rfl rfl hdX4_unheard ⟨Nat.le_of_ble_eq_true rfl, Nat.le_of_ble_eq_true rfl⟩) hP hK hN z_S_L (ci := 4) rfl rfl rfl (show 0 ≤ 24 ∧ 0 ≤ 129 from ⟨by omega, by omega⟩) rfl hl.1 rfl (Nat.le_of_ble_eq_true rfl) dX5_isSame_459 ?_
                  refine lv_aload_n (pc := 462) hx hb dX5_isSame_462 rfl (lv_at hl 0 rfl) ?_
                  refine va_get (pc := 463) (ci := 5) (C := RX5) (T := TX5) (N := 9) (v := .int (Q.1 5)) hx hb hts in_X5 hown hK hP _ zg_0 rfl 8 (by decide) lk_fi42 (fun _ h9 => h9) rfl dX5_isSame_463 ?_
                  refine lv_icmp_ne (pc := 466) (tgt := 561) hx hb dX5_isSame_466 (by decide) (fun c_466 => ?_) (fun c_466 => ?_)
                  · replace hf := z_in c_466 hf
                    refine lv_iconst (v := 0) (pc := 561) hx hb dX5_isSame_561 (by decide) ?_
                    obtain rfl := Option.some.inj hf
                    exact jp_387 0 0 (by omega) D H locs hP hD hS ls (lv_sub hl [] rfl)
                  · replace hf := z_ip c_466 hf
                    refine lv_aload_n (pc := 469) hx hb dX5_isSame_469 rfl (lv_at hl 1 rfl) ?_
                    obtain ⟨x470, e470, hf⟩ := z_bd hf
                    refine z_cpI (pc := 470) S (m_X4_longestWaiting l X b d d2 B e470) (cwV 0 hts gX5_isSame_X4_longestWaiting rfl rfl rfl hdX4_longestWaiting ⟨Nat.le_of_ble_eq_true rfl, Nat.le_of_ble_eq_true rfl⟩) hP hK hN z_S_L (ci := 4) rfl rfl rfl (show 0 ≤ 24 ∧ 0 ≤ 129 from ⟨by omega, by omega⟩) rfl hl.1 rfl (Nat.le_of_ble_eq_true rfl) dX5_isSame_470 ?_
                    refine lv_iload_n (pc := 473) hx hb dX5_isSame_473 rfl (lv_at hl 3 rfl) ?_
                    refine lv_icmp_ne (pc := 474) (tgt := 561) hx hb dX5_isSame_474 (by decide) (fun c_474 => ?_) (fun c_474 => ?_)
                    · replace hf := z_in c_474 hf
                      refine lv_iconst (v := 0) (pc := 561) hx hb dX5_isSame_561 (by decide) ?_
                      obtain rfl := Option.some.inj hf
                      exact jp_387 0 0 (by omega) D H locs hP hD hS ls (lv_sub hl [] rfl)
                    · replace hf := z_ip c_474 hf
                      refine lv_aload_n (pc := 477) hx hb dX5_isSame_477 rfl (lv_at hl 1 rfl) ?_
                      obtain ⟨x478, e478, hf⟩ := z_bd hf
                      refine z_cpI (pc := 478) S (m_X4_crossed l X b d d2 B e478) (cwV 0 hts gX5_isSame_X4_crossed rfl rfl rfl hdX4_crossed ⟨Nat.le_of_ble_eq_true rfl, Nat.le_of_ble_eq_true rfl⟩) hP hK hN z_S_L (ci := 4) rfl rfl rfl (show 0 ≤ 24 ∧ 0 ≤ 129 from ⟨by omega, by omega⟩) rfl hl.1 rfl (Nat.le_of_ble_eq_true rfl) dX5_isSame_478 ?_
                      refine lv_iload_n (pc := 481) hx hb dX5_isSame_481 rfl (lv_at hl 2 rfl) ?_
                      refine lv_icmp_ne (pc := 482) (tgt := 561) hx hb dX5_isSame_482 (by decide) (fun c_482 => ?_) (fun c_482 => ?_)
                      · replace hf := z_in c_482 hf
                        refine lv_iconst (v := 0) (pc := 561) hx hb dX5_isSame_561 (by decide) ?_
                        obtain rfl := Option.some.inj hf
                        exact jp_387 0 0 (by omega) D H locs hP hD hS ls (lv_sub hl [] rfl)
                      · replace hf := z_ip c_482 hf
                        refine lv_aload_n (pc := 485) hx hb dX5_isSame_485 rfl (lv_at hl 1 rfl) ?_
                        obtain ⟨x486, e486, hf⟩ := z_bd hf
                        refine z_cpI (pc := 486) S (m_X4_crossingsNeeded l X b d d2 B e486) (cwV 0 hts gX5_isSame_X4_crossingsNeeded rfl rfl rfl hdX4_crossingsNeeded ⟨Nat.le_of_ble_eq_true rfl, Nat.le_of_ble_eq_true rfl⟩) hP hK hN z_S_L (ci := 4) rfl rfl rfl (show 0 ≤ 24 ∧ 0 ≤ 129 from ⟨by omega, by omega⟩) rfl hl.1 rfl (Nat.le_of_ble_eq_true rfl) dX5_isSame_486 ?_
                        refine lv_aload_n (pc := 489) hx hb dX5_isSame_489 rfl (lv_at hl 0 rfl) ?_
                        obtain ⟨x490, e490, hf⟩ := z_bd hf
                        refine z_ckI (pc := 490) (wl := (z_wB X b d d2 B)) (wr := []) S (m_X5_crossings l X a D Q  e490) (cwV 0 hts gX5_isSame_X5_crossings rfl rfl rfl hdX5_crossings ⟨Nat.le_of_ble_eq_true rfl, Nat.le_of_ble_eq_true rfl⟩) hP hK hN hA2 hD hS hA (ci := 5) rfl rfl rfl (show 0 + 24 ≤ 24 ∧ 0 + 129 ≤ 129 from ⟨by omega, by omega⟩) rfl hl.1 rfl (Nat.le_of_ble_eq_true rfl) dX5_isSame_490 (fun z u H locs hpost hP hD hS => ?_)
                        obtain ⟨rfl, D490, rfl⟩ := hpost
                        have hP : va_P X.1 vwCl (z_W (z_wB X b d d2 B) X a D490 Q []) H := hP
                        have hD : va_D A (z_W (z_wB X b d d2 B) X a D490 Q []) := hD
                        refine lv_icmp_ne (pc := 493) (tgt := 561) hx hb dX5_isSame_493 (by decide) (fun c_493 => ?_) (fun c_493 => ?_)
                        · replace hf := z_in c_493 hf
                          refine lv_iconst (v := 0) (pc := 561) hx hb dX5_isSame_561 (by decide) ?_
                          obtain rfl := Option.some.inj hf
                          exact jp_387 (0 + 24) (0 + 129) (by omega) D490 H locs hP hD hS ls (lv_sub hl [] rfl)
                        · replace hf := z_ip c_493 hf
                          refine lv_aload_n (pc := 496) hx hb dX5_isSame_496 rfl (lv_at hl 1 rfl) ?_
                          refine z_cpI (pc := 497) S (m_X4_fallen l X b d d2 B rfl) (cwV 0 hts gX5_isSame_X4_fallen rfl rfl rfl hdX4_fallen ⟨Nat.le_of_ble_eq_true rfl, Nat.le_of_ble_eq_true rfl⟩) hP hK hN z_S_L (ci := 4) rfl rfl rfl (show (0 + 24) ≤ 24 ∧ (0 + 129) ≤ 129 from ⟨by omega, by omega⟩) rfl hl.1 rfl (Nat.le_of_ble_eq_true rfl) dX5_isSame_497 ?_
                          refine lv_aload_n (pc := 500) hx hb dX5_isSame_500 rfl (lv_at hl 0 rfl) ?_
                          refine va_get (pc := 501) (ci := 5) (C := RX5) (T := TX5) (N := 9) (v := .ref D490.1.2.2) hx hb hts in_X5 hown hK hP _ zg_0 rfl 2 (by decide) lk_fi18 (fun _ h9 => h9) rfl dX5_isSame_501 ?_
                          refine va_alen (v := (nI Q.2.2.2.1)) (pc := 504) hx hb hK hP _ 0 zg_3 rfl rfl dX5_isSame_504 ?_
                          refine lv_icmp_ne (pc := 505) (tgt := 561) hx hb dX5_isSame_505 (by decide) (fun c_505 => ?_) (fun c_505 => ?_)
                          · replace hf := z_in c_505 hf
                            refine lv_iconst (v := 0) (pc := 561) hx hb dX5_isSame_561 (by decide) ?_
                            obtain rfl := Option.some.inj hf
                            exact jp_387 (0 + 24) (0 + 129) (by omega) D490 H locs hP hD hS ls (lv_sub hl [] rfl)
                          · replace hf := z_ip c_505 hf
                            refine lv_aload_n (pc := 508) hx hb dX5_isSame_508 rfl (lv_at hl 1 rfl) ?_
                            obtain ⟨x509, e509, hf⟩ := z_bd hf
                            refine z_cpI (pc := 509) S (m_X4_nextDrop l X b d d2 B e509) (cwV 0 hts gX5_isSame_X4_nextDrop rfl rfl rfl hdX4_nextDrop ⟨Nat.le_of_ble_eq_true rfl, Nat.le_of_ble_eq_true rfl⟩) hP hK hN z_S_L (ci := 4) rfl rfl rfl (show (0 + 24) ≤ 24 ∧ (0 + 129) ≤ 129 from ⟨by omega, by omega⟩) rfl hl.1 rfl (Nat.le_of_ble_eq_true rfl) dX5_isSame_509 ?_
                            refine lv_aload_n (pc := 512) hx hb dX5_isSame_512 rfl (lv_at hl 0 rfl) ?_
                            refine va_get (pc := 513) (ci := 5) (C := RX5) (T := TX5) (N := 9) (v := .ref D490.1.2.2) hx hb hts in_X5 hown hK hP _ zg_0 rfl 2 (by decide) lk_fi18 (fun _ h9 => h9) rfl dX5_isSame_513 ?_
                            refine va_alen (v := (nI Q.2.2.2.1)) (pc := 516) hx hb hK hP _ 0 zg_3 rfl rfl dX5_isSame_516 ?_
                            obtain ⟨y517, ey517, hf⟩ := z_bd hf
                            suffices jp_517 : ∀ (H : Heap) (locs : List Loc) (_ : va_P X.1 vwCl (z_W (z_wB X b d d2 B) X a D490 Q []) H) (_ : va_D A (z_W (z_wB X b d d2 B) X a D490 Q [])) (_ : va_S A s.heap H locs) (ls : Array Slot) (_ : lv_has ls 9 [(1, .ref b), (4, .int x247.2.2.1), (5, .int x247.2.2.2)]), W p l e (headSpec wsX5_isSame (z_R2 6 186 24 129)).room s m ([.ref a, .ref b] : List Value).toArray below meth c H locs (0 + 24) (0 + 129) (MQ below (va_Qi (fun (z : Int32) (u : va_W) => z = RR ∧ ∃ D1 : z_D, u = z_W (z_wB X b d d2 B) X a D1 Q []) (z_Bm X A) A) ([.ref a, .ref b] : List Value).toArray s 24 129 A) (F0 m 530 ls [.int y517, .int x509]) by
                              have hf := ey517
                              refine lv_if_ne (pc := 517) (tgt := 524) hx hb dX5_isSame_517 (by decide) (fun c_517 => ?_) (fun c_517 => ?_)
                              · replace hf := z_in c_517 hf
                                refine lv_aload_n (pc := 524) hx hb dX5_isSame_524 rfl (lv_at hl 0 rfl) ?_
                                refine va_get (pc := 525) (ci := 5) (C := RX5) (T := TX5) (N := 9) (v := .ref D490.1.2.2) hx hb hts in_X5 hown hK hP _ zg_0 rfl 2 (by decide) lk_fi18 (fun _ h9 => h9) rfl dX5_isSame_525 ?_
                                refine lv_iconst (v := 0) (pc := 528) hx hb dX5_isSame_528 (by decide) ?_
                                obtain ⟨x529, e529, hf⟩ := z_bd hf
                                refine z_iald (pc := 529) hx hb hK hP _ 0 zg_3 rfl e529 dX5_isSame_529 ?_
                                obtain rfl := Option.some.inj hf
                                exact jp_517 H locs hP hD hS ls (lv_sub hl [1, 4, 5] rfl)
                              · replace hf := z_ip c_517 hf
                                refine lv_iconst (v := (-1)) (pc := 520) hx hb dX5_isSame_520 (by decide) ?_
                                refine lv_goto (pc := 521) (tgt := 530) hx hb dX5_isSame_521 (by decide) ?_
                                obtain rfl := Option.some.inj hf
                                exact jp_517 H locs hP hD hS ls (lv_sub hl [1, 4, 5] rfl)
                            intro H locs hP hD hS ls hl
                            refine lv_icmp_ne (pc := 530) (tgt := 561) hx hb dX5_isSame_530 (by decide) (fun c_530 => ?_) (fun c_530 => ?_)
                            · replace hf := z_in c_530 hf
                              refine lv_iconst (v := 0) (pc := 561) hx hb dX5_isSame_561 (by decide) ?_
                              obtain rfl := Option.some.inj hf
                              exact jp_387 (0 + 24) (0 + 129) (by omega) D490 H locs hP hD hS ls (lv_sub hl [] rfl)
                            · replace hf := z_ip c_530 hf
                              refine lv_aload_n (pc := 533) hx hb dX5_isSame_533 rfl (lv_at hl 0 rfl) ?_
                              obtain ⟨x534, e534, hf⟩ := z_bd hf
                              refine z_cpD (pc := 534) S (m_X4_meanWait l X b d d2 B e534) (cwV 0 hts gX5_isSame_X4_meanWait rfl rfl rfl hdX4_meanWait ⟨Nat.le_of_ble_eq_true rfl, Nat.le_of_ble_eq_true rfl⟩) hP hK hN z_S_L (ci := 4) rfl rfl rfl (show (0 + 24) ≤ 24 ∧ (0 + 129) ≤ 129 from ⟨by omega, by omega⟩) rfl hl.1 rfl (Nat.le_of_ble_eq_true rfl) dX5_isSame_534 ?_
                              refine lv_iload (pc := 537) hx hb dX5_isSame_537 (lv_at hl 2 rfl) ?_
                              obtain ⟨y539, ey539, hf⟩ := z_bd hf
                              suffices jp_539 : ∀ (H : Heap) (locs : List Loc) (_ : va_P X.1 vwCl (z_W (z_wB X b d d2 B) X a D490 Q []) H) (_ : va_D A (z_W (z_wB X b d d2 B) X a D490 Q [])) (_ : va_S A s.heap H locs) (ls : Array Slot) (_ : lv_has ls 9 []), W p l e (headSpec wsX5_isSame (z_R2 6 186 24 129)).room s m ([.ref a, .ref b] : List Value).toArray below meth c H locs (0 + 24) (0 + 129) (MQ below (va_Qi (fun (z : Int32) (u : va_W) => z = RR ∧ ∃ D1 : z_D, u = z_W (z_wB X b d d2 B) X a D1 Q []) (z_Bm X A) A) ([.ref a, .ref b] : List Value).toArray s 24 129 A) (F0 m 553 ls [.double y539, .double x534]) by
                                have hf := ey539
                                refine lv_if_ne (pc := 539) (tgt := 546) hx hb dX5_isSame_539 (by decide) (fun c_539 => ?_) (fun c_539 => ?_)
                                · replace hf := z_in c_539 hf
                                  refine lv_iload (pc := 546) hx hb dX5_isSame_546 (lv_at hl 1 rfl) ?_
                                  refine lv_i2d (pc := 548) hx hb dX5_isSame_548 ?_
                                  refine lv_iload (pc := 549) hx hb dX5_isSame_549 (lv_at hl 2 rfl) ?_
                                  refine lv_i2d (pc := 551) hx hb dX5_isSame_551 ?_
                                  obtain ⟨x552, e552, hf⟩ := z_bd hf
                                  refine z_ddiv (pc := 552) hx hb e552 dX5_isSame_552 ?_
                                  obtain rfl := Option.some.inj hf
                                  exact jp_539 H locs hP hD hS ls (lv_sub hl [] rfl)
                                · replace hf := z_ip c_539 hf
                                  refine lv_dconst0 (pc := 542) hx hb dX5_isSame_542 ?_
                                  refine lv_goto (pc := 543) (tgt := 553) hx hb dX5_isSame_543 (by decide) ?_
                                  obtain rfl := Option.some.inj hf
                                  exact jp_539 H locs hP hD hS ls (lv_sub hl [] rfl)
                              intro H locs hP hD hS ls hl
                              refine lv_dcmp (pc := 553) hx hb dX5_isSame_553 ?_
                              refine lv_if_ne (pc := 554) (tgt := 561) hx hb dX5_isSame_554 (by decide) (fun c_554 => ?_) (fun c_554 => ?_)
                              · replace hf := z_in c_554 hf
                                refine lv_iconst (v := 0) (pc := 561) hx hb dX5_isSame_561 (by decide) ?_
                                obtain rfl := Option.some.inj hf
                                exact jp_387 (0 + 24) (0 + 129) (by omega) D490 H locs hP hD hS ls (lv_sub hl [] rfl)
                              · replace hf := z_ip c_554 hf
                                refine lv_iconst (v := 1) (pc := 557) hx hb dX5_isSame_557 (by decide) ?_
                                refine lv_goto (pc := 558) (tgt := 562) hx hb dX5_isSame_558 (by decide) ?_
                                obtain rfl := Option.some.inj hf
                                exact jp_387 (0 + 24) (0 + 129) (by omega) D490 H locs hP hD hS ls (lv_sub hl [] rfl)
  intro k387 s387 hk387 D387 H locs hP hD hS ls hl
  refine W.widen (k := 24) (n := 129) (by omega) (by omega) ?_
  obtain ⟨x562, e562, hf⟩ := z_bd hf
  obtain ⟨e_bo, h_bo⟩ := z_bo_s e562
  exact W.zret (pc := 562) (v := y387) hx hb hr h_bo (fun t ht hW => ⟨⟨_, (z_W (z_wB X b d d2 B) X a D387 Q []), rfl, ⟨e_bo.trans (Option.some.inj hf), D387, rfl⟩, by rw [ht]; exact z_dropW hP, z_dropV hD⟩, hS.F ht⟩) hS.2.2 dX5_isSame_562
