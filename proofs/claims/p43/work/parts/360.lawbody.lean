-- ===== the law's body =====
set_option maxHeartbeats 64000000 in
set_option maxRecDepth 100000 in
theorem w_L_law {p : Program} {l : Launch} {e : Env} {s : State} {m : MethodId} {below : List Frame} {meth : Method} {c : Code} {X : z_X} {b : Nat} {d d2 : Nat → Nat} {B : z_B} {a : Nat} {D : z_D} {Q : z_Q} {sb L : Nat} {xs : Nat → Int32} {A : Nat → Prop} {QQ : State → Prop} {RR : Int32} (hl0 : l.stackTraces = false) (S : CallFix p m c cL_law 28 s #[Value.ref sb] wsL_law RL) (hK : va_K X.1 vwCl (z_ty X) s) (hN : z_N s) (hA2 : z_A2 X s) (hT : z_T A s s.heap) (hXs : va_X sb L xs s s.heap) (hbl : sb < s.heap.size) (hbA : ¬ A sb) (hA : ∀ q, s.heap.size ≤ q → A q) (k0 s0 : Nat) (hk0 : k0 + 129568 ≤ room_1.cells ∧ s0 + 1684201 ≤ room_1.slots) (hf : f_L_lawb L xs B Q = some RR) (kend : ∀ (k1 s1 : Nat) (H : Heap) (locs : List Loc), k1 ≤ room_1.cells → s1 ≤ room_1.slots → va_S A s.heap H locs → ∀ (ls : Array Slot) {z : Int32}, z = RR → W p l e room_1 s m #[Value.ref sb] below meth c H locs k1 s1 QQ (F0 m 1248 ls [.int z])) (H : Heap) (locs : List Loc) (hP : va_P X.1 vwCl (z_W (z_wB X b d d2 B) X a D Q []) H) (hD : va_D A (z_W (z_wB X b d d2 B) X a D Q [])) (hS : va_S A s.heap H locs) (ls : Array Slot) (hl : lv_has ls 28 [(0, .ref sb), (1, .ref b), (2, .ref a)]) : W p l e room_1 s m #[Value.ref sb] below meth c H locs k0 s0 QQ (F0 m 20 ls []) := by
  obtain ⟨hx, hb, hml, hown, hts⟩ := id S
  have lk_fi9 := hts (.fieldLink RL 9 "HouseBellsLaw$Sim" "rooms" "[[I") (List.mem_of_getElem? (i := 4) rfl)
  have lk_fi15 := hts (.fieldLink RL 15 "HouseBellsLaw$Sim" "servants" "[[I") (List.mem_of_getElem? (i := 9) rfl)
  have in_X5 : ∀ w ∈ wsX50, w ∈ wsL_law := inlX5
  have lp_47 : ∀ (n : Nat) (kC kS kc ks : Nat) (hk : (kc + n * 1792 ≤ kC ∧ ks + n * 23296 ≤ kS) ∧ kC ≤ room_1.cells ∧ kS ≤ room_1.slots) (D : z_D) (u3 : Int32) (u4 : Int32) (u5 : Int32) (Q : z_Q) (B : z_B) (T : (Int32 × Int32 × z_Q × z_B)) (H : Heap) (locs : List Loc), va_P X.1 vwCl (z_W (z_wB X b d d2 B) X a D Q []) H → va_D A (z_W (z_wB X b d d2 B) X a D Q []) → va_S A s.heap H locs → ∀ (ls : Array Slot), lv_has ls 28 [(0, .ref sb), (1, .ref b), (2, .ref a), (3, .int u3), (4, .int u4), (5, .int u5)] → f_L_law_L47 L xs n u3 u4 u5 Q B = some T → (∀ (k1 s1 : Nat) (_ : k1 ≤ kC ∧ s1 ≤ kS) (D1 : z_D) (H : Heap) (locs : List Loc), va_P X.1 vwCl (z_W (z_wB X b d d2 T.2.2.2) X a D1 T.2.2.1 []) H → va_D A (z_W (z_wB X b d d2 T.2.2.2) X a D1 T.2.2.1 []) → va_S A s.heap H locs → ∀ (ls : Array Slot), lv_has ls 28 [(0, .ref sb), (1, .ref b), (2, .ref a), (3, .int T.1), (4, .int T.2.1)] → W p l e room_1 s m #[Value.ref sb] below meth c H locs k1 s1 QQ (F0 m 82 ls [])) → W p l e room_1 s m #[Value.ref sb] below meth c H locs kc ks QQ (F0 m 47 ls []) := by
    intro n
    induction n with
    | zero =>
      intro kC kS kc ks hk D u3 u4 u5 Q B T H locs hP hD hS ls hl hf kk
      cases hf
    | succ n ih =>
      intro kC kS kc ks hk D u3 u4 u5 Q B T H locs hP hD hS ls hl hf kk
      rw [f_L_law_L47] at hf
      refine lv_iload (pc := 47) hx hb dL_law_47 (lv_at hl 5 rfl) ?_
      refine lv_iconst (v := 3) (pc := 49) hx hb dL_law_49 (by decide) ?_
      refine lv_icmp_ge (pc := 50) (tgt := 82) hx hb dL_law_50 (by decide) (fun c_50 => ?_) (fun c_50 => ?_)
      · replace hf := z_ip c_50 hf
        obtain rfl := Option.some.inj hf
        exact kk kc ks (by omega) D H locs hP hD hS ls (lv_sub hl [0, 1, 2, 3, 4] rfl)
      · replace hf := z_in c_50 hf
        refine lv_aload_n (pc := 53) hx hb dL_law_53 rfl (lv_at hl 1 rfl) ?_
        refine lv_aload_n (pc := 54) hx hb dL_law_54 rfl (lv_at hl 2 rfl) ?_
        refine lv_iload (pc := 55) hx hb dL_law_55 (lv_at hl 4 rfl) ?_
        refine lv_iconst (v := 3) (pc := 57) hx hb dL_law_57 (by decide) ?_
        refine lv_iload (pc := 58) hx hb dL_law_58 (lv_at hl 5 rfl) ?_
        refine lv_imul (pc := 60) hx hb dL_law_60 ?_
        refine lv_ishr (pc := 61) hx hb dL_law_61 ?_
        refine lv_bipush (v := 29) (pc := 62) hx hb dL_law_62 (by decide) ?_
        refine lv_iload (pc := 64) hx hb dL_law_64 (lv_at hl 5 rfl) ?_
        refine lv_imul (pc := 66) hx hb dL_law_66 ?_
        refine lv_iadd (pc := 67) hx hb dL_law_67 ?_
        obtain ⟨x68, e68, hf⟩ := z_bd hf
        refine z_cwaI (pc := 68) S (m_L_act l hl0 X b d d2 B a D Q ((u4 >>> ((3 * u5) &&& 31)) + (29 * u5)) e68) (vx_cwSW 3 hts gL_law_L_act rfl rfl rfl hdL_act ⟨Nat.le_of_ble_eq_true rfl, Nat.le_of_ble_eq_true rfl⟩) hP hK hN hA2 (hT.kept (fun q h1 h2 => hS.2.1 q h1 h2)) hD hS hA (show kc + 1792 ≤ room_1.cells ∧ ks + 23296 ≤ room_1.slots from ⟨by omega, by omega⟩) rfl hl.1 rfl (Nat.le_of_ble_eq_true rfl) dL_law_68 (fun z u H locs hpost hP hD hS => ?_)
        obtain ⟨rfl, D68, rfl⟩ := hpost
        have hP : va_P X.1 vwCl (z_W (z_wB X b d d2 x68.2.1) X a D68 x68.2.2 []) H := hP
        have hD : va_D A (z_W (z_wB X b d d2 x68.2.1) X a D68 x68.2.2 []) := hD
        refine lv_if_ne (pc := 71) (tgt := 76) hx hb dL_law_71 (by decide) (fun c_71 => ?_) (fun c_71 => ?_)
        · replace hf := z_in c_71 hf
          refine lv_iinc (pc := 76) (v := (u5 + 1)) (lv' := [(5, .int (u5 + 1)), (0, .ref sb), (1, .ref b), (2, .ref a), (3, .int u3), (4, .int u4)]) hx hb dL_law_76 hl (k := 5) rfl rfl (by decide) rfl (fun ls hl => ?_)
          refine lv_goto (pc := 79) (tgt := 47) hx hb dL_law_79 (by decide) ?_
          exact ih kC kS (kc + 1792) (ks + 23296) (by omega) D68 u3 u4 (u5 + 1) x68.2.2 x68.2.1 T H locs hP hD hS ls (lv_sub hl [1, 2, 3, 4, 5, 0] rfl) hf kk
        · replace hf := z_ip c_71 hf
          cases hf
  have lp_389 : ∀ (n : Nat) (kc ks : Nat) (hk : kc ≤ room_1.cells ∧ ks ≤ room_1.slots) (D : z_D) (qe0 : Nat) (u3 : Int32) (u4 : Int32) (u5 : Int64) (u7 : Int32) (u8 : Int32) (u9 : Int32) (u10 : Int32) (u12 : Int32) (u14 : Int32) (u15 : Int32) (Q : z_Q) (B : z_B) (N0 : Nat) (g0 : (Nat → Int32)) (T : (Int32 × Int32 × Int64 × Int32 × Int32 × Int32 × Int32 × Int32)) (H : Heap) (locs : List Loc), va_P X.1 vwCl (z_W (z_wB X b d d2 B) X a D Q [(qe0, .inl (X.2.2.1, N0, .inl g0))]) H → va_D A (z_W (z_wB X b d d2 B) X a D Q [(qe0, .inl (X.2.2.1, N0, .inl g0))]) → va_S A s.heap H locs → ∀ (ls : Array Slot), lv_has ls 28 [(0, .ref sb), (1, .ref b), (2, .ref a), (3, .int u3), (4, .int u4), (5, .long u5), (7, .int u7), (8, .int u8), (9, .int u9), (10, .int u10), (11, .ref qe0), (12, .int u12), (14, .int u14), (15, .int u15)] → f_L_law_L389 L xs n u3 u4 u5 u7 u8 u9 u10 u12 u14 u15 Q B N0 g0 = some T → (∀ (H : Heap) (locs : List Loc), va_P X.1 vwCl (z_W (z_wB X b d d2 B) X a D Q [(qe0, .inl (X.2.2.1, N0, .inl g0))]) H → va_D A (z_W (z_wB X b d d2 B) X a D Q [(qe0, .inl (X.2.2.1, N0, .inl g0))]) → va_S A s.heap H locs → ∀ (ls : Array Slot), lv_has ls 28 [(0, .ref sb), (1, .ref b), (2, .ref a), (3, .int T.1), (4, .int T.2.1), (5, .long T.2.2.1), (7, .int T.2.2.2.1), (8, .int T.2.2.2.2.1), (9, .int T.2.2.2.2.2.1), (10, .int T.2.2.2.2.2.2.1), (11, .ref qe0), (12, .int T.2.2.2.2.2.2.2)] → W p l e room_1 s m #[Value.ref sb] below meth c H locs kc ks QQ (F0 m 634 ls [])) → W p l e room_1 s m #[Value.ref sb] below meth c H locs kc ks QQ (F0 m 389 ls []) := by
    intro n
    induction n with
    | zero =>
      intro kc ks hk D qe0 u3 u4 u5 u7 u8 u9 u10 u12 u14 u15 Q B N0 g0 T H locs hP hD hS ls hl hf kk
      cases hf
    | succ n ih =>
      intro kc ks hk D qe0 u3 u4 u5 u7 u8 u9 u10 u12 u14 u15 Q B N0 g0 T H locs hP hD hS ls hl hf kk
      rw [f_L_law_L389] at hf
      refine lv_iload (pc := 389) hx hb dL_law_389 (lv_at hl 13 rfl) ?_
      refine lv_iload (pc := 391) hx hb dL_law_391 (lv_at hl 7 rfl) ?_
      refine lv_icmp_ge (pc := 393) (tgt := 634) hx hb dL_law_393 (by decide) (fun c_393 => ?_) (fun c_393 => ?_)
      · replace hf := z_ip c_393 hf
        obtain rfl := Option.some.inj hf
        exact kk H locs hP hD hS ls (lv_sub hl [0, 1, 2, 3, 4, 5, 6, 7, 8, 9, 10, 11] rfl)
      · replace hf := z_in c_393 hf
        refine lv_aload_n (pc := 396) hx hb dL_law_396 rfl (lv_at hl 1 rfl) ?_
        refine lv_iload (pc := 397) hx hb dL_law_397 (lv_at hl 13 rfl) ?_
        obtain ⟨x399, e399, hf⟩ := z_bd hf
        refine z_cpI (pc := 399) S (m_X4_goesTo l X b d d2 B u15 e399) (cwV 1 hts gL_law_X4_goesTo rfl rfl rfl hdX4_goesTo ⟨Nat.le_of_ble_eq_true rfl, Nat.le_of_ble_eq_true rfl⟩) hP hK hN z_S_L (ci := 4) rfl rfl rfl (show kc ≤ room_1.cells ∧ ks ≤ room_1.slots from ⟨by omega, by omega⟩) rfl hl.1 rfl (Nat.le_of_ble_eq_true rfl) dL_law_399 ?_
        obtain ⟨y402, ey402, hf⟩ := z_bd hf
        suffices jp_402 : ∀ (H : Heap) (locs : List Loc) (_ : va_P X.1 vwCl (z_W (z_wB X b d d2 B) X a D Q [(qe0, .inl (X.2.2.1, N0, .inl g0))]) H) (_ : va_D A (z_W (z_wB X b d d2 B) X a D Q [(qe0, .inl (X.2.2.1, N0, .inl g0))])) (_ : va_S A s.heap H locs) (ls : Array Slot) (_ : lv_has ls 28 [(0, .ref sb), (1, .ref b), (2, .ref a), (3, .int u3), (4, .int u4), (5, .long u5), (7, .int u7), (8, .int u8), (9, .int u9), (10, .int u10), (11, .ref qe0), (12, .int u12), (14, .int u14), (15, .int u15)]), W p l e room_1 s m #[Value.ref sb] below meth c H locs kc ks QQ (F0 m 419 ls [.int y402]) by
          have hf := ey402
          refine lv_if_ge (pc := 402) (tgt := 418) hx hb dL_law_402 (by decide) (fun c_402 => ?_) (fun c_402 => ?_)
          · replace hf := z_ip c_402 hf
            refine lv_iconst (v := 0) (pc := 418) hx hb dL_law_418 (by decide) ?_
            obtain rfl := Option.some.inj hf
            exact jp_402 H locs hP hD hS ls (lv_sub hl [0, 1, 2, 3, 4, 5, 6, 7, 8, 9, 10, 11, 12, 13] rfl)
          · replace hf := z_in c_402 hf
            refine lv_aload_n (pc := 405) hx hb dL_law_405 rfl (lv_at hl 1 rfl) ?_
            refine lv_iload (pc := 406) hx hb dL_law_406 (lv_at hl 13 rfl) ?_
            obtain ⟨x408, e408, hf⟩ := z_bd hf
            refine z_cpI (pc := 408) S (m_X4_serves l X b d d2 B u15 e408) (cwV 1 hts gL_law_X4_serves rfl rfl rfl hdX4_serves ⟨Nat.le_of_ble_eq_true rfl, Nat.le_of_ble_eq_true rfl⟩) hP hK hN z_S_L (ci := 4) rfl rfl rfl (show kc ≤ room_1.cells ∧ ks ≤ room_1.slots from ⟨by omega, by omega⟩) rfl hl.1 rfl (Nat.le_of_ble_eq_true rfl) dL_law_408 ?_
            refine lv_if_ge (pc := 411) (tgt := 418) hx hb dL_law_411 (by decide) (fun c_411 => ?_) (fun c_411 => ?_)
            · replace hf := z_ip c_411 hf
              refine lv_iconst (v := 0) (pc := 418) hx hb dL_law_418 (by decide) ?_
              obtain rfl := Option.some.inj hf
              exact jp_402 H locs hP hD hS ls (lv_sub hl [0, 1, 2, 3, 4, 5, 6, 7, 8, 9, 10, 11, 12, 13] rfl)
            · replace hf := z_in c_411 hf
              refine lv_iconst (v := 1) (pc := 414) hx hb dL_law_414 (by decide) ?_
              refine lv_goto (pc := 415) (tgt := 419) hx hb dL_law_415 (by decide) ?_
              obtain rfl := Option.some.inj hf
              exact jp_402 H locs hP hD hS ls (lv_sub hl [0, 1, 2, 3, 4, 5, 6, 7, 8, 9, 10, 11, 12, 13] rfl)
        intro H locs hP hD hS ls hl
        refine lv_istore (pc := 419) (lv' := [(16, .int y402), (0, .ref sb), (1, .ref b), (2, .ref a), (3, .int u3), (4, .int u4), (5, .long u5), (7, .int u7), (8, .int u8), (9, .int u9), (10, .int u10), (11, .ref qe0), (12, .int u12), (14, .int u14), (15, .int u15)]) hx hb dL_law_419 hl (by decide) rfl (fun ls hl => ?_)
        refine lv_aload_n (pc := 421) hx hb dL_law_421 rfl (lv_at hl 2 rfl) ?_
        refine lv_iload (pc := 422) hx hb dL_law_422 (lv_at hl 14 rfl) ?_
        obtain ⟨x424, e424, hf⟩ := z_bd hf
        refine z_cpI (pc := 424) S (m_X4_floorOf l X b d d2 B u15 e424) (cwV 1 hts gL_law_X4_floorOf rfl rfl rfl hdX4_floorOf ⟨Nat.le_of_ble_eq_true rfl, Nat.le_of_ble_eq_true rfl⟩) hP hK hN z_S_L (ci := 4) rfl rfl rfl (show kc ≤ room_1.cells ∧ ks ≤ room_1.slots from ⟨by omega, by omega⟩) rfl hl.1 rfl (Nat.le_of_ble_eq_true rfl) dL_law_424 ?_
        refine lv_aload_n (pc := 427) hx hb dL_law_427 rfl (lv_at hl 3 rfl) ?_
        refine va_get (pc := 428) (ci := 5) (C := RX5) (T := TX5) (N := 9) (v := .ref D.1.1) hx hb hts in_X5 hown hK hP _ zg_0 rfl 0 (by decide) lk_fi9 (fun _ h9 => h9) rfl dL_law_428 ?_
        refine lv_iload (pc := 431) hx hb dL_law_431 (lv_at hl 12 rfl) ?_
        obtain ⟨x433, e433, hf⟩ := z_bd hf
        refine z_aald (pc := 433) hx hb hK hP _ 2 zg_1 rfl e433 dL_law_433 ?_
        refine lv_iconst (v := 0) (pc := 434) hx hb dL_law_434 (by decide) ?_
        refine z_iald (pc := 435) hx hb hK hP _ 0 (zg_r (z_ai_lt e433)) rfl (show z_at _ 0 _ = some (Q.2.1.2 x433 0) from rfl) dL_law_435 ?_
        refine lv_isub (pc := 436) hx hb dL_law_436 ?_
        have hml2 : c.maxLocals = ls.size := by rw [hml]; exact hl.1.symm
        refine va_mabs (pc := 437) hx hb hml2 hown (hts _ (List.mem_of_getElem? (i := 5) rfl)) (hts _ (List.mem_of_getElem? (i := 6) rfl)) (hts _ (List.mem_of_getElem? (i := 7) rfl)) (hts _ (List.mem_of_getElem? (i := 8) rfl)) (Nat.le_of_ble_eq_true rfl) (Nat.le_of_ble_eq_true rfl) (show kc ≤ room_1.cells from by omega) (show ks ≤ room_1.slots from by omega) dL_law_437 ?_
        refine lv_istore (pc := 440) (lv' := [(17, .int (if 0 ≤ (x424 - (Q.2.1.2 x433 0)) then (x424 - (Q.2.1.2 x433 0)) else 0 - (x424 - (Q.2.1.2 x433 0)))), (16, .int y402), (0, .ref sb), (1, .ref b), (2, .ref a), (3, .int u3), (4, .int u4), (5, .long u5), (7, .int u7), (8, .int u8), (9, .int u9), (10, .int u10), (11, .ref qe0), (12, .int u12), (14, .int u14), (15, .int u15)]) hx hb dL_law_440 hl (by decide) rfl (fun ls hl => ?_)
        refine lv_aload_n (pc := 442) hx hb dL_law_442 rfl (lv_at hl 4 rfl) ?_
        refine va_get (pc := 443) (ci := 5) (C := RX5) (T := TX5) (N := 9) (v := .ref D.1.2.1) hx hb hts in_X5 hown hK hP _ zg_0 rfl 1 (by decide) lk_fi15 (fun _ h9 => h9) rfl dL_law_443 ?_
        refine lv_iload (pc := 446) hx hb dL_law_446 (lv_at hl 15 rfl) ?_
        obtain ⟨x448, e448, hf⟩ := z_bd hf
        refine z_aald (pc := 448) hx hb hK hP _ 2 zg_2 rfl e448 dL_law_448 ?_
        refine lv_iconst (v := 0) (pc := 449) hx hb dL_law_449 (by decide) ?_
        refine z_iald (pc := 450) hx hb hK hP _ 0 (zg_v (z_ai_lt e448)) rfl (show z_at _ 0 _ = some (Q.2.2.1.2 x448 0) from rfl) dL_law_450 ?_
        refine lv_istore (pc := 451) (lv' := [(18, .int (Q.2.2.1.2 x448 0)), (17, .int (if 0 ≤ (x424 - (Q.2.1.2 x433 0)) then (x424 - (Q.2.1.2 x433 0)) else 0 - (x424 - (Q.2.1.2 x433 0)))), (16, .int y402), (0, .ref sb), (1, .ref b), (2, .ref a), (3, .int u3), (4, .int u4), (5, .long u5), (7, .int u7), (8, .int u8), (9, .int u9), (10, .int u10), (11, .ref qe0), (12, .int u12), (14, .int u14), (15, .int u15)]) hx hb dL_law_451 hl (by decide) rfl (fun ls hl => ?_)
        refine lv_aload_n (pc := 453) hx hb dL_law_453 rfl (lv_at hl 4 rfl) ?_
        refine lv_iload (pc := 454) hx hb dL_law_454 (lv_at hl 16 rfl) ?_
        refine lv_iload (pc := 456) hx hb dL_law_456 (lv_at hl 14 rfl) ?_
        obtain ⟨x458, e458, hf⟩ := z_bd hf
        refine z_cpI (pc := 458) S (m_X4_wayTo l X b d d2 B u15 u12 e458) (cwV 2 hts gL_law_X4_wayTo rfl rfl rfl hdX4_wayTo ⟨Nat.le_of_ble_eq_true rfl, Nat.le_of_ble_eq_true rfl⟩) hP hK hN z_S_L (ci := 4) rfl rfl rfl (show kc ≤ room_1.cells ∧ ks ≤ room_1.slots from ⟨by omega, by omega⟩) rfl hl.1 rfl (Nat.le_of_ble_eq_true rfl) dL_law_458 ?_
        refine lv_istore (pc := 461) (lv' := [(19, .int x458), (18, .int (Q.2.2.1.2 x448 0)), (17, .int (if 0 ≤ (x424 - (Q.2.1.2 x433 0)) then (x424 - (Q.2.1.2 x433 0)) else 0 - (x424 - (Q.2.1.2 x433 0)))), (16, .int y402), (0, .ref sb), (1, .ref b), (2, .ref a), (3, .int u3), (4, .int u4), (5, .long u5), (7, .int u7), (8, .int u8), (9, .int u9), (10, .int u10), (11, .ref qe0), (12, .int u12), (14, .int u14), (15, .int u15)]) hx hb dL_law_461 hl (by decide) rfl (fun ls hl => ?_)
        refine lv_iload (pc := 463) hx hb dL_law_463 (lv_at hl 0 rfl) ?_
        refine lv_iconst (v := 1) (pc := 465) hx hb dL_law_465 (by decide) ?_
        refine lv_icmp_lt (pc := 466) (tgt := 626) hx hb dL_law_466 (by decide) (fun c_466 => ?_) (fun c_466 => ?_)
        · replace hf := z_ip c_466 hf
          cases hf
        · replace hf := z_in c_466 hf
          refine lv_iload (pc := 469) hx hb dL_law_469 (lv_at hl 0 rfl) ?_
          refine lv_iconst (v := 5) (pc := 471) hx hb dL_law_471 (by decide) ?_
          refine lv_icmp_gt (pc := 472) (tgt := 626) hx hb dL_law_472 (by decide) (fun c_472 => ?_) (fun c_472 => ?_)
          · replace hf := z_ip c_472 hf
            cases hf
          · replace hf := z_in c_472 hf
            refine lv_iload (pc := 475) hx hb dL_law_475 (lv_at hl 0 rfl) ?_
            refine lv_iload (pc := 477) hx hb dL_law_477 (lv_at hl 1 rfl) ?_
            refine lv_imul (pc := 479) hx hb dL_law_479 ?_
            refine lv_iload (pc := 480) hx hb dL_law_480 (lv_at hl 2 rfl) ?_
            refine lv_icmp_lt (pc := 482) (tgt := 626) hx hb dL_law_482 (by decide) (fun c_482 => ?_) (fun c_482 => ?_)
            · replace hf := z_ip c_482 hf
              cases hf
            · replace hf := z_in c_482 hf
              refine lv_iload (pc := 485) hx hb dL_law_485 (lv_at hl 0 rfl) ?_
              refine lv_iconst (v := 1) (pc := 487) hx hb dL_law_487 (by decide) ?_
              obtain ⟨y488, ey488, hf⟩ := z_bd hf
              suffices jp_488 : ∀ (H : Heap) (locs : List Loc) (_ : va_P X.1 vwCl (z_W (z_wB X b d d2 B) X a D Q [(qe0, .inl (X.2.2.1, N0, .inl g0))]) H) (_ : va_D A (z_W (z_wB X b d d2 B) X a D Q [(qe0, .inl (X.2.2.1, N0, .inl g0))])) (_ : va_S A s.heap H locs) (ls : Array Slot) (_ : lv_has ls 28 [(0, .ref sb), (1, .ref b), (2, .ref a), (3, .int u3), (4, .int u4), (5, .long u5), (7, .int u7), (8, .int u8), (9, .int u9), (10, .int u10), (11, .ref qe0), (12, .int u12), (14, .int u14), (15, .int u15), (16, .int y402), (19, .int x458)]), W p l e room_1 s m #[Value.ref sb] below meth c H locs kc ks QQ (F0 m 503 ls []) by
                have hf := ey488
                refine lv_icmp_le (pc := 488) (tgt := 503) hx hb dL_law_488 (by decide) (fun c_488 => ?_) (fun c_488 => ?_)
                · replace hf := z_ip c_488 hf
                  obtain rfl := Option.some.inj hf
                  exact jp_488 H locs hP hD hS ls (lv_sub hl [4, 5, 6, 7, 8, 9, 10, 11, 12, 13, 14, 15, 16, 17, 3, 0] rfl)
                · replace hf := z_in c_488 hf
                  refine lv_iload (pc := 491) hx hb dL_law_491 (lv_at hl 0 rfl) ?_
                  refine lv_iconst (v := 1) (pc := 493) hx hb dL_law_493 (by decide) ?_
                  refine lv_isub (pc := 494) hx hb dL_law_494 ?_
                  refine lv_iload (pc := 495) hx hb dL_law_495 (lv_at hl 1 rfl) ?_
                  refine lv_imul (pc := 497) hx hb dL_law_497 ?_
                  refine lv_iload (pc := 498) hx hb dL_law_498 (lv_at hl 2 rfl) ?_
                  refine lv_icmp_ge (pc := 500) (tgt := 626) hx hb dL_law_500 (by decide) (fun c_500 => ?_) (fun c_500 => ?_)
                  · replace hf := z_ip c_500 hf
                    cases hf
                  · replace hf := z_in c_500 hf
                    obtain rfl := Option.some.inj hf
                    exact jp_488 H locs hP hD hS ls (lv_sub hl [4, 5, 6, 7, 8, 9, 10, 11, 12, 13, 14, 15, 16, 17, 3, 0] rfl)
              intro H locs hP hD hS ls hl
              refine lv_iload (pc := 503) hx hb dL_law_503 (lv_at hl 14 rfl) ?_
              obtain ⟨y505, ey505, hf⟩ := z_bd hf
              suffices jp_505 : ∀ (H : Heap) (locs : List Loc) (_ : va_P X.1 vwCl (z_W (z_wB X b d d2 B) X a D Q [(qe0, .inl (X.2.2.1, N0, .inl g0))]) H) (_ : va_D A (z_W (z_wB X b d d2 B) X a D Q [(qe0, .inl (X.2.2.1, N0, .inl g0))])) (_ : va_S A s.heap H locs) (ls : Array Slot) (_ : lv_has ls 28 [(0, .ref sb), (1, .ref b), (2, .ref a), (3, .int u3), (4, .int u4), (5, .long u5), (7, .int u7), (8, .int u8), (9, .int u9), (10, .int u10), (11, .ref qe0), (12, .int u12), (14, .int u14), (15, .int u15), (16, .int y402)]), W p l e room_1 s m #[Value.ref sb] below meth c H locs kc ks QQ (F0 m 546 ls []) by
                have hf := ey505
                refine lv_if_eq (pc := 505) (tgt := 546) hx hb dL_law_505 (by decide) (fun c_505 => ?_) (fun c_505 => ?_)
                · replace hf := z_ip c_505 hf
                  obtain rfl := Option.some.inj hf
                  exact jp_505 H locs hP hD hS ls (lv_sub hl [0, 1, 2, 3, 4, 5, 6, 7, 8, 9, 10, 11, 12, 13, 14] rfl)
                · replace hf := z_in c_505 hf
                  refine lv_iload (pc := 508) hx hb dL_law_508 (lv_at hl 12 rfl) ?_
                  refine lv_if_lt (pc := 510) (tgt := 626) hx hb dL_law_510 (by decide) (fun c_510 => ?_) (fun c_510 => ?_)
                  · replace hf := z_ip c_510 hf
                    cases hf
                  · replace hf := z_in c_510 hf
                    refine lv_aload_n (pc := 513) hx hb dL_law_513 rfl (lv_at hl 1 rfl) ?_
                    refine lv_iload (pc := 514) hx hb dL_law_514 (lv_at hl 12 rfl) ?_
                    refine lv_iload (pc := 516) hx hb dL_law_516 (lv_at hl 11 rfl) ?_
                    obtain ⟨x518, e518, hf⟩ := z_bd hf
                    refine z_cpI (pc := 518) S (m_X4_wayTo l X b d d2 B u14 u12 e518) (cwV 2 hts gL_law_X4_wayTo rfl rfl rfl hdX4_wayTo ⟨Nat.le_of_ble_eq_true rfl, Nat.le_of_ble_eq_true rfl⟩) hP hK hN z_S_L (ci := 4) rfl rfl rfl (show kc ≤ room_1.cells ∧ ks ≤ room_1.slots from ⟨by omega, by omega⟩) rfl hl.1 rfl (Nat.le_of_ble_eq_true rfl) dL_law_518 ?_
                    refine lv_iload (pc := 521) hx hb dL_law_521 (lv_at hl 15 rfl) ?_
                    refine lv_icmp_gt (pc := 523) (tgt := 626) hx hb dL_law_523 (by decide) (fun c_523 => ?_) (fun c_523 => ?_)
                    · replace hf := z_ip c_523 hf
                      cases hf
                    · replace hf := z_in c_523 hf
                      refine lv_aload_n (pc := 526) hx hb dL_law_526 rfl (lv_at hl 1 rfl) ?_
                      refine lv_iload (pc := 527) hx hb dL_law_527 (lv_at hl 12 rfl) ?_
                      refine lv_iload (pc := 529) hx hb dL_law_529 (lv_at hl 11 rfl) ?_
                      obtain ⟨x531, e531, hf⟩ := z_bd hf
                      refine z_cpI (pc := 531) S (m_X4_wayTo l X b d d2 B u14 u12 e531) (cwV 2 hts gL_law_X4_wayTo rfl rfl rfl hdX4_wayTo ⟨Nat.le_of_ble_eq_true rfl, Nat.le_of_ble_eq_true rfl⟩) hP hK hN z_S_L (ci := 4) rfl rfl rfl (show kc ≤ room_1.cells ∧ ks ≤ room_1.slots from ⟨by omega, by omega⟩) rfl hl.1 rfl (Nat.le_of_ble_eq_true rfl) dL_law_531 ?_
                      refine lv_iload (pc := 534) hx hb dL_law_534 (lv_at hl 15 rfl) ?_
                      refine lv_icmp_ne (pc := 536) (tgt := 546) hx hb dL_law_536 (by decide) (fun c_536 => ?_) (fun c_536 => ?_)
                      · replace hf := z_in c_536 hf
                        obtain rfl := Option.some.inj hf
                        exact jp_505 H locs hP hD hS ls (lv_sub hl [0, 1, 2, 3, 4, 5, 6, 7, 8, 9, 10, 11, 12, 13, 14] rfl)
                      · replace hf := z_ip c_536 hf
                        refine lv_iload (pc := 539) hx hb dL_law_539 (lv_at hl 12 rfl) ?_
                        refine lv_iload (pc := 541) hx hb dL_law_541 (lv_at hl 13 rfl) ?_
                        refine lv_icmp_gt (pc := 543) (tgt := 626) hx hb dL_law_543 (by decide) (fun c_543 => ?_) (fun c_543 => ?_)
                        · replace hf := z_ip c_543 hf
                          cases hf
                        · replace hf := z_in c_543 hf
                          obtain rfl := Option.some.inj hf
                          exact jp_505 H locs hP hD hS ls (lv_sub hl [0, 1, 2, 3, 4, 5, 6, 7, 8, 9, 10, 11, 12, 13, 14] rfl)
              intro H locs hP hD hS ls hl
              refine lv_iload (pc := 546) hx hb dL_law_546 (lv_at hl 12 rfl) ?_
              refine lv_iload (pc := 548) hx hb dL_law_548 (lv_at hl 13 rfl) ?_
              obtain ⟨y550, ey550, hf⟩ := z_bd hf
              suffices jp_550 : ∀ (H : Heap) (locs : List Loc) (_ : va_P X.1 vwCl (z_W (z_wB X b d d2 B) X a D Q [(qe0, .inl (X.2.2.1, N0, .inl g0))]) H) (_ : va_D A (z_W (z_wB X b d d2 B) X a D Q [(qe0, .inl (X.2.2.1, N0, .inl g0))])) (_ : va_S A s.heap H locs) (ls : Array Slot) (_ : lv_has ls 28 [(0, .ref sb), (1, .ref b), (2, .ref a), (3, .int u3), (4, .int u4), (5, .long u5), (7, .int u7), (8, .int u8), (9, .int u9), (10, .int u10), (11, .ref qe0), (12, .int u12), (14, .int u14), (15, .int u15), (16, .int y402)]), W p l e room_1 s m #[Value.ref sb] below meth c H locs kc ks QQ (F0 m 558 ls []) by
                have hf := ey550
                refine lv_icmp_ne (pc := 550) (tgt := 558) hx hb dL_law_550 (by decide) (fun c_550 => ?_) (fun c_550 => ?_)
                · replace hf := z_in c_550 hf
                  obtain rfl := Option.some.inj hf
                  exact jp_550 H locs hP hD hS ls (lv_sub hl [0, 1, 2, 3, 4, 5, 6, 7, 8, 9, 10, 11, 12, 13, 14] rfl)
                · replace hf := z_ip c_550 hf
                  refine lv_iload (pc := 553) hx hb dL_law_553 (lv_at hl 14 rfl) ?_
                  refine lv_if_eq (pc := 555) (tgt := 626) hx hb dL_law_555 (by decide) (fun c_555 => ?_) (fun c_555 => ?_)
                  · replace hf := z_ip c_555 hf
                    cases hf
                  · replace hf := z_in c_555 hf
                    obtain rfl := Option.some.inj hf
                    exact jp_550 H locs hP hD hS ls (lv_sub hl [0, 1, 2, 3, 4, 5, 6, 7, 8, 9, 10, 11, 12, 13, 14] rfl)
              intro H locs hP hD hS ls hl
              refine lv_iload (pc := 558) hx hb dL_law_558 (lv_at hl 14 rfl) ?_
              refine lv_aload_n (pc := 560) hx hb dL_law_560 rfl (lv_at hl 1 rfl) ?_
              refine lv_iload (pc := 561) hx hb dL_law_561 (lv_at hl 13 rfl) ?_
              obtain ⟨x563, e563, hf⟩ := z_bd hf
              refine z_cpI (pc := 563) S (m_X4_minutesLeft l X b d d2 B u15 e563) (cwV 1 hts gL_law_X4_minutesLeft rfl rfl rfl hdX4_minutesLeft ⟨Nat.le_of_ble_eq_true rfl, Nat.le_of_ble_eq_true rfl⟩) hP hK hN z_S_L (ci := 4) rfl rfl rfl (show kc ≤ room_1.cells ∧ ks ≤ room_1.slots from ⟨by omega, by omega⟩) rfl hl.1 rfl (Nat.le_of_ble_eq_true rfl) dL_law_563 ?_
              obtain ⟨y566, ey566, hf⟩ := z_bd hf
              suffices jp_566 : ∀ (H : Heap) (locs : List Loc) (_ : va_P X.1 vwCl (z_W (z_wB X b d d2 B) X a D Q [(qe0, .inl (X.2.2.1, N0, .inl g0))]) H) (_ : va_D A (z_W (z_wB X b d d2 B) X a D Q [(qe0, .inl (X.2.2.1, N0, .inl g0))])) (_ : va_S A s.heap H locs) (ls : Array Slot) (_ : lv_has ls 28 [(0, .ref sb), (1, .ref b), (2, .ref a), (3, .int u3), (4, .int u4), (5, .long u5), (7, .int u7), (8, .int u8), (9, .int u9), (10, .int u10), (11, .ref qe0), (12, .int u12), (14, .int u14), (15, .int u15)]), W p l e room_1 s m #[Value.ref sb] below meth c H locs kc ks QQ (F0 m 574 ls [.int y566, .int y402]) by
                have hf := ey566
                refine lv_if_ne (pc := 566) (tgt := 573) hx hb dL_law_566 (by decide) (fun c_566 => ?_) (fun c_566 => ?_)
                · replace hf := z_in c_566 hf
                  refine lv_iconst (v := 0) (pc := 573) hx hb dL_law_573 (by decide) ?_
                  obtain rfl := Option.some.inj hf
                  exact jp_566 H locs hP hD hS ls (lv_sub hl [0, 1, 2, 3, 4, 5, 6, 7, 8, 9, 10, 11, 12, 13] rfl)
                · replace hf := z_ip c_566 hf
                  refine lv_iconst (v := 1) (pc := 569) hx hb dL_law_569 (by decide) ?_
                  refine lv_goto (pc := 570) (tgt := 574) hx hb dL_law_570 (by decide) ?_
                  obtain rfl := Option.some.inj hf
                  exact jp_566 H locs hP hD hS ls (lv_sub hl [0, 1, 2, 3, 4, 5, 6, 7, 8, 9, 10, 11, 12, 13] rfl)
              intro H locs hP hD hS ls hl
              refine lv_icmp_ne (pc := 574) (tgt := 626) hx hb dL_law_574 (by decide) (fun c_574 => ?_) (fun c_574 => ?_)
              · replace hf := z_in c_574 hf
                cases hf
              · replace hf := z_ip c_574 hf
                refine lv_aload_n (pc := 577) hx hb dL_law_577 rfl (lv_at hl 1 rfl) ?_
                refine lv_iload (pc := 578) hx hb dL_law_578 (lv_at hl 13 rfl) ?_
                obtain ⟨x580, e580, hf⟩ := z_bd hf
                refine z_cpI (pc := 580) S (m_X4_goesTo l X b d d2 B u15 e580) (cwV 1 hts gL_law_X4_goesTo rfl rfl rfl hdX4_goesTo ⟨Nat.le_of_ble_eq_true rfl, Nat.le_of_ble_eq_true rfl⟩) hP hK hN z_S_L (ci := 4) rfl rfl rfl (show kc ≤ room_1.cells ∧ ks ≤ room_1.slots from ⟨by omega, by omega⟩) rfl hl.1 rfl (Nat.le_of_ble_eq_true rfl) dL_law_580 ?_
                obtain ⟨y583, ey583, hf⟩ := z_bd hf
                suffices jp_583 : ∀ (H : Heap) (locs : List Loc) (_ : va_P X.1 vwCl (z_W (z_wB X b d d2 B) X a D Q [(qe0, .inl (X.2.2.1, N0, .inl g0))]) H) (_ : va_D A (z_W (z_wB X b d d2 B) X a D Q [(qe0, .inl (X.2.2.1, N0, .inl g0))])) (_ : va_S A s.heap H locs) (ls : Array Slot) (_ : lv_has ls 28 [(0, .ref sb), (1, .ref b), (2, .ref a), (3, .int u3), (4, .int u4), (5, .long u5), (7, .int u7), (8, .int u8), (9, .int u9), (10, .int u10), (11, .ref qe0), (12, .int u12), (14, .int u14), (15, .int u15)]), W p l e room_1 s m #[Value.ref sb] below meth c H locs kc ks QQ (F0 m 595 ls []) by
                  have hf := ey583
                  refine lv_if_lt (pc := 583) (tgt := 595) hx hb dL_law_583 (by decide) (fun c_583 => ?_) (fun c_583 => ?_)
                  · replace hf := z_ip c_583 hf
                    obtain rfl := Option.some.inj hf
                    exact jp_583 H locs hP hD hS ls (lv_sub hl [0, 1, 2, 3, 4, 5, 6, 7, 8, 9, 10, 11, 12, 13] rfl)
                  · replace hf := z_in c_583 hf
                    refine lv_aload_n (pc := 586) hx hb dL_law_586 rfl (lv_at hl 1 rfl) ?_
                    refine lv_iload (pc := 587) hx hb dL_law_587 (lv_at hl 13 rfl) ?_
                    obtain ⟨x589, e589, hf⟩ := z_bd hf
                    refine z_cpI (pc := 589) S (m_X4_serves l X b d d2 B u15 e589) (cwV 1 hts gL_law_X4_serves rfl rfl rfl hdX4_serves ⟨Nat.le_of_ble_eq_true rfl, Nat.le_of_ble_eq_true rfl⟩) hP hK hN z_S_L (ci := 4) rfl rfl rfl (show kc ≤ room_1.cells ∧ ks ≤ room_1.slots from ⟨by omega, by omega⟩) rfl hl.1 rfl (Nat.le_of_ble_eq_true rfl) dL_law_589 ?_
                    refine lv_if_ge (pc := 592) (tgt := 626) hx hb dL_law_592 (by decide) (fun c_592 => ?_) (fun c_592 => ?_)
                    · replace hf := z_ip c_592 hf
                      cases hf
                    · replace hf := z_in c_592 hf
                      obtain rfl := Option.some.inj hf
                      exact jp_583 H locs hP hD hS ls (lv_sub hl [0, 1, 2, 3, 4, 5, 6, 7, 8, 9, 10, 11, 12, 13] rfl)
                intro H locs hP hD hS ls hl
                refine lv_aload_n (pc := 595) hx hb dL_law_595 rfl (lv_at hl 1 rfl) ?_
                refine lv_iload (pc := 596) hx hb dL_law_596 (lv_at hl 13 rfl) ?_
                obtain ⟨x598, e598, hf⟩ := z_bd hf
                refine z_cpI (pc := 598) S (m_X4_serves l X b d d2 B u15 e598) (cwV 1 hts gL_law_X4_serves rfl rfl rfl hdX4_serves ⟨Nat.le_of_ble_eq_true rfl, Nat.le_of_ble_eq_true rfl⟩) hP hK hN z_S_L (ci := 4) rfl rfl rfl (show kc ≤ room_1.cells ∧ ks ≤ room_1.slots from ⟨by omega, by omega⟩) rfl hl.1 rfl (Nat.le_of_ble_eq_true rfl) dL_law_598 ?_
                obtain ⟨y601, ey601, hf⟩ := z_bd hf
                suffices jp_601 : ∀ (H : Heap) (locs : List Loc) (_ : va_P X.1 vwCl (z_W (z_wB X b d d2 B) X a D Q [(qe0, .inl (X.2.2.1, N0, .inl g0))]) H) (_ : va_D A (z_W (z_wB X b d d2 B) X a D Q [(qe0, .inl (X.2.2.1, N0, .inl g0))])) (_ : va_S A s.heap H locs) (ls : Array Slot) (_ : lv_has ls 28 [(0, .ref sb), (1, .ref b), (2, .ref a), (3, .int u3), (4, .int u4), (5, .long u5), (7, .int u7), (8, .int u8), (9, .int u9), (10, .int u10), (11, .ref qe0), (12, .int u12), (14, .int u14), (15, .int u15)]), W p l e room_1 s m #[Value.ref sb] below meth c H locs kc ks QQ (F0 m 628 ls []) by
                  have hf := ey601
                  refine lv_if_lt (pc := 601) (tgt := 628) hx hb dL_law_601 (by decide) (fun c_601 => ?_) (fun c_601 => ?_)
                  · replace hf := z_ip c_601 hf
                    obtain rfl := Option.some.inj hf
                    exact jp_601 H locs hP hD hS ls (lv_sub hl [0, 1, 2, 3, 4, 5, 6, 7, 8, 9, 10, 11, 12, 13] rfl)
                  · replace hf := z_in c_601 hf
                    refine lv_aload_n (pc := 604) hx hb dL_law_604 rfl (lv_at hl 1 rfl) ?_
                    refine lv_iload (pc := 605) hx hb dL_law_605 (lv_at hl 13 rfl) ?_
                    obtain ⟨x607, e607, hf⟩ := z_bd hf
                    refine z_cpI (pc := 607) S (m_X4_floorOf l X b d d2 B u15 e607) (cwV 1 hts gL_law_X4_floorOf rfl rfl rfl hdX4_floorOf ⟨Nat.le_of_ble_eq_true rfl, Nat.le_of_ble_eq_true rfl⟩) hP hK hN z_S_L (ci := 4) rfl rfl rfl (show kc ≤ room_1.cells ∧ ks ≤ room_1.slots from ⟨by omega, by omega⟩) rfl hl.1 rfl (Nat.le_of_ble_eq_true rfl) dL_law_607 ?_
                    refine lv_aload_n (pc := 610) hx hb dL_law_610 rfl (lv_at hl 2 rfl) ?_
                    refine va_get (pc := 611) (ci := 5) (C := RX5) (T := TX5) (N := 9) (v := .ref D.1.1) hx hb hts in_X5 hown hK hP _ zg_0 rfl 0 (by decide) lk_fi9 (fun _ h9 => h9) rfl dL_law_611 ?_
                    refine lv_aload_n (pc := 614) hx hb dL_law_614 rfl (lv_at hl 1 rfl) ?_
                    refine lv_iload (pc := 615) hx hb dL_law_615 (lv_at hl 13 rfl) ?_
                    obtain ⟨x617, e617, hf⟩ := z_bd hf
                    refine z_cpI (pc := 617) S (m_X4_serves l X b d d2 B u15 e617) (cwV 1 hts gL_law_X4_serves rfl rfl rfl hdX4_serves ⟨Nat.le_of_ble_eq_true rfl, Nat.le_of_ble_eq_true rfl⟩) hP hK hN z_S_L (ci := 4) rfl rfl rfl (show kc ≤ room_1.cells ∧ ks ≤ room_1.slots from ⟨by omega, by omega⟩) rfl hl.1 rfl (Nat.le_of_ble_eq_true rfl) dL_law_617 ?_
                    obtain ⟨x620, e620, hf⟩ := z_bd hf
                    refine z_aald (pc := 620) hx hb hK hP _ 2 zg_1 rfl e620 dL_law_620 ?_
                    refine lv_iconst (v := 0) (pc := 621) hx hb dL_law_621 (by decide) ?_
                    refine z_iald (pc := 622) hx hb hK hP _ 0 (zg_r (z_ai_lt e620)) rfl (show z_at _ 0 _ = some (Q.2.1.2 x620 0) from rfl) dL_law_622 ?_
                    refine lv_icmp_eq (pc := 623) (tgt := 628) hx hb dL_law_623 (by decide) (fun c_623 => ?_) (fun c_623 => ?_)
                    · replace hf := z_ip c_623 hf
                      obtain rfl := Option.some.inj hf
                      exact jp_601 H locs hP hD hS ls (lv_sub hl [0, 1, 2, 3, 4, 5, 6, 7, 8, 9, 10, 11, 12, 13] rfl)
                    · replace hf := z_in c_623 hf
                      cases hf
                intro H locs hP hD hS ls hl
                refine lv_iinc (pc := 628) (v := (u15 + 1)) (lv' := [(15, .int (u15 + 1)), (0, .ref sb), (1, .ref b), (2, .ref a), (3, .int u3), (4, .int u4), (5, .long u5), (7, .int u7), (8, .int u8), (9, .int u9), (10, .int u10), (11, .ref qe0), (12, .int u12), (14, .int u14)]) hx hb dL_law_628 hl (k := 13) rfl rfl (by decide) rfl (fun ls hl => ?_)
                refine lv_goto (pc := 631) (tgt := 389) hx hb dL_law_631 (by decide) ?_
                exact ih kc ks (by omega) D qe0 u3 u4 u5 u7 u8 u9 u10 u12 u14 (u15 + 1) Q B N0 g0 T H locs hP hD hS ls (lv_sub hl [1, 2, 3, 4, 5, 6, 7, 8, 9, 10, 11, 12, 13, 0] rfl) hf kk
  have lp_115 : ∀ (n : Nat) (kc ks : Nat) (hk : kc ≤ room_1.cells ∧ ks ≤ room_1.slots) (D : z_D) (qe0 : Nat) (u3 : Int32) (u4 : Int32) (u5 : Int64) (u7 : Int32) (u8 : Int32) (u9 : Int32) (u10 : Int32) (u12 : Int32) (Q : z_Q) (B : z_B) (N0 : Nat) (g0 : (Nat → Int32)) (T : (Int32 × Int32 × Int64 × Int32 × Int32 × Int32 × Int32)) (H : Heap) (locs : List Loc), va_P X.1 vwCl (z_W (z_wB X b d d2 B) X a D Q [(qe0, .inl (X.2.2.1, N0, .inl g0))]) H → va_D A (z_W (z_wB X b d d2 B) X a D Q [(qe0, .inl (X.2.2.1, N0, .inl g0))]) → va_S A s.heap H locs → ∀ (ls : Array Slot), lv_has ls 28 [(0, .ref sb), (1, .ref b), (2, .ref a), (3, .int u3), (4, .int u4), (5, .long u5), (7, .int u7), (8, .int u8), (9, .int u9), (10, .int u10), (11, .ref qe0), (12, .int u12)] → f_L_law_L115 L xs n u3 u4 u5 u7 u8 u9 u10 u12 Q B N0 g0 = some T → (∀ (H : Heap) (locs : List Loc), va_P X.1 vwCl (z_W (z_wB X b d d2 B) X a D Q []) H → va_D A (z_W (z_wB X b d d2 B) X a D Q []) → va_S A s.heap H locs → ∀ (ls : Array Slot), lv_has ls 28 [(0, .ref sb), (1, .ref b), (2, .ref a), (3, .int T.1), (4, .int T.2.1), (5, .long T.2.2.1), (7, .int T.2.2.2.1), (8, .int T.2.2.2.2.1), (9, .int T.2.2.2.2.2.1), (10, .int T.2.2.2.2.2.2)] → W p l e room_1 s m #[Value.ref sb] below meth c H locs kc ks QQ (F0 m 640 ls [])) → W p l e room_1 s m #[Value.ref sb] below meth c H locs kc ks QQ (F0 m 115 ls []) := by
    intro n
    induction n with
    | zero =>
      intro kc ks hk D qe0 u3 u4 u5 u7 u8 u9 u10 u12 Q B N0 g0 T H locs hP hD hS ls hl hf kk
      cases hf
    | succ n ih =>
      intro kc ks hk D qe0 u3 u4 u5 u7 u8 u9 u10 u12 Q B N0 g0 T H locs hP hD hS ls hl hf kk
      rw [f_L_law_L115] at hf
      refine lv_iload (pc := 115) hx hb dL_law_115 (lv_at hl 11 rfl) ?_
      refine lv_iload (pc := 117) hx hb dL_law_117 (lv_at hl 6 rfl) ?_
      refine lv_icmp_ge (pc := 119) (tgt := 640) hx hb dL_law_119 (by decide) (fun c_119 => ?_) (fun c_119 => ?_)
      · replace hf := z_ip c_119 hf
        have hP : va_P X.1 vwCl (z_W (z_wB X b d d2 B) X a D Q []) H := z_dropW hP
        have hD : va_D A (z_W (z_wB X b d d2 B) X a D Q []) := z_dropV hD
        obtain rfl := Option.some.inj hf
        exact kk H locs hP hD hS ls (lv_sub hl [0, 1, 2, 3, 4, 5, 6, 7, 8, 9] rfl)
      · replace hf := z_in c_119 hf
        refine lv_aload_n (pc := 122) hx hb dL_law_122 rfl (lv_at hl 1 rfl) ?_
        refine lv_iload (pc := 123) hx hb dL_law_123 (lv_at hl 11 rfl) ?_
        obtain ⟨x125, e125, hf⟩ := z_bd hf
        refine z_cpI (pc := 125) S (m_X4_placeInLine l X b d d2 B u12 e125) (cwV 1 hts gL_law_X4_placeInLine rfl rfl rfl hdX4_placeInLine ⟨Nat.le_of_ble_eq_true rfl, Nat.le_of_ble_eq_true rfl⟩) hP hK hN z_S_L (ci := 4) rfl rfl rfl (show kc ≤ room_1.cells ∧ ks ≤ room_1.slots from ⟨by omega, by omega⟩) rfl hl.1 rfl (Nat.le_of_ble_eq_true rfl) dL_law_125 ?_
        refine lv_istore (pc := 128) (lv' := [(13, .int x125), (0, .ref sb), (1, .ref b), (2, .ref a), (3, .int u3), (4, .int u4), (5, .long u5), (7, .int u7), (8, .int u8), (9, .int u9), (10, .int u10), (11, .ref qe0), (12, .int u12)]) hx hb dL_law_128 hl (by decide) rfl (fun ls hl => ?_)
        refine lv_iload (pc := 130) hx hb dL_law_130 (lv_at hl 9 rfl) ?_
        refine lv_aload_n (pc := 132) hx hb dL_law_132 rfl (lv_at hl 2 rfl) ?_
        refine lv_iload (pc := 133) hx hb dL_law_133 (lv_at hl 12 rfl) ?_
        obtain ⟨x135, e135, hf⟩ := z_bd hf
        refine z_cpI (pc := 135) S (m_X4_dropOf l X b d d2 B u12 e135) (cwV 1 hts gL_law_X4_dropOf rfl rfl rfl hdX4_dropOf ⟨Nat.le_of_ble_eq_true rfl, Nat.le_of_ble_eq_true rfl⟩) hP hK hN z_S_L (ci := 4) rfl rfl rfl (show kc ≤ room_1.cells ∧ ks ≤ room_1.slots from ⟨by omega, by omega⟩) rfl hl.1 rfl (Nat.le_of_ble_eq_true rfl) dL_law_135 ?_
        refine lv_iload (pc := 138) hx hb dL_law_138 (lv_at hl 12 rfl) ?_
        obtain ⟨y140, ey140, hf⟩ := z_bd hf
        suffices jp_140 : ∀ (H : Heap) (locs : List Loc) (_ : va_P X.1 vwCl (z_W (z_wB X b d d2 B) X a D Q [(qe0, .inl (X.2.2.1, N0, .inl g0))]) H) (_ : va_D A (z_W (z_wB X b d d2 B) X a D Q [(qe0, .inl (X.2.2.1, N0, .inl g0))])) (_ : va_S A s.heap H locs) (ls : Array Slot) (_ : lv_has ls 28 [(0, .ref sb), (1, .ref b), (2, .ref a), (3, .int u3), (4, .int u4), (5, .long u5), (7, .int u7), (8, .int u8), (10, .int u10), (11, .ref qe0), (12, .int u12), (13, .int x125)]), W p l e room_1 s m #[Value.ref sb] below meth c H locs kc ks QQ (F0 m 148 ls [.int y140, .int u9]) by
          have hf := ey140
          refine lv_icmp_ne (pc := 140) (tgt := 147) hx hb dL_law_140 (by decide) (fun c_140 => ?_) (fun c_140 => ?_)
          · replace hf := z_in c_140 hf
            refine lv_iconst (v := 1) (pc := 147) hx hb dL_law_147 (by decide) ?_
            obtain rfl := Option.some.inj hf
            exact jp_140 H locs hP hD hS ls (lv_sub hl [1, 2, 3, 4, 5, 6, 7, 8, 10, 11, 12, 0] rfl)
          · replace hf := z_ip c_140 hf
            refine lv_iconst (v := 0) (pc := 143) hx hb dL_law_143 (by decide) ?_
            refine lv_goto (pc := 144) (tgt := 148) hx hb dL_law_144 (by decide) ?_
            obtain rfl := Option.some.inj hf
            exact jp_140 H locs hP hD hS ls (lv_sub hl [1, 2, 3, 4, 5, 6, 7, 8, 10, 11, 12, 0] rfl)
        intro H locs hP hD hS ls hl
        refine lv_iadd (pc := 148) hx hb dL_law_148 ?_
        refine lv_istore (pc := 149) (lv' := [(9, .int (u9 + y140)), (0, .ref sb), (1, .ref b), (2, .ref a), (3, .int u3), (4, .int u4), (5, .long u5), (7, .int u7), (8, .int u8), (10, .int u10), (11, .ref qe0), (12, .int u12), (13, .int x125)]) hx hb dL_law_149 hl (by decide) rfl (fun ls hl => ?_)
        refine lv_iload (pc := 151) hx hb dL_law_151 (lv_at hl 9 rfl) ?_
        refine lv_iload (pc := 153) hx hb dL_law_153 (lv_at hl 12 rfl) ?_
        obtain ⟨y155, ey155, hf⟩ := z_bd hf
        suffices jp_155 : ∀ (H : Heap) (locs : List Loc) (_ : va_P X.1 vwCl (z_W (z_wB X b d d2 B) X a D Q [(qe0, .inl (X.2.2.1, N0, .inl g0))]) H) (_ : va_D A (z_W (z_wB X b d d2 B) X a D Q [(qe0, .inl (X.2.2.1, N0, .inl g0))])) (_ : va_S A s.heap H locs) (ls : Array Slot) (_ : lv_has ls 28 [(0, .ref sb), (1, .ref b), (2, .ref a), (3, .int u3), (4, .int u4), (5, .long u5), (7, .int u7), (8, .int u8), (9, .int (u9 + y140)), (11, .ref qe0), (12, .int u12), (13, .int x125)]), W p l e room_1 s m #[Value.ref sb] below meth c H locs kc ks QQ (F0 m 163 ls [.int y155, .int u10]) by
          have hf := ey155
          refine lv_if_ge (pc := 155) (tgt := 162) hx hb dL_law_155 (by decide) (fun c_155 => ?_) (fun c_155 => ?_)
          · replace hf := z_ip c_155 hf
            refine lv_iconst (v := 1) (pc := 162) hx hb dL_law_162 (by decide) ?_
            obtain rfl := Option.some.inj hf
            exact jp_155 H locs hP hD hS ls (lv_sub hl [1, 2, 3, 4, 5, 6, 7, 8, 0, 10, 11, 12] rfl)
          · replace hf := z_in c_155 hf
            refine lv_iconst (v := 0) (pc := 158) hx hb dL_law_158 (by decide) ?_
            refine lv_goto (pc := 159) (tgt := 163) hx hb dL_law_159 (by decide) ?_
            obtain rfl := Option.some.inj hf
            exact jp_155 H locs hP hD hS ls (lv_sub hl [1, 2, 3, 4, 5, 6, 7, 8, 0, 10, 11, 12] rfl)
        intro H locs hP hD hS ls hl
        refine lv_iadd (pc := 163) hx hb dL_law_163 ?_
        refine lv_istore (pc := 164) (lv' := [(10, .int (u10 + y155)), (0, .ref sb), (1, .ref b), (2, .ref a), (3, .int u3), (4, .int u4), (5, .long u5), (7, .int u7), (8, .int u8), (9, .int (u9 + y140)), (11, .ref qe0), (12, .int u12), (13, .int x125)]) hx hb dL_law_164 hl (by decide) rfl (fun ls hl => ?_)
        refine lv_aload_n (pc := 166) hx hb dL_law_166 rfl (lv_at hl 2 rfl) ?_
        refine lv_iload (pc := 167) hx hb dL_law_167 (lv_at hl 11 rfl) ?_
        obtain ⟨x169, e169, hf⟩ := z_bd hf
        refine z_cpI (pc := 169) S (m_X4_dropOf l X b d d2 B u12 e169) (cwV 1 hts gL_law_X4_dropOf rfl rfl rfl hdX4_dropOf ⟨Nat.le_of_ble_eq_true rfl, Nat.le_of_ble_eq_true rfl⟩) hP hK hN z_S_L (ci := 4) rfl rfl rfl (show kc ≤ room_1.cells ∧ ks ≤ room_1.slots from ⟨by omega, by omega⟩) rfl hl.1 rfl (Nat.le_of_ble_eq_true rfl) dL_law_169 ?_
        refine lv_if_lt (pc := 172) (tgt := 339) hx hb dL_law_172 (by decide) (fun c_172 => ?_) (fun c_172 => ?_)
        · replace hf := z_ip c_172 hf
          cases hf
        · replace hf := z_in c_172 hf
          refine lv_aload_n (pc := 175) hx hb dL_law_175 rfl (lv_at hl 2 rfl) ?_
          refine lv_iload (pc := 176) hx hb dL_law_176 (lv_at hl 11 rfl) ?_
          obtain ⟨x178, e178, hf⟩ := z_bd hf
          refine z_cpI (pc := 178) S (m_X4_dropOf l X b d d2 B u12 e178) (cwV 1 hts gL_law_X4_dropOf rfl rfl rfl hdX4_dropOf ⟨Nat.le_of_ble_eq_true rfl, Nat.le_of_ble_eq_true rfl⟩) hP hK hN z_S_L (ci := 4) rfl rfl rfl (show kc ≤ room_1.cells ∧ ks ≤ room_1.slots from ⟨by omega, by omega⟩) rfl hl.1 rfl (Nat.le_of_ble_eq_true rfl) dL_law_178 ?_
          refine lv_iload (pc := 181) hx hb dL_law_181 (lv_at hl 7 rfl) ?_
          refine lv_icmp_ge (pc := 183) (tgt := 339) hx hb dL_law_183 (by decide) (fun c_183 => ?_) (fun c_183 => ?_)
          · replace hf := z_ip c_183 hf
            cases hf
          · replace hf := z_in c_183 hf
            refine lv_aload_n (pc := 186) hx hb dL_law_186 rfl (lv_at hl 2 rfl) ?_
            refine lv_aload_n (pc := 187) hx hb dL_law_187 rfl (lv_at hl 2 rfl) ?_
            refine lv_iload (pc := 188) hx hb dL_law_188 (lv_at hl 11 rfl) ?_
            obtain ⟨x190, e190, hf⟩ := z_bd hf
            refine z_cpI (pc := 190) S (m_X4_dropOf l X b d d2 B u12 e190) (cwV 1 hts gL_law_X4_dropOf rfl rfl rfl hdX4_dropOf ⟨Nat.le_of_ble_eq_true rfl, Nat.le_of_ble_eq_true rfl⟩) hP hK hN z_S_L (ci := 4) rfl rfl rfl (show kc ≤ room_1.cells ∧ ks ≤ room_1.slots from ⟨by omega, by omega⟩) rfl hl.1 rfl (Nat.le_of_ble_eq_true rfl) dL_law_190 ?_
            obtain ⟨x193, e193, hf⟩ := z_bd hf
            refine z_cpI (pc := 193) S (m_X4_roomOf l X b d d2 B x190 e193) (cwV 1 hts gL_law_X4_roomOf rfl rfl rfl hdX4_roomOf ⟨Nat.le_of_ble_eq_true rfl, Nat.le_of_ble_eq_true rfl⟩) hP hK hN z_S_L (ci := 4) rfl rfl rfl (show kc ≤ room_1.cells ∧ ks ≤ room_1.slots from ⟨by omega, by omega⟩) rfl hl.1 rfl (Nat.le_of_ble_eq_true rfl) dL_law_193 ?_
            refine lv_iload (pc := 196) hx hb dL_law_196 (lv_at hl 11 rfl) ?_
            refine lv_icmp_ne (pc := 198) (tgt := 339) hx hb dL_law_198 (by decide) (fun c_198 => ?_) (fun c_198 => ?_)
            · replace hf := z_in c_198 hf
              cases hf
            · replace hf := z_ip c_198 hf
              refine lv_aload_n (pc := 201) hx hb dL_law_201 rfl (lv_at hl 2 rfl) ?_
              refine lv_aload_n (pc := 202) hx hb dL_law_202 rfl (lv_at hl 2 rfl) ?_
              refine lv_iload (pc := 203) hx hb dL_law_203 (lv_at hl 11 rfl) ?_
              obtain ⟨x205, e205, hf⟩ := z_bd hf
              refine z_cpI (pc := 205) S (m_X4_roomOf l X b d d2 B u12 e205) (cwV 1 hts gL_law_X4_roomOf rfl rfl rfl hdX4_roomOf ⟨Nat.le_of_ble_eq_true rfl, Nat.le_of_ble_eq_true rfl⟩) hP hK hN z_S_L (ci := 4) rfl rfl rfl (show kc ≤ room_1.cells ∧ ks ≤ room_1.slots from ⟨by omega, by omega⟩) rfl hl.1 rfl (Nat.le_of_ble_eq_true rfl) dL_law_205 ?_
              obtain ⟨x208, e208, hf⟩ := z_bd hf
              refine z_cpI (pc := 208) S (m_X4_dropOf l X b d d2 B x205 e208) (cwV 1 hts gL_law_X4_dropOf rfl rfl rfl hdX4_dropOf ⟨Nat.le_of_ble_eq_true rfl, Nat.le_of_ble_eq_true rfl⟩) hP hK hN z_S_L (ci := 4) rfl rfl rfl (show kc ≤ room_1.cells ∧ ks ≤ room_1.slots from ⟨by omega, by omega⟩) rfl hl.1 rfl (Nat.le_of_ble_eq_true rfl) dL_law_208 ?_
              refine lv_iload (pc := 211) hx hb dL_law_211 (lv_at hl 11 rfl) ?_
              refine lv_icmp_ne (pc := 213) (tgt := 339) hx hb dL_law_213 (by decide) (fun c_213 => ?_) (fun c_213 => ?_)
              · replace hf := z_in c_213 hf
                cases hf
              · replace hf := z_ip c_213 hf
                refine lv_aload_n (pc := 216) hx hb dL_law_216 rfl (lv_at hl 2 rfl) ?_
                refine lv_iload (pc := 217) hx hb dL_law_217 (lv_at hl 11 rfl) ?_
                obtain ⟨x219, e219, hf⟩ := z_bd hf
                refine z_cpI (pc := 219) S (m_X4_hasFallen l X b d d2 B u12 e219) (cwV 1 hts gL_law_X4_hasFallen rfl rfl rfl hdX4_hasFallen ⟨Nat.le_of_ble_eq_true rfl, Nat.le_of_ble_eq_true rfl⟩) hP hK hN z_S_L (ci := 4) rfl rfl rfl (show kc ≤ room_1.cells ∧ ks ≤ room_1.slots from ⟨by omega, by omega⟩) rfl hl.1 rfl (Nat.le_of_ble_eq_true rfl) dL_law_219 ?_
                refine lv_iload (pc := 222) hx hb dL_law_222 (lv_at hl 12 rfl) ?_
                obtain ⟨y224, ey224, hf⟩ := z_bd hf
                suffices jp_224 : ∀ (H : Heap) (locs : List Loc) (_ : va_P X.1 vwCl (z_W (z_wB X b d d2 B) X a D Q [(qe0, .inl (X.2.2.1, N0, .inl g0))]) H) (_ : va_D A (z_W (z_wB X b d d2 B) X a D Q [(qe0, .inl (X.2.2.1, N0, .inl g0))])) (_ : va_S A s.heap H locs) (ls : Array Slot) (_ : lv_has ls 28 [(0, .ref sb), (1, .ref b), (2, .ref a), (3, .int u3), (4, .int u4), (5, .long u5), (7, .int u7), (8, .int u8), (9, .int (u9 + y140)), (10, .int (u10 + y155)), (11, .ref qe0), (12, .int u12), (13, .int x125)]), W p l e room_1 s m #[Value.ref sb] below meth c H locs kc ks QQ (F0 m 232 ls [.int y224, .int x219]) by
                  have hf := ey224
                  refine lv_if_lt (pc := 224) (tgt := 231) hx hb dL_law_224 (by decide) (fun c_224 => ?_) (fun c_224 => ?_)
                  · replace hf := z_ip c_224 hf
                    refine lv_iconst (v := 0) (pc := 231) hx hb dL_law_231 (by decide) ?_
                    obtain rfl := Option.some.inj hf
                    exact jp_224 H locs hP hD hS ls (lv_sub hl [1, 2, 3, 4, 5, 6, 7, 8, 9, 0, 10, 11, 12] rfl)
                  · replace hf := z_in c_224 hf
                    refine lv_iconst (v := 1) (pc := 227) hx hb dL_law_227 (by decide) ?_
                    refine lv_goto (pc := 228) (tgt := 232) hx hb dL_law_228 (by decide) ?_
                    obtain rfl := Option.some.inj hf
                    exact jp_224 H locs hP hD hS ls (lv_sub hl [1, 2, 3, 4, 5, 6, 7, 8, 9, 0, 10, 11, 12] rfl)
                intro H locs hP hD hS ls hl
                refine lv_icmp_ne (pc := 232) (tgt := 339) hx hb dL_law_232 (by decide) (fun c_232 => ?_) (fun c_232 => ?_)
                · replace hf := z_in c_232 hf
                  cases hf
                · replace hf := z_ip c_232 hf
                  refine lv_iload (pc := 235) hx hb dL_law_235 (lv_at hl 12 rfl) ?_
                  refine lv_aload_n (pc := 237) hx hb dL_law_237 rfl (lv_at hl 1 rfl) ?_
                  refine z_cpI (pc := 238) S (m_X4_fallen l X b d d2 B rfl) (cwV 0 hts gL_law_X4_fallen rfl rfl rfl hdX4_fallen ⟨Nat.le_of_ble_eq_true rfl, Nat.le_of_ble_eq_true rfl⟩) hP hK hN z_S_L (ci := 4) rfl rfl rfl (show kc ≤ room_1.cells ∧ ks ≤ room_1.slots from ⟨by omega, by omega⟩) rfl hl.1 rfl (Nat.le_of_ble_eq_true rfl) dL_law_238 ?_
                  refine lv_icmp_ge (pc := 241) (tgt := 339) hx hb dL_law_241 (by decide) (fun c_241 => ?_) (fun c_241 => ?_)
                  · replace hf := z_ip c_241 hf
                    cases hf
                  · replace hf := z_in c_241 hf
                    refine lv_iload (pc := 244) hx hb dL_law_244 (lv_at hl 12 rfl) ?_
                    obtain ⟨y246, ey246, hf⟩ := z_bd hf
                    suffices jp_246 : ∀ (H : Heap) (locs : List Loc) (_ : va_P X.1 vwCl (z_W (z_wB X b d d2 B) X a D Q [(qe0, .inl (X.2.2.1, N0, .inl g0))]) H) (_ : va_D A (z_W (z_wB X b d d2 B) X a D Q [(qe0, .inl (X.2.2.1, N0, .inl g0))])) (_ : va_S A s.heap H locs) (ls : Array Slot) (_ : lv_has ls 28 [(0, .ref sb), (1, .ref b), (2, .ref a), (3, .int u3), (4, .int u4), (5, .long u5), (7, .int u7), (8, .int u8), (9, .int (u9 + y140)), (10, .int (u10 + y155)), (11, .ref qe0), (12, .int u12), (13, .int x125)]), W p l e room_1 s m #[Value.ref sb] below meth c H locs kc ks QQ (F0 m 257 ls []) by
                      have hf := ey246
                      refine lv_if_lt (pc := 246) (tgt := 257) hx hb dL_law_246 (by decide) (fun c_246 => ?_) (fun c_246 => ?_)
                      · replace hf := z_ip c_246 hf
                        obtain rfl := Option.some.inj hf
                        exact jp_246 H locs hP hD hS ls (lv_sub hl [0, 1, 2, 3, 4, 5, 6, 7, 8, 9, 10, 11, 12] rfl)
                      · replace hf := z_in c_246 hf
                        refine lv_aload (pc := 249) hx hb dL_law_249 (lv_at hl 10 rfl) ?_
                        refine lv_iload (pc := 251) hx hb dL_law_251 (lv_at hl 12 rfl) ?_
                        obtain ⟨x253, e253, hf⟩ := z_bd hf
                        refine z_zald (pc := 253) hx hb hK hP _ 1 ((zg_e 0).trans rfl) rfl e253 dL_law_253 ?_
                        refine lv_if_ne (pc := 254) (tgt := 339) hx hb dL_law_254 (by decide) (fun c_254 => ?_) (fun c_254 => ?_)
                        · replace hf := z_in c_254 hf
                          cases hf
                        · replace hf := z_ip c_254 hf
                          obtain rfl := Option.some.inj hf
                          exact jp_246 H locs hP hD hS ls (lv_sub hl [0, 1, 2, 3, 4, 5, 6, 7, 8, 9, 10, 11, 12] rfl)
                    intro H locs hP hD hS ls hl
                    refine lv_iload (pc := 257) hx hb dL_law_257 (lv_at hl 12 rfl) ?_
                    obtain ⟨y259, ey259, hf⟩ := z_bd hf
                    suffices jp_259 : ∀ (H : Heap) (locs : List Loc) (_ : va_P X.1 vwCl (z_W (z_wB X b d d2 B) X a D Q [(qe0, .inl (X.2.2.1, N0, .inl g0))]) H) (_ : va_D A (z_W (z_wB X b d d2 B) X a D Q [(qe0, .inl (X.2.2.1, N0, .inl g0))])) (_ : va_S A s.heap H locs) (ls : Array Slot) (_ : lv_has ls 28 [(0, .ref sb), (1, .ref b), (2, .ref a), (3, .int u3), (4, .int u4), (5, .long u5), (7, .int u7), (8, .int u8), (9, .int (u9 + y140)), (10, .int (u10 + y155)), (11, .ref qe0), (12, .int u12), (13, .int x125)]), W p l e room_1 s m #[Value.ref sb] below meth c H locs kc ks QQ (F0 m 271 ls []) by
                      have hf := ey259
                      refine lv_if_ne (pc := 259) (tgt := 271) hx hb dL_law_259 (by decide) (fun c_259 => ?_) (fun c_259 => ?_)
                      · replace hf := z_in c_259 hf
                        obtain rfl := Option.some.inj hf
                        exact jp_259 H locs hP hD hS ls (lv_sub hl [0, 1, 2, 3, 4, 5, 6, 7, 8, 9, 10, 11, 12] rfl)
                      · replace hf := z_ip c_259 hf
                        refine lv_aload_n (pc := 262) hx hb dL_law_262 rfl (lv_at hl 1 rfl) ?_
                        obtain ⟨x263, e263, hf⟩ := z_bd hf
                        refine z_cpI (pc := 263) S (m_X4_nextDrop l X b d d2 B e263) (cwV 0 hts gL_law_X4_nextDrop rfl rfl rfl hdX4_nextDrop ⟨Nat.le_of_ble_eq_true rfl, Nat.le_of_ble_eq_true rfl⟩) hP hK hN z_S_L (ci := 4) rfl rfl rfl (show kc ≤ room_1.cells ∧ ks ≤ room_1.slots from ⟨by omega, by omega⟩) rfl hl.1 rfl (Nat.le_of_ble_eq_true rfl) dL_law_263 ?_
                        refine lv_iload (pc := 266) hx hb dL_law_266 (lv_at hl 11 rfl) ?_
                        refine lv_icmp_ne (pc := 268) (tgt := 339) hx hb dL_law_268 (by decide) (fun c_268 => ?_) (fun c_268 => ?_)
                        · replace hf := z_in c_268 hf
                          cases hf
                        · replace hf := z_ip c_268 hf
                          obtain rfl := Option.some.inj hf
                          exact jp_259 H locs hP hD hS ls (lv_sub hl [0, 1, 2, 3, 4, 5, 6, 7, 8, 9, 10, 11, 12] rfl)
                    intro H locs hP hD hS ls hl
                    refine lv_aload_n (pc := 271) hx hb dL_law_271 rfl (lv_at hl 1 rfl) ?_
                    refine lv_iload (pc := 272) hx hb dL_law_272 (lv_at hl 11 rfl) ?_
                    obtain ⟨x274, e274, hf⟩ := z_bd hf
                    refine z_cpI (pc := 274) S (m_X4_waitedFor l X b d d2 B u12 e274) (cwV 1 hts gL_law_X4_waitedFor rfl rfl rfl hdX4_waitedFor ⟨Nat.le_of_ble_eq_true rfl, Nat.le_of_ble_eq_true rfl⟩) hP hK hN z_S_L (ci := 4) rfl rfl rfl (show kc ≤ room_1.cells ∧ ks ≤ room_1.slots from ⟨by omega, by omega⟩) rfl hl.1 rfl (Nat.le_of_ble_eq_true rfl) dL_law_274 ?_
                    refine lv_iconst (v := (-1)) (pc := 277) hx hb dL_law_277 (by decide) ?_
                    refine lv_icmp_lt (pc := 278) (tgt := 339) hx hb dL_law_278 (by decide) (fun c_278 => ?_) (fun c_278 => ?_)
                    · replace hf := z_ip c_278 hf
                      cases hf
                    · replace hf := z_in c_278 hf
                      refine lv_aload_n (pc := 281) hx hb dL_law_281 rfl (lv_at hl 1 rfl) ?_
                      refine lv_iload (pc := 282) hx hb dL_law_282 (lv_at hl 11 rfl) ?_
                      obtain ⟨x284, e284, hf⟩ := z_bd hf
                      refine z_cpI (pc := 284) S (m_X4_waitedFor l X b d d2 B u12 e284) (cwV 1 hts gL_law_X4_waitedFor rfl rfl rfl hdX4_waitedFor ⟨Nat.le_of_ble_eq_true rfl, Nat.le_of_ble_eq_true rfl⟩) hP hK hN z_S_L (ci := 4) rfl rfl rfl (show kc ≤ room_1.cells ∧ ks ≤ room_1.slots from ⟨by omega, by omega⟩) rfl hl.1 rfl (Nat.le_of_ble_eq_true rfl) dL_law_284 ?_
                      refine lv_bipush (v := 29) (pc := 287) hx hb dL_law_287 (by decide) ?_
                      refine lv_icmp_gt (pc := 289) (tgt := 339) hx hb dL_law_289 (by decide) (fun c_289 => ?_) (fun c_289 => ?_)
                      · replace hf := z_ip c_289 hf
                        cases hf
                      · replace hf := z_in c_289 hf
                        refine lv_aload_n (pc := 292) hx hb dL_law_292 rfl (lv_at hl 1 rfl) ?_
                        refine lv_iload (pc := 293) hx hb dL_law_293 (lv_at hl 11 rfl) ?_
                        obtain ⟨x295, e295, hf⟩ := z_bd hf
                        refine z_cpI (pc := 295) S (m_X4_waitedFor l X b d d2 B u12 e295) (cwV 1 hts gL_law_X4_waitedFor rfl rfl rfl hdX4_waitedFor ⟨Nat.le_of_ble_eq_true rfl, Nat.le_of_ble_eq_true rfl⟩) hP hK hN z_S_L (ci := 4) rfl rfl rfl (show kc ≤ room_1.cells ∧ ks ≤ room_1.slots from ⟨by omega, by omega⟩) rfl hl.1 rfl (Nat.le_of_ble_eq_true rfl) dL_law_295 ?_
                        obtain ⟨y298, ey298, hf⟩ := z_bd hf
                        suffices jp_298 : ∀ (H : Heap) (locs : List Loc) (_ : va_P X.1 vwCl (z_W (z_wB X b d d2 B) X a D Q [(qe0, .inl (X.2.2.1, N0, .inl g0))]) H) (_ : va_D A (z_W (z_wB X b d d2 B) X a D Q [(qe0, .inl (X.2.2.1, N0, .inl g0))])) (_ : va_S A s.heap H locs) (ls : Array Slot) (_ : lv_has ls 28 [(0, .ref sb), (1, .ref b), (2, .ref a), (3, .int u3), (4, .int u4), (5, .long u5), (7, .int u7), (8, .int u8), (9, .int (u9 + y140)), (10, .int (u10 + y155)), (11, .ref qe0), (12, .int u12), (13, .int x125)]), W p l e room_1 s m #[Value.ref sb] below meth c H locs kc ks QQ (F0 m 308 ls []) by
                          have hf := ey298
                          refine lv_if_le (pc := 298) (tgt := 308) hx hb dL_law_298 (by decide) (fun c_298 => ?_) (fun c_298 => ?_)
                          · replace hf := z_ip c_298 hf
                            obtain rfl := Option.some.inj hf
                            exact jp_298 H locs hP hD hS ls (lv_sub hl [0, 1, 2, 3, 4, 5, 6, 7, 8, 9, 10, 11, 12] rfl)
                          · replace hf := z_in c_298 hf
                            refine lv_aload_n (pc := 301) hx hb dL_law_301 rfl (lv_at hl 1 rfl) ?_
                            obtain ⟨x302, e302, hf⟩ := z_bd hf
                            refine z_cpI (pc := 302) S (m_X4_longestWaiting l X b d d2 B e302) (cwV 0 hts gL_law_X4_longestWaiting rfl rfl rfl hdX4_longestWaiting ⟨Nat.le_of_ble_eq_true rfl, Nat.le_of_ble_eq_true rfl⟩) hP hK hN z_S_L (ci := 4) rfl rfl rfl (show kc ≤ room_1.cells ∧ ks ≤ room_1.slots from ⟨by omega, by omega⟩) rfl hl.1 rfl (Nat.le_of_ble_eq_true rfl) dL_law_302 ?_
                            refine lv_if_lt (pc := 305) (tgt := 339) hx hb dL_law_305 (by decide) (fun c_305 => ?_) (fun c_305 => ?_)
                            · replace hf := z_ip c_305 hf
                              cases hf
                            · replace hf := z_in c_305 hf
                              obtain rfl := Option.some.inj hf
                              exact jp_298 H locs hP hD hS ls (lv_sub hl [0, 1, 2, 3, 4, 5, 6, 7, 8, 9, 10, 11, 12] rfl)
                        intro H locs hP hD hS ls hl
                        refine lv_aload_n (pc := 308) hx hb dL_law_308 rfl (lv_at hl 1 rfl) ?_
                        refine lv_iload (pc := 309) hx hb dL_law_309 (lv_at hl 11 rfl) ?_
                        obtain ⟨x311, e311, hf⟩ := z_bd hf
                        refine z_cpI (pc := 311) S (m_X4_isCut l X b d d2 B u12 e311) (cwV 1 hts gL_law_X4_isCut rfl rfl rfl hdX4_isCut ⟨Nat.le_of_ble_eq_true rfl, Nat.le_of_ble_eq_true rfl⟩) hP hK hN z_S_L (ci := 4) rfl rfl rfl (show kc ≤ room_1.cells ∧ ks ≤ room_1.slots from ⟨by omega, by omega⟩) rfl hl.1 rfl (Nat.le_of_ble_eq_true rfl) dL_law_311 ?_
                        obtain ⟨y314, ey314, hf⟩ := z_bd hf
                        suffices jp_314 : ∀ (H : Heap) (locs : List Loc) (_ : va_P X.1 vwCl (z_W (z_wB X b d d2 B) X a D Q [(qe0, .inl (X.2.2.1, N0, .inl g0))]) H) (_ : va_D A (z_W (z_wB X b d d2 B) X a D Q [(qe0, .inl (X.2.2.1, N0, .inl g0))])) (_ : va_S A s.heap H locs) (ls : Array Slot) (_ : lv_has ls 28 [(0, .ref sb), (1, .ref b), (2, .ref a), (3, .int u3), (4, .int u4), (5, .long u5), (7, .int u7), (8, .int u8), (9, .int (u9 + y140)), (10, .int (u10 + y155)), (11, .ref qe0), (12, .int u12), (13, .int x125)]), W p l e room_1 s m #[Value.ref sb] below meth c H locs kc ks QQ (F0 m 326 ls []) by
                          have hf := ey314
                          refine lv_if_eq (pc := 314) (tgt := 326) hx hb dL_law_314 (by decide) (fun c_314 => ?_) (fun c_314 => ?_)
                          · replace hf := z_ip c_314 hf
                            obtain rfl := Option.some.inj hf
                            exact jp_314 H locs hP hD hS ls (lv_sub hl [0, 1, 2, 3, 4, 5, 6, 7, 8, 9, 10, 11, 12] rfl)
                          · replace hf := z_in c_314 hf
                            refine lv_aload_n (pc := 317) hx hb dL_law_317 rfl (lv_at hl 1 rfl) ?_
                            refine lv_iload (pc := 318) hx hb dL_law_318 (lv_at hl 11 rfl) ?_
                            obtain ⟨x320, e320, hf⟩ := z_bd hf
                            refine z_cpI (pc := 320) S (m_X4_ringsLeft l X b d d2 B u12 e320) (cwV 1 hts gL_law_X4_ringsLeft rfl rfl rfl hdX4_ringsLeft ⟨Nat.le_of_ble_eq_true rfl, Nat.le_of_ble_eq_true rfl⟩) hP hK hN z_S_L (ci := 4) rfl rfl rfl (show kc ≤ room_1.cells ∧ ks ≤ room_1.slots from ⟨by omega, by omega⟩) rfl hl.1 rfl (Nat.le_of_ble_eq_true rfl) dL_law_320 ?_
                            refine lv_if_ne (pc := 323) (tgt := 339) hx hb dL_law_323 (by decide) (fun c_323 => ?_) (fun c_323 => ?_)
                            · replace hf := z_in c_323 hf
                              cases hf
                            · replace hf := z_ip c_323 hf
                              obtain rfl := Option.some.inj hf
                              exact jp_314 H locs hP hD hS ls (lv_sub hl [0, 1, 2, 3, 4, 5, 6, 7, 8, 9, 10, 11, 12] rfl)
                        intro H locs hP hD hS ls hl
                        refine lv_aload_n (pc := 326) hx hb dL_law_326 rfl (lv_at hl 1 rfl) ?_
                        refine lv_iload (pc := 327) hx hb dL_law_327 (lv_at hl 11 rfl) ?_
                        obtain ⟨x329, e329, hf⟩ := z_bd hf
                        refine z_cpI (pc := 329) S (m_X4_ringsLeft l X b d d2 B u12 e329) (cwV 1 hts gL_law_X4_ringsLeft rfl rfl rfl hdX4_ringsLeft ⟨Nat.le_of_ble_eq_true rfl, Nat.le_of_ble_eq_true rfl⟩) hP hK hN z_S_L (ci := 4) rfl rfl rfl (show kc ≤ room_1.cells ∧ ks ≤ room_1.slots from ⟨by omega, by omega⟩) rfl hl.1 rfl (Nat.le_of_ble_eq_true rfl) dL_law_329 ?_
                        refine lv_aload_n (pc := 332) hx hb dL_law_332 rfl (lv_at hl 1 rfl) ?_
                        refine z_cpI (pc := 333) S (m_X4_charge l X b d d2 B rfl) (cwV 0 hts gL_law_X4_charge rfl rfl rfl hdX4_charge ⟨Nat.le_of_ble_eq_true rfl, Nat.le_of_ble_eq_true rfl⟩) hP hK hN z_S_L (ci := 4) rfl rfl rfl (show kc ≤ room_1.cells ∧ ks ≤ room_1.slots from ⟨by omega, by omega⟩) rfl hl.1 rfl (Nat.le_of_ble_eq_true rfl) dL_law_333 ?_
                        refine lv_icmp_le (pc := 336) (tgt := 341) hx hb dL_law_336 (by decide) (fun c_336 => ?_) (fun c_336 => ?_)
                        · replace hf := z_ip c_336 hf
                          refine lv_iload (pc := 341) hx hb dL_law_341 (lv_at hl 12 rfl) ?_
                          obtain ⟨y343, ey343, hf⟩ := z_bd hf
                          suffices jp_343 : ∀ (H : Heap) (locs : List Loc) (_ : va_P X.1 vwCl (z_W (z_wB X b d d2 B) X a D Q [(qe0, .inl (X.2.2.1, N0, .inl y343))]) H) (_ : va_D A (z_W (z_wB X b d d2 B) X a D Q [(qe0, .inl (X.2.2.1, N0, .inl y343))])) (_ : va_S A s.heap H locs) (ls : Array Slot) (_ : lv_has ls 28 [(0, .ref sb), (1, .ref b), (2, .ref a), (3, .int u3), (4, .int u4), (5, .long u5), (7, .int u7), (8, .int u8), (9, .int (u9 + y140)), (10, .int (u10 + y155)), (11, .ref qe0), (12, .int u12)]), W p l e room_1 s m #[Value.ref sb] below meth c H locs kc ks QQ (F0 m 352 ls []) by
                            have hf := ey343
                            refine lv_if_lt (pc := 343) (tgt := 352) hx hb dL_law_343 (by decide) (fun c_343 => ?_) (fun c_343 => ?_)
                            · replace hf := z_ip c_343 hf
                              obtain rfl := Option.some.inj hf
                              exact jp_343 H locs hP hD hS ls (lv_sub hl [0, 1, 2, 3, 4, 5, 6, 7, 8, 9, 10, 11] rfl)
                            · replace hf := z_in c_343 hf
                              refine lv_aload (pc := 346) hx hb dL_law_346 (lv_at hl 10 rfl) ?_
                              refine lv_iload (pc := 348) hx hb dL_law_348 (lv_at hl 12 rfl) ?_
                              refine lv_iconst (v := 1) (pc := 350) hx hb dL_law_350 (by decide) ?_
                              obtain ⟨x351, e351, hf⟩ := z_bd hf
                              refine z_zast (pc := 351) (W1 := (z_W (z_wB X b d d2 B) X a D Q [(qe0, .inl (X.2.2.1, N0, .inl x351))])) hx hb hK hP hD hS _ 1 ((zg_e 0).trans rfl) rfl e351 (zs_e (i := 0)) dL_law_351 (fun H locs hP hD hS => ?_)
                              obtain rfl := Option.some.inj hf
                              exact jp_343 H locs hP hD hS ls (lv_sub hl [0, 1, 2, 3, 4, 5, 6, 7, 8, 9, 10, 11] rfl)
                          intro H locs hP hD hS ls hl
                          refine lv_aload_n (pc := 352) hx hb dL_law_352 rfl (lv_at hl 1 rfl) ?_
                          obtain ⟨x353, e353, hf⟩ := z_bd hf
                          refine z_cpI (pc := 353) S (m_X4_longestWaiting l X b d d2 B e353) (cwV 0 hts gL_law_X4_longestWaiting rfl rfl rfl hdX4_longestWaiting ⟨Nat.le_of_ble_eq_true rfl, Nat.le_of_ble_eq_true rfl⟩) hP hK hN z_S_L (ci := 4) rfl rfl rfl (show kc ≤ room_1.cells ∧ ks ≤ room_1.slots from ⟨by omega, by omega⟩) rfl hl.1 rfl (Nat.le_of_ble_eq_true rfl) dL_law_353 ?_
                          obtain ⟨y356, ey356, hf⟩ := z_bd hf
                          suffices jp_356 : ∀ (H : Heap) (locs : List Loc) (_ : va_P X.1 vwCl (z_W (z_wB X b d d2 B) X a D Q [(qe0, .inl (X.2.2.1, N0, .inl y343))]) H) (_ : va_D A (z_W (z_wB X b d d2 B) X a D Q [(qe0, .inl (X.2.2.1, N0, .inl y343))])) (_ : va_S A s.heap H locs) (ls : Array Slot) (_ : lv_has ls 28 [(0, .ref sb), (1, .ref b), (2, .ref a), (3, .int u3), (4, .int u4), (5, .long u5), (7, .int u7), (8, .int u8), (9, .int (u9 + y140)), (10, .int (u10 + y155)), (11, .ref qe0), (12, .int u12)]), W p l e room_1 s m #[Value.ref sb] below meth c H locs kc ks QQ (F0 m 378 ls []) by
                            have hf := ey356
                            refine lv_if_lt (pc := 356) (tgt := 378) hx hb dL_law_356 (by decide) (fun c_356 => ?_) (fun c_356 => ?_)
                            · replace hf := z_ip c_356 hf
                              obtain rfl := Option.some.inj hf
                              exact jp_356 H locs hP hD hS ls (lv_sub hl [0, 1, 2, 3, 4, 5, 6, 7, 8, 9, 10, 11] rfl)
                            · replace hf := z_in c_356 hf
                              refine lv_aload_n (pc := 359) hx hb dL_law_359 rfl (lv_at hl 1 rfl) ?_
                              refine lv_iload (pc := 360) hx hb dL_law_360 (lv_at hl 11 rfl) ?_
                              obtain ⟨x362, e362, hf⟩ := z_bd hf
                              refine z_cpI (pc := 362) S (m_X4_waitedFor l X b d d2 B u12 e362) (cwV 1 hts gL_law_X4_waitedFor rfl rfl rfl hdX4_waitedFor ⟨Nat.le_of_ble_eq_true rfl, Nat.le_of_ble_eq_true rfl⟩) hP hK hN z_S_L (ci := 4) rfl rfl rfl (show kc ≤ room_1.cells ∧ ks ≤ room_1.slots from ⟨by omega, by omega⟩) rfl hl.1 rfl (Nat.le_of_ble_eq_true rfl) dL_law_362 ?_
                              refine lv_aload_n (pc := 365) hx hb dL_law_365 rfl (lv_at hl 1 rfl) ?_
                              refine lv_aload_n (pc := 366) hx hb dL_law_366 rfl (lv_at hl 1 rfl) ?_
                              obtain ⟨x367, e367, hf⟩ := z_bd hf
                              refine z_cpI (pc := 367) S (m_X4_longestWaiting l X b d d2 B e367) (cwV 0 hts gL_law_X4_longestWaiting rfl rfl rfl hdX4_longestWaiting ⟨Nat.le_of_ble_eq_true rfl, Nat.le_of_ble_eq_true rfl⟩) hP hK hN z_S_L (ci := 4) rfl rfl rfl (show kc ≤ room_1.cells ∧ ks ≤ room_1.slots from ⟨by omega, by omega⟩) rfl hl.1 rfl (Nat.le_of_ble_eq_true rfl) dL_law_367 ?_
                              obtain ⟨x370, e370, hf⟩ := z_bd hf
                              refine z_cpI (pc := 370) S (m_X4_waitedFor l X b d d2 B x367 e370) (cwV 1 hts gL_law_X4_waitedFor rfl rfl rfl hdX4_waitedFor ⟨Nat.le_of_ble_eq_true rfl, Nat.le_of_ble_eq_true rfl⟩) hP hK hN z_S_L (ci := 4) rfl rfl rfl (show kc ≤ room_1.cells ∧ ks ≤ room_1.slots from ⟨by omega, by omega⟩) rfl hl.1 rfl (Nat.le_of_ble_eq_true rfl) dL_law_370 ?_
                              refine lv_icmp_le (pc := 373) (tgt := 378) hx hb dL_law_373 (by decide) (fun c_373 => ?_) (fun c_373 => ?_)
                              · replace hf := z_ip c_373 hf
                                obtain rfl := Option.some.inj hf
                                exact jp_356 H locs hP hD hS ls (lv_sub hl [0, 1, 2, 3, 4, 5, 6, 7, 8, 9, 10, 11] rfl)
                              · replace hf := z_in c_373 hf
                                cases hf
                          intro H locs hP hD hS ls hl
                          refine lv_aload_n (pc := 378) hx hb dL_law_378 rfl (lv_at hl 1 rfl) ?_
                          refine lv_iload (pc := 379) hx hb dL_law_379 (lv_at hl 11 rfl) ?_
                          obtain ⟨x381, e381, hf⟩ := z_bd hf
                          refine z_cpI (pc := 381) S (m_X4_nearestIdle l X b d d2 B u12 e381) (cwV 1 hts gL_law_X4_nearestIdle rfl rfl rfl hdX4_nearestIdle ⟨Nat.le_of_ble_eq_true rfl, Nat.le_of_ble_eq_true rfl⟩) hP hK hN z_S_L (ci := 4) rfl rfl rfl (show kc ≤ room_1.cells ∧ ks ≤ room_1.slots from ⟨by omega, by omega⟩) rfl hl.1 rfl (Nat.le_of_ble_eq_true rfl) dL_law_381 ?_
                          refine lv_istore (pc := 384) (lv' := [(14, .int x381), (0, .ref sb), (1, .ref b), (2, .ref a), (3, .int u3), (4, .int u4), (5, .long u5), (7, .int u7), (8, .int u8), (9, .int (u9 + y140)), (10, .int (u10 + y155)), (11, .ref qe0), (12, .int u12)]) hx hb dL_law_384 hl (by decide) rfl (fun ls hl => ?_)
                          refine lv_iconst (v := 0) (pc := 386) hx hb dL_law_386 (by decide) ?_
                          refine lv_istore (pc := 387) (lv' := [(15, .int 0), (14, .int x381), (0, .ref sb), (1, .ref b), (2, .ref a), (3, .int u3), (4, .int u4), (5, .long u5), (7, .int u7), (8, .int u8), (9, .int (u9 + y140)), (10, .int (u10 + y155)), (11, .ref qe0), (12, .int u12)]) hx hb dL_law_387 hl (by decide) rfl (fun ls hl => ?_)
                          obtain ⟨x389, e389, hf⟩ := z_bd hf
                          refine lp_389 z_F14 kc ks (by omega) D qe0 u3 u4 u5 u7 u8 (u9 + y140) (u10 + y155) u12 x381 0 Q B N0 y343 x389 H locs hP hD hS ls (lv_sub hl [2, 3, 4, 5, 6, 7, 8, 9, 10, 11, 12, 13, 1, 0] rfl) e389 (fun H locs hP hD hS ls hl => ?_)
                          refine lv_iinc (pc := 634) (v := (x389.2.2.2.2.2.2.2 + 1)) (lv' := [(12, .int (x389.2.2.2.2.2.2.2 + 1)), (0, .ref sb), (1, .ref b), (2, .ref a), (3, .int x389.1), (4, .int x389.2.1), (5, .long x389.2.2.1), (7, .int x389.2.2.2.1), (8, .int x389.2.2.2.2.1), (9, .int x389.2.2.2.2.2.1), (10, .int x389.2.2.2.2.2.2.1), (11, .ref qe0)]) hx hb dL_law_634 hl (k := 11) rfl rfl (by decide) rfl (fun ls hl => ?_)
                          refine lv_goto (pc := 637) (tgt := 115) hx hb dL_law_637 (by decide) ?_
                          exact ih kc ks (by omega) D qe0 x389.1 x389.2.1 x389.2.2.1 x389.2.2.2.1 x389.2.2.2.2.1 x389.2.2.2.2.2.1 x389.2.2.2.2.2.2.1 (x389.2.2.2.2.2.2.2 + 1) Q B N0 y343 T H locs hP hD hS ls (lv_sub hl [1, 2, 3, 4, 5, 6, 7, 8, 9, 10, 11, 0] rfl) hf kk
                        · replace hf := z_in c_336 hf
                          cases hf
  have lp_873 : ∀ (n : Nat) (kc ks : Nat) (hk : kc ≤ room_1.cells ∧ ks ≤ room_1.slots) (D : z_D) (u3 : Int32) (u7 : Int32) (u8 : Int32) (u13 : Int32) (u14 : Int32) (u16 : Int32) (u17 : Int32) (u18 : Int32) (u19 : Int32) (u20 : Int32) (u21 : Int32) (Q : z_Q) (B : z_B) (T : (Int32 × Int32 × Int32 × Int32 × Int32 × Int32 × Int32 × Int32 × Int32 × Int32)) (H : Heap) (locs : List Loc), va_P X.1 vwCl (z_W (z_wB X b d d2 B) X a D Q []) H → va_D A (z_W (z_wB X b d d2 B) X a D Q []) → va_S A s.heap H locs → ∀ (ls : Array Slot), lv_has ls 28 [(0, .ref sb), (1, .ref b), (2, .ref a), (3, .int u3), (7, .int u7), (8, .int u8), (13, .int u13), (14, .int u14), (16, .int u16), (17, .int u17), (18, .int u18), (19, .int u19), (20, .int u20), (21, .int u21)] → f_L_law_L873 L xs n u3 u7 u8 u13 u14 u16 u17 u18 u19 u20 u21 Q B = some T → (∀ (H : Heap) (locs : List Loc), va_P X.1 vwCl (z_W (z_wB X b d d2 B) X a D Q []) H → va_D A (z_W (z_wB X b d d2 B) X a D Q []) → va_S A s.heap H locs → ∀ (ls : Array Slot), lv_has ls 28 [(0, .ref sb), (1, .ref b), (2, .ref a), (3, .int T.1), (7, .int T.2.1), (8, .int T.2.2.1), (13, .int T.2.2.2.1), (14, .int T.2.2.2.2.1), (16, .int T.2.2.2.2.2.1), (17, .int T.2.2.2.2.2.2.1), (18, .int T.2.2.2.2.2.2.2.1), (19, .int T.2.2.2.2.2.2.2.2.1), (20, .int T.2.2.2.2.2.2.2.2.2)] → W p l e room_1 s m #[Value.ref sb] below meth c H locs kc ks QQ (F0 m 907 ls [])) → W p l e room_1 s m #[Value.ref sb] below meth c H locs kc ks QQ (F0 m 873 ls []) := by
    intro n
    induction n with
    | zero =>
      intro kc ks hk D u3 u7 u8 u13 u14 u16 u17 u18 u19 u20 u21 Q B T H locs hP hD hS ls hl hf kk
      cases hf
    | succ n ih =>
      intro kc ks hk D u3 u7 u8 u13 u14 u16 u17 u18 u19 u20 u21 Q B T H locs hP hD hS ls hl hf kk
      rw [f_L_law_L873] at hf
      refine lv_iload (pc := 873) hx hb dL_law_873 (lv_at hl 13 rfl) ?_
      refine lv_iload (pc := 875) hx hb dL_law_875 (lv_at hl 5 rfl) ?_
      refine lv_icmp_ge (pc := 877) (tgt := 907) hx hb dL_law_877 (by decide) (fun c_877 => ?_) (fun c_877 => ?_)
      · replace hf := z_ip c_877 hf
        obtain rfl := Option.some.inj hf
        exact kk H locs hP hD hS ls (lv_sub hl [0, 1, 2, 3, 4, 5, 6, 7, 8, 9, 10, 11, 12] rfl)
      · replace hf := z_in c_877 hf
        refine lv_iload (pc := 880) hx hb dL_law_880 (lv_at hl 12 rfl) ?_
        refine lv_aload_n (pc := 882) hx hb dL_law_882 rfl (lv_at hl 1 rfl) ?_
        refine lv_iload (pc := 883) hx hb dL_law_883 (lv_at hl 13 rfl) ?_
        obtain ⟨x885, e885, hf⟩ := z_bd hf
        refine z_cpI (pc := 885) S (m_X4_serves l X b d d2 B u21 e885) (cwV 1 hts gL_law_X4_serves rfl rfl rfl hdX4_serves ⟨Nat.le_of_ble_eq_true rfl, Nat.le_of_ble_eq_true rfl⟩) hP hK hN z_S_L (ci := 4) rfl rfl rfl (show kc ≤ room_1.cells ∧ ks ≤ room_1.slots from ⟨by omega, by omega⟩) rfl hl.1 rfl (Nat.le_of_ble_eq_true rfl) dL_law_885 ?_
        refine lv_iload (pc := 888) hx hb dL_law_888 (lv_at hl 6 rfl) ?_
        obtain ⟨y890, ey890, hf⟩ := z_bd hf
        suffices jp_890 : ∀ (H : Heap) (locs : List Loc) (_ : va_P X.1 vwCl (z_W (z_wB X b d d2 B) X a D Q []) H) (_ : va_D A (z_W (z_wB X b d d2 B) X a D Q [])) (_ : va_S A s.heap H locs) (ls : Array Slot) (_ : lv_has ls 28 [(0, .ref sb), (1, .ref b), (2, .ref a), (3, .int u3), (7, .int u7), (8, .int u8), (13, .int u13), (14, .int u14), (16, .int u16), (17, .int u17), (18, .int u18), (19, .int u19), (21, .int u21)]), W p l e room_1 s m #[Value.ref sb] below meth c H locs kc ks QQ (F0 m 898 ls [.int y890, .int u20]) by
          have hf := ey890
          refine lv_icmp_ne (pc := 890) (tgt := 897) hx hb dL_law_890 (by decide) (fun c_890 => ?_) (fun c_890 => ?_)
          · replace hf := z_in c_890 hf
            refine lv_iconst (v := 0) (pc := 897) hx hb dL_law_897 (by decide) ?_
            obtain rfl := Option.some.inj hf
            exact jp_890 H locs hP hD hS ls (lv_sub hl [0, 1, 2, 3, 4, 5, 6, 7, 8, 9, 10, 11, 13] rfl)
          · replace hf := z_ip c_890 hf
            refine lv_iconst (v := 1) (pc := 893) hx hb dL_law_893 (by decide) ?_
            refine lv_goto (pc := 894) (tgt := 898) hx hb dL_law_894 (by decide) ?_
            obtain rfl := Option.some.inj hf
            exact jp_890 H locs hP hD hS ls (lv_sub hl [0, 1, 2, 3, 4, 5, 6, 7, 8, 9, 10, 11, 13] rfl)
        intro H locs hP hD hS ls hl
        refine lv_ior (pc := 898) hx hb dL_law_898 ?_
        refine lv_istore (pc := 899) (lv' := [(20, .int (u20 ||| y890)), (0, .ref sb), (1, .ref b), (2, .ref a), (3, .int u3), (7, .int u7), (8, .int u8), (13, .int u13), (14, .int u14), (16, .int u16), (17, .int u17), (18, .int u18), (19, .int u19), (21, .int u21)]) hx hb dL_law_899 hl (by decide) rfl (fun ls hl => ?_)
        refine lv_iinc (pc := 901) (v := (u21 + 1)) (lv' := [(21, .int (u21 + 1)), (20, .int (u20 ||| y890)), (0, .ref sb), (1, .ref b), (2, .ref a), (3, .int u3), (7, .int u7), (8, .int u8), (13, .int u13), (14, .int u14), (16, .int u16), (17, .int u17), (18, .int u18), (19, .int u19)]) hx hb dL_law_901 hl (k := 13) rfl rfl (by decide) rfl (fun ls hl => ?_)
        refine lv_goto (pc := 904) (tgt := 873) hx hb dL_law_904 (by decide) ?_
        exact ih kc ks (by omega) D u3 u7 u8 u13 u14 u16 u17 u18 u19 (u20 ||| y890) (u21 + 1) Q B T H locs hP hD hS ls (lv_sub hl [2, 3, 4, 5, 6, 7, 8, 9, 10, 11, 12, 13, 1, 0] rfl) hf kk
  have lp_982 : ∀ (n : Nat) (kc ks : Nat) (hk : kc ≤ room_1.cells ∧ ks ≤ room_1.slots) (D : z_D) (qe0 : Nat) (u3 : Int32) (u7 : Int32) (u8 : Int32) (u13 : Int32) (u14 : Int32) (u16 : Int32) (u17 : Int32) (u18 : Int32) (u19 : Int32) (u21 : Int32) (u22 : Int32) (u23 : Int32) (u25 : Int32) (Q : z_Q) (B : z_B) (N0 : Nat) (g0 : (Nat → Int32)) (T : (Int32 × Int32 × Int32 × Int32 × Int32 × Int32 × Int32 × Int32 × Int32 × Int32 × Int32 × Int32 × (Nat → Int32))) (H : Heap) (locs : List Loc), va_P X.1 vwCl (z_W (z_wB X b d d2 B) X a D Q [(qe0, .inl (X.2.1, N0, .inl g0))]) H → va_D A (z_W (z_wB X b d d2 B) X a D Q [(qe0, .inl (X.2.1, N0, .inl g0))]) → va_S A s.heap H locs → ∀ (ls : Array Slot), lv_has ls 28 [(0, .ref sb), (1, .ref b), (2, .ref a), (3, .int u3), (7, .int u7), (8, .int u8), (13, .int u13), (14, .int u14), (16, .int u16), (17, .int u17), (18, .int u18), (19, .int u19), (21, .int u21), (22, .int u22), (23, .int u23), (24, .ref qe0), (25, .int u25)] → f_L_law_L982 L xs n u3 u7 u8 u13 u14 u16 u17 u18 u19 u21 u22 u23 u25 Q B N0 g0 = some T → (∀ (H : Heap) (locs : List Loc), va_P X.1 vwCl (z_W (z_wB X b d d2 B) X a D Q [(qe0, .inl (X.2.1, N0, .inl T.2.2.2.2.2.2.2.2.2.2.2.2))]) H → va_D A (z_W (z_wB X b d d2 B) X a D Q [(qe0, .inl (X.2.1, N0, .inl T.2.2.2.2.2.2.2.2.2.2.2.2))]) → va_S A s.heap H locs → ∀ (ls : Array Slot), lv_has ls 28 [(0, .ref sb), (1, .ref b), (2, .ref a), (3, .int T.1), (7, .int T.2.1), (8, .int T.2.2.1), (13, .int T.2.2.2.1), (14, .int T.2.2.2.2.1), (16, .int T.2.2.2.2.2.1), (17, .int T.2.2.2.2.2.2.1), (18, .int T.2.2.2.2.2.2.2.1), (19, .int T.2.2.2.2.2.2.2.2.1), (21, .int T.2.2.2.2.2.2.2.2.2.1), (22, .int T.2.2.2.2.2.2.2.2.2.2.1), (23, .int T.2.2.2.2.2.2.2.2.2.2.2.1), (24, .ref qe0)] → W p l e room_1 s m #[Value.ref sb] below meth c H locs kc ks QQ (F0 m 1006 ls [])) → W p l e room_1 s m #[Value.ref sb] below meth c H locs kc ks QQ (F0 m 982 ls []) := by
    intro n
    induction n with
    | zero =>
      intro kc ks hk D qe0 u3 u7 u8 u13 u14 u16 u17 u18 u19 u21 u22 u23 u25 Q B N0 g0 T H locs hP hD hS ls hl hf kk
      cases hf
    | succ n ih =>
      intro kc ks hk D qe0 u3 u7 u8 u13 u14 u16 u17 u18 u19 u21 u22 u23 u25 Q B N0 g0 T H locs hP hD hS ls hl hf kk
      rw [f_L_law_L982] at hf
      refine lv_iload (pc := 982) hx hb dL_law_982 (lv_at hl 16 rfl) ?_
      refine lv_iload (pc := 984) hx hb dL_law_984 (lv_at hl 4 rfl) ?_
      refine lv_icmp_ge (pc := 986) (tgt := 1006) hx hb dL_law_986 (by decide) (fun c_986 => ?_) (fun c_986 => ?_)
      · replace hf := z_ip c_986 hf
        obtain rfl := Option.some.inj hf
        exact kk H locs hP hD hS ls (lv_sub hl [0, 1, 2, 3, 4, 5, 6, 7, 8, 9, 10, 11, 12, 13, 14, 15] rfl)
      · replace hf := z_in c_986 hf
        refine lv_aload (pc := 989) hx hb dL_law_989 (lv_at hl 15 rfl) ?_
        refine lv_iload (pc := 991) hx hb dL_law_991 (lv_at hl 16 rfl) ?_
        refine lv_aload_n (pc := 993) hx hb dL_law_993 rfl (lv_at hl 1 rfl) ?_
        refine lv_iload (pc := 994) hx hb dL_law_994 (lv_at hl 16 rfl) ?_
        obtain ⟨x996, e996, hf⟩ := z_bd hf
        refine z_cpI (pc := 996) S (m_X4_waitedFor l X b d d2 B u25 e996) (cwV 1 hts gL_law_X4_waitedFor rfl rfl rfl hdX4_waitedFor ⟨Nat.le_of_ble_eq_true rfl, Nat.le_of_ble_eq_true rfl⟩) hP hK hN z_S_L (ci := 4) rfl rfl rfl (show kc ≤ room_1.cells ∧ ks ≤ room_1.slots from ⟨by omega, by omega⟩) rfl hl.1 rfl (Nat.le_of_ble_eq_true rfl) dL_law_996 ?_
        obtain ⟨x999, e999, hf⟩ := z_bd hf
        refine z_iast (pc := 999) (W1 := (z_W (z_wB X b d d2 B) X a D Q [(qe0, .inl (X.2.1, N0, .inl x999))])) hx hb hK hP hD hS _ 0 ((zg_e 0).trans rfl) rfl e999 (zs_e (i := 0)) dL_law_999 (fun H locs hP hD hS => ?_)
        refine lv_iinc (pc := 1000) (v := (u25 + 1)) (lv' := [(25, .int (u25 + 1)), (0, .ref sb), (1, .ref b), (2, .ref a), (3, .int u3), (7, .int u7), (8, .int u8), (13, .int u13), (14, .int u14), (16, .int u16), (17, .int u17), (18, .int u18), (19, .int u19), (21, .int u21), (22, .int u22), (23, .int u23), (24, .ref qe0)]) hx hb dL_law_1000 hl (k := 16) rfl rfl (by decide) rfl (fun ls hl => ?_)
        refine lv_goto (pc := 1003) (tgt := 982) hx hb dL_law_1003 (by decide) ?_
        exact ih kc ks (by omega) D qe0 u3 u7 u8 u13 u14 u16 u17 u18 u19 u21 u22 u23 (u25 + 1) Q B N0 x999 T H locs hP hD hS ls (lv_sub hl [1, 2, 3, 4, 5, 6, 7, 8, 9, 10, 11, 12, 13, 14, 15, 16, 0] rfl) hf kk
  have lp_1087 : ∀ (n : Nat) (kc ks : Nat) (hk : kc ≤ room_1.cells ∧ ks ≤ room_1.slots) (D : z_D) (qe0 : Nat) (u3 : Int32) (u7 : Int32) (u8 : Int32) (u13 : Int32) (u14 : Int32) (u16 : Int32) (u17 : Int32) (u18 : Int32) (u19 : Int32) (u26 : Int32) (u27 : Int32) (Q : z_Q) (B : z_B) (N0 : Nat) (g0 : (Nat → Int32)) (T : (Int32 × Int32 × Int32 × Int32 × Int32 × Int32 × Int32 × Int32 × Int32 × Int32)) (H : Heap) (locs : List Loc), va_P X.1 vwCl (z_W (z_wB X b d d2 B) X a D Q [(qe0, .inl (X.2.1, N0, .inl g0))]) H → va_D A (z_W (z_wB X b d d2 B) X a D Q [(qe0, .inl (X.2.1, N0, .inl g0))]) → va_S A s.heap H locs → ∀ (ls : Array Slot), lv_has ls 28 [(0, .ref sb), (1, .ref b), (2, .ref a), (3, .int u3), (7, .int u7), (8, .int u8), (13, .int u13), (14, .int u14), (16, .int u16), (17, .int u17), (18, .int u18), (19, .int u19), (24, .ref qe0), (26, .int u26), (27, .int u27)] → f_L_law_L1087 L xs n u3 u7 u8 u13 u14 u16 u17 u18 u19 u26 u27 Q B N0 g0 = some T → (∀ (H : Heap) (locs : List Loc), va_P X.1 vwCl (z_W (z_wB X b d d2 B) X a D Q [(qe0, .inl (X.2.1, N0, .inl g0))]) H → va_D A (z_W (z_wB X b d d2 B) X a D Q [(qe0, .inl (X.2.1, N0, .inl g0))]) → va_S A s.heap H locs → ∀ (ls : Array Slot), lv_has ls 28 [(0, .ref sb), (1, .ref b), (2, .ref a), (3, .int T.1), (7, .int T.2.1), (8, .int T.2.2.1), (13, .int T.2.2.2.1), (14, .int T.2.2.2.2.1), (16, .int T.2.2.2.2.2.1), (17, .int T.2.2.2.2.2.2.1), (18, .int T.2.2.2.2.2.2.2.1), (19, .int T.2.2.2.2.2.2.2.2.1), (24, .ref qe0), (26, .int T.2.2.2.2.2.2.2.2.2)] → W p l e room_1 s m #[Value.ref sb] below meth c H locs kc ks QQ (F0 m 1128 ls [])) → W p l e room_1 s m #[Value.ref sb] below meth c H locs kc ks QQ (F0 m 1087 ls []) := by
    intro n
    induction n with
    | zero =>
      intro kc ks hk D qe0 u3 u7 u8 u13 u14 u16 u17 u18 u19 u26 u27 Q B N0 g0 T H locs hP hD hS ls hl hf kk
      cases hf
    | succ n ih =>
      intro kc ks hk D qe0 u3 u7 u8 u13 u14 u16 u17 u18 u19 u26 u27 Q B N0 g0 T H locs hP hD hS ls hl hf kk
      rw [f_L_law_L1087] at hf
      refine lv_iload (pc := 1087) hx hb dL_law_1087 (lv_at hl 14 rfl) ?_
      refine lv_iload (pc := 1089) hx hb dL_law_1089 (lv_at hl 5 rfl) ?_
      refine lv_icmp_ge (pc := 1091) (tgt := 1128) hx hb dL_law_1091 (by decide) (fun c_1091 => ?_) (fun c_1091 => ?_)
      · replace hf := z_ip c_1091 hf
        obtain rfl := Option.some.inj hf
        exact kk H locs hP hD hS ls (lv_sub hl [0, 1, 2, 3, 4, 5, 6, 7, 8, 9, 10, 11, 12, 13] rfl)
      · replace hf := z_in c_1091 hf
        refine lv_iload (pc := 1094) hx hb dL_law_1094 (lv_at hl 13 rfl) ?_
        refine lv_aload_n (pc := 1096) hx hb dL_law_1096 rfl (lv_at hl 1 rfl) ?_
        refine lv_iload (pc := 1097) hx hb dL_law_1097 (lv_at hl 14 rfl) ?_
        obtain ⟨x1099, e1099, hf⟩ := z_bd hf
        refine z_cpI (pc := 1099) S (m_X4_goesTo l X b d d2 B u27 e1099) (cwV 1 hts gL_law_X4_goesTo rfl rfl rfl hdX4_goesTo ⟨Nat.le_of_ble_eq_true rfl, Nat.le_of_ble_eq_true rfl⟩) hP hK hN z_S_L (ci := 4) rfl rfl rfl (show kc ≤ room_1.cells ∧ ks ≤ room_1.slots from ⟨by omega, by omega⟩) rfl hl.1 rfl (Nat.le_of_ble_eq_true rfl) dL_law_1099 ?_
        obtain ⟨y1102, ey1102, hf⟩ := z_bd hf
        suffices jp_1102 : ∀ (H : Heap) (locs : List Loc) (_ : va_P X.1 vwCl (z_W (z_wB X b d d2 B) X a D Q [(qe0, .inl (X.2.1, N0, .inl g0))]) H) (_ : va_D A (z_W (z_wB X b d d2 B) X a D Q [(qe0, .inl (X.2.1, N0, .inl g0))])) (_ : va_S A s.heap H locs) (ls : Array Slot) (_ : lv_has ls 28 [(0, .ref sb), (1, .ref b), (2, .ref a), (3, .int u3), (7, .int u7), (8, .int u8), (13, .int u13), (14, .int u14), (16, .int u16), (17, .int u17), (18, .int u18), (19, .int u19), (24, .ref qe0), (27, .int u27)]), W p l e room_1 s m #[Value.ref sb] below meth c H locs kc ks QQ (F0 m 1119 ls [.int y1102, .int u26]) by
          have hf := ey1102
          refine lv_if_ge (pc := 1102) (tgt := 1118) hx hb dL_law_1102 (by decide) (fun c_1102 => ?_) (fun c_1102 => ?_)
          · replace hf := z_ip c_1102 hf
            refine lv_iconst (v := 0) (pc := 1118) hx hb dL_law_1118 (by decide) ?_
            obtain rfl := Option.some.inj hf
            exact jp_1102 H locs hP hD hS ls (lv_sub hl [0, 1, 2, 3, 4, 5, 6, 7, 8, 9, 10, 11, 12, 14] rfl)
          · replace hf := z_in c_1102 hf
            refine lv_aload_n (pc := 1105) hx hb dL_law_1105 rfl (lv_at hl 1 rfl) ?_
            refine lv_iload (pc := 1106) hx hb dL_law_1106 (lv_at hl 14 rfl) ?_
            obtain ⟨x1108, e1108, hf⟩ := z_bd hf
            refine z_cpI (pc := 1108) S (m_X4_serves l X b d d2 B u27 e1108) (cwV 1 hts gL_law_X4_serves rfl rfl rfl hdX4_serves ⟨Nat.le_of_ble_eq_true rfl, Nat.le_of_ble_eq_true rfl⟩) hP hK hN z_S_L (ci := 4) rfl rfl rfl (show kc ≤ room_1.cells ∧ ks ≤ room_1.slots from ⟨by omega, by omega⟩) rfl hl.1 rfl (Nat.le_of_ble_eq_true rfl) dL_law_1108 ?_
            refine lv_if_ge (pc := 1111) (tgt := 1118) hx hb dL_law_1111 (by decide) (fun c_1111 => ?_) (fun c_1111 => ?_)
            · replace hf := z_ip c_1111 hf
              refine lv_iconst (v := 0) (pc := 1118) hx hb dL_law_1118 (by decide) ?_
              obtain rfl := Option.some.inj hf
              exact jp_1102 H locs hP hD hS ls (lv_sub hl [0, 1, 2, 3, 4, 5, 6, 7, 8, 9, 10, 11, 12, 14] rfl)
            · replace hf := z_in c_1111 hf
              refine lv_iconst (v := 1) (pc := 1114) hx hb dL_law_1114 (by decide) ?_
              refine lv_goto (pc := 1115) (tgt := 1119) hx hb dL_law_1115 (by decide) ?_
              obtain rfl := Option.some.inj hf
              exact jp_1102 H locs hP hD hS ls (lv_sub hl [0, 1, 2, 3, 4, 5, 6, 7, 8, 9, 10, 11, 12, 14] rfl)
        intro H locs hP hD hS ls hl
        refine lv_ior (pc := 1119) hx hb dL_law_1119 ?_
        refine lv_istore (pc := 1120) (lv' := [(26, .int (u26 ||| y1102)), (0, .ref sb), (1, .ref b), (2, .ref a), (3, .int u3), (7, .int u7), (8, .int u8), (13, .int u13), (14, .int u14), (16, .int u16), (17, .int u17), (18, .int u18), (19, .int u19), (24, .ref qe0), (27, .int u27)]) hx hb dL_law_1120 hl (by decide) rfl (fun ls hl => ?_)
        refine lv_iinc (pc := 1122) (v := (u27 + 1)) (lv' := [(27, .int (u27 + 1)), (26, .int (u26 ||| y1102)), (0, .ref sb), (1, .ref b), (2, .ref a), (3, .int u3), (7, .int u7), (8, .int u8), (13, .int u13), (14, .int u14), (16, .int u16), (17, .int u17), (18, .int u18), (19, .int u19), (24, .ref qe0)]) hx hb dL_law_1122 hl (k := 14) rfl rfl (by decide) rfl (fun ls hl => ?_)
        refine lv_goto (pc := 1125) (tgt := 1087) hx hb dL_law_1125 (by decide) ?_
        exact ih kc ks (by omega) D qe0 u3 u7 u8 u13 u14 u16 u17 u18 u19 (u26 ||| y1102) (u27 + 1) Q B N0 g0 T H locs hP hD hS ls (lv_sub hl [2, 3, 4, 5, 6, 7, 8, 9, 10, 11, 12, 13, 14, 1, 0] rfl) hf kk
  have lp_1145 : ∀ (n : Nat) (kc ks : Nat) (hk : kc ≤ room_1.cells ∧ ks ≤ room_1.slots) (D : z_D) (qe0 : Nat) (u3 : Int32) (u7 : Int32) (u8 : Int32) (u13 : Int32) (u14 : Int32) (u16 : Int32) (u17 : Int32) (u18 : Int32) (u19 : Int32) (u27 : Int32) (Q : z_Q) (B : z_B) (N0 : Nat) (g0 : (Nat → Int32)) (T : (Int32 × Int32 × Int32 × Int32 × Int32 × Int32 × Int32 × Int32 × Int32)) (H : Heap) (locs : List Loc), va_P X.1 vwCl (z_W (z_wB X b d d2 B) X a D Q [(qe0, .inl (X.2.1, N0, .inl g0))]) H → va_D A (z_W (z_wB X b d d2 B) X a D Q [(qe0, .inl (X.2.1, N0, .inl g0))]) → va_S A s.heap H locs → ∀ (ls : Array Slot), lv_has ls 28 [(0, .ref sb), (1, .ref b), (2, .ref a), (3, .int u3), (7, .int u7), (8, .int u8), (13, .int u13), (14, .int u14), (16, .int u16), (17, .int u17), (18, .int u18), (19, .int u19), (24, .ref qe0), (27, .int u27)] → f_L_law_L1145 L xs n u3 u7 u8 u13 u14 u16 u17 u18 u19 u27 Q B N0 g0 = some T → (∀ (H : Heap) (locs : List Loc), va_P X.1 vwCl (z_W (z_wB X b d d2 B) X a D Q []) H → va_D A (z_W (z_wB X b d d2 B) X a D Q []) → va_S A s.heap H locs → ∀ (ls : Array Slot), lv_has ls 28 [(0, .ref sb), (1, .ref b), (2, .ref a), (3, .int T.1), (7, .int T.2.1), (8, .int T.2.2.1), (13, .int T.2.2.2.1), (14, .int T.2.2.2.2.1), (16, .int T.2.2.2.2.2.1), (17, .int T.2.2.2.2.2.2.1), (18, .int T.2.2.2.2.2.2.2.1), (19, .int T.2.2.2.2.2.2.2.2)] → W p l e room_1 s m #[Value.ref sb] below meth c H locs kc ks QQ (F0 m 1222 ls [])) → W p l e room_1 s m #[Value.ref sb] below meth c H locs kc ks QQ (F0 m 1145 ls []) := by
    intro n
    induction n with
    | zero =>
      intro kc ks hk D qe0 u3 u7 u8 u13 u14 u16 u17 u18 u19 u27 Q B N0 g0 T H locs hP hD hS ls hl hf kk
      cases hf
    | succ n ih =>
      intro kc ks hk D qe0 u3 u7 u8 u13 u14 u16 u17 u18 u19 u27 Q B N0 g0 T H locs hP hD hS ls hl hf kk
      rw [f_L_law_L1145] at hf
      refine lv_iload (pc := 1145) hx hb dL_law_1145 (lv_at hl 13 rfl) ?_
      refine lv_iload (pc := 1147) hx hb dL_law_1147 (lv_at hl 4 rfl) ?_
      refine lv_icmp_ge (pc := 1149) (tgt := 1222) hx hb dL_law_1149 (by decide) (fun c_1149 => ?_) (fun c_1149 => ?_)
      · replace hf := z_ip c_1149 hf
        have hP : va_P X.1 vwCl (z_W (z_wB X b d d2 B) X a D Q []) H := z_dropW hP
        have hD : va_D A (z_W (z_wB X b d d2 B) X a D Q []) := z_dropV hD
        obtain rfl := Option.some.inj hf
        exact kk H locs hP hD hS ls (lv_sub hl [0, 1, 2, 3, 4, 5, 6, 7, 8, 9, 10, 11] rfl)
      · replace hf := z_in c_1149 hf
        refine lv_aload_n (pc := 1152) hx hb dL_law_1152 rfl (lv_at hl 1 rfl) ?_
        refine lv_iload (pc := 1153) hx hb dL_law_1153 (lv_at hl 13 rfl) ?_
        obtain ⟨x1155, e1155, hf⟩ := z_bd hf
        refine z_cpI (pc := 1155) S (m_X4_waitedFor l X b d d2 B u27 e1155) (cwV 1 hts gL_law_X4_waitedFor rfl rfl rfl hdX4_waitedFor ⟨Nat.le_of_ble_eq_true rfl, Nat.le_of_ble_eq_true rfl⟩) hP hK hN z_S_L (ci := 4) rfl rfl rfl (show kc ≤ room_1.cells ∧ ks ≤ room_1.slots from ⟨by omega, by omega⟩) rfl hl.1 rfl (Nat.le_of_ble_eq_true rfl) dL_law_1155 ?_
        refine lv_iconst (v := (-1)) (pc := 1158) hx hb dL_law_1158 (by decide) ?_
        obtain ⟨y1159, ey1159, hf⟩ := z_bd hf
        suffices jp_1159 : ∀ (H : Heap) (locs : List Loc) (_ : va_P X.1 vwCl (z_W (z_wB X b d d2 B) X a D Q [(qe0, .inl (X.2.1, N0, .inl g0))]) H) (_ : va_D A (z_W (z_wB X b d d2 B) X a D Q [(qe0, .inl (X.2.1, N0, .inl g0))])) (_ : va_S A s.heap H locs) (ls : Array Slot) (_ : lv_has ls 28 [(0, .ref sb), (1, .ref b), (2, .ref a), (3, .int u3), (7, .int u7), (8, .int u8), (13, .int u13), (14, .int u14), (16, .int u16), (17, .int u17), (18, .int u18), (19, .int u19), (24, .ref qe0), (27, .int u27)]), W p l e room_1 s m #[Value.ref sb] below meth c H locs kc ks QQ (F0 m 1178 ls []) by
          have hf := ey1159
          refine lv_icmp_eq (pc := 1159) (tgt := 1178) hx hb dL_law_1159 (by decide) (fun c_1159 => ?_) (fun c_1159 => ?_)
          · replace hf := z_ip c_1159 hf
            obtain rfl := Option.some.inj hf
            exact jp_1159 H locs hP hD hS ls (lv_sub hl [0, 1, 2, 3, 4, 5, 6, 7, 8, 9, 10, 11, 12, 13] rfl)
          · replace hf := z_in c_1159 hf
            refine lv_aload_n (pc := 1162) hx hb dL_law_1162 rfl (lv_at hl 1 rfl) ?_
            refine lv_iload (pc := 1163) hx hb dL_law_1163 (lv_at hl 13 rfl) ?_
            obtain ⟨x1165, e1165, hf⟩ := z_bd hf
            refine z_cpI (pc := 1165) S (m_X4_waitedFor l X b d d2 B u27 e1165) (cwV 1 hts gL_law_X4_waitedFor rfl rfl rfl hdX4_waitedFor ⟨Nat.le_of_ble_eq_true rfl, Nat.le_of_ble_eq_true rfl⟩) hP hK hN z_S_L (ci := 4) rfl rfl rfl (show kc ≤ room_1.cells ∧ ks ≤ room_1.slots from ⟨by omega, by omega⟩) rfl hl.1 rfl (Nat.le_of_ble_eq_true rfl) dL_law_1165 ?_
            refine lv_aload (pc := 1168) hx hb dL_law_1168 (lv_at hl 12 rfl) ?_
            refine lv_iload (pc := 1170) hx hb dL_law_1170 (lv_at hl 13 rfl) ?_
            obtain ⟨x1172, e1172, hf⟩ := z_bd hf
            refine z_iald (pc := 1172) hx hb hK hP _ 0 ((zg_e 0).trans rfl) rfl e1172 dL_law_1172 ?_
            refine lv_iconst (v := 1) (pc := 1173) hx hb dL_law_1173 (by decide) ?_
            refine lv_iadd (pc := 1174) hx hb dL_law_1174 ?_
            refine lv_icmp_ne (pc := 1175) (tgt := 1214) hx hb dL_law_1175 (by decide) (fun c_1175 => ?_) (fun c_1175 => ?_)
            · replace hf := z_in c_1175 hf
              cases hf
            · replace hf := z_ip c_1175 hf
              obtain rfl := Option.some.inj hf
              exact jp_1159 H locs hP hD hS ls (lv_sub hl [0, 1, 2, 3, 4, 5, 6, 7, 8, 9, 10, 11, 12, 13] rfl)
        intro H locs hP hD hS ls hl
        refine lv_aload (pc := 1178) hx hb dL_law_1178 (lv_at hl 12 rfl) ?_
        refine lv_iload (pc := 1180) hx hb dL_law_1180 (lv_at hl 13 rfl) ?_
        obtain ⟨x1182, e1182, hf⟩ := z_bd hf
        refine z_iald (pc := 1182) hx hb hK hP _ 0 ((zg_e 0).trans rfl) rfl e1182 dL_law_1182 ?_
        obtain ⟨y1183, ey1183, hf⟩ := z_bd hf
        suffices jp_1183 : ∀ (H : Heap) (locs : List Loc) (_ : va_P X.1 vwCl (z_W (z_wB X b d d2 B) X a D Q [(qe0, .inl (X.2.1, N0, .inl g0))]) H) (_ : va_D A (z_W (z_wB X b d d2 B) X a D Q [(qe0, .inl (X.2.1, N0, .inl g0))])) (_ : va_S A s.heap H locs) (ls : Array Slot) (_ : lv_has ls 28 [(0, .ref sb), (1, .ref b), (2, .ref a), (3, .int u3), (7, .int u7), (8, .int u8), (13, .int u13), (14, .int u14), (16, .int u16), (17, .int u17), (18, .int u18), (19, .int u19), (24, .ref qe0), (27, .int u27)]), W p l e room_1 s m #[Value.ref sb] below meth c H locs kc ks QQ (F0 m 1195 ls []) by
          have hf := ey1183
          refine lv_if_ge (pc := 1183) (tgt := 1195) hx hb dL_law_1183 (by decide) (fun c_1183 => ?_) (fun c_1183 => ?_)
          · replace hf := z_ip c_1183 hf
            obtain rfl := Option.some.inj hf
            exact jp_1183 H locs hP hD hS ls (lv_sub hl [0, 1, 2, 3, 4, 5, 6, 7, 8, 9, 10, 11, 12, 13] rfl)
          · replace hf := z_in c_1183 hf
            refine lv_aload_n (pc := 1186) hx hb dL_law_1186 rfl (lv_at hl 1 rfl) ?_
            refine lv_iload (pc := 1187) hx hb dL_law_1187 (lv_at hl 13 rfl) ?_
            obtain ⟨x1189, e1189, hf⟩ := z_bd hf
            refine z_cpI (pc := 1189) S (m_X4_waitedFor l X b d d2 B u27 e1189) (cwV 1 hts gL_law_X4_waitedFor rfl rfl rfl hdX4_waitedFor ⟨Nat.le_of_ble_eq_true rfl, Nat.le_of_ble_eq_true rfl⟩) hP hK hN z_S_L (ci := 4) rfl rfl rfl (show kc ≤ room_1.cells ∧ ks ≤ room_1.slots from ⟨by omega, by omega⟩) rfl hl.1 rfl (Nat.le_of_ble_eq_true rfl) dL_law_1189 ?_
            refine lv_if_ge (pc := 1192) (tgt := 1214) hx hb dL_law_1192 (by decide) (fun c_1192 => ?_) (fun c_1192 => ?_)
            · replace hf := z_ip c_1192 hf
              cases hf
            · replace hf := z_in c_1192 hf
              obtain rfl := Option.some.inj hf
              exact jp_1183 H locs hP hD hS ls (lv_sub hl [0, 1, 2, 3, 4, 5, 6, 7, 8, 9, 10, 11, 12, 13] rfl)
        intro H locs hP hD hS ls hl
        refine lv_aload (pc := 1195) hx hb dL_law_1195 (lv_at hl 12 rfl) ?_
        refine lv_iload (pc := 1197) hx hb dL_law_1197 (lv_at hl 13 rfl) ?_
        obtain ⟨x1199, e1199, hf⟩ := z_bd hf
        refine z_iald (pc := 1199) hx hb hK hP _ 0 ((zg_e 0).trans rfl) rfl e1199 dL_law_1199 ?_
        refine lv_bipush (v := 29) (pc := 1200) hx hb dL_law_1200 (by decide) ?_
        obtain ⟨y1202, ey1202, hf⟩ := z_bd hf
        suffices jp_1202 : ∀ (H : Heap) (locs : List Loc) (_ : va_P X.1 vwCl (z_W (z_wB X b d d2 B) X a D Q [(qe0, .inl (X.2.1, N0, .inl g0))]) H) (_ : va_D A (z_W (z_wB X b d d2 B) X a D Q [(qe0, .inl (X.2.1, N0, .inl g0))])) (_ : va_S A s.heap H locs) (ls : Array Slot) (_ : lv_has ls 28 [(0, .ref sb), (1, .ref b), (2, .ref a), (3, .int u3), (7, .int u7), (8, .int u8), (13, .int u13), (14, .int u14), (16, .int u16), (17, .int u17), (18, .int u18), (19, .int u19), (24, .ref qe0), (27, .int u27)]), W p l e room_1 s m #[Value.ref sb] below meth c H locs kc ks QQ (F0 m 1216 ls []) by
          have hf := ey1202
          refine lv_icmp_ne (pc := 1202) (tgt := 1216) hx hb dL_law_1202 (by decide) (fun c_1202 => ?_) (fun c_1202 => ?_)
          · replace hf := z_in c_1202 hf
            obtain rfl := Option.some.inj hf
            exact jp_1202 H locs hP hD hS ls (lv_sub hl [0, 1, 2, 3, 4, 5, 6, 7, 8, 9, 10, 11, 12, 13] rfl)
          · replace hf := z_ip c_1202 hf
            refine lv_aload_n (pc := 1205) hx hb dL_law_1205 rfl (lv_at hl 1 rfl) ?_
            refine lv_iload (pc := 1206) hx hb dL_law_1206 (lv_at hl 13 rfl) ?_
            obtain ⟨x1208, e1208, hf⟩ := z_bd hf
            refine z_cpI (pc := 1208) S (m_X4_waitedFor l X b d d2 B u27 e1208) (cwV 1 hts gL_law_X4_waitedFor rfl rfl rfl hdX4_waitedFor ⟨Nat.le_of_ble_eq_true rfl, Nat.le_of_ble_eq_true rfl⟩) hP hK hN z_S_L (ci := 4) rfl rfl rfl (show kc ≤ room_1.cells ∧ ks ≤ room_1.slots from ⟨by omega, by omega⟩) rfl hl.1 rfl (Nat.le_of_ble_eq_true rfl) dL_law_1208 ?_
            refine lv_if_lt (pc := 1211) (tgt := 1216) hx hb dL_law_1211 (by decide) (fun c_1211 => ?_) (fun c_1211 => ?_)
            · replace hf := z_ip c_1211 hf
              obtain rfl := Option.some.inj hf
              exact jp_1202 H locs hP hD hS ls (lv_sub hl [0, 1, 2, 3, 4, 5, 6, 7, 8, 9, 10, 11, 12, 13] rfl)
            · replace hf := z_in c_1211 hf
              cases hf
        intro H locs hP hD hS ls hl
        refine lv_iinc (pc := 1216) (v := (u27 + 1)) (lv' := [(27, .int (u27 + 1)), (0, .ref sb), (1, .ref b), (2, .ref a), (3, .int u3), (7, .int u7), (8, .int u8), (13, .int u13), (14, .int u14), (16, .int u16), (17, .int u17), (18, .int u18), (19, .int u19), (24, .ref qe0)]) hx hb dL_law_1216 hl (k := 13) rfl rfl (by decide) rfl (fun ls hl => ?_)
        refine lv_goto (pc := 1219) (tgt := 1145) hx hb dL_law_1219 (by decide) ?_
        exact ih kc ks (by omega) D qe0 u3 u7 u8 u13 u14 u16 u17 u18 u19 (u27 + 1) Q B N0 g0 T H locs hP hD hS ls (lv_sub hl [1, 2, 3, 4, 5, 6, 7, 8, 9, 10, 11, 12, 13, 0] rfl) hf kk
  have lp_860 : ∀ (n : Nat) (kC kS kc ks : Nat) (hk : (kc + n * 29 ≤ kC ∧ ks + n * 377 ≤ kS) ∧ kC ≤ room_1.cells ∧ kS ≤ room_1.slots) (D : z_D) (u3 : Int32) (u7 : Int32) (u8 : Int32) (u13 : Int32) (u14 : Int32) (u16 : Int32) (u17 : Int32) (u18 : Int32) (u19 : Int32) (Q : z_Q) (B : z_B) (T : (Int32 × Int32 × Int32 × z_Q × z_B)) (H : Heap) (locs : List Loc), va_P X.1 vwCl (z_W (z_wB X b d d2 B) X a D Q []) H → va_D A (z_W (z_wB X b d d2 B) X a D Q []) → va_S A s.heap H locs → ∀ (ls : Array Slot), lv_has ls 28 [(0, .ref sb), (1, .ref b), (2, .ref a), (3, .int u3), (7, .int u7), (8, .int u8), (13, .int u13), (14, .int u14), (16, .int u16), (17, .int u17), (18, .int u18), (19, .int u19)] → f_L_law_L860 L xs n u3 u7 u8 u13 u14 u16 u17 u18 u19 Q B = some T → (∀ (k1 s1 : Nat) (_ : k1 ≤ kC ∧ s1 ≤ kS) (D1 : z_D) (H : Heap) (locs : List Loc), va_P X.1 vwCl (z_W (z_wB X b d d2 T.2.2.2.2) X a D1 T.2.2.2.1 []) H → va_D A (z_W (z_wB X b d d2 T.2.2.2.2) X a D1 T.2.2.2.1 []) → va_S A s.heap H locs → ∀ (ls : Array Slot), lv_has ls 28 [(0, .ref sb), (1, .ref b), (2, .ref a), (3, .int T.1), (17, .int T.2.1), (18, .int T.2.2.1)] → W p l e room_1 s m #[Value.ref sb] below meth c H locs k1 s1 QQ (F0 m 1228 ls [])) → W p l e room_1 s m #[Value.ref sb] below meth c H locs kc ks QQ (F0 m 860 ls []) := by
    intro n
    induction n with
    | zero =>
      intro kC kS kc ks hk D u3 u7 u8 u13 u14 u16 u17 u18 u19 Q B T H locs hP hD hS ls hl hf kk
      cases hf
    | succ n ih =>
      intro kC kS kc ks hk D u3 u7 u8 u13 u14 u16 u17 u18 u19 Q B T H locs hP hD hS ls hl hf kk
      rw [f_L_law_L860] at hf
      refine lv_iload (pc := 860) hx hb dL_law_860 (lv_at hl 11 rfl) ?_
      refine lv_iload (pc := 862) hx hb dL_law_862 (lv_at hl 8 rfl) ?_
      refine lv_icmp_gt (pc := 864) (tgt := 1228) hx hb dL_law_864 (by decide) (fun c_864 => ?_) (fun c_864 => ?_)
      · replace hf := z_ip c_864 hf
        obtain rfl := Option.some.inj hf
        exact kk kc ks (by omega) D H locs hP hD hS ls (lv_sub hl [0, 1, 2, 3, 9, 10] rfl)
      · replace hf := z_in c_864 hf
        refine lv_iconst (v := 0) (pc := 867) hx hb dL_law_867 (by decide) ?_
        refine lv_istore (pc := 868) (lv' := [(20, .int 0), (0, .ref sb), (1, .ref b), (2, .ref a), (3, .int u3), (7, .int u7), (8, .int u8), (13, .int u13), (14, .int u14), (16, .int u16), (17, .int u17), (18, .int u18), (19, .int u19)]) hx hb dL_law_868 hl (by decide) rfl (fun ls hl => ?_)
        refine lv_iconst (v := 0) (pc := 870) hx hb dL_law_870 (by decide) ?_
        refine lv_istore (pc := 871) (lv' := [(21, .int 0), (20, .int 0), (0, .ref sb), (1, .ref b), (2, .ref a), (3, .int u3), (7, .int u7), (8, .int u8), (13, .int u13), (14, .int u14), (16, .int u16), (17, .int u17), (18, .int u18), (19, .int u19)]) hx hb dL_law_871 hl (by decide) rfl (fun ls hl => ?_)
        obtain ⟨x873, e873, hf⟩ := z_bd hf
        refine lp_873 z_F14 kc ks (by omega) D u3 u7 u8 u13 u14 u16 u17 u18 u19 0 0 Q B x873 H locs hP hD hS ls (lv_sub hl [2, 3, 4, 5, 6, 7, 8, 9, 10, 11, 12, 13, 1, 0] rfl) e873 (fun H locs hP hD hS ls hl => ?_)
        refine lv_iload (pc := 907) hx hb dL_law_907 (lv_at hl 7 rfl) ?_
        obtain ⟨y909, ey909, hf⟩ := z_bd hf
        suffices jp_909 : ∀ (H : Heap) (locs : List Loc) (_ : va_P X.1 vwCl (z_W (z_wB X b d d2 B) X a D Q []) H) (_ : va_D A (z_W (z_wB X b d d2 B) X a D Q [])) (_ : va_S A s.heap H locs) (ls : Array Slot) (_ : lv_has ls 28 [(0, .ref sb), (1, .ref b), (2, .ref a), (3, .int x873.1), (7, .int x873.2.1), (8, .int x873.2.2.1), (13, .int x873.2.2.2.1), (14, .int x873.2.2.2.2.1), (16, .int x873.2.2.2.2.2.1), (17, .int x873.2.2.2.2.2.2.1), (18, .int x873.2.2.2.2.2.2.2.1), (19, .int x873.2.2.2.2.2.2.2.2.1), (20, .int x873.2.2.2.2.2.2.2.2.2)]), W p l e room_1 s m #[Value.ref sb] below meth c H locs kc ks QQ (F0 m 924 ls []) by
          have hf := ey909
          refine lv_if_lt (pc := 909) (tgt := 924) hx hb dL_law_909 (by decide) (fun c_909 => ?_) (fun c_909 => ?_)
          · replace hf := z_ip c_909 hf
            obtain rfl := Option.some.inj hf
            exact jp_909 H locs hP hD hS ls (lv_sub hl [0, 1, 2, 3, 4, 5, 6, 7, 8, 9, 10, 11, 12] rfl)
          · replace hf := z_in c_909 hf
            refine lv_iload (pc := 912) hx hb dL_law_912 (lv_at hl 11 rfl) ?_
            refine lv_iload (pc := 914) hx hb dL_law_914 (lv_at hl 7 rfl) ?_
            refine lv_icmp_gt (pc := 916) (tgt := 924) hx hb dL_law_916 (by decide) (fun c_916 => ?_) (fun c_916 => ?_)
            · replace hf := z_ip c_916 hf
              obtain rfl := Option.some.inj hf
              exact jp_909 H locs hP hD hS ls (lv_sub hl [0, 1, 2, 3, 4, 5, 6, 7, 8, 9, 10, 11, 12] rfl)
            · replace hf := z_in c_916 hf
              refine lv_iload (pc := 919) hx hb dL_law_919 (lv_at hl 12 rfl) ?_
              refine lv_if_ne (pc := 921) (tgt := 948) hx hb dL_law_921 (by decide) (fun c_921 => ?_) (fun c_921 => ?_)
              · replace hf := z_in c_921 hf
                cases hf
              · replace hf := z_ip c_921 hf
                obtain rfl := Option.some.inj hf
                exact jp_909 H locs hP hD hS ls (lv_sub hl [0, 1, 2, 3, 4, 5, 6, 7, 8, 9, 10, 11, 12] rfl)
        intro H locs hP hD hS ls hl
        refine lv_iload (pc := 924) hx hb dL_law_924 (lv_at hl 7 rfl) ?_
        refine lv_iload (pc := 926) hx hb dL_law_926 (lv_at hl 11 rfl) ?_
        refine lv_iconst (v := 1) (pc := 928) hx hb dL_law_928 (by decide) ?_
        refine lv_isub (pc := 929) hx hb dL_law_929 ?_
        obtain ⟨y930, ey930, hf⟩ := z_bd hf
        suffices jp_930 : ∀ (H : Heap) (locs : List Loc) (_ : va_P X.1 vwCl (z_W (z_wB X b d d2 B) X a D Q []) H) (_ : va_D A (z_W (z_wB X b d d2 B) X a D Q [])) (_ : va_S A s.heap H locs) (ls : Array Slot) (_ : lv_has ls 28 [(0, .ref sb), (1, .ref b), (2, .ref a), (3, .int x873.1), (7, .int x873.2.1), (8, .int x873.2.2.1), (13, .int x873.2.2.2.1), (14, .int x873.2.2.2.2.1), (16, .int x873.2.2.2.2.2.1), (17, .int x873.2.2.2.2.2.2.1), (18, .int x873.2.2.2.2.2.2.2.1), (19, .int x873.2.2.2.2.2.2.2.2.1), (20, .int x873.2.2.2.2.2.2.2.2.2)]), W p l e room_1 s m #[Value.ref sb] below meth c H locs kc ks QQ (F0 m 938 ls []) by
          have hf := ey930
          refine lv_icmp_ne (pc := 930) (tgt := 938) hx hb dL_law_930 (by decide) (fun c_930 => ?_) (fun c_930 => ?_)
          · replace hf := z_in c_930 hf
            obtain rfl := Option.some.inj hf
            exact jp_930 H locs hP hD hS ls (lv_sub hl [0, 1, 2, 3, 4, 5, 6, 7, 8, 9, 10, 11, 12] rfl)
          · replace hf := z_ip c_930 hf
            refine lv_iload (pc := 933) hx hb dL_law_933 (lv_at hl 12 rfl) ?_
            refine lv_if_eq (pc := 935) (tgt := 948) hx hb dL_law_935 (by decide) (fun c_935 => ?_) (fun c_935 => ?_)
            · replace hf := z_ip c_935 hf
              cases hf
            · replace hf := z_in c_935 hf
              obtain rfl := Option.some.inj hf
              exact jp_930 H locs hP hD hS ls (lv_sub hl [0, 1, 2, 3, 4, 5, 6, 7, 8, 9, 10, 11, 12] rfl)
        intro H locs hP hD hS ls hl
        refine lv_iload (pc := 938) hx hb dL_law_938 (lv_at hl 7 rfl) ?_
        obtain ⟨y940, ey940, hf⟩ := z_bd hf
        suffices jp_940 : ∀ (H : Heap) (locs : List Loc) (_ : va_P X.1 vwCl (z_W (z_wB X b d d2 B) X a D Q []) H) (_ : va_D A (z_W (z_wB X b d d2 B) X a D Q [])) (_ : va_S A s.heap H locs) (ls : Array Slot) (_ : lv_has ls 28 [(0, .ref sb), (1, .ref b), (2, .ref a), (3, .int x873.1), (7, .int x873.2.1), (8, .int x873.2.2.1), (13, .int x873.2.2.2.1), (14, .int x873.2.2.2.2.1), (16, .int x873.2.2.2.2.2.1), (17, .int x873.2.2.2.2.2.2.1), (18, .int x873.2.2.2.2.2.2.2.1), (19, .int x873.2.2.2.2.2.2.2.2.1)]), W p l e room_1 s m #[Value.ref sb] below meth c H locs kc ks QQ (F0 m 950 ls []) by
          have hf := ey940
          refine lv_if_ge (pc := 940) (tgt := 950) hx hb dL_law_940 (by decide) (fun c_940 => ?_) (fun c_940 => ?_)
          · replace hf := z_ip c_940 hf
            obtain rfl := Option.some.inj hf
            exact jp_940 H locs hP hD hS ls (lv_sub hl [0, 1, 2, 3, 4, 5, 6, 7, 8, 9, 10, 11] rfl)
          · replace hf := z_in c_940 hf
            refine lv_iload (pc := 943) hx hb dL_law_943 (lv_at hl 12 rfl) ?_
            refine lv_if_eq (pc := 945) (tgt := 950) hx hb dL_law_945 (by decide) (fun c_945 => ?_) (fun c_945 => ?_)
            · replace hf := z_ip c_945 hf
              obtain rfl := Option.some.inj hf
              exact jp_940 H locs hP hD hS ls (lv_sub hl [0, 1, 2, 3, 4, 5, 6, 7, 8, 9, 10, 11] rfl)
            · replace hf := z_in c_945 hf
              cases hf
        intro H locs hP hD hS ls hl
        refine lv_aload_n (pc := 950) hx hb dL_law_950 rfl (lv_at hl 1 rfl) ?_
        refine z_cpI (pc := 951) S (m_X4_charge l X b d d2 B rfl) (cwV 0 hts gL_law_X4_charge rfl rfl rfl hdX4_charge ⟨Nat.le_of_ble_eq_true rfl, Nat.le_of_ble_eq_true rfl⟩) hP hK hN z_S_L (ci := 4) rfl rfl rfl (show kc ≤ room_1.cells ∧ ks ≤ room_1.slots from ⟨by omega, by omega⟩) rfl hl.1 rfl (Nat.le_of_ble_eq_true rfl) dL_law_951 ?_
        refine lv_istore (pc := 954) (lv' := [(21, .int (f_X4_charge B)), (0, .ref sb), (1, .ref b), (2, .ref a), (3, .int x873.1), (7, .int x873.2.1), (8, .int x873.2.2.1), (13, .int x873.2.2.2.1), (14, .int x873.2.2.2.2.1), (16, .int x873.2.2.2.2.2.1), (17, .int x873.2.2.2.2.2.2.1), (18, .int x873.2.2.2.2.2.2.2.1), (19, .int x873.2.2.2.2.2.2.2.2.1)]) hx hb dL_law_954 hl (by decide) rfl (fun ls hl => ?_)
        refine lv_aload_n (pc := 956) hx hb dL_law_956 rfl (lv_at hl 2 rfl) ?_
        refine z_cpI (pc := 957) S (m_X4_served l X b d d2 B rfl) (cwV 0 hts gL_law_X4_served rfl rfl rfl hdX4_served ⟨Nat.le_of_ble_eq_true rfl, Nat.le_of_ble_eq_true rfl⟩) hP hK hN z_S_L (ci := 4) rfl rfl rfl (show kc ≤ room_1.cells ∧ ks ≤ room_1.slots from ⟨by omega, by omega⟩) rfl hl.1 rfl (Nat.le_of_ble_eq_true rfl) dL_law_957 ?_
        refine lv_istore (pc := 960) (lv' := [(22, .int (f_X4_served B)), (21, .int (f_X4_charge B)), (0, .ref sb), (1, .ref b), (2, .ref a), (3, .int x873.1), (7, .int x873.2.1), (8, .int x873.2.2.1), (13, .int x873.2.2.2.1), (14, .int x873.2.2.2.2.1), (16, .int x873.2.2.2.2.2.1), (17, .int x873.2.2.2.2.2.2.1), (18, .int x873.2.2.2.2.2.2.2.1), (19, .int x873.2.2.2.2.2.2.2.2.1)]) hx hb dL_law_960 hl (by decide) rfl (fun ls hl => ?_)
        refine lv_aload_n (pc := 962) hx hb dL_law_962 rfl (lv_at hl 3 rfl) ?_
        refine z_cpI (pc := 963) S (m_X4_inVain l X b d d2 B rfl) (cwV 0 hts gL_law_X4_inVain rfl rfl rfl hdX4_inVain ⟨Nat.le_of_ble_eq_true rfl, Nat.le_of_ble_eq_true rfl⟩) hP hK hN z_S_L (ci := 4) rfl rfl rfl (show kc ≤ room_1.cells ∧ ks ≤ room_1.slots from ⟨by omega, by omega⟩) rfl hl.1 rfl (Nat.le_of_ble_eq_true rfl) dL_law_963 ?_
        refine lv_aload_n (pc := 966) hx hb dL_law_966 rfl (lv_at hl 3 rfl) ?_
        refine z_cpI (pc := 967) S (m_X4_served l X b d d2 B rfl) (cwV 0 hts gL_law_X4_served rfl rfl rfl hdX4_served ⟨Nat.le_of_ble_eq_true rfl, Nat.le_of_ble_eq_true rfl⟩) hP hK hN z_S_L (ci := 4) rfl rfl rfl (show kc ≤ room_1.cells ∧ ks ≤ room_1.slots from ⟨by omega, by omega⟩) rfl hl.1 rfl (Nat.le_of_ble_eq_true rfl) dL_law_967 ?_
        refine lv_iadd (pc := 970) hx hb dL_law_970 ?_
        refine lv_istore (pc := 971) (lv' := [(23, .int ((f_X4_inVain B) + (f_X4_served B))), (22, .int (f_X4_served B)), (21, .int (f_X4_charge B)), (0, .ref sb), (1, .ref b), (2, .ref a), (3, .int x873.1), (7, .int x873.2.1), (8, .int x873.2.2.1), (13, .int x873.2.2.2.1), (14, .int x873.2.2.2.2.1), (16, .int x873.2.2.2.2.2.1), (17, .int x873.2.2.2.2.2.2.1), (18, .int x873.2.2.2.2.2.2.2.1), (19, .int x873.2.2.2.2.2.2.2.2.1)]) hx hb dL_law_971 hl (by decide) rfl (fun ls hl => ?_)
        refine lv_iload (pc := 973) hx hb dL_law_973 (lv_at hl 7 rfl) ?_
        obtain ⟨n975, e975, hf⟩ := z_bd hf
        refine z_newV (pc := 975) hx hb (hts (.arrayClass .int) (List.mem_of_getElem? (i := 10) rfl)) hK hP hD hS hA 0 rfl e975 (show kc + 1 ≤ room_1.cells from by omega) (show ks + 13 ≤ room_1.slots from by omega) dL_law_975 (fun q975 H hP hD hS => ?_)
        have hP : va_P X.1 vwCl (z_W (z_wB X b d d2 B) X a D Q [(q975, .inl (X.2.1, n975, .inl (fun _ => 0)))]) H := by rw [z_ext] at hP; exact hP
        have hD : va_D A (z_W (z_wB X b d d2 B) X a D Q [(q975, .inl (X.2.1, n975, .inl (fun _ => 0)))]) := by rw [z_ext] at hD; exact hD
        refine lv_astore (pc := 977) (lv' := [(24, .ref q975), (23, .int ((f_X4_inVain B) + (f_X4_served B))), (22, .int (f_X4_served B)), (21, .int (f_X4_charge B)), (0, .ref sb), (1, .ref b), (2, .ref a), (3, .int x873.1), (7, .int x873.2.1), (8, .int x873.2.2.1), (13, .int x873.2.2.2.1), (14, .int x873.2.2.2.2.1), (16, .int x873.2.2.2.2.2.1), (17, .int x873.2.2.2.2.2.2.1), (18, .int x873.2.2.2.2.2.2.2.1), (19, .int x873.2.2.2.2.2.2.2.2.1)]) hx hb dL_law_977 hl (by decide) rfl (fun ls hl => ?_)
        refine lv_iconst (v := 0) (pc := 979) hx hb dL_law_979 (by decide) ?_
        refine lv_istore (pc := 980) (lv' := [(25, .int 0), (24, .ref q975), (23, .int ((f_X4_inVain B) + (f_X4_served B))), (22, .int (f_X4_served B)), (21, .int (f_X4_charge B)), (0, .ref sb), (1, .ref b), (2, .ref a), (3, .int x873.1), (7, .int x873.2.1), (8, .int x873.2.2.1), (13, .int x873.2.2.2.1), (14, .int x873.2.2.2.2.1), (16, .int x873.2.2.2.2.2.1), (17, .int x873.2.2.2.2.2.2.1), (18, .int x873.2.2.2.2.2.2.2.1), (19, .int x873.2.2.2.2.2.2.2.2.1)]) hx hb dL_law_980 hl (by decide) rfl (fun ls hl => ?_)
        obtain ⟨x982, e982, hf⟩ := z_bd hf
        refine lp_982 z_F14 (kc + 1) (ks + 13) (by omega) D q975 x873.1 x873.2.1 x873.2.2.1 x873.2.2.2.1 x873.2.2.2.2.1 x873.2.2.2.2.2.1 x873.2.2.2.2.2.2.1 x873.2.2.2.2.2.2.2.1 x873.2.2.2.2.2.2.2.2.1 (f_X4_charge B) (f_X4_served B) ((f_X4_inVain B) + (f_X4_served B)) 0 Q B n975 (fun _ => 0) x982 H locs hP hD hS ls (lv_sub hl [5, 6, 7, 8, 9, 10, 11, 12, 13, 14, 15, 16, 4, 3, 2, 1, 0] rfl) e982 (fun H locs hP hD hS ls hl => ?_)
        refine lv_aload_n (pc := 1006) hx hb dL_law_1006 rfl (lv_at hl 1 rfl) ?_
        refine lv_iconst (v := 1) (pc := 1007) hx hb dL_law_1007 (by decide) ?_
        obtain ⟨x1008, e1008, hf⟩ := z_bd hf
        refine z_cbI (pc := 1008) (wr := ((z_wS X a D Q) ++ [(q975, .inl (X.2.1, n975, .inl x982.2.2.2.2.2.2.2.2.2.2.2.2))])) S (m_X4_pass l X b d d2 B 1 e1008) (cwV 1 hts gL_law_X4_pass rfl rfl rfl hdX4_pass ⟨Nat.le_of_ble_eq_true rfl, Nat.le_of_ble_eq_true rfl⟩) hP hK hN hD hS hA (ci := 4) rfl rfl rfl (show (kc + 1) ≤ room_1.cells ∧ (ks + 13) ≤ room_1.slots from ⟨by omega, by omega⟩) rfl hl.1 rfl (Nat.le_of_ble_eq_true rfl) dL_law_1008 (fun H locs hP hD hS => ?_)
        have hP : va_P X.1 vwCl (z_W (z_wB X b d d2 x1008.2) X a D Q [(q975, .inl (X.2.1, n975, .inl x982.2.2.2.2.2.2.2.2.2.2.2.2))]) H := hP
        have hD : va_D A (z_W (z_wB X b d d2 x1008.2) X a D Q [(q975, .inl (X.2.1, n975, .inl x982.2.2.2.2.2.2.2.2.2.2.2.2))]) := hD
        refine lv_istore (pc := 1011) (lv' := [(25, .int x1008.1), (0, .ref sb), (1, .ref b), (2, .ref a), (3, .int x982.1), (7, .int x982.2.1), (8, .int x982.2.2.1), (13, .int x982.2.2.2.1), (14, .int x982.2.2.2.2.1), (16, .int x982.2.2.2.2.2.1), (17, .int x982.2.2.2.2.2.2.1), (18, .int x982.2.2.2.2.2.2.2.1), (19, .int x982.2.2.2.2.2.2.2.2.1), (21, .int x982.2.2.2.2.2.2.2.2.2.1), (22, .int x982.2.2.2.2.2.2.2.2.2.2.1), (23, .int x982.2.2.2.2.2.2.2.2.2.2.2.1), (24, .ref q975)]) hx hb dL_law_1011 hl (by decide) rfl (fun ls hl => ?_)
        refine lv_iload (pc := 1013) hx hb dL_law_1013 (lv_at hl 11 rfl) ?_
        refine lv_iload (pc := 1015) hx hb dL_law_1015 (lv_at hl 0 rfl) ?_
        refine lv_iadd (pc := 1017) hx hb dL_law_1017 ?_
        refine lv_istore (pc := 1018) (lv' := [(18, .int (x982.2.2.2.2.2.2.2.1 + x1008.1)), (25, .int x1008.1), (0, .ref sb), (1, .ref b), (2, .ref a), (3, .int x982.1), (7, .int x982.2.1), (8, .int x982.2.2.1), (13, .int x982.2.2.2.1), (14, .int x982.2.2.2.2.1), (16, .int x982.2.2.2.2.2.1), (17, .int x982.2.2.2.2.2.2.1), (19, .int x982.2.2.2.2.2.2.2.2.1), (21, .int x982.2.2.2.2.2.2.2.2.2.1), (22, .int x982.2.2.2.2.2.2.2.2.2.2.1), (23, .int x982.2.2.2.2.2.2.2.2.2.2.2.1), (24, .ref q975)]) hx hb dL_law_1018 hl (by decide) rfl (fun ls hl => ?_)
        refine lv_iload (pc := 1020) hx hb dL_law_1020 (lv_at hl 1 rfl) ?_
        refine lv_aload_n (pc := 1022) hx hb dL_law_1022 rfl (lv_at hl 4 rfl) ?_
        obtain ⟨x1023, e1023, hf⟩ := z_bd hf
        refine z_ckI (pc := 1023) (wl := (z_wB X b d d2 x1008.2)) (wr := [(q975, .inl (X.2.1, n975, .inl x982.2.2.2.2.2.2.2.2.2.2.2.2))]) S (m_X5_pass l X a D Q  e1023) (cwV 0 hts gL_law_X5_pass rfl rfl rfl hdX5_pass ⟨Nat.le_of_ble_eq_true rfl, Nat.le_of_ble_eq_true rfl⟩) hP hK hN hA2 hD hS hA (ci := 5) rfl rfl rfl (show (kc + 1) + 28 ≤ room_1.cells ∧ (ks + 13) + 364 ≤ room_1.slots from ⟨by omega, by omega⟩) rfl hl.1 rfl (Nat.le_of_ble_eq_true rfl) dL_law_1023 (fun z u H locs hpost hP hD hS => ?_)
        obtain ⟨rfl, D1023, rfl⟩ := hpost
        have hP : va_P X.1 vwCl (z_W (z_wB X b d d2 x1008.2) X a D1023 x1023.2 [(q975, .inl (X.2.1, n975, .inl x982.2.2.2.2.2.2.2.2.2.2.2.2))]) H := hP
        have hD : va_D A (z_W (z_wB X b d d2 x1008.2) X a D1023 x1023.2 [(q975, .inl (X.2.1, n975, .inl x982.2.2.2.2.2.2.2.2.2.2.2.2))]) := hD
        refine lv_icmp_ne (pc := 1026) (tgt := 1079) hx hb dL_law_1026 (by decide) (fun c_1026 => ?_) (fun c_1026 => ?_)
        · replace hf := z_in c_1026 hf
          cases hf
        · replace hf := z_ip c_1026 hf
          refine lv_iload (pc := 1029) hx hb dL_law_1029 (lv_at hl 1 rfl) ?_
          refine lv_if_lt (pc := 1031) (tgt := 1079) hx hb dL_law_1031 (by decide) (fun c_1031 => ?_) (fun c_1031 => ?_)
          · replace hf := z_ip c_1031 hf
            cases hf
          · replace hf := z_in c_1031 hf
            refine lv_iload (pc := 1034) hx hb dL_law_1034 (lv_at hl 1 rfl) ?_
            refine lv_iload (pc := 1036) hx hb dL_law_1036 (lv_at hl 7 rfl) ?_
            refine lv_icmp_gt (pc := 1038) (tgt := 1079) hx hb dL_law_1038 (by decide) (fun c_1038 => ?_) (fun c_1038 => ?_)
            · replace hf := z_ip c_1038 hf
              cases hf
            · replace hf := z_in c_1038 hf
              refine lv_aload_n (pc := 1041) hx hb dL_law_1041 rfl (lv_at hl 3 rfl) ?_
              refine z_cpI (pc := 1042) S (m_X4_served l X b d d2 x1008.2 rfl) (cwV 0 hts gL_law_X4_served rfl rfl rfl hdX4_served ⟨Nat.le_of_ble_eq_true rfl, Nat.le_of_ble_eq_true rfl⟩) hP hK hN z_S_L (ci := 4) rfl rfl rfl (show ((kc + 1) + 28) ≤ room_1.cells ∧ ((ks + 13) + 364) ≤ room_1.slots from ⟨by omega, by omega⟩) rfl hl.1 rfl (Nat.le_of_ble_eq_true rfl) dL_law_1042 ?_
              refine lv_iload (pc := 1045) hx hb dL_law_1045 (lv_at hl 14 rfl) ?_
              refine lv_iload (pc := 1047) hx hb dL_law_1047 (lv_at hl 1 rfl) ?_
              refine lv_iadd (pc := 1049) hx hb dL_law_1049 ?_
              refine lv_icmp_ne (pc := 1050) (tgt := 1079) hx hb dL_law_1050 (by decide) (fun c_1050 => ?_) (fun c_1050 => ?_)
              · replace hf := z_in c_1050 hf
                cases hf
              · replace hf := z_ip c_1050 hf
                refine lv_aload_n (pc := 1053) hx hb dL_law_1053 rfl (lv_at hl 3 rfl) ?_
                refine z_cpI (pc := 1054) S (m_X4_charge l X b d d2 x1008.2 rfl) (cwV 0 hts gL_law_X4_charge rfl rfl rfl hdX4_charge ⟨Nat.le_of_ble_eq_true rfl, Nat.le_of_ble_eq_true rfl⟩) hP hK hN z_S_L (ci := 4) rfl rfl rfl (show ((kc + 1) + 28) ≤ room_1.cells ∧ ((ks + 13) + 364) ≤ room_1.slots from ⟨by omega, by omega⟩) rfl hl.1 rfl (Nat.le_of_ble_eq_true rfl) dL_law_1054 ?_
                refine lv_iload (pc := 1057) hx hb dL_law_1057 (lv_at hl 13 rfl) ?_
                refine lv_icmp_gt (pc := 1059) (tgt := 1079) hx hb dL_law_1059 (by decide) (fun c_1059 => ?_) (fun c_1059 => ?_)
                · replace hf := z_ip c_1059 hf
                  cases hf
                · replace hf := z_in c_1059 hf
                  refine lv_aload_n (pc := 1062) hx hb dL_law_1062 rfl (lv_at hl 3 rfl) ?_
                  refine z_cpI (pc := 1063) S (m_X4_inVain l X b d d2 x1008.2 rfl) (cwV 0 hts gL_law_X4_inVain rfl rfl rfl hdX4_inVain ⟨Nat.le_of_ble_eq_true rfl, Nat.le_of_ble_eq_true rfl⟩) hP hK hN z_S_L (ci := 4) rfl rfl rfl (show ((kc + 1) + 28) ≤ room_1.cells ∧ ((ks + 13) + 364) ≤ room_1.slots from ⟨by omega, by omega⟩) rfl hl.1 rfl (Nat.le_of_ble_eq_true rfl) dL_law_1063 ?_
                  refine lv_aload_n (pc := 1066) hx hb dL_law_1066 rfl (lv_at hl 3 rfl) ?_
                  refine z_cpI (pc := 1067) S (m_X4_served l X b d d2 x1008.2 rfl) (cwV 0 hts gL_law_X4_served rfl rfl rfl hdX4_served ⟨Nat.le_of_ble_eq_true rfl, Nat.le_of_ble_eq_true rfl⟩) hP hK hN z_S_L (ci := 4) rfl rfl rfl (show ((kc + 1) + 28) ≤ room_1.cells ∧ ((ks + 13) + 364) ≤ room_1.slots from ⟨by omega, by omega⟩) rfl hl.1 rfl (Nat.le_of_ble_eq_true rfl) dL_law_1067 ?_
                  refine lv_iadd (pc := 1070) hx hb dL_law_1070 ?_
                  refine lv_iload (pc := 1071) hx hb dL_law_1071 (lv_at hl 15 rfl) ?_
                  refine lv_isub (pc := 1073) hx hb dL_law_1073 ?_
                  refine lv_iload (pc := 1074) hx hb dL_law_1074 (lv_at hl 7 rfl) ?_
                  refine lv_icmp_le (pc := 1076) (tgt := 1081) hx hb dL_law_1076 (by decide) (fun c_1076 => ?_) (fun c_1076 => ?_)
                  · replace hf := z_ip c_1076 hf
                    refine lv_iconst (v := 0) (pc := 1081) hx hb dL_law_1081 (by decide) ?_
                    refine lv_istore (pc := 1082) (lv' := [(26, .int 0), (18, .int (x982.2.2.2.2.2.2.2.1 + x1008.1)), (25, .int x1008.1), (0, .ref sb), (1, .ref b), (2, .ref a), (3, .int x982.1), (7, .int x982.2.1), (8, .int x982.2.2.1), (13, .int x982.2.2.2.1), (14, .int x982.2.2.2.2.1), (16, .int x982.2.2.2.2.2.1), (17, .int x982.2.2.2.2.2.2.1), (19, .int x982.2.2.2.2.2.2.2.2.1), (21, .int x982.2.2.2.2.2.2.2.2.2.1), (22, .int x982.2.2.2.2.2.2.2.2.2.2.1), (23, .int x982.2.2.2.2.2.2.2.2.2.2.2.1), (24, .ref q975)]) hx hb dL_law_1082 hl (by decide) rfl (fun ls hl => ?_)
                    refine lv_iconst (v := 0) (pc := 1084) hx hb dL_law_1084 (by decide) ?_
                    refine lv_istore (pc := 1085) (lv' := [(27, .int 0), (26, .int 0), (18, .int (x982.2.2.2.2.2.2.2.1 + x1008.1)), (25, .int x1008.1), (0, .ref sb), (1, .ref b), (2, .ref a), (3, .int x982.1), (7, .int x982.2.1), (8, .int x982.2.2.1), (13, .int x982.2.2.2.1), (14, .int x982.2.2.2.2.1), (16, .int x982.2.2.2.2.2.1), (17, .int x982.2.2.2.2.2.2.1), (19, .int x982.2.2.2.2.2.2.2.2.1), (21, .int x982.2.2.2.2.2.2.2.2.2.1), (22, .int x982.2.2.2.2.2.2.2.2.2.2.1), (23, .int x982.2.2.2.2.2.2.2.2.2.2.2.1), (24, .ref q975)]) hx hb dL_law_1085 hl (by decide) rfl (fun ls hl => ?_)
                    obtain ⟨x1087, e1087, hf⟩ := z_bd hf
                    refine lp_1087 z_F14 ((kc + 1) + 28) ((ks + 13) + 364) (by omega) D1023 q975 x982.1 x982.2.1 x982.2.2.1 x982.2.2.2.1 x982.2.2.2.2.1 x982.2.2.2.2.2.1 x982.2.2.2.2.2.2.1 (x982.2.2.2.2.2.2.2.1 + x1008.1) x982.2.2.2.2.2.2.2.2.1 0 0 x1023.2 x1008.2 n975 x982.2.2.2.2.2.2.2.2.2.2.2.2 x1087 H locs hP hD hS ls (lv_sub hl [4, 5, 6, 7, 8, 9, 10, 11, 12, 13, 2, 14, 18, 1, 0] rfl) e1087 (fun H locs hP hD hS ls hl => ?_)
                    refine lv_iload (pc := 1128) hx hb dL_law_1128 (lv_at hl 13 rfl) ?_
                    obtain ⟨y1130, ey1130, hf⟩ := z_bd hf
                    suffices jp_1130 : ∀ (H : Heap) (locs : List Loc) (_ : va_P X.1 vwCl (z_W (z_wB X b d d2 x1008.2) X a D1023 x1023.2 [(q975, .inl (X.2.1, n975, .inl x982.2.2.2.2.2.2.2.2.2.2.2.2))]) H) (_ : va_D A (z_W (z_wB X b d d2 x1008.2) X a D1023 x1023.2 [(q975, .inl (X.2.1, n975, .inl x982.2.2.2.2.2.2.2.2.2.2.2.2))])) (_ : va_S A s.heap H locs) (ls : Array Slot) (_ : lv_has ls 28 [(0, .ref sb), (1, .ref b), (2, .ref a), (3, .int x1087.1), (7, .int x1087.2.1), (8, .int x1087.2.2.1), (13, .int x1087.2.2.2.1), (14, .int x1087.2.2.2.2.1), (16, .int x1087.2.2.2.2.2.1), (17, .int x1087.2.2.2.2.2.2.1), (18, .int x1087.2.2.2.2.2.2.2.1), (19, .int x1087.2.2.2.2.2.2.2.2.1), (24, .ref q975)]), W p l e room_1 s m #[Value.ref sb] below meth c H locs ((kc + 1) + 28) ((ks + 13) + 364) QQ (F0 m 1142 ls []) by
                      have hf := ey1130
                      refine lv_if_eq (pc := 1130) (tgt := 1142) hx hb dL_law_1130 (by decide) (fun c_1130 => ?_) (fun c_1130 => ?_)
                      · replace hf := z_ip c_1130 hf
                        obtain rfl := Option.some.inj hf
                        exact jp_1130 H locs hP hD hS ls (lv_sub hl [0, 1, 2, 3, 4, 5, 6, 7, 8, 9, 10, 11, 12] rfl)
                      · replace hf := z_in c_1130 hf
                        refine lv_aload_n (pc := 1133) hx hb dL_law_1133 rfl (lv_at hl 1 rfl) ?_
                        refine z_cpI (pc := 1134) S (m_X4_fallen l X b d d2 x1008.2 rfl) (cwV 0 hts gL_law_X4_fallen rfl rfl rfl hdX4_fallen ⟨Nat.le_of_ble_eq_true rfl, Nat.le_of_ble_eq_true rfl⟩) hP hK hN z_S_L (ci := 4) rfl rfl rfl (show ((kc + 1) + 28) ≤ room_1.cells ∧ ((ks + 13) + 364) ≤ room_1.slots from ⟨by omega, by omega⟩) rfl hl.1 rfl (Nat.le_of_ble_eq_true rfl) dL_law_1134 ?_
                        refine lv_if_le (pc := 1137) (tgt := 1142) hx hb dL_law_1137 (by decide) (fun c_1137 => ?_) (fun c_1137 => ?_)
                        · replace hf := z_ip c_1137 hf
                          obtain rfl := Option.some.inj hf
                          exact jp_1130 H locs hP hD hS ls (lv_sub hl [0, 1, 2, 3, 4, 5, 6, 7, 8, 9, 10, 11, 12] rfl)
                        · replace hf := z_in c_1137 hf
                          cases hf
                    intro H locs hP hD hS ls hl
                    refine lv_iconst (v := 0) (pc := 1142) hx hb dL_law_1142 (by decide) ?_
                    refine lv_istore (pc := 1143) (lv' := [(27, .int 0), (0, .ref sb), (1, .ref b), (2, .ref a), (3, .int x1087.1), (7, .int x1087.2.1), (8, .int x1087.2.2.1), (13, .int x1087.2.2.2.1), (14, .int x1087.2.2.2.2.1), (16, .int x1087.2.2.2.2.2.1), (17, .int x1087.2.2.2.2.2.2.1), (18, .int x1087.2.2.2.2.2.2.2.1), (19, .int x1087.2.2.2.2.2.2.2.2.1), (24, .ref q975)]) hx hb dL_law_1143 hl (by decide) rfl (fun ls hl => ?_)
                    obtain ⟨x1145, e1145, hf⟩ := z_bd hf
                    refine lp_1145 z_F14 ((kc + 1) + 28) ((ks + 13) + 364) (by omega) D1023 q975 x1087.1 x1087.2.1 x1087.2.2.1 x1087.2.2.2.1 x1087.2.2.2.2.1 x1087.2.2.2.2.2.1 x1087.2.2.2.2.2.2.1 x1087.2.2.2.2.2.2.2.1 x1087.2.2.2.2.2.2.2.2.1 0 x1023.2 x1008.2 n975 x982.2.2.2.2.2.2.2.2.2.2.2.2 x1145 H locs hP hD hS ls (lv_sub hl [1, 2, 3, 4, 5, 6, 7, 8, 9, 10, 11, 12, 13, 0] rfl) e1145 (fun H locs hP hD hS ls hl => ?_)
                    refine lv_iinc (pc := 1222) (v := (x1145.2.2.2.2.2.2.2.2 + 1)) (lv' := [(19, .int (x1145.2.2.2.2.2.2.2.2 + 1)), (0, .ref sb), (1, .ref b), (2, .ref a), (3, .int x1145.1), (7, .int x1145.2.1), (8, .int x1145.2.2.1), (13, .int x1145.2.2.2.1), (14, .int x1145.2.2.2.2.1), (16, .int x1145.2.2.2.2.2.1), (17, .int x1145.2.2.2.2.2.2.1), (18, .int x1145.2.2.2.2.2.2.2.1)]) hx hb dL_law_1222 hl (k := 11) rfl rfl (by decide) rfl (fun ls hl => ?_)
                    refine lv_goto (pc := 1225) (tgt := 860) hx hb dL_law_1225 (by decide) ?_
                    exact ih kC kS ((kc + 1) + 28) ((ks + 13) + 364) (by omega) D1023 x1145.1 x1145.2.1 x1145.2.2.1 x1145.2.2.2.1 x1145.2.2.2.2.1 x1145.2.2.2.2.2.1 x1145.2.2.2.2.2.2.1 x1145.2.2.2.2.2.2.2.1 (x1145.2.2.2.2.2.2.2.2 + 1) x1023.2 x1008.2 T H locs hP hD hS ls (lv_sub hl [1, 2, 3, 4, 5, 6, 7, 8, 9, 10, 11, 0] rfl) hf kk
                  · replace hf := z_in c_1076 hf
                    cases hf
  have lp_22 : ∀ (n : Nat) (kC kS kc ks : Nat) (hk : (kc + n * 16193 ≤ kC ∧ ks + n * 210509 ≤ kS) ∧ kC ≤ room_1.cells ∧ kS ≤ room_1.slots) (D : z_D) (u3 : Int32) (Q : z_Q) (B : z_B) (T : (z_Q × z_B)) (H : Heap) (locs : List Loc), va_P X.1 vwCl (z_W (z_wB X b d d2 B) X a D Q []) H → va_D A (z_W (z_wB X b d d2 B) X a D Q []) → va_S A s.heap H locs → ∀ (ls : Array Slot), lv_has ls 28 [(0, .ref sb), (1, .ref b), (2, .ref a), (3, .int u3)] → f_L_lawb_L22 L xs n u3 Q B = some T → (∀ (k1 s1 : Nat) (_ : k1 ≤ kC ∧ s1 ≤ kS) (D1 : z_D) (H : Heap) (locs : List Loc), va_P X.1 vwCl (z_W (z_wB X b d d2 T.2) X a D1 T.1 []) H → va_D A (z_W (z_wB X b d d2 T.2) X a D1 T.1 []) → va_S A s.heap H locs → ∀ (ls : Array Slot), lv_has ls 28 [(1, .ref b), (2, .ref a)] → W p l e room_1 s m #[Value.ref sb] below meth c H locs k1 s1 QQ (F0 m 1243 ls [])) → W p l e room_1 s m #[Value.ref sb] below meth c H locs kc ks QQ (F0 m 22 ls []) := by
    intro n
    induction n with
    | zero =>
      intro kC kS kc ks hk D u3 Q B T H locs hP hD hS ls hl hf kk
      cases hf
    | succ n ih =>
      intro kC kS kc ks hk D u3 Q B T H locs hP hD hS ls hl hf kk
      rw [f_L_lawb_L22] at hf
      refine lv_iload_n (pc := 22) hx hb dL_law_22 rfl (lv_at hl 3 rfl) ?_
      refine lv_bipush (v := 6) (pc := 23) hx hb dL_law_23 (by decide) ?_
      refine lv_icmp_ge (pc := 25) (tgt := 1243) hx hb dL_law_25 (by decide) (fun c_25 => ?_) (fun c_25 => ?_)
      · replace hf := z_ip c_25 hf
        obtain rfl := Option.some.inj hf
        exact kk kc ks (by omega) D H locs hP hD hS ls (lv_sub hl [1, 2] rfl)
      · replace hf := z_in c_25 hf
        refine lv_aload_n (pc := 28) hx hb dL_law_28 rfl (lv_at hl 0 rfl) ?_
        refine lv_iload_n (pc := 29) hx hb dL_law_29 rfl (lv_at hl 3 rfl) ?_
        refine lv_iconst (v := 1) (pc := 30) hx hb dL_law_30 (by decide) ?_
        refine lv_iadd (pc := 31) hx hb dL_law_31 ?_
        obtain ⟨x32, e32, hf⟩ := z_bd hf
        refine z_ccell (pc := 32) S (m_L_cell l sb L xs (u3 + 1) e32) (va_cwS 2 hts gL_law_L_cell rfl rfl rfl hdL_cell ⟨Nat.le_of_ble_eq_true rfl, Nat.le_of_ble_eq_true rfl⟩) hXs hbl hbA hS (show kc ≤ room_1.cells ∧ ks ≤ room_1.slots from ⟨by omega, by omega⟩) rfl hl.1 rfl (Nat.le_of_ble_eq_true rfl) dL_law_32 ?_
        refine lv_iconst (v := 2) (pc := 35) hx hb dL_law_35 (by decide) ?_
        refine lv_ishr (pc := 36) hx hb dL_law_36 ?_
        refine lv_bipush (v := 53) (pc := 37) hx hb dL_law_37 (by decide) ?_
        refine lv_iload_n (pc := 39) hx hb dL_law_39 rfl (lv_at hl 3 rfl) ?_
        refine lv_imul (pc := 40) hx hb dL_law_40 ?_
        refine lv_iadd (pc := 41) hx hb dL_law_41 ?_
        refine lv_istore (pc := 42) (lv' := [(4, .int ((x32 >>> (2 &&& 31)) + (53 * u3))), (0, .ref sb), (1, .ref b), (2, .ref a), (3, .int u3)]) hx hb dL_law_42 hl (by decide) rfl (fun ls hl => ?_)
        refine lv_iconst (v := 0) (pc := 44) hx hb dL_law_44 (by decide) ?_
        refine lv_istore (pc := 45) (lv' := [(5, .int 0), (4, .int ((x32 >>> (2 &&& 31)) + (53 * u3))), (0, .ref sb), (1, .ref b), (2, .ref a), (3, .int u3)]) hx hb dL_law_45 hl (by decide) rfl (fun ls hl => ?_)
        generalize hX4 : (x32 >>> (2 &&& 31)) + ((53 : Int32) * u3) = X4 at hf hl
        obtain ⟨x47, e47, hf⟩ := z_bd hf
        refine lp_47 z_F8 (kc + 14336) (ks + 186368) kc ks (by rw [show z_F8 = 8 from rfl]; exact ⟨⟨by omega, by omega⟩, by omega, by omega⟩) D u3 X4 0 Q B x47 H locs hP hD hS ls (lv_sub hl [2, 3, 4, 5, 1, 0] rfl) e47 (fun k47 s47 hk47 D47 H locs hP hD hS ls hl => ?_)
        refine lv_aload_n (pc := 82) hx hb dL_law_82 rfl (lv_at hl 1 rfl) ?_
        obtain ⟨x83, e83, hf⟩ := z_bd hf
        refine z_cbL (pc := 83) (wr := ((z_wS X a D47 x47.2.2.1) ++ [])) S (m_X4_digest l X b d d2 x47.2.2.2 e83) (cwV 0 hts gL_law_X4_digest rfl rfl rfl hdX4_digest ⟨Nat.le_of_ble_eq_true rfl, Nat.le_of_ble_eq_true rfl⟩) hP hK hN hD hS hA (ci := 4) rfl rfl rfl (show k47 ≤ room_1.cells ∧ s47 ≤ room_1.slots from ⟨by omega, by omega⟩) rfl hl.1 rfl (Nat.le_of_ble_eq_true rfl) dL_law_83 (fun H locs hP hD hS => ?_)
        have hP : va_P X.1 vwCl (z_W (z_wB X b d d2 x83.2) X a D47 x47.2.2.1 []) H := hP
        have hD : va_D A (z_W (z_wB X b d d2 x83.2) X a D47 x47.2.2.1 []) := hD
        refine lv_lstore (pc := 86) (lv' := [(5, .long x83.1), (0, .ref sb), (1, .ref b), (2, .ref a), (3, .int x47.1), (4, .int x47.2.1)]) hx hb dL_law_86 hl (by decide) rfl (fun ls hl => ?_)
        refine lv_aload_n (pc := 88) hx hb dL_law_88 rfl (lv_at hl 2 rfl) ?_
        refine z_cpI (pc := 89) S (m_X4_rooms l X b d d2 x83.2 rfl) (cwV 0 hts gL_law_X4_rooms rfl rfl rfl hdX4_rooms ⟨Nat.le_of_ble_eq_true rfl, Nat.le_of_ble_eq_true rfl⟩) hP hK hN z_S_L (ci := 4) rfl rfl rfl (show k47 ≤ room_1.cells ∧ s47 ≤ room_1.slots from ⟨by omega, by omega⟩) rfl hl.1 rfl (Nat.le_of_ble_eq_true rfl) dL_law_89 ?_
        refine lv_istore (pc := 92) (lv' := [(7, .int (f_X4_rooms x83.2)), (5, .long x83.1), (0, .ref sb), (1, .ref b), (2, .ref a), (3, .int x47.1), (4, .int x47.2.1)]) hx hb dL_law_92 hl (by decide) rfl (fun ls hl => ?_)
        refine lv_aload_n (pc := 94) hx hb dL_law_94 rfl (lv_at hl 3 rfl) ?_
        refine z_cpI (pc := 95) S (m_X4_servants l X b d d2 x83.2 rfl) (cwV 0 hts gL_law_X4_servants rfl rfl rfl hdX4_servants ⟨Nat.le_of_ble_eq_true rfl, Nat.le_of_ble_eq_true rfl⟩) hP hK hN z_S_L (ci := 4) rfl rfl rfl (show k47 ≤ room_1.cells ∧ s47 ≤ room_1.slots from ⟨by omega, by omega⟩) rfl hl.1 rfl (Nat.le_of_ble_eq_true rfl) dL_law_95 ?_
        refine lv_istore (pc := 98) (lv' := [(8, .int (f_X4_servants x83.2)), (7, .int (f_X4_rooms x83.2)), (5, .long x83.1), (0, .ref sb), (1, .ref b), (2, .ref a), (3, .int x47.1), (4, .int x47.2.1)]) hx hb dL_law_98 hl (by decide) rfl (fun ls hl => ?_)
        refine lv_iconst (v := 0) (pc := 100) hx hb dL_law_100 (by decide) ?_
        refine lv_istore (pc := 101) (lv' := [(9, .int 0), (8, .int (f_X4_servants x83.2)), (7, .int (f_X4_rooms x83.2)), (5, .long x83.1), (0, .ref sb), (1, .ref b), (2, .ref a), (3, .int x47.1), (4, .int x47.2.1)]) hx hb dL_law_101 hl (by decide) rfl (fun ls hl => ?_)
        refine lv_iconst (v := 0) (pc := 103) hx hb dL_law_103 (by decide) ?_
        refine lv_istore (pc := 104) (lv' := [(10, .int 0), (9, .int 0), (8, .int (f_X4_servants x83.2)), (7, .int (f_X4_rooms x83.2)), (5, .long x83.1), (0, .ref sb), (1, .ref b), (2, .ref a), (3, .int x47.1), (4, .int x47.2.1)]) hx hb dL_law_104 hl (by decide) rfl (fun ls hl => ?_)
        refine lv_iload (pc := 106) hx hb dL_law_106 (lv_at hl 3 rfl) ?_
        obtain ⟨n108, e108, hf⟩ := z_bd hf
        refine z_newZ (pc := 108) hx hb (hts (.arrayClass .boolean) (List.mem_of_getElem? (i := 3) rfl)) hK hP hD hS hA 1 rfl e108 (show k47 + 1 ≤ room_1.cells from by omega) (show s47 + 13 ≤ room_1.slots from by omega) dL_law_108 (fun q108 H hP hD hS => ?_)
        have hP : va_P X.1 vwCl (z_W (z_wB X b d d2 x83.2) X a D47 x47.2.2.1 [(q108, .inl (X.2.2.1, n108, .inl (fun _ => 0)))]) H := by rw [z_ext] at hP; exact hP
        have hD : va_D A (z_W (z_wB X b d d2 x83.2) X a D47 x47.2.2.1 [(q108, .inl (X.2.2.1, n108, .inl (fun _ => 0)))]) := by rw [z_ext] at hD; exact hD
        refine lv_astore (pc := 110) (lv' := [(11, .ref q108), (10, .int 0), (9, .int 0), (8, .int (f_X4_servants x83.2)), (7, .int (f_X4_rooms x83.2)), (5, .long x83.1), (0, .ref sb), (1, .ref b), (2, .ref a), (3, .int x47.1), (4, .int x47.2.1)]) hx hb dL_law_110 hl (by decide) rfl (fun ls hl => ?_)
        refine lv_iconst (v := 0) (pc := 112) hx hb dL_law_112 (by decide) ?_
        refine lv_istore (pc := 113) (lv' := [(12, .int 0), (11, .ref q108), (10, .int 0), (9, .int 0), (8, .int (f_X4_servants x83.2)), (7, .int (f_X4_rooms x83.2)), (5, .long x83.1), (0, .ref sb), (1, .ref b), (2, .ref a), (3, .int x47.1), (4, .int x47.2.1)]) hx hb dL_law_113 hl (by decide) rfl (fun ls hl => ?_)
        obtain ⟨x115, e115, hf⟩ := z_bd hf
        refine lp_115 z_F14 (k47 + 1) (s47 + 13) (by omega) D47 q108 x47.1 x47.2.1 x83.1 (f_X4_rooms x83.2) (f_X4_servants x83.2) 0 0 0 x47.2.2.1 x83.2 n108 (fun _ => 0) x115 H locs hP hD hS ls (lv_sub hl [7, 8, 9, 10, 11, 6, 5, 4, 3, 2, 1, 0] rfl) e115 (fun H locs hP hD hS ls hl => ?_)
        refine lv_aload_n (pc := 640) hx hb dL_law_640 rfl (lv_at hl 1 rfl) ?_
        obtain ⟨x641, e641, hf⟩ := z_bd hf
        refine z_cpI (pc := 641) S (m_X4_crossingsNeeded l X b d d2 x83.2 e641) (cwV 0 hts gL_law_X4_crossingsNeeded rfl rfl rfl hdX4_crossingsNeeded ⟨Nat.le_of_ble_eq_true rfl, Nat.le_of_ble_eq_true rfl⟩) hP hK hN z_S_L (ci := 4) rfl rfl rfl (show (k47 + 1) ≤ room_1.cells ∧ (s47 + 13) ≤ room_1.slots from ⟨by omega, by omega⟩) rfl hl.1 rfl (Nat.le_of_ble_eq_true rfl) dL_law_641 ?_
        refine lv_istore (pc := 644) (lv' := [(12, .int x641), (0, .ref sb), (1, .ref b), (2, .ref a), (3, .int x115.1), (4, .int x115.2.1), (5, .long x115.2.2.1), (7, .int x115.2.2.2.1), (8, .int x115.2.2.2.2.1), (9, .int x115.2.2.2.2.2.1), (10, .int x115.2.2.2.2.2.2)]) hx hb dL_law_644 hl (by decide) rfl (fun ls hl => ?_)
        refine lv_iload (pc := 646) hx hb dL_law_646 (lv_at hl 10 rfl) ?_
        refine lv_aload_n (pc := 648) hx hb dL_law_648 rfl (lv_at hl 2 rfl) ?_
        refine z_cpI (pc := 649) S (m_X4_fallen l X b d d2 x83.2 rfl) (cwV 0 hts gL_law_X4_fallen rfl rfl rfl hdX4_fallen ⟨Nat.le_of_ble_eq_true rfl, Nat.le_of_ble_eq_true rfl⟩) hP hK hN z_S_L (ci := 4) rfl rfl rfl (show (k47 + 1) ≤ room_1.cells ∧ (s47 + 13) ≤ room_1.slots from ⟨by omega, by omega⟩) rfl hl.1 rfl (Nat.le_of_ble_eq_true rfl) dL_law_649 ?_
        refine lv_icmp_ne (pc := 652) (tgt := 709) hx hb dL_law_652 (by decide) (fun c_652 => ?_) (fun c_652 => ?_)
        · replace hf := z_in c_652 hf
          cases hf
        · replace hf := z_ip c_652 hf
          refine lv_iload (pc := 655) hx hb dL_law_655 (lv_at hl 9 rfl) ?_
          refine lv_aload_n (pc := 657) hx hb dL_law_657 rfl (lv_at hl 2 rfl) ?_
          obtain ⟨x658, e658, hf⟩ := z_bd hf
          refine z_cpI (pc := 658) S (m_X4_crossed l X b d d2 x83.2 e658) (cwV 0 hts gL_law_X4_crossed rfl rfl rfl hdX4_crossed ⟨Nat.le_of_ble_eq_true rfl, Nat.le_of_ble_eq_true rfl⟩) hP hK hN z_S_L (ci := 4) rfl rfl rfl (show (k47 + 1) ≤ room_1.cells ∧ (s47 + 13) ≤ room_1.slots from ⟨by omega, by omega⟩) rfl hl.1 rfl (Nat.le_of_ble_eq_true rfl) dL_law_658 ?_
          refine lv_icmp_ne (pc := 661) (tgt := 709) hx hb dL_law_661 (by decide) (fun c_661 => ?_) (fun c_661 => ?_)
          · replace hf := z_in c_661 hf
            cases hf
          · replace hf := z_ip c_661 hf
            refine lv_iload (pc := 664) hx hb dL_law_664 (lv_at hl 0 rfl) ?_
            refine lv_iload (pc := 666) hx hb dL_law_666 (lv_at hl 9 rfl) ?_
            refine lv_icmp_gt (pc := 668) (tgt := 709) hx hb dL_law_668 (by decide) (fun c_668 => ?_) (fun c_668 => ?_)
            · replace hf := z_ip c_668 hf
              cases hf
            · replace hf := z_in c_668 hf
              refine lv_iload (pc := 671) hx hb dL_law_671 (lv_at hl 9 rfl) ?_
              obtain ⟨y673, ey673, hf⟩ := z_bd hf
              suffices jp_673 : ∀ (H : Heap) (locs : List Loc) (_ : va_P X.1 vwCl (z_W (z_wB X b d d2 x83.2) X a D47 x47.2.2.1 []) H) (_ : va_D A (z_W (z_wB X b d d2 x83.2) X a D47 x47.2.2.1 [])) (_ : va_S A s.heap H locs) (ls : Array Slot) (_ : lv_has ls 28 [(0, .ref sb), (1, .ref b), (2, .ref a), (3, .int x115.1), (4, .int x115.2.1), (5, .long x115.2.2.1), (7, .int x115.2.2.2.1), (8, .int x115.2.2.2.2.1), (9, .int x115.2.2.2.2.2.1), (12, .int x641)]), W p l e room_1 s m #[Value.ref sb] below meth c H locs (k47 + 1) (s47 + 13) QQ (F0 m 683 ls []) by
                have hf := ey673
                refine lv_if_le (pc := 673) (tgt := 683) hx hb dL_law_673 (by decide) (fun c_673 => ?_) (fun c_673 => ?_)
                · replace hf := z_ip c_673 hf
                  obtain rfl := Option.some.inj hf
                  exact jp_673 H locs hP hD hS ls (lv_sub hl [1, 2, 3, 4, 5, 6, 7, 8, 9, 0] rfl)
                · replace hf := z_in c_673 hf
                  refine lv_iload (pc := 676) hx hb dL_law_676 (lv_at hl 0 rfl) ?_
                  refine lv_iload (pc := 678) hx hb dL_law_678 (lv_at hl 9 rfl) ?_
                  refine lv_icmp_ge (pc := 680) (tgt := 709) hx hb dL_law_680 (by decide) (fun c_680 => ?_) (fun c_680 => ?_)
                  · replace hf := z_ip c_680 hf
                    cases hf
                  · replace hf := z_in c_680 hf
                    obtain rfl := Option.some.inj hf
                    exact jp_673 H locs hP hD hS ls (lv_sub hl [1, 2, 3, 4, 5, 6, 7, 8, 9, 0] rfl)
              intro H locs hP hD hS ls hl
              refine lv_iload (pc := 683) hx hb dL_law_683 (lv_at hl 8 rfl) ?_
              refine lv_iconst (v := 2) (pc := 685) hx hb dL_law_685 (by decide) ?_
              refine lv_iload (pc := 686) hx hb dL_law_686 (lv_at hl 9 rfl) ?_
              refine lv_imul (pc := 688) hx hb dL_law_688 ?_
              refine lv_icmp_gt (pc := 689) (tgt := 709) hx hb dL_law_689 (by decide) (fun c_689 => ?_) (fun c_689 => ?_)
              · replace hf := z_ip c_689 hf
                cases hf
              · replace hf := z_in c_689 hf
                refine lv_aload_n (pc := 692) hx hb dL_law_692 rfl (lv_at hl 1 rfl) ?_
                refine z_cpI (pc := 693) S (m_X4_charge l X b d d2 x83.2 rfl) (cwV 0 hts gL_law_X4_charge rfl rfl rfl hdX4_charge ⟨Nat.le_of_ble_eq_true rfl, Nat.le_of_ble_eq_true rfl⟩) hP hK hN z_S_L (ci := 4) rfl rfl rfl (show (k47 + 1) ≤ room_1.cells ∧ (s47 + 13) ≤ room_1.slots from ⟨by omega, by omega⟩) rfl hl.1 rfl (Nat.le_of_ble_eq_true rfl) dL_law_693 ?_
                refine lv_if_lt (pc := 696) (tgt := 709) hx hb dL_law_696 (by decide) (fun c_696 => ?_) (fun c_696 => ?_)
                · replace hf := z_ip c_696 hf
                  cases hf
                · replace hf := z_in c_696 hf
                  refine lv_aload_n (pc := 699) hx hb dL_law_699 rfl (lv_at hl 1 rfl) ?_
                  refine z_cpI (pc := 700) S (m_X4_charge l X b d d2 x83.2 rfl) (cwV 0 hts gL_law_X4_charge rfl rfl rfl hdX4_charge ⟨Nat.le_of_ble_eq_true rfl, Nat.le_of_ble_eq_true rfl⟩) hP hK hN z_S_L (ci := 4) rfl rfl rfl (show (k47 + 1) ≤ room_1.cells ∧ (s47 + 13) ≤ room_1.slots from ⟨by omega, by omega⟩) rfl hl.1 rfl (Nat.le_of_ble_eq_true rfl) dL_law_700 ?_
                  refine lv_sipush (v := 500) (pc := 703) hx hb dL_law_703 (by decide) ?_
                  refine lv_icmp_le (pc := 706) (tgt := 711) hx hb dL_law_706 (by decide) (fun c_706 => ?_) (fun c_706 => ?_)
                  · replace hf := z_ip c_706 hf
                    refine lv_iload (pc := 711) hx hb dL_law_711 (lv_at hl 4 rfl) ?_
                    refine lv_iconst (v := 4) (pc := 713) hx hb dL_law_713 (by decide) ?_
                    refine lv_ishr (pc := 714) hx hb dL_law_714 ?_
                    refine lv_iload (pc := 715) hx hb dL_law_715 (lv_at hl 6 rfl) ?_
                    obtain ⟨x717, e717, hf⟩ := z_bd hf
                    refine z_csI (pc := 717) S (m_L_below l X (x115.2.1 >>> (4 &&& 31)) x115.2.2.2.1 e717) (va_cwS 2 hts gL_law_L_below rfl rfl rfl hdL_below ⟨Nat.le_of_ble_eq_true rfl, Nat.le_of_ble_eq_true rfl⟩) hP hK hN (s_nil _) (show (k47 + 1) ≤ room_1.cells ∧ (s47 + 13) ≤ room_1.slots from ⟨by omega, by omega⟩) rfl hl.1 rfl (Nat.le_of_ble_eq_true rfl) dL_law_717 ?_
                    refine lv_istore (pc := 720) (lv' := [(13, .int x717), (0, .ref sb), (1, .ref b), (2, .ref a), (3, .int x115.1), (4, .int x115.2.1), (5, .long x115.2.2.1), (7, .int x115.2.2.2.1), (8, .int x115.2.2.2.2.1), (9, .int x115.2.2.2.2.2.1), (12, .int x641)]) hx hb dL_law_720 hl (by decide) rfl (fun ls hl => ?_)
                    refine lv_aload_n (pc := 722) hx hb dL_law_722 rfl (lv_at hl 2 rfl) ?_
                    refine lv_iload (pc := 723) hx hb dL_law_723 (lv_at hl 0 rfl) ?_
                    obtain ⟨x725, e725, hf⟩ := z_bd hf
                    refine z_cbI (pc := 725) (wr := ((z_wS X a D47 x47.2.2.1) ++ [])) S (m_X4_minutesUntilServed l X b d d2 x83.2 x717 e725) (cwV 1 hts gL_law_X4_minutesUntilServed rfl rfl rfl hdX4_minutesUntilServed ⟨Nat.le_of_ble_eq_true rfl, Nat.le_of_ble_eq_true rfl⟩) hP hK hN hD hS hA (ci := 4) rfl rfl rfl (show (k47 + 1) ≤ room_1.cells ∧ (s47 + 13) ≤ room_1.slots from ⟨by omega, by omega⟩) rfl hl.1 rfl (Nat.le_of_ble_eq_true rfl) dL_law_725 (fun H locs hP hD hS => ?_)
                    have hP : va_P X.1 vwCl (z_W (z_wB X b d d2 x725.2) X a D47 x47.2.2.1 []) H := hP
                    have hD : va_D A (z_W (z_wB X b d d2 x725.2) X a D47 x47.2.2.1 []) := hD
                    refine lv_istore (pc := 728) (lv' := [(14, .int x725.1), (13, .int x717), (0, .ref sb), (1, .ref b), (2, .ref a), (3, .int x115.1), (4, .int x115.2.1), (5, .long x115.2.2.1), (7, .int x115.2.2.2.1), (8, .int x115.2.2.2.2.1), (9, .int x115.2.2.2.2.2.1), (12, .int x641)]) hx hb dL_law_728 hl (by decide) rfl (fun ls hl => ?_)
                    refine lv_aload_n (pc := 730) hx hb dL_law_730 rfl (lv_at hl 3 rfl) ?_
                    refine lv_iload (pc := 731) hx hb dL_law_731 (lv_at hl 1 rfl) ?_
                    obtain ⟨x733, e733, hf⟩ := z_bd hf
                    refine z_cbI (pc := 733) (wr := ((z_wS X a D47 x47.2.2.1) ++ [])) S (m_X4_bestToCross l X b d d2 x725.2 x717 e733) (cwV 1 hts gL_law_X4_bestToCross rfl rfl rfl hdX4_bestToCross ⟨Nat.le_of_ble_eq_true rfl, Nat.le_of_ble_eq_true rfl⟩) hP hK hN hD hS hA (ci := 4) rfl rfl rfl (show (k47 + 1) ≤ room_1.cells ∧ (s47 + 13) ≤ room_1.slots from ⟨by omega, by omega⟩) rfl hl.1 rfl (Nat.le_of_ble_eq_true rfl) dL_law_733 (fun H locs hP hD hS => ?_)
                    have hP : va_P X.1 vwCl (z_W (z_wB X b d d2 x733.2) X a D47 x47.2.2.1 []) H := hP
                    have hD : va_D A (z_W (z_wB X b d d2 x733.2) X a D47 x47.2.2.1 []) := hD
                    refine lv_istore (pc := 736) (lv' := [(15, .int x733.1), (14, .int x725.1), (13, .int x717), (0, .ref sb), (1, .ref b), (2, .ref a), (3, .int x115.1), (4, .int x115.2.1), (5, .long x115.2.2.1), (7, .int x115.2.2.2.1), (8, .int x115.2.2.2.2.1), (9, .int x115.2.2.2.2.2.1), (12, .int x641)]) hx hb dL_law_736 hl (by decide) rfl (fun ls hl => ?_)
                    refine lv_iconst (v := 1) (pc := 738) hx hb dL_law_738 (by decide) ?_
                    refine lv_iload (pc := 739) hx hb dL_law_739 (lv_at hl 7 rfl) ?_
                    refine lv_bipush (v := 6) (pc := 741) hx hb dL_law_741 (by decide) ?_
                    refine lv_ishr (pc := 743) hx hb dL_law_743 ?_
                    refine lv_bipush (v := 20) (pc := 744) hx hb dL_law_744 (by decide) ?_
                    obtain ⟨x746, e746, hf⟩ := z_bd hf
                    refine z_csI (pc := 746) S (m_L_below l X (x115.2.1 >>> (6 &&& 31)) 20 e746) (va_cwS 2 hts gL_law_L_below rfl rfl rfl hdL_below ⟨Nat.le_of_ble_eq_true rfl, Nat.le_of_ble_eq_true rfl⟩) hP hK hN (s_nil _) (show (k47 + 1) ≤ room_1.cells ∧ (s47 + 13) ≤ room_1.slots from ⟨by omega, by omega⟩) rfl hl.1 rfl (Nat.le_of_ble_eq_true rfl) dL_law_746 ?_
                    refine lv_iadd (pc := 749) hx hb dL_law_749 ?_
                    refine lv_istore (pc := 750) (lv' := [(16, .int (1 + x746)), (15, .int x733.1), (14, .int x725.1), (13, .int x717), (0, .ref sb), (1, .ref b), (2, .ref a), (3, .int x115.1), (4, .int x115.2.1), (5, .long x115.2.2.1), (7, .int x115.2.2.2.1), (8, .int x115.2.2.2.2.1), (9, .int x115.2.2.2.2.2.1), (12, .int x641)]) hx hb dL_law_750 hl (by decide) rfl (fun ls hl => ?_)
                    refine lv_aload_n (pc := 752) hx hb dL_law_752 rfl (lv_at hl 5 rfl) ?_
                    refine lv_iload (pc := 753) hx hb dL_law_753 (lv_at hl 0 rfl) ?_
                    obtain ⟨x755, e755, hf⟩ := z_bd hf
                    refine z_cbI (pc := 755) (wr := ((z_wS X a D47 x47.2.2.1) ++ [])) S (m_X4_servedIn l X b d d2 x733.2 (1 + x746) e755) (cwV 1 hts gL_law_X4_servedIn rfl rfl rfl hdX4_servedIn ⟨Nat.le_of_ble_eq_true rfl, Nat.le_of_ble_eq_true rfl⟩) hP hK hN hD hS hA (ci := 4) rfl rfl rfl (show (k47 + 1) ≤ room_1.cells ∧ (s47 + 13) ≤ room_1.slots from ⟨by omega, by omega⟩) rfl hl.1 rfl (Nat.le_of_ble_eq_true rfl) dL_law_755 (fun H locs hP hD hS => ?_)
                    have hP : va_P X.1 vwCl (z_W (z_wB X b d d2 x755.2) X a D47 x47.2.2.1 []) H := hP
                    have hD : va_D A (z_W (z_wB X b d d2 x755.2) X a D47 x47.2.2.1 []) := hD
                    refine lv_istore (pc := 758) (lv' := [(17, .int x755.1), (16, .int (1 + x746)), (15, .int x733.1), (14, .int x725.1), (13, .int x717), (0, .ref sb), (1, .ref b), (2, .ref a), (3, .int x115.1), (4, .int x115.2.1), (5, .long x115.2.2.1), (7, .int x115.2.2.2.1), (8, .int x115.2.2.2.2.1), (9, .int x115.2.2.2.2.2.1), (12, .int x641)]) hx hb dL_law_758 hl (by decide) rfl (fun ls hl => ?_)
                    refine lv_iload (pc := 760) hx hb dL_law_760 (lv_at hl 2 rfl) ?_
                    refine lv_iload (pc := 762) hx hb dL_law_762 (lv_at hl 4 rfl) ?_
                    refine lv_icmp_eq (pc := 764) (tgt := 792) hx hb dL_law_764 (by decide) (fun c_764 => ?_) (fun c_764 => ?_)
                    · replace hf := z_ip c_764 hf
                      cases hf
                    · replace hf := z_in c_764 hf
                      refine lv_iload (pc := 767) hx hb dL_law_767 (lv_at hl 2 rfl) ?_
                      refine lv_iload (pc := 769) hx hb dL_law_769 (lv_at hl 11 rfl) ?_
                      refine lv_icmp_ge (pc := 771) (tgt := 792) hx hb dL_law_771 (by decide) (fun c_771 => ?_) (fun c_771 => ?_)
                      · replace hf := z_ip c_771 hf
                        cases hf
                      · replace hf := z_in c_771 hf
                        refine lv_iload (pc := 774) hx hb dL_law_774 (lv_at hl 3 rfl) ?_
                        refine lv_iconst (v := (-1)) (pc := 776) hx hb dL_law_776 (by decide) ?_
                        refine lv_icmp_lt (pc := 777) (tgt := 792) hx hb dL_law_777 (by decide) (fun c_777 => ?_) (fun c_777 => ?_)
                        · replace hf := z_ip c_777 hf
                          cases hf
                        · replace hf := z_in c_777 hf
                          refine lv_iload (pc := 780) hx hb dL_law_780 (lv_at hl 3 rfl) ?_
                          refine lv_bipush (v := 60) (pc := 782) hx hb dL_law_782 (by decide) ?_
                          refine lv_icmp_gt (pc := 784) (tgt := 792) hx hb dL_law_784 (by decide) (fun c_784 => ?_) (fun c_784 => ?_)
                          · replace hf := z_ip c_784 hf
                            cases hf
                          · replace hf := z_in c_784 hf
                            refine lv_iload (pc := 787) hx hb dL_law_787 (lv_at hl 0 rfl) ?_
                            refine lv_if_ge (pc := 789) (tgt := 794) hx hb dL_law_789 (by decide) (fun c_789 => ?_) (fun c_789 => ?_)
                            · replace hf := z_ip c_789 hf
                              refine lv_iload (pc := 794) hx hb dL_law_794 (lv_at hl 2 rfl) ?_
                              obtain ⟨y796, ey796, hf⟩ := z_bd hf
                              suffices jp_796 : ∀ (H : Heap) (locs : List Loc) (_ : va_P X.1 vwCl (z_W (z_wB X b d d2 y796) X a D47 x47.2.2.1 []) H) (_ : va_D A (z_W (z_wB X b d d2 y796) X a D47 x47.2.2.1 [])) (_ : va_S A s.heap H locs) (ls : Array Slot) (_ : lv_has ls 28 [(0, .ref sb), (1, .ref b), (2, .ref a), (3, .int x115.1), (5, .long x115.2.2.1), (7, .int x115.2.2.2.1), (8, .int x115.2.2.2.2.1), (13, .int x717), (14, .int x725.1), (16, .int (1 + x746)), (17, .int x755.1)]), W p l e room_1 s m #[Value.ref sb] below meth c H locs (k47 + 1) (s47 + 13) QQ (F0 m 842 ls []) by
                                have hf := ey796
                                refine lv_if_lt (pc := 796) (tgt := 842) hx hb dL_law_796 (by decide) (fun c_796 => ?_) (fun c_796 => ?_)
                                · replace hf := z_ip c_796 hf
                                  obtain rfl := Option.some.inj hf
                                  exact jp_796 H locs hP hD hS ls (lv_sub hl [5, 6, 7, 8, 10, 11, 12, 4, 3, 1, 0] rfl)
                                · replace hf := z_in c_796 hf
                                  refine lv_aload_n (pc := 799) hx hb dL_law_799 rfl (lv_at hl 6 rfl) ?_
                                  refine lv_bipush (v := 40) (pc := 800) hx hb dL_law_800 (by decide) ?_
                                  obtain ⟨x802, e802, hf⟩ := z_bd hf
                                  refine z_cbI (pc := 802) (wr := ((z_wS X a D47 x47.2.2.1) ++ [])) S (m_X4_servedIn l X b d d2 x755.2 40 e802) (cwV 1 hts gL_law_X4_servedIn rfl rfl rfl hdX4_servedIn ⟨Nat.le_of_ble_eq_true rfl, Nat.le_of_ble_eq_true rfl⟩) hP hK hN hD hS hA (ci := 4) rfl rfl rfl (show (k47 + 1) ≤ room_1.cells ∧ (s47 + 13) ≤ room_1.slots from ⟨by omega, by omega⟩) rfl hl.1 rfl (Nat.le_of_ble_eq_true rfl) dL_law_802 (fun H locs hP hD hS => ?_)
                                  have hP : va_P X.1 vwCl (z_W (z_wB X b d d2 x802.2) X a D47 x47.2.2.1 []) H := hP
                                  have hD : va_D A (z_W (z_wB X b d d2 x802.2) X a D47 x47.2.2.1 []) := hD
                                  refine lv_istore (pc := 805) (lv' := [(18, .int x802.1), (17, .int x755.1), (16, .int (1 + x746)), (15, .int x733.1), (14, .int x725.1), (13, .int x717), (0, .ref sb), (1, .ref b), (2, .ref a), (3, .int x115.1), (4, .int x115.2.1), (5, .long x115.2.2.1), (7, .int x115.2.2.2.1), (8, .int x115.2.2.2.2.1), (9, .int x115.2.2.2.2.2.1), (12, .int x641)]) hx hb dL_law_805 hl (by decide) rfl (fun ls hl => ?_)
                                  refine lv_aload_n (pc := 807) hx hb dL_law_807 rfl (lv_at hl 7 rfl) ?_
                                  refine lv_iload (pc := 808) hx hb dL_law_808 (lv_at hl 5 rfl) ?_
                                  refine lv_iload (pc := 810) hx hb dL_law_810 (lv_at hl 3 rfl) ?_
                                  obtain ⟨x812, e812, hf⟩ := z_bd hf
                                  refine z_cbI (pc := 812) (wr := ((z_wS X a D47 x47.2.2.1) ++ [])) S (m_X4_cross l X b d d2 x802.2 x717 x733.1 e812) (cwV 2 hts gL_law_X4_cross rfl rfl rfl hdX4_cross ⟨Nat.le_of_ble_eq_true rfl, Nat.le_of_ble_eq_true rfl⟩) hP hK hN hD hS hA (ci := 4) rfl rfl rfl (show (k47 + 1) ≤ room_1.cells ∧ (s47 + 13) ≤ room_1.slots from ⟨by omega, by omega⟩) rfl hl.1 rfl (Nat.le_of_ble_eq_true rfl) dL_law_812 (fun H locs hP hD hS => ?_)
                                  have hP : va_P X.1 vwCl (z_W (z_wB X b d d2 x812.2) X a D47 x47.2.2.1 []) H := hP
                                  have hD : va_D A (z_W (z_wB X b d d2 x812.2) X a D47 x47.2.2.1 []) := hD
                                  refine lv_pop (pc := 815) hx hb dL_law_815 rfl ?_
                                  refine lv_aload_n (pc := 816) hx hb dL_law_816 rfl (lv_at hl 7 rfl) ?_
                                  refine lv_bipush (v := 40) (pc := 817) hx hb dL_law_817 (by decide) ?_
                                  obtain ⟨x819, e819, hf⟩ := z_bd hf
                                  refine z_cbI (pc := 819) (wr := ((z_wS X a D47 x47.2.2.1) ++ [])) S (m_X4_servedIn l X b d d2 x812.2 40 e819) (cwV 1 hts gL_law_X4_servedIn rfl rfl rfl hdX4_servedIn ⟨Nat.le_of_ble_eq_true rfl, Nat.le_of_ble_eq_true rfl⟩) hP hK hN hD hS hA (ci := 4) rfl rfl rfl (show (k47 + 1) ≤ room_1.cells ∧ (s47 + 13) ≤ room_1.slots from ⟨by omega, by omega⟩) rfl hl.1 rfl (Nat.le_of_ble_eq_true rfl) dL_law_819 (fun H locs hP hD hS => ?_)
                                  have hP : va_P X.1 vwCl (z_W (z_wB X b d d2 x819.2) X a D47 x47.2.2.1 []) H := hP
                                  have hD : va_D A (z_W (z_wB X b d d2 x819.2) X a D47 x47.2.2.1 []) := hD
                                  refine lv_istore (pc := 822) (lv' := [(19, .int x819.1), (18, .int x802.1), (17, .int x755.1), (16, .int (1 + x746)), (15, .int x733.1), (14, .int x725.1), (13, .int x717), (0, .ref sb), (1, .ref b), (2, .ref a), (3, .int x115.1), (4, .int x115.2.1), (5, .long x115.2.2.1), (7, .int x115.2.2.2.1), (8, .int x115.2.2.2.2.1), (9, .int x115.2.2.2.2.2.1), (12, .int x641)]) hx hb dL_law_822 hl (by decide) rfl (fun ls hl => ?_)
                                  refine lv_aload_n (pc := 824) hx hb dL_law_824 rfl (lv_at hl 8 rfl) ?_
                                  refine lv_iload (pc := 825) hx hb dL_law_825 (lv_at hl 6 rfl) ?_
                                  refine lv_iload (pc := 827) hx hb dL_law_827 (lv_at hl 4 rfl) ?_
                                  obtain ⟨x829, e829, hf⟩ := z_bd hf
                                  refine z_cbI (pc := 829) (wr := ((z_wS X a D47 x47.2.2.1) ++ [])) S (m_X4_cross l X b d d2 x819.2 x717 x733.1 e829) (cwV 2 hts gL_law_X4_cross rfl rfl rfl hdX4_cross ⟨Nat.le_of_ble_eq_true rfl, Nat.le_of_ble_eq_true rfl⟩) hP hK hN hD hS hA (ci := 4) rfl rfl rfl (show (k47 + 1) ≤ room_1.cells ∧ (s47 + 13) ≤ room_1.slots from ⟨by omega, by omega⟩) rfl hl.1 rfl (Nat.le_of_ble_eq_true rfl) dL_law_829 (fun H locs hP hD hS => ?_)
                                  have hP : va_P X.1 vwCl (z_W (z_wB X b d d2 x829.2) X a D47 x47.2.2.1 []) H := hP
                                  have hD : va_D A (z_W (z_wB X b d d2 x829.2) X a D47 x47.2.2.1 []) := hD
                                  refine lv_pop (pc := 832) hx hb dL_law_832 rfl ?_
                                  refine lv_iload (pc := 833) hx hb dL_law_833 (lv_at hl 0 rfl) ?_
                                  refine lv_iload (pc := 835) hx hb dL_law_835 (lv_at hl 1 rfl) ?_
                                  refine lv_icmp_gt (pc := 837) (tgt := 842) hx hb dL_law_837 (by decide) (fun c_837 => ?_) (fun c_837 => ?_)
                                  · replace hf := z_ip c_837 hf
                                    obtain rfl := Option.some.inj hf
                                    exact jp_796 H locs hP hD hS ls (lv_sub hl [7, 8, 9, 10, 12, 13, 14, 6, 5, 3, 2] rfl)
                                  · replace hf := z_in c_837 hf
                                    cases hf
                              intro H locs hP hD hS ls hl
                              refine lv_aload_n (pc := 842) hx hb dL_law_842 rfl (lv_at hl 1 rfl) ?_
                              obtain ⟨x843, e843, hf⟩ := z_bd hf
                              refine z_cbL (pc := 843) (wr := ((z_wS X a D47 x47.2.2.1) ++ [])) S (m_X4_digest l X b d d2 y796 e843) (cwV 0 hts gL_law_X4_digest rfl rfl rfl hdX4_digest ⟨Nat.le_of_ble_eq_true rfl, Nat.le_of_ble_eq_true rfl⟩) hP hK hN hD hS hA (ci := 4) rfl rfl rfl (show (k47 + 1) ≤ room_1.cells ∧ (s47 + 13) ≤ room_1.slots from ⟨by omega, by omega⟩) rfl hl.1 rfl (Nat.le_of_ble_eq_true rfl) dL_law_843 (fun H locs hP hD hS => ?_)
                              have hP : va_P X.1 vwCl (z_W (z_wB X b d d2 x843.2) X a D47 x47.2.2.1 []) H := hP
                              have hD : va_D A (z_W (z_wB X b d d2 x843.2) X a D47 x47.2.2.1 []) := hD
                              refine lv_lload (pc := 846) hx hb dL_law_846 (lv_at hl 4 rfl) ?_
                              refine W.lcmp (pc := 848) hx hb dL_law_848 ?_
                              refine lv_if_eq (pc := 849) (tgt := 854) hx hb dL_law_849 (by decide) (fun c_849 => ?_) (fun c_849 => ?_)
                              · replace hf := z_ip c_849 hf
                                refine lv_iconst (v := 0) (pc := 854) hx hb dL_law_854 (by decide) ?_
                                refine lv_istore (pc := 855) (lv' := [(18, .int 0), (0, .ref sb), (1, .ref b), (2, .ref a), (3, .int x115.1), (5, .long x115.2.2.1), (7, .int x115.2.2.2.1), (8, .int x115.2.2.2.2.1), (13, .int x717), (14, .int x725.1), (16, .int (1 + x746)), (17, .int x755.1)]) hx hb dL_law_855 hl (by decide) rfl (fun ls hl => ?_)
                                refine lv_iconst (v := 1) (pc := 857) hx hb dL_law_857 (by decide) ?_
                                refine lv_istore (pc := 858) (lv' := [(19, .int 1), (18, .int 0), (0, .ref sb), (1, .ref b), (2, .ref a), (3, .int x115.1), (5, .long x115.2.2.1), (7, .int x115.2.2.2.1), (8, .int x115.2.2.2.2.1), (13, .int x717), (14, .int x725.1), (16, .int (1 + x746)), (17, .int x755.1)]) hx hb dL_law_858 hl (by decide) rfl (fun ls hl => ?_)
                                obtain ⟨x860, e860, hf⟩ := z_bd hf
                                refine lp_860 z_FU ((k47 + 1) + 1856) ((s47 + 13) + 24128) (k47 + 1) (s47 + 13) (by rw [show z_FU = 64 from rfl]; exact ⟨⟨by omega, by omega⟩, by omega, by omega⟩) D47 x115.1 x115.2.2.2.1 x115.2.2.2.2.1 x717 x725.1 (1 + x746) x755.1 0 1 x47.2.2.1 x843.2 x860 H locs hP hD hS ls (lv_sub hl [2, 3, 4, 5, 7, 8, 9, 10, 11, 12, 1, 0] rfl) e860 (fun k860 s860 hk860 D860 H locs hP hD hS ls hl => ?_)
                                refine lv_iload (pc := 1228) hx hb dL_law_1228 (lv_at hl 5 rfl) ?_
                                refine lv_iload (pc := 1230) hx hb dL_law_1230 (lv_at hl 4 rfl) ?_
                                refine lv_icmp_eq (pc := 1232) (tgt := 1237) hx hb dL_law_1232 (by decide) (fun c_1232 => ?_) (fun c_1232 => ?_)
                                · replace hf := z_ip c_1232 hf
                                  refine lv_iinc (pc := 1237) (v := (x860.1 + 1)) (lv' := [(3, .int (x860.1 + 1)), (0, .ref sb), (1, .ref b), (2, .ref a), (17, .int x860.2.1), (18, .int x860.2.2.1)]) hx hb dL_law_1237 hl (k := 3) rfl rfl (by decide) rfl (fun ls hl => ?_)
                                  refine lv_goto (pc := 1240) (tgt := 22) hx hb dL_law_1240 (by decide) ?_
                                  exact ih kC kS k860 s860 ⟨⟨by omega, by omega⟩, hk.2.1, hk.2.2⟩ D860 (x860.1 + 1) x860.2.2.2.1 x860.2.2.2.2 T H locs hP hD hS ls (lv_sub hl [1, 2, 3, 0] rfl) hf kk
                                · replace hf := z_in c_1232 hf
                                  cases hf
                              · replace hf := z_in c_849 hf
                                cases hf
                            · replace hf := z_in c_789 hf
                              cases hf
                  · replace hf := z_in c_706 hf
                    cases hf
  unfold f_L_lawb at hf
  refine lv_iconst (v := 0) (pc := 20) hx hb dL_law_20 (by decide) ?_
  refine lv_istore_n (pc := 21) (lv' := [(3, .int 0), (0, .ref sb), (1, .ref b), (2, .ref a)]) hx hb dL_law_21 rfl hl (by decide) rfl (fun ls hl => ?_)
  obtain ⟨x22, e22, hf⟩ := z_bd hf
  refine lp_22 z_F8 (k0 + 129544) (s0 + 1684072) k0 s0 (by rw [show z_F8 = 8 from rfl]; exact ⟨⟨by omega, by omega⟩, by omega, by omega⟩) D 0 Q B x22 H locs hP hD hS ls (lv_sub hl [1, 2, 3, 0] rfl) e22 (fun k22 s22 hk22 D22 H locs hP hD hS ls hl => ?_)
  refine lv_aload_n (pc := 1243) hx hb dL_law_1243 rfl (lv_at hl 1 rfl) ?_
  refine lv_aload_n (pc := 1244) hx hb dL_law_1244 rfl (lv_at hl 0 rfl) ?_
  obtain ⟨x1245, e1245, hf⟩ := z_bd hf
  refine z_cwI (pc := 1245) S (m_X5_isSame l X b d d2 x22.2 a D22 x22.1 e1245) (cwV 1 hts gL_law_X5_isSame rfl rfl rfl hdX5_isSame ⟨Nat.le_of_ble_eq_true rfl, Nat.le_of_ble_eq_true rfl⟩) hP hK hN hA2 hD hS hA _ (ci := 5) rfl rfl zg_0 (show k22 + 24 ≤ room_1.cells ∧ s22 + 129 ≤ room_1.slots from ⟨by omega, by omega⟩) rfl hl.1 rfl (Nat.le_of_ble_eq_true rfl) dL_law_1245 (fun z u H locs hpost hP hD hS => ?_)
  obtain ⟨rfl, D1245, rfl⟩ := hpost
  exact kend (k22 + 24) (s22 + 129) H locs (show (k22 + 24) ≤ room_1.cells from by omega) (show (s22 + 129) ≤ room_1.slots from by omega) hS ls (Option.some.inj hf)
