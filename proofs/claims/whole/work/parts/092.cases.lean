-- ===== the law's cases =====
def z_wLw (X : z_X) (a : Nat) (d d2 : Nat → Nat) (B : z_B) (o : Nat) (g : Nat → Int64) (dm : Nat → Nat) (M : z_M) : va_W := z_wBO X a d d2 B o g ++ z_wM X dm M
set_option maxRecDepth 20000 in
theorem s_W_BO (X : z_X) (a : Nat) (d d2 : Nat → Nat) (B : z_B) (o : Nat) (g : Nat → Int64) (dm : Nat → Nat) (M : z_M) : z_S (z_wLw X a d d2 B o g dm M) (z_wBO X a d d2 B o g) := ⟨[0, 1, 2, 3, 4, 5, 6, 7, 8, 9, 10, 11, 12, 13, 14, 15, 16, 17, 18, 19, 20, 21, 22, 23, 24, 25, 26, 27, 28, 29, 30, 31, 32, 33, 34, 35, 36, 37, 38, 39, 40, 41, 42, 43, 44, 45, 46, 47, 48, 49, 50, 51, 52, 53], rfl, rfl⟩
set_option maxRecDepth 20000 in
theorem s_W_B (X : z_X) (a : Nat) (d d2 : Nat → Nat) (B : z_B) (o : Nat) (g : Nat → Int64) (dm : Nat → Nat) (M : z_M) : z_S (z_wLw X a d d2 B o g dm M) (z_wB X a d d2 B) := ⟨[0, 1, 2, 3, 4, 5, 6, 7, 8, 9, 10, 11, 12, 13, 14, 15, 16, 17, 18, 19, 20, 21, 22, 23, 24, 25, 26, 27, 28, 29, 30, 31, 32, 33, 34, 35, 36, 37, 38, 39, 40, 41, 42, 43, 44, 45, 46, 47, 48, 49, 50, 51, 52], rfl, rfl⟩
set_option maxRecDepth 20000 in
theorem s_W_M (X : z_X) (a : Nat) (d d2 : Nat → Nat) (B : z_B) (o : Nat) (g : Nat → Int64) (dm : Nat → Nat) (M : z_M) : z_S (z_wLw X a d d2 B o g dm M) (z_wM X dm M) := ⟨[54, 55, 56, 57, 58, 59, 60, 61, 62], rfl, rfl⟩
set_option maxRecDepth 20000 in
theorem f_W_BO (X : z_X) (a : Nat) (d d2 : Nat → Nat) (B : z_B) (o : Nat) (g : Nat → Int64) (dm : Nat → Nat) (M : z_M) (B2 : z_B) (g2 : Nat → Int64) : z_F (z_wLw X a d d2 B o g dm M) (z_wBO X a d d2 B o g) (z_wLw X a d d2 B2 o g2 dm M) (z_wBO X a d d2 B2 o g2) := ⟨[0, 1, 2, 3, 4, 5, 6, 7, 8, 9, 10, 11, 12, 13, 14, 15, 16, 17, 18, 19, 20, 21, 22, 23, 24, 25, 26, 27, 28, 29, 30, 31, 32, 33, 34, 35, 36, 37, 38, 39, 40, 41, 42, 43, 44, 45, 46, 47, 48, 49, 50, 51, 52, 53], [54, 55, 56, 57, 58, 59, 60, 61, 62], [9, 10, 11, 12, 13, 14, 15, 16, 17, 18, 19, 20, 21, 22, 23, 24, 25, 26, 27, 28, 29, 30, 31, 32, 33, 34, 35, 36, 37, 38, 39, 40, 41, 42, 43, 44, 45, 46, 47, 48, 49, 50, 51, 52, 53, 54, 55, 56, 57, 58, 59, 60, 61, 62, 0, 1, 2, 3, 4, 5, 6, 7, 8], z_wM X dm M, rfl, rfl, rfl, by decide, rfl, rfl⟩
set_option maxRecDepth 20000 in
theorem f_W_B (X : z_X) (a : Nat) (d d2 : Nat → Nat) (B : z_B) (o : Nat) (g : Nat → Int64) (dm : Nat → Nat) (M : z_M) (B2 : z_B) : z_F (z_wLw X a d d2 B o g dm M) (z_wB X a d d2 B) (z_wLw X a d d2 B2 o g dm M) (z_wB X a d d2 B2) := ⟨[0, 1, 2, 3, 4, 5, 6, 7, 8, 9, 10, 11, 12, 13, 14, 15, 16, 17, 18, 19, 20, 21, 22, 23, 24, 25, 26, 27, 28, 29, 30, 31, 32, 33, 34, 35, 36, 37, 38, 39, 40, 41, 42, 43, 44, 45, 46, 47, 48, 49, 50, 51, 52], [53, 54, 55, 56, 57, 58, 59, 60, 61, 62], [10, 11, 12, 13, 14, 15, 16, 17, 18, 19, 20, 21, 22, 23, 24, 25, 26, 27, 28, 29, 30, 31, 32, 33, 34, 35, 36, 37, 38, 39, 40, 41, 42, 43, 44, 45, 46, 47, 48, 49, 50, 51, 52, 53, 54, 55, 56, 57, 58, 59, 60, 61, 62, 0, 1, 2, 3, 4, 5, 6, 7, 8, 9], (o, .inl (X.2.2.2, 1, .inr (.inl g))) :: z_wM X dm M, rfl, rfl, rfl, by decide, rfl, rfl⟩
set_option maxRecDepth 20000 in
theorem f_W_M (X : z_X) (a : Nat) (d d2 : Nat → Nat) (B : z_B) (o : Nat) (g : Nat → Int64) (dm : Nat → Nat) (M : z_M) (M2 : z_M) : z_F (z_wLw X a d d2 B o g dm M) (z_wM X dm M) (z_wLw X a d d2 B o g dm M2) (z_wM X dm M2) := ⟨[54, 55, 56, 57, 58, 59, 60, 61, 62], [0, 1, 2, 3, 4, 5, 6, 7, 8, 9, 10, 11, 12, 13, 14, 15, 16, 17, 18, 19, 20, 21, 22, 23, 24, 25, 26, 27, 28, 29, 30, 31, 32, 33, 34, 35, 36, 37, 38, 39, 40, 41, 42, 43, 44, 45, 46, 47, 48, 49, 50, 51, 52, 53], [0, 1, 2, 3, 4, 5, 6, 7, 8, 9, 10, 11, 12, 13, 14, 15, 16, 17, 18, 19, 20, 21, 22, 23, 24, 25, 26, 27, 28, 29, 30, 31, 32, 33, 34, 35, 36, 37, 38, 39, 40, 41, 42, 43, 44, 45, 46, 47, 48, 49, 50, 51, 52, 53, 54, 55, 56, 57, 58, 59, 60, 61, 62], z_wBO X a d d2 B o g, rfl, rfl, rfl, by decide, rfl, rfl⟩
def z_LC (p : Program) (l : Launch) (s : State) (m : MethodId) (meth : Method) (c : Code) (X : z_X) (b L : Nat) (xs : Nat → Int32) : Prop := p.tables.exec = Jvm.exec ∧ c.code = cL_law ∧ c.maxLocals = 9 ∧ s.vm.findClass RL = some m.cls ∧ (∀ w ∈ wsL_law, w.before #[Value.ref b] s = true) ∧ va_K X.1 vwCl (z_ty X) s ∧ z_N s ∧ va_X b L xs s s.heap ∧ b < s.heap.size ∧ z_T (fun q => s.heap.size ≤ q) s s.heap ∧ l.stackTraces = false ∧ L ≤ 2048
section ZL
variable {p : Program} {l : Launch} {e : Env} {R : Room} {s : State} {m : MethodId} {args : Array Value} {below : List Frame} {meth : Method} {c : Code} {H : Heap} {locs : List Loc} {cells slots : Nat} {Q : State → Prop}
variable {y : MethodName} {bytes cc : ByteArray} {maxL nL n index fr lo : Nat} {ret : Option FieldType} {ws : List Cond} {Ts : List Cond} {own C : String} {b : Addr} {As rest st0 : List Value} {ls : Array Slot} {pc : Nat} {X : z_X} {W0 wc : va_W} {A : Nat → Prop} {H0 : Heap}
/-- a word of the script -/
theorem z_sld (hexec : p.tables.exec = Jvm.exec) (hb : c.code = cc) {b L : Nat} {xs : Nat → Int32} (hX : va_X b L xs s H0) (hbl : b < H0.size) (hbA : ¬ A b) (hS : va_S A H0 H locs) (hL : L ≤ 2048) {x : Int32} (j : Nat) (hx : x = nI j) (hj : j < L) (hdg : decode cc pc = .ok (.iaload, 1)) (kk : W p l e R s m args below meth c H locs cells slots Q (F0 m (pc + 1) ls (.int (xs j) :: rest))) : W p l e R s m args below meth c H locs cells slots Q (F0 m pc ls (.int x :: .ref b :: rest)) := by
  have hn : (2048 : Nat) < 2 ^ 31 := by decide
  refine va_sld hexec hb hX hbl hbA hS (by rw [hx]; exact vp_in_nI hj (by omega)) hdg ?_
  rw [hx, nI_clamp (show j < 2 ^ 31 by omega)]; exact kk
/-- a static call of a method with handlers, that writes -/
theorem z_cwsI {r : Int32} {W1 wc1 : va_W} {hh : List (Nat × Nat × Nat × Nat)} (S : CallFix p m c cc nL s args Ts own) (hM : z_mI l y ws fr lo X As wc r wc1) (cw : vx_CSW R s args own index y bytes maxL ret hh ws (z_R fr lo) 0 0 n) (hP : va_P X.1 vwCl W0 H) (hK : va_K X.1 vwCl (z_ty X) s) (hN : z_N s) (hD : va_D A W0) (hS : va_S A H0 H locs) (hA : ∀ q, H0.size ≤ q → A q) (hs : z_S W0 wc) (hF : z_F W0 wc W1 wc1) (hf : cells ≤ R.cells ∧ slots ≤ R.slots) (hn : As.length = n) (hsz : ls.size = nL) (hst : st0 = As.reverse ++ rest) (hW : (rest.map fun v => v.category).sum ≤ 8) (hdg : decode cc pc = .ok (.invokestatic index, 3)) (kk : ∀ (H1 : Heap) (locs1 : List Loc), va_P X.1 vwCl W1 H1 → va_D A W1 → va_S A H0 H1 locs1 → W p l e R s m args below meth c H1 locs1 cells slots Q (F0 m (pc + 3) ls (.int r :: rest))) : W p l e R s m args below meth c H locs cells slots Q (F0 m pc ls st0) := by
  have hfr := hs.free hD hS hA
  refine va_calli (vx_runSW (rest := rest) S (hM H.size) cw ⟨z_bm _ _ _ _, z_prem hP hK hN hD hs _⟩ rfl hn hsz hst (lv_room hW) hdg hf) hS (fun q _ h => hfr q h) hfr (fun z u t H1 locs1 ht hvm hw hB hz1 hk1 hS1 => ?_)
  obtain ⟨rfl, rfl⟩ := hw
  obtain ⟨hP1, hD1⟩ := hB
  rw [ht] at hP1
  obtain ⟨a, b⟩ := z_join hF hP hD hk1 hfr hP1 hD1
  exact kk H1 locs1 a b hS1
/-- .. whose call inside throws and is caught -/
theorem z_cweI {r : Int32} {hh : List (Nat × Nat × Nat × Nat)} (S : CallFix p m c cc nL s args Ts own) (hM : z_eI l y ws fr lo X As wc r) (cw : vx_CSW R s args own index y bytes maxL ret hh ws (z_R1 fr lo) 1 6 n) (hP : va_P X.1 vwCl W0 H) (hK : va_K X.1 vwCl (z_ty X) s) (hN : z_N s) (hT : z_T z_no s H) (hD : va_D A W0) (hS : va_S A H0 H locs) (hA : ∀ q, H0.size ≤ q → A q) (hs : z_S W0 wc) (hF : z_F W0 wc W0 wc) (hf : cells + 1 ≤ R.cells ∧ slots + 6 ≤ R.slots) (hn : As.length = n) (hsz : ls.size = nL) (hst : st0 = As.reverse ++ rest) (hW : (rest.map fun v => v.category).sum ≤ 8) (hdg : decode cc pc = .ok (.invokestatic index, 3)) (kk : ∀ (H1 : Heap) (locs1 : List Loc), va_P X.1 vwCl W0 H1 → va_D A W0 → va_S A H0 H1 locs1 → W p l e R s m args below meth c H1 locs1 (cells + 1) (slots + 6) Q (F0 m (pc + 3) ls (.int r :: rest))) : W p l e R s m args below meth c H locs cells slots Q (F0 m pc ls st0) := by
  have hfr := hs.free hD hS hA
  refine va_calli (vx_runSW (rest := rest) S (hM H.size) cw ⟨fun a U g mk q => ?_, fun U hU hW => ?_⟩ rfl hn hsz hst (lv_room hW) hdg hf) hS (fun q _ h => hfr q h) hfr (fun z u t H1 locs1 ht hvm hw hB hz1 hk1 hS1 => ?_)
  · obtain ⟨q0, qM, qT⟩ := q
    obtain ⟨b1, b2⟩ := z_bm As X wc H.size a U g mk ⟨q0, qM⟩
    exact ⟨b1, b2, z_T.same (U := U.calling g mk a) rfl qT⟩
  · obtain ⟨b1, b2⟩ := z_prem hP hK hN hD hs As U hU hW
    exact ⟨b1, b2, by rw [hU]; exact hT.warm hW⟩
  · obtain ⟨rfl, rfl⟩ := hw
    obtain ⟨hP1, hD1⟩ := hB
    rw [ht] at hP1
    obtain ⟨a, b⟩ := z_join hF hP hD hk1 hfr hP1 hD1
    exact kk H1 locs1 a b hS1
/-- the model's digest -/
theorem z_caL {mc ms : Nat} {r : Int64} {W1 wc1 : va_W} {ci : Nat} {q : vw_C} {fs : List Value} (S : CallFix p m c cc nL s args Ts own) (hM : z_aL l y ws fr lo mc ms X (.ref b :: As) wc r wc1) (cw : CallW R s args own C index y bytes maxL ret ws { frames := fr, cells := mc, slots := ms, locals := lo } mc ms n) (hP : va_P X.1 vwCl W0 H) (hK : va_K X.1 vwCl (z_ty X) s) (hN : z_N s) (hD : va_D A W0) (hS : va_S A H0 H locs) (hA : ∀ q, H0.size ≤ q → A q) (hs : z_S W0 wc) (hF : z_F W0 wc W1 wc1) (hc : vwCl[ci]? = some q) (hq : q.1 = C) (he : wc[0]? = some (b, .inr (ci, fs))) (hf : cells + mc ≤ R.cells ∧ slots + ms ≤ R.slots) (hn : As.length = n) (hsz : ls.size = nL) (hst : st0 = As.reverse ++ .ref b :: rest) (hW : (rest.map fun v => v.category).sum ≤ 8) (hdg : decode cc pc = .ok (.invokevirtual index, 3)) (kk : ∀ (H1 : Heap) (locs1 : List Loc), va_P X.1 vwCl W1 H1 → va_D A W1 → va_S A H0 H1 locs1 → W p l e R s m args below meth c H1 locs1 (cells + mc) (slots + ms) Q (F0 m (pc + 3) ls (.long r :: rest))) : W p l e R s m args below meth c H locs cells slots Q (F0 m pc ls st0) := by
  have hfr := hs.free hD hS hA
  refine va_calll (va_runV (rest := rest) S (hM H.size) cw ⟨z_bm _ _ _ _, z_recv hP hK hN hs hc hq he, z_prem hP hK hN hD hs _⟩ rfl hn hsz hst (lv_room hW) hdg hf) hS (fun q _ h => hfr q h) hfr (fun z u t H1 locs1 ht hvm hw hB hz1 hk1 hS1 => ?_)
  obtain ⟨rfl, rfl⟩ := hw
  obtain ⟨hP1, hD1⟩ := hB
  rw [ht] at hP1
  obtain ⟨a, b⟩ := z_join hF hP hD hk1 hfr hP1 hD1
  exact kk H1 locs1 a b hS1
end ZL
theorem z_cmp0 (x : Int64) : lg_cmp x x = 0 := by simp [lg_cmp]
theorem z_oi (i k : Nat) {u : Int32} (hu : u = nI i) (y : Int32) (hy : y = nI k) : u + y = nI (i + k) := by rw [hu, hy, nI_add]
set_option maxHeartbeats 4000000 in
set_option maxRecDepth 100000 in
theorem lc_addRoom {p : Program} {l : Launch} {e : Env} {s : State} {m : MethodId} {below : List Frame} {meth : Method} {c : Code} {X : z_X} {b L : Nat} {xs : Nat → Int32} (C : z_LC p l s m meth c X b L xs) {a : Nat} {d d2 : Nat → Nat} {B : z_B} {o : Nat} {g : Nat → Int64} {dm : Nat → Nat} {M : z_M} {H : Heap} {locs : List Loc} {ls : Array Slot} {Q : State → Prop} {u : Int32} (kc ks : Nat) (hk : kc + 20 ≤ room_1.cells ∧ ks + 200 ≤ room_1.slots) (i : Nat) (hu : u = nI i) (hi : i + 3 < L) (hP : va_P X.1 vwCl (z_wLw X a d d2 B o g dm M) H) (hD : va_D (fun q : Nat => s.heap.size ≤ q) (z_wLw X a d d2 B o g dm M)) (hS : va_S (fun q : Nat => s.heap.size ≤ q) s.heap H locs) (hl : lv_has ls 9 [(0, .ref b), (1, .ref a), (2, .ref (dm 0)), (3, .ref o), (4, .int u)]) {R1 : (Int32 × z_B)} (hf1 : f_X4_addRoom B (xs (i + 1)) (xs (i + 2)) (xs (i + 3)) = some R1) {R2 : (Int32 × z_M)} (hf2 : f_X5_addRoom M (xs (i + 1)) (xs (i + 2)) (xs (i + 3)) = some R2) (h3 : R2.2.1 0 = 0) (h4 : R1.1 = R2.1) (kk : ∀ (H : Heap) (locs : List Loc) (ls : Array Slot), va_P X.1 vwCl (z_wLw X a d d2 R1.2 o (vp_updL g 0 (R1.1).toInt64) dm R2.2) H → va_D (fun q : Nat => s.heap.size ≤ q) (z_wLw X a d d2 R1.2 o (vp_updL g 0 (R1.1).toInt64) dm R2.2) → va_S (fun q : Nat => s.heap.size ≤ q) s.heap H locs → lv_has ls 9 [(0, .ref b), (1, .ref a), (2, .ref (dm 0)), (3, .ref o), (4, .int u)] → W p l e room_1 s m #[Value.ref b] below meth c H locs (kc + 20) (ks + 200) Q (F0 m 1905 ls [])) : W p l e room_1 s m #[Value.ref b] below meth c H locs kc ks Q (F0 m 212 ls []) := by
  obtain ⟨hx, hb, hml, hown, hts, hK, hN, hX, hbl, hT0, hl0, hL⟩ := C
  have hA : ∀ q : Nat, s.heap.size ≤ q → (fun q : Nat => s.heap.size ≤ q) q := fun _ h => h
  have hbA : ¬ (fun q : Nat => s.heap.size ≤ q) b := Nat.not_le.mpr hbl
  have S : CallFix p m c cL_law 9 s #[Value.ref b] wsL_law RL := ⟨hx, hb, hml, hown, hts⟩
  refine lv_aload_n (pc := 212) hx hb dL_law_212 rfl (lv_at hl 1 rfl) ?_
  refine lv_aload_n (pc := 213) hx hb dL_law_213 rfl (lv_at hl 0 rfl) ?_
  refine lv_iload (pc := 214) hx hb dL_law_214 (lv_at hl 4 rfl) ?_
  refine lv_iconst (v := 1) (pc := 216) hx hb dL_law_216 (by decide) ?_
  refine lv_iadd (pc := 217) hx hb dL_law_217 ?_
  refine z_sld (pc := 218) hx hb hX hbl hbA hS hL (i + 1) (z_oi i 1 hu 1 rfl) (by omega) dL_law_218 ?_
  refine lv_aload_n (pc := 219) hx hb dL_law_219 rfl (lv_at hl 0 rfl) ?_
  refine lv_iload (pc := 220) hx hb dL_law_220 (lv_at hl 4 rfl) ?_
  refine lv_iconst (v := 2) (pc := 222) hx hb dL_law_222 (by decide) ?_
  refine lv_iadd (pc := 223) hx hb dL_law_223 ?_
  refine z_sld (pc := 224) hx hb hX hbl hbA hS hL (i + 2) (z_oi i 2 hu 2 rfl) (by omega) dL_law_224 ?_
  refine lv_aload_n (pc := 225) hx hb dL_law_225 rfl (lv_at hl 0 rfl) ?_
  refine lv_iload (pc := 226) hx hb dL_law_226 (lv_at hl 4 rfl) ?_
  refine lv_iconst (v := 3) (pc := 228) hx hb dL_law_228 (by decide) ?_
  refine lv_iadd (pc := 229) hx hb dL_law_229 ?_
  refine z_sld (pc := 230) hx hb hX hbl hbA hS hL (i + 3) (z_oi i 3 hu 3 rfl) (by omega) dL_law_230 ?_
  refine lv_aload_n (pc := 231) hx hb dL_law_231 rfl (lv_at hl 3 rfl) ?_
  refine z_cwsI (pc := 232) (W1 := (z_wLw X a d d2 R1.2 o (vp_updL g 0 (R1.1).toInt64) dm M)) S (wn_addRoom l X a d d2 B o g (xs (i + 1)) (xs (i + 2)) (xs (i + 3)) hf1) (vx_cwSW 5 hts gL_law_L_addRoom rfl rfl rfl hdL_addRoom ⟨Nat.le_of_ble_eq_true rfl, Nat.le_of_ble_eq_true rfl⟩) hP hK hN hD hS hA (s_W_BO X a d d2 B o g dm M) (f_W_BO X a d d2 B o g dm M R1.2 (vp_updL g 0 (R1.1).toInt64)) (show kc ≤ room_1.cells ∧ ks ≤ room_1.slots from ⟨by omega, by omega⟩) rfl hl.1 rfl (Nat.le_of_ble_eq_true rfl) dL_law_232 (fun H locs hP hD hS => ?_)
  refine lv_istore (pc := 235) (lv' := [(5, .int 0), (0, .ref b), (1, .ref a), (2, .ref (dm 0)), (3, .ref o), (4, .int u)]) hx hb dL_law_235 hl (by decide) rfl (fun ls hl => ?_)
  refine lv_aload_n (pc := 237) hx hb dL_law_237 rfl (lv_at hl 3 rfl) ?_
  refine lv_aload_n (pc := 238) hx hb dL_law_238 rfl (lv_at hl 1 rfl) ?_
  refine lv_iload (pc := 239) hx hb dL_law_239 (lv_at hl 5 rfl) ?_
  refine lv_iconst (v := 1) (pc := 241) hx hb dL_law_241 (by decide) ?_
  refine lv_iadd (pc := 242) hx hb dL_law_242 ?_
  refine z_sld (pc := 243) hx hb hX hbl hbA hS hL (i + 1) (z_oi i 1 hu 1 rfl) (by omega) dL_law_243 ?_
  refine lv_aload_n (pc := 244) hx hb dL_law_244 rfl (lv_at hl 1 rfl) ?_
  refine lv_iload (pc := 245) hx hb dL_law_245 (lv_at hl 5 rfl) ?_
  refine lv_iconst (v := 2) (pc := 247) hx hb dL_law_247 (by decide) ?_
  refine lv_iadd (pc := 248) hx hb dL_law_248 ?_
  refine z_sld (pc := 249) hx hb hX hbl hbA hS hL (i + 2) (z_oi i 2 hu 2 rfl) (by omega) dL_law_249 ?_
  refine lv_aload_n (pc := 250) hx hb dL_law_250 rfl (lv_at hl 1 rfl) ?_
  refine lv_iload (pc := 251) hx hb dL_law_251 (lv_at hl 5 rfl) ?_
  refine lv_iconst (v := 3) (pc := 253) hx hb dL_law_253 (by decide) ?_
  refine lv_iadd (pc := 254) hx hb dL_law_254 ?_
  refine z_sld (pc := 255) hx hb hX hbl hbA hS hL (i + 3) (z_oi i 3 hu 3 rfl) (by omega) dL_law_255 ?_
  refine z_cmI (pc := 256) (W1 := (z_wLw X a d d2 R1.2 o (vp_updL g 0 (R1.1).toInt64) dm R2.2)) S (m_X5_addRoom l X dm M (xs (i + 1)) (xs (i + 2)) (xs (i + 3)) hf2) (cwV 3 hts gL_law_X5_addRoom rfl rfl rfl hdX5_addRoom ⟨Nat.le_of_ble_eq_true rfl, Nat.le_of_ble_eq_true rfl⟩) hP hK hN hD hS hA (s_W_M X a d d2 R1.2 o (vp_updL g 0 (R1.1).toInt64) dm M) (f_W_M X a d d2 R1.2 o (vp_updL g 0 (R1.1).toInt64) dm M R2.2) (ci := 5) rfl rfl rfl (show kc ≤ room_1.cells ∧ ks ≤ room_1.slots from ⟨by omega, by omega⟩) rfl hl.1 rfl (Nat.le_of_ble_eq_true rfl) dL_law_256 (fun H locs hP hD hS => ?_)
  refine lv_istore (pc := 259) (lv' := [(6, .int R2.1), (5, .int 0), (0, .ref b), (1, .ref a), (2, .ref (dm 0)), (3, .ref o), (4, .int u)]) hx hb dL_law_259 hl (by decide) rfl (fun ls hl => ?_)
  refine lv_aload_n (pc := 261) hx hb dL_law_261 rfl (lv_at hl 4 rfl) ?_
  refine z_cpI (pc := 262) S (m_X5_thrown l X dm R2.2 rfl) (cwV 0 hts gL_law_X5_thrown rfl rfl rfl hdX5_thrown ⟨Nat.le_of_ble_eq_true rfl, Nat.le_of_ble_eq_true rfl⟩) hP hK hN (s_W_M X a d d2 R1.2 o (vp_updL g 0 (R1.1).toInt64) dm R2.2) (ci := 5) rfl rfl rfl (show kc ≤ room_1.cells ∧ ks ≤ room_1.slots from ⟨by omega, by omega⟩) rfl hl.1 rfl (Nat.le_of_ble_eq_true rfl) dL_law_262 ?_
  refine lv_iload (pc := 265) hx hb dL_law_265 (lv_at hl 1 rfl) ?_
  refine lv_icmp_eq (pc := 267) (tgt := 272) hx hb dL_law_267 (by decide) (fun _ => ?_) (fun c_ => absurd h3 c_)
  refine lv_iload (pc := 272) hx hb dL_law_272 (lv_at hl 1 rfl) ?_
  refine lv_if_ne (pc := 274) (tgt := 289) hx hb dL_law_274 (by decide) (fun c_ => absurd rfl c_) (fun _ => ?_)
  refine lv_aload_n (pc := 277) hx hb dL_law_277 rfl (lv_at hl 5 rfl) ?_
  refine lv_iconst (v := 0) (pc := 278) hx hb dL_law_278 (by decide) ?_
  refine va_lald (pc := 279) hx hb hK hP 53 2 rfl rfl z_in01 dL_law_279 ?_
  refine lv_iload (pc := 280) hx hb dL_law_280 (lv_at hl 0 rfl) ?_
  refine lv_i2l (v := (R2.1).toInt64) (pc := 282) hx hb dL_law_282 rfl ?_
  refine W.lcmp (pc := 283) hx hb dL_law_283 ?_
  refine lv_if_eq (pc := 284) (tgt := 289) hx hb dL_law_284 (by decide) (fun _ => ?_) (fun c_ => absurd (show lg_cmp _ _ = 0 from by rw [← h4]; exact z_cmp0 _) c_)
  refine lv_goto (pc := 289) (tgt := 1905) hx hb dL_law_289 (by decide) ?_
  refine W.widen (k := kc + 20) (n := ks + 200) (by omega) (by omega) ?_
  exact kk H locs ls hP hD hS (lv_sub hl [2, 3, 4, 5, 6] rfl)
set_option maxHeartbeats 4000000 in
set_option maxRecDepth 100000 in
theorem lc_addRoom_t0 {p : Program} {l : Launch} {e : Env} {s : State} {m : MethodId} {below : List Frame} {meth : Method} {c : Code} {X : z_X} {b L : Nat} {xs : Nat → Int32} (C : z_LC p l s m meth c X b L xs) {a : Nat} {d d2 : Nat → Nat} {B : z_B} {o : Nat} {g : Nat → Int64} {dm : Nat → Nat} {M : z_M} {H : Heap} {locs : List Loc} {ls : Array Slot} {Q : State → Prop} {u : Int32} (kc ks : Nat) (hk : kc + 20 ≤ room_1.cells ∧ ks + 200 ≤ room_1.slots) (i : Nat) (hu : u = nI i) (hi : i + 3 < L) (hP : va_P X.1 vwCl (z_wLw X a d d2 B o g dm M) H) (hD : va_D (fun q : Nat => s.heap.size ≤ q) (z_wLw X a d d2 B o g dm M)) (hS : va_S (fun q : Nat => s.heap.size ≤ q) s.heap H locs) (hl : lv_has ls 9 [(0, .ref b), (1, .ref a), (2, .ref (dm 0)), (3, .ref o), (4, .int u)]) (hf1 : x_X4_addRoom B (xs (i + 1)) (xs (i + 2)) (xs (i + 3)) = some 0) {R2 : (Int32 × z_M)} (hf2 : f_X5_addRoom M (xs (i + 1)) (xs (i + 2)) (xs (i + 3)) = some R2) (h3 : R2.2.1 0 = 1) (kk : ∀ (H : Heap) (locs : List Loc) (ls : Array Slot), va_P X.1 vwCl (z_wLw X a d d2 B o g dm R2.2) H → va_D (fun q : Nat => s.heap.size ≤ q) (z_wLw X a d d2 B o g dm R2.2) → va_S (fun q : Nat => s.heap.size ≤ q) s.heap H locs → lv_has ls 9 [(0, .ref b), (1, .ref a), (2, .ref (dm 0)), (3, .ref o), (4, .int u)] → W p l e room_1 s m #[Value.ref b] below meth c H locs (kc + 20) (ks + 200) Q (F0 m 1905 ls [])) : W p l e room_1 s m #[Value.ref b] below meth c H locs kc ks Q (F0 m 212 ls []) := by
  obtain ⟨hx, hb, hml, hown, hts, hK, hN, hX, hbl, hT0, hl0, hL⟩ := C
  have hA : ∀ q : Nat, s.heap.size ≤ q → (fun q : Nat => s.heap.size ≤ q) q := fun _ h => h
  have hbA : ¬ (fun q : Nat => s.heap.size ≤ q) b := Nat.not_le.mpr hbl
  have S : CallFix p m c cL_law 9 s #[Value.ref b] wsL_law RL := ⟨hx, hb, hml, hown, hts⟩
  refine lv_aload_n (pc := 212) hx hb dL_law_212 rfl (lv_at hl 1 rfl) ?_
  refine lv_aload_n (pc := 213) hx hb dL_law_213 rfl (lv_at hl 0 rfl) ?_
  refine lv_iload (pc := 214) hx hb dL_law_214 (lv_at hl 4 rfl) ?_
  refine lv_iconst (v := 1) (pc := 216) hx hb dL_law_216 (by decide) ?_
  refine lv_iadd (pc := 217) hx hb dL_law_217 ?_
  refine z_sld (pc := 218) hx hb hX hbl hbA hS hL (i + 1) (z_oi i 1 hu 1 rfl) (by omega) dL_law_218 ?_
  refine lv_aload_n (pc := 219) hx hb dL_law_219 rfl (lv_at hl 0 rfl) ?_
  refine lv_iload (pc := 220) hx hb dL_law_220 (lv_at hl 4 rfl) ?_
  refine lv_iconst (v := 2) (pc := 222) hx hb dL_law_222 (by decide) ?_
  refine lv_iadd (pc := 223) hx hb dL_law_223 ?_
  refine z_sld (pc := 224) hx hb hX hbl hbA hS hL (i + 2) (z_oi i 2 hu 2 rfl) (by omega) dL_law_224 ?_
  refine lv_aload_n (pc := 225) hx hb dL_law_225 rfl (lv_at hl 0 rfl) ?_
  refine lv_iload (pc := 226) hx hb dL_law_226 (lv_at hl 4 rfl) ?_
  refine lv_iconst (v := 3) (pc := 228) hx hb dL_law_228 (by decide) ?_
  refine lv_iadd (pc := 229) hx hb dL_law_229 ?_
  refine z_sld (pc := 230) hx hb hX hbl hbA hS hL (i + 3) (z_oi i 3 hu 3 rfl) (by omega) dL_law_230 ?_
  refine lv_aload_n (pc := 231) hx hb dL_law_231 rfl (lv_at hl 3 rfl) ?_
  have hT : z_T z_no s H := (hT0.kept (fun q h1 h2 => hS.2.1 q h1 h2)).narrow (fun q h => h.elim)
  refine z_cweI (pc := 232) S (wt_addRoom_0 l hl0 X a d d2 B o g (xs (i + 1)) (xs (i + 2)) (xs (i + 3)) hf1) (vx_cwSW 5 hts gL_law_L_addRoom rfl rfl rfl hdL_addRoom ⟨Nat.le_of_ble_eq_true rfl, Nat.le_of_ble_eq_true rfl⟩) hP hK hN hT hD hS hA (s_W_BO X a d d2 B o g dm M) (f_W_BO X a d d2 B o g dm M B g) (show kc + 1 ≤ room_1.cells ∧ ks + 6 ≤ room_1.slots from ⟨by omega, by omega⟩) rfl hl.1 rfl (Nat.le_of_ble_eq_true rfl) dL_law_232 (fun H locs hP hD hS => ?_)
  refine lv_istore (pc := 235) (lv' := [(5, .int 1), (0, .ref b), (1, .ref a), (2, .ref (dm 0)), (3, .ref o), (4, .int u)]) hx hb dL_law_235 hl (by decide) rfl (fun ls hl => ?_)
  refine lv_aload_n (pc := 237) hx hb dL_law_237 rfl (lv_at hl 3 rfl) ?_
  refine lv_aload_n (pc := 238) hx hb dL_law_238 rfl (lv_at hl 1 rfl) ?_
  refine lv_iload (pc := 239) hx hb dL_law_239 (lv_at hl 5 rfl) ?_
  refine lv_iconst (v := 1) (pc := 241) hx hb dL_law_241 (by decide) ?_
  refine lv_iadd (pc := 242) hx hb dL_law_242 ?_
  refine z_sld (pc := 243) hx hb hX hbl hbA hS hL (i + 1) (z_oi i 1 hu 1 rfl) (by omega) dL_law_243 ?_
  refine lv_aload_n (pc := 244) hx hb dL_law_244 rfl (lv_at hl 1 rfl) ?_
  refine lv_iload (pc := 245) hx hb dL_law_245 (lv_at hl 5 rfl) ?_
  refine lv_iconst (v := 2) (pc := 247) hx hb dL_law_247 (by decide) ?_
  refine lv_iadd (pc := 248) hx hb dL_law_248 ?_
  refine z_sld (pc := 249) hx hb hX hbl hbA hS hL (i + 2) (z_oi i 2 hu 2 rfl) (by omega) dL_law_249 ?_
  refine lv_aload_n (pc := 250) hx hb dL_law_250 rfl (lv_at hl 1 rfl) ?_
  refine lv_iload (pc := 251) hx hb dL_law_251 (lv_at hl 5 rfl) ?_
  refine lv_iconst (v := 3) (pc := 253) hx hb dL_law_253 (by decide) ?_
  refine lv_iadd (pc := 254) hx hb dL_law_254 ?_
  refine z_sld (pc := 255) hx hb hX hbl hbA hS hL (i + 3) (z_oi i 3 hu 3 rfl) (by omega) dL_law_255 ?_
  refine z_cmI (pc := 256) (W1 := (z_wLw X a d d2 B o g dm R2.2)) S (m_X5_addRoom l X dm M (xs (i + 1)) (xs (i + 2)) (xs (i + 3)) hf2) (cwV 3 hts gL_law_X5_addRoom rfl rfl rfl hdX5_addRoom ⟨Nat.le_of_ble_eq_true rfl, Nat.le_of_ble_eq_true rfl⟩) hP hK hN hD hS hA (s_W_M X a d d2 B o g dm M) (f_W_M X a d d2 B o g dm M R2.2) (ci := 5) rfl rfl rfl (show (kc + 1) ≤ room_1.cells ∧ (ks + 6) ≤ room_1.slots from ⟨by omega, by omega⟩) rfl hl.1 rfl (Nat.le_of_ble_eq_true rfl) dL_law_256 (fun H locs hP hD hS => ?_)
  refine lv_istore (pc := 259) (lv' := [(6, .int R2.1), (5, .int 1), (0, .ref b), (1, .ref a), (2, .ref (dm 0)), (3, .ref o), (4, .int u)]) hx hb dL_law_259 hl (by decide) rfl (fun ls hl => ?_)
  refine lv_aload_n (pc := 261) hx hb dL_law_261 rfl (lv_at hl 4 rfl) ?_
  refine z_cpI (pc := 262) S (m_X5_thrown l X dm R2.2 rfl) (cwV 0 hts gL_law_X5_thrown rfl rfl rfl hdX5_thrown ⟨Nat.le_of_ble_eq_true rfl, Nat.le_of_ble_eq_true rfl⟩) hP hK hN (s_W_M X a d d2 B o g dm R2.2) (ci := 5) rfl rfl rfl (show (kc + 1) ≤ room_1.cells ∧ (ks + 6) ≤ room_1.slots from ⟨by omega, by omega⟩) rfl hl.1 rfl (Nat.le_of_ble_eq_true rfl) dL_law_262 ?_
  refine lv_iload (pc := 265) hx hb dL_law_265 (lv_at hl 1 rfl) ?_
  refine lv_icmp_eq (pc := 267) (tgt := 272) hx hb dL_law_267 (by decide) (fun _ => ?_) (fun c_ => absurd h3 c_)
  refine lv_iload (pc := 272) hx hb dL_law_272 (lv_at hl 1 rfl) ?_
  refine lv_if_ne (pc := 274) (tgt := 289) hx hb dL_law_274 (by decide) (fun _ => ?_) (fun c_ => absurd c_ (by decide))
  refine lv_goto (pc := 289) (tgt := 1905) hx hb dL_law_289 (by decide) ?_
  refine W.widen (k := kc + 20) (n := ks + 200) (by omega) (by omega) ?_
  exact kk H locs ls hP hD hS (lv_sub hl [2, 3, 4, 5, 6] rfl)
set_option maxHeartbeats 4000000 in
set_option maxRecDepth 100000 in
theorem lc_addRoom_t1 {p : Program} {l : Launch} {e : Env} {s : State} {m : MethodId} {below : List Frame} {meth : Method} {c : Code} {X : z_X} {b L : Nat} {xs : Nat → Int32} (C : z_LC p l s m meth c X b L xs) {a : Nat} {d d2 : Nat → Nat} {B : z_B} {o : Nat} {g : Nat → Int64} {dm : Nat → Nat} {M : z_M} {H : Heap} {locs : List Loc} {ls : Array Slot} {Q : State → Prop} {u : Int32} (kc ks : Nat) (hk : kc + 20 ≤ room_1.cells ∧ ks + 200 ≤ room_1.slots) (i : Nat) (hu : u = nI i) (hi : i + 3 < L) (hP : va_P X.1 vwCl (z_wLw X a d d2 B o g dm M) H) (hD : va_D (fun q : Nat => s.heap.size ≤ q) (z_wLw X a d d2 B o g dm M)) (hS : va_S (fun q : Nat => s.heap.size ≤ q) s.heap H locs) (hl : lv_has ls 9 [(0, .ref b), (1, .ref a), (2, .ref (dm 0)), (3, .ref o), (4, .int u)]) (hf1 : x_X4_addRoom B (xs (i + 1)) (xs (i + 2)) (xs (i + 3)) = some 1) {R2 : (Int32 × z_M)} (hf2 : f_X5_addRoom M (xs (i + 1)) (xs (i + 2)) (xs (i + 3)) = some R2) (h3 : R2.2.1 0 = 2) (kk : ∀ (H : Heap) (locs : List Loc) (ls : Array Slot), va_P X.1 vwCl (z_wLw X a d d2 B o g dm R2.2) H → va_D (fun q : Nat => s.heap.size ≤ q) (z_wLw X a d d2 B o g dm R2.2) → va_S (fun q : Nat => s.heap.size ≤ q) s.heap H locs → lv_has ls 9 [(0, .ref b), (1, .ref a), (2, .ref (dm 0)), (3, .ref o), (4, .int u)] → W p l e room_1 s m #[Value.ref b] below meth c H locs (kc + 20) (ks + 200) Q (F0 m 1905 ls [])) : W p l e room_1 s m #[Value.ref b] below meth c H locs kc ks Q (F0 m 212 ls []) := by
  obtain ⟨hx, hb, hml, hown, hts, hK, hN, hX, hbl, hT0, hl0, hL⟩ := C
  have hA : ∀ q : Nat, s.heap.size ≤ q → (fun q : Nat => s.heap.size ≤ q) q := fun _ h => h
  have hbA : ¬ (fun q : Nat => s.heap.size ≤ q) b := Nat.not_le.mpr hbl
  have S : CallFix p m c cL_law 9 s #[Value.ref b] wsL_law RL := ⟨hx, hb, hml, hown, hts⟩
  refine lv_aload_n (pc := 212) hx hb dL_law_212 rfl (lv_at hl 1 rfl) ?_
  refine lv_aload_n (pc := 213) hx hb dL_law_213 rfl (lv_at hl 0 rfl) ?_
  refine lv_iload (pc := 214) hx hb dL_law_214 (lv_at hl 4 rfl) ?_
  refine lv_iconst (v := 1) (pc := 216) hx hb dL_law_216 (by decide) ?_
  refine lv_iadd (pc := 217) hx hb dL_law_217 ?_
  refine z_sld (pc := 218) hx hb hX hbl hbA hS hL (i + 1) (z_oi i 1 hu 1 rfl) (by omega) dL_law_218 ?_
  refine lv_aload_n (pc := 219) hx hb dL_law_219 rfl (lv_at hl 0 rfl) ?_
  refine lv_iload (pc := 220) hx hb dL_law_220 (lv_at hl 4 rfl) ?_
  refine lv_iconst (v := 2) (pc := 222) hx hb dL_law_222 (by decide) ?_
  refine lv_iadd (pc := 223) hx hb dL_law_223 ?_
  refine z_sld (pc := 224) hx hb hX hbl hbA hS hL (i + 2) (z_oi i 2 hu 2 rfl) (by omega) dL_law_224 ?_
  refine lv_aload_n (pc := 225) hx hb dL_law_225 rfl (lv_at hl 0 rfl) ?_
  refine lv_iload (pc := 226) hx hb dL_law_226 (lv_at hl 4 rfl) ?_
  refine lv_iconst (v := 3) (pc := 228) hx hb dL_law_228 (by decide) ?_
  refine lv_iadd (pc := 229) hx hb dL_law_229 ?_
  refine z_sld (pc := 230) hx hb hX hbl hbA hS hL (i + 3) (z_oi i 3 hu 3 rfl) (by omega) dL_law_230 ?_
  refine lv_aload_n (pc := 231) hx hb dL_law_231 rfl (lv_at hl 3 rfl) ?_
  have hT : z_T z_no s H := (hT0.kept (fun q h1 h2 => hS.2.1 q h1 h2)).narrow (fun q h => h.elim)
  refine z_cweI (pc := 232) S (wt_addRoom_1 l hl0 X a d d2 B o g (xs (i + 1)) (xs (i + 2)) (xs (i + 3)) hf1) (vx_cwSW 5 hts gL_law_L_addRoom rfl rfl rfl hdL_addRoom ⟨Nat.le_of_ble_eq_true rfl, Nat.le_of_ble_eq_true rfl⟩) hP hK hN hT hD hS hA (s_W_BO X a d d2 B o g dm M) (f_W_BO X a d d2 B o g dm M B g) (show kc + 1 ≤ room_1.cells ∧ ks + 6 ≤ room_1.slots from ⟨by omega, by omega⟩) rfl hl.1 rfl (Nat.le_of_ble_eq_true rfl) dL_law_232 (fun H locs hP hD hS => ?_)
  refine lv_istore (pc := 235) (lv' := [(5, .int 2), (0, .ref b), (1, .ref a), (2, .ref (dm 0)), (3, .ref o), (4, .int u)]) hx hb dL_law_235 hl (by decide) rfl (fun ls hl => ?_)
  refine lv_aload_n (pc := 237) hx hb dL_law_237 rfl (lv_at hl 3 rfl) ?_
  refine lv_aload_n (pc := 238) hx hb dL_law_238 rfl (lv_at hl 1 rfl) ?_
  refine lv_iload (pc := 239) hx hb dL_law_239 (lv_at hl 5 rfl) ?_
  refine lv_iconst (v := 1) (pc := 241) hx hb dL_law_241 (by decide) ?_
  refine lv_iadd (pc := 242) hx hb dL_law_242 ?_
  refine z_sld (pc := 243) hx hb hX hbl hbA hS hL (i + 1) (z_oi i 1 hu 1 rfl) (by omega) dL_law_243 ?_
  refine lv_aload_n (pc := 244) hx hb dL_law_244 rfl (lv_at hl 1 rfl) ?_
  refine lv_iload (pc := 245) hx hb dL_law_245 (lv_at hl 5 rfl) ?_
  refine lv_iconst (v := 2) (pc := 247) hx hb dL_law_247 (by decide) ?_
  refine lv_iadd (pc := 248) hx hb dL_law_248 ?_
  refine z_sld (pc := 249) hx hb hX hbl hbA hS hL (i + 2) (z_oi i 2 hu 2 rfl) (by omega) dL_law_249 ?_
  refine lv_aload_n (pc := 250) hx hb dL_law_250 rfl (lv_at hl 1 rfl) ?_
  refine lv_iload (pc := 251) hx hb dL_law_251 (lv_at hl 5 rfl) ?_
  refine lv_iconst (v := 3) (pc := 253) hx hb dL_law_253 (by decide) ?_
  refine lv_iadd (pc := 254) hx hb dL_law_254 ?_
  refine z_sld (pc := 255) hx hb hX hbl hbA hS hL (i + 3) (z_oi i 3 hu 3 rfl) (by omega) dL_law_255 ?_
  refine z_cmI (pc := 256) (W1 := (z_wLw X a d d2 B o g dm R2.2)) S (m_X5_addRoom l X dm M (xs (i + 1)) (xs (i + 2)) (xs (i + 3)) hf2) (cwV 3 hts gL_law_X5_addRoom rfl rfl rfl hdX5_addRoom ⟨Nat.le_of_ble_eq_true rfl, Nat.le_of_ble_eq_true rfl⟩) hP hK hN hD hS hA (s_W_M X a d d2 B o g dm M) (f_W_M X a d d2 B o g dm M R2.2) (ci := 5) rfl rfl rfl (show (kc + 1) ≤ room_1.cells ∧ (ks + 6) ≤ room_1.slots from ⟨by omega, by omega⟩) rfl hl.1 rfl (Nat.le_of_ble_eq_true rfl) dL_law_256 (fun H locs hP hD hS => ?_)
  refine lv_istore (pc := 259) (lv' := [(6, .int R2.1), (5, .int 2), (0, .ref b), (1, .ref a), (2, .ref (dm 0)), (3, .ref o), (4, .int u)]) hx hb dL_law_259 hl (by decide) rfl (fun ls hl => ?_)
  refine lv_aload_n (pc := 261) hx hb dL_law_261 rfl (lv_at hl 4 rfl) ?_
  refine z_cpI (pc := 262) S (m_X5_thrown l X dm R2.2 rfl) (cwV 0 hts gL_law_X5_thrown rfl rfl rfl hdX5_thrown ⟨Nat.le_of_ble_eq_true rfl, Nat.le_of_ble_eq_true rfl⟩) hP hK hN (s_W_M X a d d2 B o g dm R2.2) (ci := 5) rfl rfl rfl (show (kc + 1) ≤ room_1.cells ∧ (ks + 6) ≤ room_1.slots from ⟨by omega, by omega⟩) rfl hl.1 rfl (Nat.le_of_ble_eq_true rfl) dL_law_262 ?_
  refine lv_iload (pc := 265) hx hb dL_law_265 (lv_at hl 1 rfl) ?_
  refine lv_icmp_eq (pc := 267) (tgt := 272) hx hb dL_law_267 (by decide) (fun _ => ?_) (fun c_ => absurd h3 c_)
  refine lv_iload (pc := 272) hx hb dL_law_272 (lv_at hl 1 rfl) ?_
  refine lv_if_ne (pc := 274) (tgt := 289) hx hb dL_law_274 (by decide) (fun _ => ?_) (fun c_ => absurd c_ (by decide))
  refine lv_goto (pc := 289) (tgt := 1905) hx hb dL_law_289 (by decide) ?_
  refine W.widen (k := kc + 20) (n := ks + 200) (by omega) (by omega) ?_
  exact kk H locs ls hP hD hS (lv_sub hl [2, 3, 4, 5, 6] rfl)
set_option maxHeartbeats 4000000 in
set_option maxRecDepth 100000 in
theorem lc_addServant {p : Program} {l : Launch} {e : Env} {s : State} {m : MethodId} {below : List Frame} {meth : Method} {c : Code} {X : z_X} {b L : Nat} {xs : Nat → Int32} (C : z_LC p l s m meth c X b L xs) {a : Nat} {d d2 : Nat → Nat} {B : z_B} {o : Nat} {g : Nat → Int64} {dm : Nat → Nat} {M : z_M} {H : Heap} {locs : List Loc} {ls : Array Slot} {Q : State → Prop} {u : Int32} (kc ks : Nat) (hk : kc + 20 ≤ room_1.cells ∧ ks + 200 ≤ room_1.slots) (i : Nat) (hu : u = nI i) (hi : i + 3 < L) (hP : va_P X.1 vwCl (z_wLw X a d d2 B o g dm M) H) (hD : va_D (fun q : Nat => s.heap.size ≤ q) (z_wLw X a d d2 B o g dm M)) (hS : va_S (fun q : Nat => s.heap.size ≤ q) s.heap H locs) (hl : lv_has ls 9 [(0, .ref b), (1, .ref a), (2, .ref (dm 0)), (3, .ref o), (4, .int u)]) {R1 : (Int32 × z_B)} (hf1 : f_X4_addServant B (xs (i + 1)) = some R1) {R2 : (Int32 × z_M)} (hf2 : f_X5_addServant M (xs (i + 1)) = some R2) (h3 : R2.2.1 0 = 0) (h4 : R1.1 = R2.1) (kk : ∀ (H : Heap) (locs : List Loc) (ls : Array Slot), va_P X.1 vwCl (z_wLw X a d d2 R1.2 o (vp_updL g 0 (R1.1).toInt64) dm R2.2) H → va_D (fun q : Nat => s.heap.size ≤ q) (z_wLw X a d d2 R1.2 o (vp_updL g 0 (R1.1).toInt64) dm R2.2) → va_S (fun q : Nat => s.heap.size ≤ q) s.heap H locs → lv_has ls 9 [(0, .ref b), (1, .ref a), (2, .ref (dm 0)), (3, .ref o), (4, .int u)] → W p l e room_1 s m #[Value.ref b] below meth c H locs (kc + 20) (ks + 200) Q (F0 m 1905 ls [])) : W p l e room_1 s m #[Value.ref b] below meth c H locs kc ks Q (F0 m 292 ls []) := by
  obtain ⟨hx, hb, hml, hown, hts, hK, hN, hX, hbl, hT0, hl0, hL⟩ := C
  have hA : ∀ q : Nat, s.heap.size ≤ q → (fun q : Nat => s.heap.size ≤ q) q := fun _ h => h
  have hbA : ¬ (fun q : Nat => s.heap.size ≤ q) b := Nat.not_le.mpr hbl
  have S : CallFix p m c cL_law 9 s #[Value.ref b] wsL_law RL := ⟨hx, hb, hml, hown, hts⟩
  refine lv_aload_n (pc := 292) hx hb dL_law_292 rfl (lv_at hl 1 rfl) ?_
  refine lv_aload_n (pc := 293) hx hb dL_law_293 rfl (lv_at hl 0 rfl) ?_
  refine lv_iload (pc := 294) hx hb dL_law_294 (lv_at hl 4 rfl) ?_
  refine lv_iconst (v := 1) (pc := 296) hx hb dL_law_296 (by decide) ?_
  refine lv_iadd (pc := 297) hx hb dL_law_297 ?_
  refine z_sld (pc := 298) hx hb hX hbl hbA hS hL (i + 1) (z_oi i 1 hu 1 rfl) (by omega) dL_law_298 ?_
  refine lv_aload_n (pc := 299) hx hb dL_law_299 rfl (lv_at hl 3 rfl) ?_
  refine z_cwsI (pc := 300) (W1 := (z_wLw X a d d2 R1.2 o (vp_updL g 0 (R1.1).toInt64) dm M)) S (wn_addServant l X a d d2 B o g (xs (i + 1)) hf1) (vx_cwSW 3 hts gL_law_L_addServant rfl rfl rfl hdL_addServant ⟨Nat.le_of_ble_eq_true rfl, Nat.le_of_ble_eq_true rfl⟩) hP hK hN hD hS hA (s_W_BO X a d d2 B o g dm M) (f_W_BO X a d d2 B o g dm M R1.2 (vp_updL g 0 (R1.1).toInt64)) (show kc ≤ room_1.cells ∧ ks ≤ room_1.slots from ⟨by omega, by omega⟩) rfl hl.1 rfl (Nat.le_of_ble_eq_true rfl) dL_law_300 (fun H locs hP hD hS => ?_)
  refine lv_istore (pc := 303) (lv' := [(5, .int 0), (0, .ref b), (1, .ref a), (2, .ref (dm 0)), (3, .ref o), (4, .int u)]) hx hb dL_law_303 hl (by decide) rfl (fun ls hl => ?_)
  refine lv_aload_n (pc := 305) hx hb dL_law_305 rfl (lv_at hl 3 rfl) ?_
  refine lv_aload_n (pc := 306) hx hb dL_law_306 rfl (lv_at hl 1 rfl) ?_
  refine lv_iload (pc := 307) hx hb dL_law_307 (lv_at hl 5 rfl) ?_
  refine lv_iconst (v := 1) (pc := 309) hx hb dL_law_309 (by decide) ?_
  refine lv_iadd (pc := 310) hx hb dL_law_310 ?_
  refine z_sld (pc := 311) hx hb hX hbl hbA hS hL (i + 1) (z_oi i 1 hu 1 rfl) (by omega) dL_law_311 ?_
  refine z_cmI (pc := 312) (W1 := (z_wLw X a d d2 R1.2 o (vp_updL g 0 (R1.1).toInt64) dm R2.2)) S (m_X5_addServant l X dm M (xs (i + 1)) hf2) (cwV 1 hts gL_law_X5_addServant rfl rfl rfl hdX5_addServant ⟨Nat.le_of_ble_eq_true rfl, Nat.le_of_ble_eq_true rfl⟩) hP hK hN hD hS hA (s_W_M X a d d2 R1.2 o (vp_updL g 0 (R1.1).toInt64) dm M) (f_W_M X a d d2 R1.2 o (vp_updL g 0 (R1.1).toInt64) dm M R2.2) (ci := 5) rfl rfl rfl (show kc ≤ room_1.cells ∧ ks ≤ room_1.slots from ⟨by omega, by omega⟩) rfl hl.1 rfl (Nat.le_of_ble_eq_true rfl) dL_law_312 (fun H locs hP hD hS => ?_)
  refine lv_istore (pc := 315) (lv' := [(6, .int R2.1), (5, .int 0), (0, .ref b), (1, .ref a), (2, .ref (dm 0)), (3, .ref o), (4, .int u)]) hx hb dL_law_315 hl (by decide) rfl (fun ls hl => ?_)
  refine lv_aload_n (pc := 317) hx hb dL_law_317 rfl (lv_at hl 4 rfl) ?_
  refine z_cpI (pc := 318) S (m_X5_thrown l X dm R2.2 rfl) (cwV 0 hts gL_law_X5_thrown rfl rfl rfl hdX5_thrown ⟨Nat.le_of_ble_eq_true rfl, Nat.le_of_ble_eq_true rfl⟩) hP hK hN (s_W_M X a d d2 R1.2 o (vp_updL g 0 (R1.1).toInt64) dm R2.2) (ci := 5) rfl rfl rfl (show kc ≤ room_1.cells ∧ ks ≤ room_1.slots from ⟨by omega, by omega⟩) rfl hl.1 rfl (Nat.le_of_ble_eq_true rfl) dL_law_318 ?_
  refine lv_iload (pc := 321) hx hb dL_law_321 (lv_at hl 1 rfl) ?_
  refine lv_icmp_eq (pc := 323) (tgt := 328) hx hb dL_law_323 (by decide) (fun _ => ?_) (fun c_ => absurd h3 c_)
  refine lv_iload (pc := 328) hx hb dL_law_328 (lv_at hl 1 rfl) ?_
  refine lv_if_ne (pc := 330) (tgt := 345) hx hb dL_law_330 (by decide) (fun c_ => absurd rfl c_) (fun _ => ?_)
  refine lv_aload_n (pc := 333) hx hb dL_law_333 rfl (lv_at hl 5 rfl) ?_
  refine lv_iconst (v := 0) (pc := 334) hx hb dL_law_334 (by decide) ?_
  refine va_lald (pc := 335) hx hb hK hP 53 2 rfl rfl z_in01 dL_law_335 ?_
  refine lv_iload (pc := 336) hx hb dL_law_336 (lv_at hl 0 rfl) ?_
  refine lv_i2l (v := (R2.1).toInt64) (pc := 338) hx hb dL_law_338 rfl ?_
  refine W.lcmp (pc := 339) hx hb dL_law_339 ?_
  refine lv_if_eq (pc := 340) (tgt := 345) hx hb dL_law_340 (by decide) (fun _ => ?_) (fun c_ => absurd (show lg_cmp _ _ = 0 from by rw [← h4]; exact z_cmp0 _) c_)
  refine lv_goto (pc := 345) (tgt := 1905) hx hb dL_law_345 (by decide) ?_
  refine W.widen (k := kc + 20) (n := ks + 200) (by omega) (by omega) ?_
  exact kk H locs ls hP hD hS (lv_sub hl [2, 3, 4, 5, 6] rfl)
set_option maxHeartbeats 4000000 in
set_option maxRecDepth 100000 in
theorem lc_addServant_t0 {p : Program} {l : Launch} {e : Env} {s : State} {m : MethodId} {below : List Frame} {meth : Method} {c : Code} {X : z_X} {b L : Nat} {xs : Nat → Int32} (C : z_LC p l s m meth c X b L xs) {a : Nat} {d d2 : Nat → Nat} {B : z_B} {o : Nat} {g : Nat → Int64} {dm : Nat → Nat} {M : z_M} {H : Heap} {locs : List Loc} {ls : Array Slot} {Q : State → Prop} {u : Int32} (kc ks : Nat) (hk : kc + 20 ≤ room_1.cells ∧ ks + 200 ≤ room_1.slots) (i : Nat) (hu : u = nI i) (hi : i + 3 < L) (hP : va_P X.1 vwCl (z_wLw X a d d2 B o g dm M) H) (hD : va_D (fun q : Nat => s.heap.size ≤ q) (z_wLw X a d d2 B o g dm M)) (hS : va_S (fun q : Nat => s.heap.size ≤ q) s.heap H locs) (hl : lv_has ls 9 [(0, .ref b), (1, .ref a), (2, .ref (dm 0)), (3, .ref o), (4, .int u)]) (hf1 : x_X4_addServant B (xs (i + 1)) = some 0) {R2 : (Int32 × z_M)} (hf2 : f_X5_addServant M (xs (i + 1)) = some R2) (h3 : R2.2.1 0 = 1) (kk : ∀ (H : Heap) (locs : List Loc) (ls : Array Slot), va_P X.1 vwCl (z_wLw X a d d2 B o g dm R2.2) H → va_D (fun q : Nat => s.heap.size ≤ q) (z_wLw X a d d2 B o g dm R2.2) → va_S (fun q : Nat => s.heap.size ≤ q) s.heap H locs → lv_has ls 9 [(0, .ref b), (1, .ref a), (2, .ref (dm 0)), (3, .ref o), (4, .int u)] → W p l e room_1 s m #[Value.ref b] below meth c H locs (kc + 20) (ks + 200) Q (F0 m 1905 ls [])) : W p l e room_1 s m #[Value.ref b] below meth c H locs kc ks Q (F0 m 292 ls []) := by
  obtain ⟨hx, hb, hml, hown, hts, hK, hN, hX, hbl, hT0, hl0, hL⟩ := C
  have hA : ∀ q : Nat, s.heap.size ≤ q → (fun q : Nat => s.heap.size ≤ q) q := fun _ h => h
  have hbA : ¬ (fun q : Nat => s.heap.size ≤ q) b := Nat.not_le.mpr hbl
  have S : CallFix p m c cL_law 9 s #[Value.ref b] wsL_law RL := ⟨hx, hb, hml, hown, hts⟩
  refine lv_aload_n (pc := 292) hx hb dL_law_292 rfl (lv_at hl 1 rfl) ?_
  refine lv_aload_n (pc := 293) hx hb dL_law_293 rfl (lv_at hl 0 rfl) ?_
  refine lv_iload (pc := 294) hx hb dL_law_294 (lv_at hl 4 rfl) ?_
  refine lv_iconst (v := 1) (pc := 296) hx hb dL_law_296 (by decide) ?_
  refine lv_iadd (pc := 297) hx hb dL_law_297 ?_
  refine z_sld (pc := 298) hx hb hX hbl hbA hS hL (i + 1) (z_oi i 1 hu 1 rfl) (by omega) dL_law_298 ?_
  refine lv_aload_n (pc := 299) hx hb dL_law_299 rfl (lv_at hl 3 rfl) ?_
  have hT : z_T z_no s H := (hT0.kept (fun q h1 h2 => hS.2.1 q h1 h2)).narrow (fun q h => h.elim)
  refine z_cweI (pc := 300) S (wt_addServant_0 l hl0 X a d d2 B o g (xs (i + 1)) hf1) (vx_cwSW 3 hts gL_law_L_addServant rfl rfl rfl hdL_addServant ⟨Nat.le_of_ble_eq_true rfl, Nat.le_of_ble_eq_true rfl⟩) hP hK hN hT hD hS hA (s_W_BO X a d d2 B o g dm M) (f_W_BO X a d d2 B o g dm M B g) (show kc + 1 ≤ room_1.cells ∧ ks + 6 ≤ room_1.slots from ⟨by omega, by omega⟩) rfl hl.1 rfl (Nat.le_of_ble_eq_true rfl) dL_law_300 (fun H locs hP hD hS => ?_)
  refine lv_istore (pc := 303) (lv' := [(5, .int 1), (0, .ref b), (1, .ref a), (2, .ref (dm 0)), (3, .ref o), (4, .int u)]) hx hb dL_law_303 hl (by decide) rfl (fun ls hl => ?_)
  refine lv_aload_n (pc := 305) hx hb dL_law_305 rfl (lv_at hl 3 rfl) ?_
  refine lv_aload_n (pc := 306) hx hb dL_law_306 rfl (lv_at hl 1 rfl) ?_
  refine lv_iload (pc := 307) hx hb dL_law_307 (lv_at hl 5 rfl) ?_
  refine lv_iconst (v := 1) (pc := 309) hx hb dL_law_309 (by decide) ?_
  refine lv_iadd (pc := 310) hx hb dL_law_310 ?_
  refine z_sld (pc := 311) hx hb hX hbl hbA hS hL (i + 1) (z_oi i 1 hu 1 rfl) (by omega) dL_law_311 ?_
  refine z_cmI (pc := 312) (W1 := (z_wLw X a d d2 B o g dm R2.2)) S (m_X5_addServant l X dm M (xs (i + 1)) hf2) (cwV 1 hts gL_law_X5_addServant rfl rfl rfl hdX5_addServant ⟨Nat.le_of_ble_eq_true rfl, Nat.le_of_ble_eq_true rfl⟩) hP hK hN hD hS hA (s_W_M X a d d2 B o g dm M) (f_W_M X a d d2 B o g dm M R2.2) (ci := 5) rfl rfl rfl (show (kc + 1) ≤ room_1.cells ∧ (ks + 6) ≤ room_1.slots from ⟨by omega, by omega⟩) rfl hl.1 rfl (Nat.le_of_ble_eq_true rfl) dL_law_312 (fun H locs hP hD hS => ?_)
  refine lv_istore (pc := 315) (lv' := [(6, .int R2.1), (5, .int 1), (0, .ref b), (1, .ref a), (2, .ref (dm 0)), (3, .ref o), (4, .int u)]) hx hb dL_law_315 hl (by decide) rfl (fun ls hl => ?_)
  refine lv_aload_n (pc := 317) hx hb dL_law_317 rfl (lv_at hl 4 rfl) ?_
  refine z_cpI (pc := 318) S (m_X5_thrown l X dm R2.2 rfl) (cwV 0 hts gL_law_X5_thrown rfl rfl rfl hdX5_thrown ⟨Nat.le_of_ble_eq_true rfl, Nat.le_of_ble_eq_true rfl⟩) hP hK hN (s_W_M X a d d2 B o g dm R2.2) (ci := 5) rfl rfl rfl (show (kc + 1) ≤ room_1.cells ∧ (ks + 6) ≤ room_1.slots from ⟨by omega, by omega⟩) rfl hl.1 rfl (Nat.le_of_ble_eq_true rfl) dL_law_318 ?_
  refine lv_iload (pc := 321) hx hb dL_law_321 (lv_at hl 1 rfl) ?_
  refine lv_icmp_eq (pc := 323) (tgt := 328) hx hb dL_law_323 (by decide) (fun _ => ?_) (fun c_ => absurd h3 c_)
  refine lv_iload (pc := 328) hx hb dL_law_328 (lv_at hl 1 rfl) ?_
  refine lv_if_ne (pc := 330) (tgt := 345) hx hb dL_law_330 (by decide) (fun _ => ?_) (fun c_ => absurd c_ (by decide))
  refine lv_goto (pc := 345) (tgt := 1905) hx hb dL_law_345 (by decide) ?_
  refine W.widen (k := kc + 20) (n := ks + 200) (by omega) (by omega) ?_
  exact kk H locs ls hP hD hS (lv_sub hl [2, 3, 4, 5, 6] rfl)
set_option maxHeartbeats 4000000 in
set_option maxRecDepth 100000 in
theorem lc_addServant_t1 {p : Program} {l : Launch} {e : Env} {s : State} {m : MethodId} {below : List Frame} {meth : Method} {c : Code} {X : z_X} {b L : Nat} {xs : Nat → Int32} (C : z_LC p l s m meth c X b L xs) {a : Nat} {d d2 : Nat → Nat} {B : z_B} {o : Nat} {g : Nat → Int64} {dm : Nat → Nat} {M : z_M} {H : Heap} {locs : List Loc} {ls : Array Slot} {Q : State → Prop} {u : Int32} (kc ks : Nat) (hk : kc + 20 ≤ room_1.cells ∧ ks + 200 ≤ room_1.slots) (i : Nat) (hu : u = nI i) (hi : i + 3 < L) (hP : va_P X.1 vwCl (z_wLw X a d d2 B o g dm M) H) (hD : va_D (fun q : Nat => s.heap.size ≤ q) (z_wLw X a d d2 B o g dm M)) (hS : va_S (fun q : Nat => s.heap.size ≤ q) s.heap H locs) (hl : lv_has ls 9 [(0, .ref b), (1, .ref a), (2, .ref (dm 0)), (3, .ref o), (4, .int u)]) (hf1 : x_X4_addServant B (xs (i + 1)) = some 1) {R2 : (Int32 × z_M)} (hf2 : f_X5_addServant M (xs (i + 1)) = some R2) (h3 : R2.2.1 0 = 2) (kk : ∀ (H : Heap) (locs : List Loc) (ls : Array Slot), va_P X.1 vwCl (z_wLw X a d d2 B o g dm R2.2) H → va_D (fun q : Nat => s.heap.size ≤ q) (z_wLw X a d d2 B o g dm R2.2) → va_S (fun q : Nat => s.heap.size ≤ q) s.heap H locs → lv_has ls 9 [(0, .ref b), (1, .ref a), (2, .ref (dm 0)), (3, .ref o), (4, .int u)] → W p l e room_1 s m #[Value.ref b] below meth c H locs (kc + 20) (ks + 200) Q (F0 m 1905 ls [])) : W p l e room_1 s m #[Value.ref b] below meth c H locs kc ks Q (F0 m 292 ls []) := by
  obtain ⟨hx, hb, hml, hown, hts, hK, hN, hX, hbl, hT0, hl0, hL⟩ := C
  have hA : ∀ q : Nat, s.heap.size ≤ q → (fun q : Nat => s.heap.size ≤ q) q := fun _ h => h
  have hbA : ¬ (fun q : Nat => s.heap.size ≤ q) b := Nat.not_le.mpr hbl
  have S : CallFix p m c cL_law 9 s #[Value.ref b] wsL_law RL := ⟨hx, hb, hml, hown, hts⟩
  refine lv_aload_n (pc := 292) hx hb dL_law_292 rfl (lv_at hl 1 rfl) ?_
  refine lv_aload_n (pc := 293) hx hb dL_law_293 rfl (lv_at hl 0 rfl) ?_
  refine lv_iload (pc := 294) hx hb dL_law_294 (lv_at hl 4 rfl) ?_
  refine lv_iconst (v := 1) (pc := 296) hx hb dL_law_296 (by decide) ?_
  refine lv_iadd (pc := 297) hx hb dL_law_297 ?_
  refine z_sld (pc := 298) hx hb hX hbl hbA hS hL (i + 1) (z_oi i 1 hu 1 rfl) (by omega) dL_law_298 ?_
  refine lv_aload_n (pc := 299) hx hb dL_law_299 rfl (lv_at hl 3 rfl) ?_
  have hT : z_T z_no s H := (hT0.kept (fun q h1 h2 => hS.2.1 q h1 h2)).narrow (fun q h => h.elim)
  refine z_cweI (pc := 300) S (wt_addServant_1 l hl0 X a d d2 B o g (xs (i + 1)) hf1) (vx_cwSW 3 hts gL_law_L_addServant rfl rfl rfl hdL_addServant ⟨Nat.le_of_ble_eq_true rfl, Nat.le_of_ble_eq_true rfl⟩) hP hK hN hT hD hS hA (s_W_BO X a d d2 B o g dm M) (f_W_BO X a d d2 B o g dm M B g) (show kc + 1 ≤ room_1.cells ∧ ks + 6 ≤ room_1.slots from ⟨by omega, by omega⟩) rfl hl.1 rfl (Nat.le_of_ble_eq_true rfl) dL_law_300 (fun H locs hP hD hS => ?_)
  refine lv_istore (pc := 303) (lv' := [(5, .int 2), (0, .ref b), (1, .ref a), (2, .ref (dm 0)), (3, .ref o), (4, .int u)]) hx hb dL_law_303 hl (by decide) rfl (fun ls hl => ?_)
  refine lv_aload_n (pc := 305) hx hb dL_law_305 rfl (lv_at hl 3 rfl) ?_
  refine lv_aload_n (pc := 306) hx hb dL_law_306 rfl (lv_at hl 1 rfl) ?_
  refine lv_iload (pc := 307) hx hb dL_law_307 (lv_at hl 5 rfl) ?_
  refine lv_iconst (v := 1) (pc := 309) hx hb dL_law_309 (by decide) ?_
  refine lv_iadd (pc := 310) hx hb dL_law_310 ?_
  refine z_sld (pc := 311) hx hb hX hbl hbA hS hL (i + 1) (z_oi i 1 hu 1 rfl) (by omega) dL_law_311 ?_
  refine z_cmI (pc := 312) (W1 := (z_wLw X a d d2 B o g dm R2.2)) S (m_X5_addServant l X dm M (xs (i + 1)) hf2) (cwV 1 hts gL_law_X5_addServant rfl rfl rfl hdX5_addServant ⟨Nat.le_of_ble_eq_true rfl, Nat.le_of_ble_eq_true rfl⟩) hP hK hN hD hS hA (s_W_M X a d d2 B o g dm M) (f_W_M X a d d2 B o g dm M R2.2) (ci := 5) rfl rfl rfl (show (kc + 1) ≤ room_1.cells ∧ (ks + 6) ≤ room_1.slots from ⟨by omega, by omega⟩) rfl hl.1 rfl (Nat.le_of_ble_eq_true rfl) dL_law_312 (fun H locs hP hD hS => ?_)
  refine lv_istore (pc := 315) (lv' := [(6, .int R2.1), (5, .int 2), (0, .ref b), (1, .ref a), (2, .ref (dm 0)), (3, .ref o), (4, .int u)]) hx hb dL_law_315 hl (by decide) rfl (fun ls hl => ?_)
  refine lv_aload_n (pc := 317) hx hb dL_law_317 rfl (lv_at hl 4 rfl) ?_
  refine z_cpI (pc := 318) S (m_X5_thrown l X dm R2.2 rfl) (cwV 0 hts gL_law_X5_thrown rfl rfl rfl hdX5_thrown ⟨Nat.le_of_ble_eq_true rfl, Nat.le_of_ble_eq_true rfl⟩) hP hK hN (s_W_M X a d d2 B o g dm R2.2) (ci := 5) rfl rfl rfl (show (kc + 1) ≤ room_1.cells ∧ (ks + 6) ≤ room_1.slots from ⟨by omega, by omega⟩) rfl hl.1 rfl (Nat.le_of_ble_eq_true rfl) dL_law_318 ?_
  refine lv_iload (pc := 321) hx hb dL_law_321 (lv_at hl 1 rfl) ?_
  refine lv_icmp_eq (pc := 323) (tgt := 328) hx hb dL_law_323 (by decide) (fun _ => ?_) (fun c_ => absurd h3 c_)
  refine lv_iload (pc := 328) hx hb dL_law_328 (lv_at hl 1 rfl) ?_
  refine lv_if_ne (pc := 330) (tgt := 345) hx hb dL_law_330 (by decide) (fun _ => ?_) (fun c_ => absurd c_ (by decide))
  refine lv_goto (pc := 345) (tgt := 1905) hx hb dL_law_345 (by decide) ?_
  refine W.widen (k := kc + 20) (n := ks + 200) (by omega) (by omega) ?_
  exact kk H locs ls hP hD hS (lv_sub hl [2, 3, 4, 5, 6] rfl)
set_option maxHeartbeats 4000000 in
set_option maxRecDepth 100000 in
theorem lc_ring {p : Program} {l : Launch} {e : Env} {s : State} {m : MethodId} {below : List Frame} {meth : Method} {c : Code} {X : z_X} {b L : Nat} {xs : Nat → Int32} (C : z_LC p l s m meth c X b L xs) {a : Nat} {d d2 : Nat → Nat} {B : z_B} {o : Nat} {g : Nat → Int64} {dm : Nat → Nat} {M : z_M} {H : Heap} {locs : List Loc} {ls : Array Slot} {Q : State → Prop} {u : Int32} (kc ks : Nat) (hk : kc + 20 ≤ room_1.cells ∧ ks + 200 ≤ room_1.slots) (i : Nat) (hu : u = nI i) (hi : i + 3 < L) (hP : va_P X.1 vwCl (z_wLw X a d d2 B o g dm M) H) (hD : va_D (fun q : Nat => s.heap.size ≤ q) (z_wLw X a d d2 B o g dm M)) (hS : va_S (fun q : Nat => s.heap.size ≤ q) s.heap H locs) (hl : lv_has ls 9 [(0, .ref b), (1, .ref a), (2, .ref (dm 0)), (3, .ref o), (4, .int u)]) {R1 : (Int32 × z_B)} (hf1 : f_X4_ring B (xs (i + 1)) = some R1) {R2 : (Int32 × z_M)} (hf2 : f_X5_ring M (xs (i + 1)) = some R2) (h3 : R2.2.1 0 = 0) (h4 : R1.1 = R2.1) (kk : ∀ (H : Heap) (locs : List Loc) (ls : Array Slot), va_P X.1 vwCl (z_wLw X a d d2 R1.2 o (vp_updL g 0 (if R1.1 = 0 then 0 else 1)) dm R2.2) H → va_D (fun q : Nat => s.heap.size ≤ q) (z_wLw X a d d2 R1.2 o (vp_updL g 0 (if R1.1 = 0 then 0 else 1)) dm R2.2) → va_S (fun q : Nat => s.heap.size ≤ q) s.heap H locs → lv_has ls 9 [(0, .ref b), (1, .ref a), (2, .ref (dm 0)), (3, .ref o), (4, .int u)] → W p l e room_1 s m #[Value.ref b] below meth c H locs (kc + 20) (ks + 200) Q (F0 m 1905 ls [])) : W p l e room_1 s m #[Value.ref b] below meth c H locs kc ks Q (F0 m 348 ls []) := by
  obtain ⟨hx, hb, hml, hown, hts, hK, hN, hX, hbl, hT0, hl0, hL⟩ := C
  have hA : ∀ q : Nat, s.heap.size ≤ q → (fun q : Nat => s.heap.size ≤ q) q := fun _ h => h
  have hbA : ¬ (fun q : Nat => s.heap.size ≤ q) b := Nat.not_le.mpr hbl
  have S : CallFix p m c cL_law 9 s #[Value.ref b] wsL_law RL := ⟨hx, hb, hml, hown, hts⟩
  refine lv_aload_n (pc := 348) hx hb dL_law_348 rfl (lv_at hl 1 rfl) ?_
  refine lv_aload_n (pc := 349) hx hb dL_law_349 rfl (lv_at hl 0 rfl) ?_
  refine lv_iload (pc := 350) hx hb dL_law_350 (lv_at hl 4 rfl) ?_
  refine lv_iconst (v := 1) (pc := 352) hx hb dL_law_352 (by decide) ?_
  refine lv_iadd (pc := 353) hx hb dL_law_353 ?_
  refine z_sld (pc := 354) hx hb hX hbl hbA hS hL (i + 1) (z_oi i 1 hu 1 rfl) (by omega) dL_law_354 ?_
  refine lv_aload_n (pc := 355) hx hb dL_law_355 rfl (lv_at hl 3 rfl) ?_
  refine z_cwsI (pc := 356) (W1 := (z_wLw X a d d2 R1.2 o (vp_updL g 0 (if R1.1 = 0 then 0 else 1)) dm M)) S (wn_ring l X a d d2 B o g (xs (i + 1)) hf1) (vx_cwSW 3 hts gL_law_L_ring rfl rfl rfl hdL_ring ⟨Nat.le_of_ble_eq_true rfl, Nat.le_of_ble_eq_true rfl⟩) hP hK hN hD hS hA (s_W_BO X a d d2 B o g dm M) (f_W_BO X a d d2 B o g dm M R1.2 (vp_updL g 0 (if R1.1 = 0 then 0 else 1))) (show kc ≤ room_1.cells ∧ ks ≤ room_1.slots from ⟨by omega, by omega⟩) rfl hl.1 rfl (Nat.le_of_ble_eq_true rfl) dL_law_356 (fun H locs hP hD hS => ?_)
  refine lv_istore (pc := 359) (lv' := [(5, .int 0), (0, .ref b), (1, .ref a), (2, .ref (dm 0)), (3, .ref o), (4, .int u)]) hx hb dL_law_359 hl (by decide) rfl (fun ls hl => ?_)
  refine lv_aload_n (pc := 361) hx hb dL_law_361 rfl (lv_at hl 3 rfl) ?_
  refine lv_aload_n (pc := 362) hx hb dL_law_362 rfl (lv_at hl 1 rfl) ?_
  refine lv_iload (pc := 363) hx hb dL_law_363 (lv_at hl 5 rfl) ?_
  refine lv_iconst (v := 1) (pc := 365) hx hb dL_law_365 (by decide) ?_
  refine lv_iadd (pc := 366) hx hb dL_law_366 ?_
  refine z_sld (pc := 367) hx hb hX hbl hbA hS hL (i + 1) (z_oi i 1 hu 1 rfl) (by omega) dL_law_367 ?_
  refine z_cmI (pc := 368) (W1 := (z_wLw X a d d2 R1.2 o (vp_updL g 0 (if R1.1 = 0 then 0 else 1)) dm R2.2)) S (m_X5_ring l X dm M (xs (i + 1)) hf2) (cwV 1 hts gL_law_X5_ring rfl rfl rfl hdX5_ring ⟨Nat.le_of_ble_eq_true rfl, Nat.le_of_ble_eq_true rfl⟩) hP hK hN hD hS hA (s_W_M X a d d2 R1.2 o (vp_updL g 0 (if R1.1 = 0 then 0 else 1)) dm M) (f_W_M X a d d2 R1.2 o (vp_updL g 0 (if R1.1 = 0 then 0 else 1)) dm M R2.2) (ci := 5) rfl rfl rfl (show kc ≤ room_1.cells ∧ ks ≤ room_1.slots from ⟨by omega, by omega⟩) rfl hl.1 rfl (Nat.le_of_ble_eq_true rfl) dL_law_368 (fun H locs hP hD hS => ?_)
  refine lv_istore (pc := 371) (lv' := [(6, .int R2.1), (5, .int 0), (0, .ref b), (1, .ref a), (2, .ref (dm 0)), (3, .ref o), (4, .int u)]) hx hb dL_law_371 hl (by decide) rfl (fun ls hl => ?_)
  refine lv_aload_n (pc := 373) hx hb dL_law_373 rfl (lv_at hl 4 rfl) ?_
  refine z_cpI (pc := 374) S (m_X5_thrown l X dm R2.2 rfl) (cwV 0 hts gL_law_X5_thrown rfl rfl rfl hdX5_thrown ⟨Nat.le_of_ble_eq_true rfl, Nat.le_of_ble_eq_true rfl⟩) hP hK hN (s_W_M X a d d2 R1.2 o (vp_updL g 0 (if R1.1 = 0 then 0 else 1)) dm R2.2) (ci := 5) rfl rfl rfl (show kc ≤ room_1.cells ∧ ks ≤ room_1.slots from ⟨by omega, by omega⟩) rfl hl.1 rfl (Nat.le_of_ble_eq_true rfl) dL_law_374 ?_
  refine lv_iload (pc := 377) hx hb dL_law_377 (lv_at hl 1 rfl) ?_
  refine lv_icmp_eq (pc := 379) (tgt := 384) hx hb dL_law_379 (by decide) (fun _ => ?_) (fun c_ => absurd h3 c_)
  refine lv_iload (pc := 384) hx hb dL_law_384 (lv_at hl 1 rfl) ?_
  refine lv_if_ne (pc := 386) (tgt := 408) hx hb dL_law_386 (by decide) (fun c_ => absurd rfl c_) (fun _ => ?_)
  refine lv_aload_n (pc := 389) hx hb dL_law_389 rfl (lv_at hl 5 rfl) ?_
  refine lv_iconst (v := 0) (pc := 390) hx hb dL_law_390 (by decide) ?_
  refine va_lald (pc := 391) hx hb hK hP 53 2 rfl rfl z_in01 dL_law_391 ?_
  refine lv_iload (pc := 392) hx hb dL_law_392 (lv_at hl 0 rfl) ?_
  refine lv_if_eq (pc := 394) (tgt := 401) hx hb dL_law_394 (by decide) (fun cb => ?_) (fun cb => ?_)
  · refine lv_lconst (v := 0) (pc := 401) hx hb dL_law_401 rfl ?_
    refine W.lcmp (pc := 402) hx hb dL_law_402 ?_
    refine lv_if_eq (pc := 403) (tgt := 408) hx hb dL_law_403 (by decide) (fun _ => ?_) (fun c_ => absurd (show lg_cmp _ 0 = 0 from by rw [if_pos (h4.trans cb)]; exact z_cmp0 _) c_)
    refine lv_goto (pc := 408) (tgt := 1905) hx hb dL_law_408 (by decide) ?_
    refine W.widen (k := kc + 20) (n := ks + 200) (by omega) (by omega) ?_
    exact kk H locs ls hP hD hS (lv_sub hl [2, 3, 4, 5, 6] rfl)
  · refine lv_lconst (v := 1) (pc := 397) hx hb dL_law_397 rfl ?_
    refine lv_goto (pc := 398) (tgt := 402) hx hb dL_law_398 (by decide) ?_
    refine W.lcmp (pc := 402) hx hb dL_law_402 ?_
    refine lv_if_eq (pc := 403) (tgt := 408) hx hb dL_law_403 (by decide) (fun _ => ?_) (fun c_ => absurd (show lg_cmp _ 1 = 0 from by rw [if_neg (fun z => cb (h4.symm.trans z))]; exact z_cmp0 _) c_)
    refine lv_goto (pc := 408) (tgt := 1905) hx hb dL_law_408 (by decide) ?_
    refine W.widen (k := kc + 20) (n := ks + 200) (by omega) (by omega) ?_
    exact kk H locs ls hP hD hS (lv_sub hl [2, 3, 4, 5, 6] rfl)
set_option maxHeartbeats 4000000 in
set_option maxRecDepth 100000 in
theorem lc_ring_t2 {p : Program} {l : Launch} {e : Env} {s : State} {m : MethodId} {below : List Frame} {meth : Method} {c : Code} {X : z_X} {b L : Nat} {xs : Nat → Int32} (C : z_LC p l s m meth c X b L xs) {a : Nat} {d d2 : Nat → Nat} {B : z_B} {o : Nat} {g : Nat → Int64} {dm : Nat → Nat} {M : z_M} {H : Heap} {locs : List Loc} {ls : Array Slot} {Q : State → Prop} {u : Int32} (kc ks : Nat) (hk : kc + 20 ≤ room_1.cells ∧ ks + 200 ≤ room_1.slots) (i : Nat) (hu : u = nI i) (hi : i + 3 < L) (hP : va_P X.1 vwCl (z_wLw X a d d2 B o g dm M) H) (hD : va_D (fun q : Nat => s.heap.size ≤ q) (z_wLw X a d d2 B o g dm M)) (hS : va_S (fun q : Nat => s.heap.size ≤ q) s.heap H locs) (hl : lv_has ls 9 [(0, .ref b), (1, .ref a), (2, .ref (dm 0)), (3, .ref o), (4, .int u)]) (hf1 : x_X4_ring B (xs (i + 1)) = some 2) {R2 : (Int32 × z_M)} (hf2 : f_X5_ring M (xs (i + 1)) = some R2) (h3 : R2.2.1 0 = 1) (kk : ∀ (H : Heap) (locs : List Loc) (ls : Array Slot), va_P X.1 vwCl (z_wLw X a d d2 B o g dm R2.2) H → va_D (fun q : Nat => s.heap.size ≤ q) (z_wLw X a d d2 B o g dm R2.2) → va_S (fun q : Nat => s.heap.size ≤ q) s.heap H locs → lv_has ls 9 [(0, .ref b), (1, .ref a), (2, .ref (dm 0)), (3, .ref o), (4, .int u)] → W p l e room_1 s m #[Value.ref b] below meth c H locs (kc + 20) (ks + 200) Q (F0 m 1905 ls [])) : W p l e room_1 s m #[Value.ref b] below meth c H locs kc ks Q (F0 m 348 ls []) := by
  obtain ⟨hx, hb, hml, hown, hts, hK, hN, hX, hbl, hT0, hl0, hL⟩ := C
  have hA : ∀ q : Nat, s.heap.size ≤ q → (fun q : Nat => s.heap.size ≤ q) q := fun _ h => h
  have hbA : ¬ (fun q : Nat => s.heap.size ≤ q) b := Nat.not_le.mpr hbl
  have S : CallFix p m c cL_law 9 s #[Value.ref b] wsL_law RL := ⟨hx, hb, hml, hown, hts⟩
  refine lv_aload_n (pc := 348) hx hb dL_law_348 rfl (lv_at hl 1 rfl) ?_
  refine lv_aload_n (pc := 349) hx hb dL_law_349 rfl (lv_at hl 0 rfl) ?_
  refine lv_iload (pc := 350) hx hb dL_law_350 (lv_at hl 4 rfl) ?_
  refine lv_iconst (v := 1) (pc := 352) hx hb dL_law_352 (by decide) ?_
  refine lv_iadd (pc := 353) hx hb dL_law_353 ?_
  refine z_sld (pc := 354) hx hb hX hbl hbA hS hL (i + 1) (z_oi i 1 hu 1 rfl) (by omega) dL_law_354 ?_
  refine lv_aload_n (pc := 355) hx hb dL_law_355 rfl (lv_at hl 3 rfl) ?_
  have hT : z_T z_no s H := (hT0.kept (fun q h1 h2 => hS.2.1 q h1 h2)).narrow (fun q h => h.elim)
  refine z_cweI (pc := 356) S (wt_ring_2 l hl0 X a d d2 B o g (xs (i + 1)) hf1) (vx_cwSW 3 hts gL_law_L_ring rfl rfl rfl hdL_ring ⟨Nat.le_of_ble_eq_true rfl, Nat.le_of_ble_eq_true rfl⟩) hP hK hN hT hD hS hA (s_W_BO X a d d2 B o g dm M) (f_W_BO X a d d2 B o g dm M B g) (show kc + 1 ≤ room_1.cells ∧ ks + 6 ≤ room_1.slots from ⟨by omega, by omega⟩) rfl hl.1 rfl (Nat.le_of_ble_eq_true rfl) dL_law_356 (fun H locs hP hD hS => ?_)
  refine lv_istore (pc := 359) (lv' := [(5, .int 1), (0, .ref b), (1, .ref a), (2, .ref (dm 0)), (3, .ref o), (4, .int u)]) hx hb dL_law_359 hl (by decide) rfl (fun ls hl => ?_)
  refine lv_aload_n (pc := 361) hx hb dL_law_361 rfl (lv_at hl 3 rfl) ?_
  refine lv_aload_n (pc := 362) hx hb dL_law_362 rfl (lv_at hl 1 rfl) ?_
  refine lv_iload (pc := 363) hx hb dL_law_363 (lv_at hl 5 rfl) ?_
  refine lv_iconst (v := 1) (pc := 365) hx hb dL_law_365 (by decide) ?_
  refine lv_iadd (pc := 366) hx hb dL_law_366 ?_
  refine z_sld (pc := 367) hx hb hX hbl hbA hS hL (i + 1) (z_oi i 1 hu 1 rfl) (by omega) dL_law_367 ?_
  refine z_cmI (pc := 368) (W1 := (z_wLw X a d d2 B o g dm R2.2)) S (m_X5_ring l X dm M (xs (i + 1)) hf2) (cwV 1 hts gL_law_X5_ring rfl rfl rfl hdX5_ring ⟨Nat.le_of_ble_eq_true rfl, Nat.le_of_ble_eq_true rfl⟩) hP hK hN hD hS hA (s_W_M X a d d2 B o g dm M) (f_W_M X a d d2 B o g dm M R2.2) (ci := 5) rfl rfl rfl (show (kc + 1) ≤ room_1.cells ∧ (ks + 6) ≤ room_1.slots from ⟨by omega, by omega⟩) rfl hl.1 rfl (Nat.le_of_ble_eq_true rfl) dL_law_368 (fun H locs hP hD hS => ?_)
  refine lv_istore (pc := 371) (lv' := [(6, .int R2.1), (5, .int 1), (0, .ref b), (1, .ref a), (2, .ref (dm 0)), (3, .ref o), (4, .int u)]) hx hb dL_law_371 hl (by decide) rfl (fun ls hl => ?_)
  refine lv_aload_n (pc := 373) hx hb dL_law_373 rfl (lv_at hl 4 rfl) ?_
  refine z_cpI (pc := 374) S (m_X5_thrown l X dm R2.2 rfl) (cwV 0 hts gL_law_X5_thrown rfl rfl rfl hdX5_thrown ⟨Nat.le_of_ble_eq_true rfl, Nat.le_of_ble_eq_true rfl⟩) hP hK hN (s_W_M X a d d2 B o g dm R2.2) (ci := 5) rfl rfl rfl (show (kc + 1) ≤ room_1.cells ∧ (ks + 6) ≤ room_1.slots from ⟨by omega, by omega⟩) rfl hl.1 rfl (Nat.le_of_ble_eq_true rfl) dL_law_374 ?_
  refine lv_iload (pc := 377) hx hb dL_law_377 (lv_at hl 1 rfl) ?_
  refine lv_icmp_eq (pc := 379) (tgt := 384) hx hb dL_law_379 (by decide) (fun _ => ?_) (fun c_ => absurd h3 c_)
  refine lv_iload (pc := 384) hx hb dL_law_384 (lv_at hl 1 rfl) ?_
  refine lv_if_ne (pc := 386) (tgt := 408) hx hb dL_law_386 (by decide) (fun _ => ?_) (fun c_ => absurd c_ (by decide))
  refine lv_goto (pc := 408) (tgt := 1905) hx hb dL_law_408 (by decide) ?_
  refine W.widen (k := kc + 20) (n := ks + 200) (by omega) (by omega) ?_
  exact kk H locs ls hP hD hS (lv_sub hl [2, 3, 4, 5, 6] rfl)
set_option maxHeartbeats 4000000 in
set_option maxRecDepth 100000 in
theorem lc_cross {p : Program} {l : Launch} {e : Env} {s : State} {m : MethodId} {below : List Frame} {meth : Method} {c : Code} {X : z_X} {b L : Nat} {xs : Nat → Int32} (C : z_LC p l s m meth c X b L xs) {a : Nat} {d d2 : Nat → Nat} {B : z_B} {o : Nat} {g : Nat → Int64} {dm : Nat → Nat} {M : z_M} {H : Heap} {locs : List Loc} {ls : Array Slot} {Q : State → Prop} {u : Int32} (kc ks : Nat) (hk : kc + 20 ≤ room_1.cells ∧ ks + 200 ≤ room_1.slots) (i : Nat) (hu : u = nI i) (hi : i + 3 < L) (hP : va_P X.1 vwCl (z_wLw X a d d2 B o g dm M) H) (hD : va_D (fun q : Nat => s.heap.size ≤ q) (z_wLw X a d d2 B o g dm M)) (hS : va_S (fun q : Nat => s.heap.size ≤ q) s.heap H locs) (hl : lv_has ls 9 [(0, .ref b), (1, .ref a), (2, .ref (dm 0)), (3, .ref o), (4, .int u)]) {R1 : (Int32 × z_B)} (hf1 : f_X4_cross B (xs (i + 1)) (xs (i + 2)) = some R1) {R2 : (Int32 × z_M)} (hf2 : f_X5_cross M (xs (i + 1)) (xs (i + 2)) = some R2) (h3 : R2.2.1 0 = 0) (h4 : R1.1 = R2.1) (kk : ∀ (H : Heap) (locs : List Loc) (ls : Array Slot), va_P X.1 vwCl (z_wLw X a d d2 R1.2 o (vp_updL g 0 (R1.1).toInt64) dm R2.2) H → va_D (fun q : Nat => s.heap.size ≤ q) (z_wLw X a d d2 R1.2 o (vp_updL g 0 (R1.1).toInt64) dm R2.2) → va_S (fun q : Nat => s.heap.size ≤ q) s.heap H locs → lv_has ls 9 [(0, .ref b), (1, .ref a), (2, .ref (dm 0)), (3, .ref o), (4, .int u)] → W p l e room_1 s m #[Value.ref b] below meth c H locs (kc + 20) (ks + 200) Q (F0 m 1905 ls [])) : W p l e room_1 s m #[Value.ref b] below meth c H locs kc ks Q (F0 m 411 ls []) := by
  obtain ⟨hx, hb, hml, hown, hts, hK, hN, hX, hbl, hT0, hl0, hL⟩ := C
  have hA : ∀ q : Nat, s.heap.size ≤ q → (fun q : Nat => s.heap.size ≤ q) q := fun _ h => h
  have hbA : ¬ (fun q : Nat => s.heap.size ≤ q) b := Nat.not_le.mpr hbl
  have S : CallFix p m c cL_law 9 s #[Value.ref b] wsL_law RL := ⟨hx, hb, hml, hown, hts⟩
  refine lv_aload_n (pc := 411) hx hb dL_law_411 rfl (lv_at hl 1 rfl) ?_
  refine lv_aload_n (pc := 412) hx hb dL_law_412 rfl (lv_at hl 0 rfl) ?_
  refine lv_iload (pc := 413) hx hb dL_law_413 (lv_at hl 4 rfl) ?_
  refine lv_iconst (v := 1) (pc := 415) hx hb dL_law_415 (by decide) ?_
  refine lv_iadd (pc := 416) hx hb dL_law_416 ?_
  refine z_sld (pc := 417) hx hb hX hbl hbA hS hL (i + 1) (z_oi i 1 hu 1 rfl) (by omega) dL_law_417 ?_
  refine lv_aload_n (pc := 418) hx hb dL_law_418 rfl (lv_at hl 0 rfl) ?_
  refine lv_iload (pc := 419) hx hb dL_law_419 (lv_at hl 4 rfl) ?_
  refine lv_iconst (v := 2) (pc := 421) hx hb dL_law_421 (by decide) ?_
  refine lv_iadd (pc := 422) hx hb dL_law_422 ?_
  refine z_sld (pc := 423) hx hb hX hbl hbA hS hL (i + 2) (z_oi i 2 hu 2 rfl) (by omega) dL_law_423 ?_
  refine lv_aload_n (pc := 424) hx hb dL_law_424 rfl (lv_at hl 3 rfl) ?_
  refine z_cwsI (pc := 425) (W1 := (z_wLw X a d d2 R1.2 o (vp_updL g 0 (R1.1).toInt64) dm M)) S (wn_cross l X a d d2 B o g (xs (i + 1)) (xs (i + 2)) hf1) (vx_cwSW 4 hts gL_law_L_cross rfl rfl rfl hdL_cross ⟨Nat.le_of_ble_eq_true rfl, Nat.le_of_ble_eq_true rfl⟩) hP hK hN hD hS hA (s_W_BO X a d d2 B o g dm M) (f_W_BO X a d d2 B o g dm M R1.2 (vp_updL g 0 (R1.1).toInt64)) (show kc ≤ room_1.cells ∧ ks ≤ room_1.slots from ⟨by omega, by omega⟩) rfl hl.1 rfl (Nat.le_of_ble_eq_true rfl) dL_law_425 (fun H locs hP hD hS => ?_)
  refine lv_istore (pc := 428) (lv' := [(5, .int 0), (0, .ref b), (1, .ref a), (2, .ref (dm 0)), (3, .ref o), (4, .int u)]) hx hb dL_law_428 hl (by decide) rfl (fun ls hl => ?_)
  refine lv_aload_n (pc := 430) hx hb dL_law_430 rfl (lv_at hl 3 rfl) ?_
  refine lv_aload_n (pc := 431) hx hb dL_law_431 rfl (lv_at hl 1 rfl) ?_
  refine lv_iload (pc := 432) hx hb dL_law_432 (lv_at hl 5 rfl) ?_
  refine lv_iconst (v := 1) (pc := 434) hx hb dL_law_434 (by decide) ?_
  refine lv_iadd (pc := 435) hx hb dL_law_435 ?_
  refine z_sld (pc := 436) hx hb hX hbl hbA hS hL (i + 1) (z_oi i 1 hu 1 rfl) (by omega) dL_law_436 ?_
  refine lv_aload_n (pc := 437) hx hb dL_law_437 rfl (lv_at hl 1 rfl) ?_
  refine lv_iload (pc := 438) hx hb dL_law_438 (lv_at hl 5 rfl) ?_
  refine lv_iconst (v := 2) (pc := 440) hx hb dL_law_440 (by decide) ?_
  refine lv_iadd (pc := 441) hx hb dL_law_441 ?_
  refine z_sld (pc := 442) hx hb hX hbl hbA hS hL (i + 2) (z_oi i 2 hu 2 rfl) (by omega) dL_law_442 ?_
  refine z_cmI (pc := 443) (W1 := (z_wLw X a d d2 R1.2 o (vp_updL g 0 (R1.1).toInt64) dm R2.2)) S (m_X5_cross l X dm M (xs (i + 1)) (xs (i + 2)) hf2) (cwV 2 hts gL_law_X5_cross rfl rfl rfl hdX5_cross ⟨Nat.le_of_ble_eq_true rfl, Nat.le_of_ble_eq_true rfl⟩) hP hK hN hD hS hA (s_W_M X a d d2 R1.2 o (vp_updL g 0 (R1.1).toInt64) dm M) (f_W_M X a d d2 R1.2 o (vp_updL g 0 (R1.1).toInt64) dm M R2.2) (ci := 5) rfl rfl rfl (show kc ≤ room_1.cells ∧ ks ≤ room_1.slots from ⟨by omega, by omega⟩) rfl hl.1 rfl (Nat.le_of_ble_eq_true rfl) dL_law_443 (fun H locs hP hD hS => ?_)
  refine lv_istore (pc := 446) (lv' := [(6, .int R2.1), (5, .int 0), (0, .ref b), (1, .ref a), (2, .ref (dm 0)), (3, .ref o), (4, .int u)]) hx hb dL_law_446 hl (by decide) rfl (fun ls hl => ?_)
  refine lv_aload_n (pc := 448) hx hb dL_law_448 rfl (lv_at hl 4 rfl) ?_
  refine z_cpI (pc := 449) S (m_X5_thrown l X dm R2.2 rfl) (cwV 0 hts gL_law_X5_thrown rfl rfl rfl hdX5_thrown ⟨Nat.le_of_ble_eq_true rfl, Nat.le_of_ble_eq_true rfl⟩) hP hK hN (s_W_M X a d d2 R1.2 o (vp_updL g 0 (R1.1).toInt64) dm R2.2) (ci := 5) rfl rfl rfl (show kc ≤ room_1.cells ∧ ks ≤ room_1.slots from ⟨by omega, by omega⟩) rfl hl.1 rfl (Nat.le_of_ble_eq_true rfl) dL_law_449 ?_
  refine lv_iload (pc := 452) hx hb dL_law_452 (lv_at hl 1 rfl) ?_
  refine lv_icmp_eq (pc := 454) (tgt := 459) hx hb dL_law_454 (by decide) (fun _ => ?_) (fun c_ => absurd h3 c_)
  refine lv_iload (pc := 459) hx hb dL_law_459 (lv_at hl 1 rfl) ?_
  refine lv_if_ne (pc := 461) (tgt := 476) hx hb dL_law_461 (by decide) (fun c_ => absurd rfl c_) (fun _ => ?_)
  refine lv_aload_n (pc := 464) hx hb dL_law_464 rfl (lv_at hl 5 rfl) ?_
  refine lv_iconst (v := 0) (pc := 465) hx hb dL_law_465 (by decide) ?_
  refine va_lald (pc := 466) hx hb hK hP 53 2 rfl rfl z_in01 dL_law_466 ?_
  refine lv_iload (pc := 467) hx hb dL_law_467 (lv_at hl 0 rfl) ?_
  refine lv_i2l (v := (R2.1).toInt64) (pc := 469) hx hb dL_law_469 rfl ?_
  refine W.lcmp (pc := 470) hx hb dL_law_470 ?_
  refine lv_if_eq (pc := 471) (tgt := 476) hx hb dL_law_471 (by decide) (fun _ => ?_) (fun c_ => absurd (show lg_cmp _ _ = 0 from by rw [← h4]; exact z_cmp0 _) c_)
  refine lv_goto (pc := 476) (tgt := 1905) hx hb dL_law_476 (by decide) ?_
  refine W.widen (k := kc + 20) (n := ks + 200) (by omega) (by omega) ?_
  exact kk H locs ls hP hD hS (lv_sub hl [2, 3, 4, 5, 6] rfl)
set_option maxHeartbeats 4000000 in
set_option maxRecDepth 100000 in
theorem lc_cross_t2 {p : Program} {l : Launch} {e : Env} {s : State} {m : MethodId} {below : List Frame} {meth : Method} {c : Code} {X : z_X} {b L : Nat} {xs : Nat → Int32} (C : z_LC p l s m meth c X b L xs) {a : Nat} {d d2 : Nat → Nat} {B : z_B} {o : Nat} {g : Nat → Int64} {dm : Nat → Nat} {M : z_M} {H : Heap} {locs : List Loc} {ls : Array Slot} {Q : State → Prop} {u : Int32} (kc ks : Nat) (hk : kc + 20 ≤ room_1.cells ∧ ks + 200 ≤ room_1.slots) (i : Nat) (hu : u = nI i) (hi : i + 3 < L) (hP : va_P X.1 vwCl (z_wLw X a d d2 B o g dm M) H) (hD : va_D (fun q : Nat => s.heap.size ≤ q) (z_wLw X a d d2 B o g dm M)) (hS : va_S (fun q : Nat => s.heap.size ≤ q) s.heap H locs) (hl : lv_has ls 9 [(0, .ref b), (1, .ref a), (2, .ref (dm 0)), (3, .ref o), (4, .int u)]) (hf1 : x_X4_cross B (xs (i + 1)) (xs (i + 2)) = some 2) {R2 : (Int32 × z_M)} (hf2 : f_X5_cross M (xs (i + 1)) (xs (i + 2)) = some R2) (h3 : R2.2.1 0 = 1) (kk : ∀ (H : Heap) (locs : List Loc) (ls : Array Slot), va_P X.1 vwCl (z_wLw X a d d2 B o g dm R2.2) H → va_D (fun q : Nat => s.heap.size ≤ q) (z_wLw X a d d2 B o g dm R2.2) → va_S (fun q : Nat => s.heap.size ≤ q) s.heap H locs → lv_has ls 9 [(0, .ref b), (1, .ref a), (2, .ref (dm 0)), (3, .ref o), (4, .int u)] → W p l e room_1 s m #[Value.ref b] below meth c H locs (kc + 20) (ks + 200) Q (F0 m 1905 ls [])) : W p l e room_1 s m #[Value.ref b] below meth c H locs kc ks Q (F0 m 411 ls []) := by
  obtain ⟨hx, hb, hml, hown, hts, hK, hN, hX, hbl, hT0, hl0, hL⟩ := C
  have hA : ∀ q : Nat, s.heap.size ≤ q → (fun q : Nat => s.heap.size ≤ q) q := fun _ h => h
  have hbA : ¬ (fun q : Nat => s.heap.size ≤ q) b := Nat.not_le.mpr hbl
  have S : CallFix p m c cL_law 9 s #[Value.ref b] wsL_law RL := ⟨hx, hb, hml, hown, hts⟩
  refine lv_aload_n (pc := 411) hx hb dL_law_411 rfl (lv_at hl 1 rfl) ?_
  refine lv_aload_n (pc := 412) hx hb dL_law_412 rfl (lv_at hl 0 rfl) ?_
  refine lv_iload (pc := 413) hx hb dL_law_413 (lv_at hl 4 rfl) ?_
  refine lv_iconst (v := 1) (pc := 415) hx hb dL_law_415 (by decide) ?_
  refine lv_iadd (pc := 416) hx hb dL_law_416 ?_
  refine z_sld (pc := 417) hx hb hX hbl hbA hS hL (i + 1) (z_oi i 1 hu 1 rfl) (by omega) dL_law_417 ?_
  refine lv_aload_n (pc := 418) hx hb dL_law_418 rfl (lv_at hl 0 rfl) ?_
  refine lv_iload (pc := 419) hx hb dL_law_419 (lv_at hl 4 rfl) ?_
  refine lv_iconst (v := 2) (pc := 421) hx hb dL_law_421 (by decide) ?_
  refine lv_iadd (pc := 422) hx hb dL_law_422 ?_
  refine z_sld (pc := 423) hx hb hX hbl hbA hS hL (i + 2) (z_oi i 2 hu 2 rfl) (by omega) dL_law_423 ?_
  refine lv_aload_n (pc := 424) hx hb dL_law_424 rfl (lv_at hl 3 rfl) ?_
  have hT : z_T z_no s H := (hT0.kept (fun q h1 h2 => hS.2.1 q h1 h2)).narrow (fun q h => h.elim)
  refine z_cweI (pc := 425) S (wt_cross_2 l hl0 X a d d2 B o g (xs (i + 1)) (xs (i + 2)) hf1) (vx_cwSW 4 hts gL_law_L_cross rfl rfl rfl hdL_cross ⟨Nat.le_of_ble_eq_true rfl, Nat.le_of_ble_eq_true rfl⟩) hP hK hN hT hD hS hA (s_W_BO X a d d2 B o g dm M) (f_W_BO X a d d2 B o g dm M B g) (show kc + 1 ≤ room_1.cells ∧ ks + 6 ≤ room_1.slots from ⟨by omega, by omega⟩) rfl hl.1 rfl (Nat.le_of_ble_eq_true rfl) dL_law_425 (fun H locs hP hD hS => ?_)
  refine lv_istore (pc := 428) (lv' := [(5, .int 1), (0, .ref b), (1, .ref a), (2, .ref (dm 0)), (3, .ref o), (4, .int u)]) hx hb dL_law_428 hl (by decide) rfl (fun ls hl => ?_)
  refine lv_aload_n (pc := 430) hx hb dL_law_430 rfl (lv_at hl 3 rfl) ?_
  refine lv_aload_n (pc := 431) hx hb dL_law_431 rfl (lv_at hl 1 rfl) ?_
  refine lv_iload (pc := 432) hx hb dL_law_432 (lv_at hl 5 rfl) ?_
  refine lv_iconst (v := 1) (pc := 434) hx hb dL_law_434 (by decide) ?_
  refine lv_iadd (pc := 435) hx hb dL_law_435 ?_
  refine z_sld (pc := 436) hx hb hX hbl hbA hS hL (i + 1) (z_oi i 1 hu 1 rfl) (by omega) dL_law_436 ?_
  refine lv_aload_n (pc := 437) hx hb dL_law_437 rfl (lv_at hl 1 rfl) ?_
  refine lv_iload (pc := 438) hx hb dL_law_438 (lv_at hl 5 rfl) ?_
  refine lv_iconst (v := 2) (pc := 440) hx hb dL_law_440 (by decide) ?_
  refine lv_iadd (pc := 441) hx hb dL_law_441 ?_
  refine z_sld (pc := 442) hx hb hX hbl hbA hS hL (i + 2) (z_oi i 2 hu 2 rfl) (by omega) dL_law_442 ?_
  refine z_cmI (pc := 443) (W1 := (z_wLw X a d d2 B o g dm R2.2)) S (m_X5_cross l X dm M (xs (i + 1)) (xs (i + 2)) hf2) (cwV 2 hts gL_law_X5_cross rfl rfl rfl hdX5_cross ⟨Nat.le_of_ble_eq_true rfl, Nat.le_of_ble_eq_true rfl⟩) hP hK hN hD hS hA (s_W_M X a d d2 B o g dm M) (f_W_M X a d d2 B o g dm M R2.2) (ci := 5) rfl rfl rfl (show (kc + 1) ≤ room_1.cells ∧ (ks + 6) ≤ room_1.slots from ⟨by omega, by omega⟩) rfl hl.1 rfl (Nat.le_of_ble_eq_true rfl) dL_law_443 (fun H locs hP hD hS => ?_)
  refine lv_istore (pc := 446) (lv' := [(6, .int R2.1), (5, .int 1), (0, .ref b), (1, .ref a), (2, .ref (dm 0)), (3, .ref o), (4, .int u)]) hx hb dL_law_446 hl (by decide) rfl (fun ls hl => ?_)
  refine lv_aload_n (pc := 448) hx hb dL_law_448 rfl (lv_at hl 4 rfl) ?_
  refine z_cpI (pc := 449) S (m_X5_thrown l X dm R2.2 rfl) (cwV 0 hts gL_law_X5_thrown rfl rfl rfl hdX5_thrown ⟨Nat.le_of_ble_eq_true rfl, Nat.le_of_ble_eq_true rfl⟩) hP hK hN (s_W_M X a d d2 B o g dm R2.2) (ci := 5) rfl rfl rfl (show (kc + 1) ≤ room_1.cells ∧ (ks + 6) ≤ room_1.slots from ⟨by omega, by omega⟩) rfl hl.1 rfl (Nat.le_of_ble_eq_true rfl) dL_law_449 ?_
  refine lv_iload (pc := 452) hx hb dL_law_452 (lv_at hl 1 rfl) ?_
  refine lv_icmp_eq (pc := 454) (tgt := 459) hx hb dL_law_454 (by decide) (fun _ => ?_) (fun c_ => absurd h3 c_)
  refine lv_iload (pc := 459) hx hb dL_law_459 (lv_at hl 1 rfl) ?_
  refine lv_if_ne (pc := 461) (tgt := 476) hx hb dL_law_461 (by decide) (fun _ => ?_) (fun c_ => absurd c_ (by decide))
  refine lv_goto (pc := 476) (tgt := 1905) hx hb dL_law_476 (by decide) ?_
  refine W.widen (k := kc + 20) (n := ks + 200) (by omega) (by omega) ?_
  exact kk H locs ls hP hD hS (lv_sub hl [2, 3, 4, 5, 6] rfl)
set_option maxHeartbeats 4000000 in
set_option maxRecDepth 100000 in
theorem lc_cross_t0 {p : Program} {l : Launch} {e : Env} {s : State} {m : MethodId} {below : List Frame} {meth : Method} {c : Code} {X : z_X} {b L : Nat} {xs : Nat → Int32} (C : z_LC p l s m meth c X b L xs) {a : Nat} {d d2 : Nat → Nat} {B : z_B} {o : Nat} {g : Nat → Int64} {dm : Nat → Nat} {M : z_M} {H : Heap} {locs : List Loc} {ls : Array Slot} {Q : State → Prop} {u : Int32} (kc ks : Nat) (hk : kc + 20 ≤ room_1.cells ∧ ks + 200 ≤ room_1.slots) (i : Nat) (hu : u = nI i) (hi : i + 3 < L) (hP : va_P X.1 vwCl (z_wLw X a d d2 B o g dm M) H) (hD : va_D (fun q : Nat => s.heap.size ≤ q) (z_wLw X a d d2 B o g dm M)) (hS : va_S (fun q : Nat => s.heap.size ≤ q) s.heap H locs) (hl : lv_has ls 9 [(0, .ref b), (1, .ref a), (2, .ref (dm 0)), (3, .ref o), (4, .int u)]) (hf1 : x_X4_cross B (xs (i + 1)) (xs (i + 2)) = some 0) {R2 : (Int32 × z_M)} (hf2 : f_X5_cross M (xs (i + 1)) (xs (i + 2)) = some R2) (h3 : R2.2.1 0 = 2) (kk : ∀ (H : Heap) (locs : List Loc) (ls : Array Slot), va_P X.1 vwCl (z_wLw X a d d2 B o g dm R2.2) H → va_D (fun q : Nat => s.heap.size ≤ q) (z_wLw X a d d2 B o g dm R2.2) → va_S (fun q : Nat => s.heap.size ≤ q) s.heap H locs → lv_has ls 9 [(0, .ref b), (1, .ref a), (2, .ref (dm 0)), (3, .ref o), (4, .int u)] → W p l e room_1 s m #[Value.ref b] below meth c H locs (kc + 20) (ks + 200) Q (F0 m 1905 ls [])) : W p l e room_1 s m #[Value.ref b] below meth c H locs kc ks Q (F0 m 411 ls []) := by
  obtain ⟨hx, hb, hml, hown, hts, hK, hN, hX, hbl, hT0, hl0, hL⟩ := C
  have hA : ∀ q : Nat, s.heap.size ≤ q → (fun q : Nat => s.heap.size ≤ q) q := fun _ h => h
  have hbA : ¬ (fun q : Nat => s.heap.size ≤ q) b := Nat.not_le.mpr hbl
  have S : CallFix p m c cL_law 9 s #[Value.ref b] wsL_law RL := ⟨hx, hb, hml, hown, hts⟩
  refine lv_aload_n (pc := 411) hx hb dL_law_411 rfl (lv_at hl 1 rfl) ?_
  refine lv_aload_n (pc := 412) hx hb dL_law_412 rfl (lv_at hl 0 rfl) ?_
  refine lv_iload (pc := 413) hx hb dL_law_413 (lv_at hl 4 rfl) ?_
  refine lv_iconst (v := 1) (pc := 415) hx hb dL_law_415 (by decide) ?_
  refine lv_iadd (pc := 416) hx hb dL_law_416 ?_
  refine z_sld (pc := 417) hx hb hX hbl hbA hS hL (i + 1) (z_oi i 1 hu 1 rfl) (by omega) dL_law_417 ?_
  refine lv_aload_n (pc := 418) hx hb dL_law_418 rfl (lv_at hl 0 rfl) ?_
  refine lv_iload (pc := 419) hx hb dL_law_419 (lv_at hl 4 rfl) ?_
  refine lv_iconst (v := 2) (pc := 421) hx hb dL_law_421 (by decide) ?_
  refine lv_iadd (pc := 422) hx hb dL_law_422 ?_
  refine z_sld (pc := 423) hx hb hX hbl hbA hS hL (i + 2) (z_oi i 2 hu 2 rfl) (by omega) dL_law_423 ?_
  refine lv_aload_n (pc := 424) hx hb dL_law_424 rfl (lv_at hl 3 rfl) ?_
  have hT : z_T z_no s H := (hT0.kept (fun q h1 h2 => hS.2.1 q h1 h2)).narrow (fun q h => h.elim)
  refine z_cweI (pc := 425) S (wt_cross_0 l hl0 X a d d2 B o g (xs (i + 1)) (xs (i + 2)) hf1) (vx_cwSW 4 hts gL_law_L_cross rfl rfl rfl hdL_cross ⟨Nat.le_of_ble_eq_true rfl, Nat.le_of_ble_eq_true rfl⟩) hP hK hN hT hD hS hA (s_W_BO X a d d2 B o g dm M) (f_W_BO X a d d2 B o g dm M B g) (show kc + 1 ≤ room_1.cells ∧ ks + 6 ≤ room_1.slots from ⟨by omega, by omega⟩) rfl hl.1 rfl (Nat.le_of_ble_eq_true rfl) dL_law_425 (fun H locs hP hD hS => ?_)
  refine lv_istore (pc := 428) (lv' := [(5, .int 2), (0, .ref b), (1, .ref a), (2, .ref (dm 0)), (3, .ref o), (4, .int u)]) hx hb dL_law_428 hl (by decide) rfl (fun ls hl => ?_)
  refine lv_aload_n (pc := 430) hx hb dL_law_430 rfl (lv_at hl 3 rfl) ?_
  refine lv_aload_n (pc := 431) hx hb dL_law_431 rfl (lv_at hl 1 rfl) ?_
  refine lv_iload (pc := 432) hx hb dL_law_432 (lv_at hl 5 rfl) ?_
  refine lv_iconst (v := 1) (pc := 434) hx hb dL_law_434 (by decide) ?_
  refine lv_iadd (pc := 435) hx hb dL_law_435 ?_
  refine z_sld (pc := 436) hx hb hX hbl hbA hS hL (i + 1) (z_oi i 1 hu 1 rfl) (by omega) dL_law_436 ?_
  refine lv_aload_n (pc := 437) hx hb dL_law_437 rfl (lv_at hl 1 rfl) ?_
  refine lv_iload (pc := 438) hx hb dL_law_438 (lv_at hl 5 rfl) ?_
  refine lv_iconst (v := 2) (pc := 440) hx hb dL_law_440 (by decide) ?_
  refine lv_iadd (pc := 441) hx hb dL_law_441 ?_
  refine z_sld (pc := 442) hx hb hX hbl hbA hS hL (i + 2) (z_oi i 2 hu 2 rfl) (by omega) dL_law_442 ?_
  refine z_cmI (pc := 443) (W1 := (z_wLw X a d d2 B o g dm R2.2)) S (m_X5_cross l X dm M (xs (i + 1)) (xs (i + 2)) hf2) (cwV 2 hts gL_law_X5_cross rfl rfl rfl hdX5_cross ⟨Nat.le_of_ble_eq_true rfl, Nat.le_of_ble_eq_true rfl⟩) hP hK hN hD hS hA (s_W_M X a d d2 B o g dm M) (f_W_M X a d d2 B o g dm M R2.2) (ci := 5) rfl rfl rfl (show (kc + 1) ≤ room_1.cells ∧ (ks + 6) ≤ room_1.slots from ⟨by omega, by omega⟩) rfl hl.1 rfl (Nat.le_of_ble_eq_true rfl) dL_law_443 (fun H locs hP hD hS => ?_)
  refine lv_istore (pc := 446) (lv' := [(6, .int R2.1), (5, .int 2), (0, .ref b), (1, .ref a), (2, .ref (dm 0)), (3, .ref o), (4, .int u)]) hx hb dL_law_446 hl (by decide) rfl (fun ls hl => ?_)
  refine lv_aload_n (pc := 448) hx hb dL_law_448 rfl (lv_at hl 4 rfl) ?_
  refine z_cpI (pc := 449) S (m_X5_thrown l X dm R2.2 rfl) (cwV 0 hts gL_law_X5_thrown rfl rfl rfl hdX5_thrown ⟨Nat.le_of_ble_eq_true rfl, Nat.le_of_ble_eq_true rfl⟩) hP hK hN (s_W_M X a d d2 B o g dm R2.2) (ci := 5) rfl rfl rfl (show (kc + 1) ≤ room_1.cells ∧ (ks + 6) ≤ room_1.slots from ⟨by omega, by omega⟩) rfl hl.1 rfl (Nat.le_of_ble_eq_true rfl) dL_law_449 ?_
  refine lv_iload (pc := 452) hx hb dL_law_452 (lv_at hl 1 rfl) ?_
  refine lv_icmp_eq (pc := 454) (tgt := 459) hx hb dL_law_454 (by decide) (fun _ => ?_) (fun c_ => absurd h3 c_)
  refine lv_iload (pc := 459) hx hb dL_law_459 (lv_at hl 1 rfl) ?_
  refine lv_if_ne (pc := 461) (tgt := 476) hx hb dL_law_461 (by decide) (fun _ => ?_) (fun c_ => absurd c_ (by decide))
  refine lv_goto (pc := 476) (tgt := 1905) hx hb dL_law_476 (by decide) ?_
  refine W.widen (k := kc + 20) (n := ks + 200) (by omega) (by omega) ?_
  exact kk H locs ls hP hD hS (lv_sub hl [2, 3, 4, 5, 6] rfl)
set_option maxHeartbeats 4000000 in
set_option maxRecDepth 100000 in
theorem lc_cut {p : Program} {l : Launch} {e : Env} {s : State} {m : MethodId} {below : List Frame} {meth : Method} {c : Code} {X : z_X} {b L : Nat} {xs : Nat → Int32} (C : z_LC p l s m meth c X b L xs) {a : Nat} {d d2 : Nat → Nat} {B : z_B} {o : Nat} {g : Nat → Int64} {dm : Nat → Nat} {M : z_M} {H : Heap} {locs : List Loc} {ls : Array Slot} {Q : State → Prop} {u : Int32} (kc ks : Nat) (hk : kc + 20 ≤ room_1.cells ∧ ks + 200 ≤ room_1.slots) (i : Nat) (hu : u = nI i) (hi : i + 3 < L) (hP : va_P X.1 vwCl (z_wLw X a d d2 B o g dm M) H) (hD : va_D (fun q : Nat => s.heap.size ≤ q) (z_wLw X a d d2 B o g dm M)) (hS : va_S (fun q : Nat => s.heap.size ≤ q) s.heap H locs) (hl : lv_has ls 9 [(0, .ref b), (1, .ref a), (2, .ref (dm 0)), (3, .ref o), (4, .int u)]) {R1 : (Int32 × z_B)} (hf1 : f_X4_cut B (xs (i + 1)) = some R1) {R2 : (Int32 × z_M)} (hf2 : f_X5_cut M (xs (i + 1)) = some R2) (h3 : R2.2.1 0 = 0) (h4 : R1.1 = R2.1) (kk : ∀ (H : Heap) (locs : List Loc) (ls : Array Slot), va_P X.1 vwCl (z_wLw X a d d2 R1.2 o (vp_updL g 0 (R1.1).toInt64) dm R2.2) H → va_D (fun q : Nat => s.heap.size ≤ q) (z_wLw X a d d2 R1.2 o (vp_updL g 0 (R1.1).toInt64) dm R2.2) → va_S (fun q : Nat => s.heap.size ≤ q) s.heap H locs → lv_has ls 9 [(0, .ref b), (1, .ref a), (2, .ref (dm 0)), (3, .ref o), (4, .int u)] → W p l e room_1 s m #[Value.ref b] below meth c H locs (kc + 20) (ks + 200) Q (F0 m 1905 ls [])) : W p l e room_1 s m #[Value.ref b] below meth c H locs kc ks Q (F0 m 479 ls []) := by
  obtain ⟨hx, hb, hml, hown, hts, hK, hN, hX, hbl, hT0, hl0, hL⟩ := C
  have hA : ∀ q : Nat, s.heap.size ≤ q → (fun q : Nat => s.heap.size ≤ q) q := fun _ h => h
  have hbA : ¬ (fun q : Nat => s.heap.size ≤ q) b := Nat.not_le.mpr hbl
  have S : CallFix p m c cL_law 9 s #[Value.ref b] wsL_law RL := ⟨hx, hb, hml, hown, hts⟩
  refine lv_aload_n (pc := 479) hx hb dL_law_479 rfl (lv_at hl 1 rfl) ?_
  refine lv_aload_n (pc := 480) hx hb dL_law_480 rfl (lv_at hl 0 rfl) ?_
  refine lv_iload (pc := 481) hx hb dL_law_481 (lv_at hl 4 rfl) ?_
  refine lv_iconst (v := 1) (pc := 483) hx hb dL_law_483 (by decide) ?_
  refine lv_iadd (pc := 484) hx hb dL_law_484 ?_
  refine z_sld (pc := 485) hx hb hX hbl hbA hS hL (i + 1) (z_oi i 1 hu 1 rfl) (by omega) dL_law_485 ?_
  refine lv_aload_n (pc := 486) hx hb dL_law_486 rfl (lv_at hl 3 rfl) ?_
  refine z_cwsI (pc := 487) (W1 := (z_wLw X a d d2 R1.2 o (vp_updL g 0 (R1.1).toInt64) dm M)) S (wn_cut l X a d d2 B o g (xs (i + 1)) hf1) (vx_cwSW 3 hts gL_law_L_cut rfl rfl rfl hdL_cut ⟨Nat.le_of_ble_eq_true rfl, Nat.le_of_ble_eq_true rfl⟩) hP hK hN hD hS hA (s_W_BO X a d d2 B o g dm M) (f_W_BO X a d d2 B o g dm M R1.2 (vp_updL g 0 (R1.1).toInt64)) (show kc ≤ room_1.cells ∧ ks ≤ room_1.slots from ⟨by omega, by omega⟩) rfl hl.1 rfl (Nat.le_of_ble_eq_true rfl) dL_law_487 (fun H locs hP hD hS => ?_)
  refine lv_istore (pc := 490) (lv' := [(5, .int 0), (0, .ref b), (1, .ref a), (2, .ref (dm 0)), (3, .ref o), (4, .int u)]) hx hb dL_law_490 hl (by decide) rfl (fun ls hl => ?_)
  refine lv_aload_n (pc := 492) hx hb dL_law_492 rfl (lv_at hl 3 rfl) ?_
  refine lv_aload_n (pc := 493) hx hb dL_law_493 rfl (lv_at hl 1 rfl) ?_
  refine lv_iload (pc := 494) hx hb dL_law_494 (lv_at hl 5 rfl) ?_
  refine lv_iconst (v := 1) (pc := 496) hx hb dL_law_496 (by decide) ?_
  refine lv_iadd (pc := 497) hx hb dL_law_497 ?_
  refine z_sld (pc := 498) hx hb hX hbl hbA hS hL (i + 1) (z_oi i 1 hu 1 rfl) (by omega) dL_law_498 ?_
  refine z_cmI (pc := 499) (W1 := (z_wLw X a d d2 R1.2 o (vp_updL g 0 (R1.1).toInt64) dm R2.2)) S (m_X5_cut l X dm M (xs (i + 1)) hf2) (cwV 1 hts gL_law_X5_cut rfl rfl rfl hdX5_cut ⟨Nat.le_of_ble_eq_true rfl, Nat.le_of_ble_eq_true rfl⟩) hP hK hN hD hS hA (s_W_M X a d d2 R1.2 o (vp_updL g 0 (R1.1).toInt64) dm M) (f_W_M X a d d2 R1.2 o (vp_updL g 0 (R1.1).toInt64) dm M R2.2) (ci := 5) rfl rfl rfl (show kc ≤ room_1.cells ∧ ks ≤ room_1.slots from ⟨by omega, by omega⟩) rfl hl.1 rfl (Nat.le_of_ble_eq_true rfl) dL_law_499 (fun H locs hP hD hS => ?_)
  refine lv_istore (pc := 502) (lv' := [(6, .int R2.1), (5, .int 0), (0, .ref b), (1, .ref a), (2, .ref (dm 0)), (3, .ref o), (4, .int u)]) hx hb dL_law_502 hl (by decide) rfl (fun ls hl => ?_)
  refine lv_aload_n (pc := 504) hx hb dL_law_504 rfl (lv_at hl 4 rfl) ?_
  refine z_cpI (pc := 505) S (m_X5_thrown l X dm R2.2 rfl) (cwV 0 hts gL_law_X5_thrown rfl rfl rfl hdX5_thrown ⟨Nat.le_of_ble_eq_true rfl, Nat.le_of_ble_eq_true rfl⟩) hP hK hN (s_W_M X a d d2 R1.2 o (vp_updL g 0 (R1.1).toInt64) dm R2.2) (ci := 5) rfl rfl rfl (show kc ≤ room_1.cells ∧ ks ≤ room_1.slots from ⟨by omega, by omega⟩) rfl hl.1 rfl (Nat.le_of_ble_eq_true rfl) dL_law_505 ?_
  refine lv_iload (pc := 508) hx hb dL_law_508 (lv_at hl 1 rfl) ?_
  refine lv_icmp_eq (pc := 510) (tgt := 515) hx hb dL_law_510 (by decide) (fun _ => ?_) (fun c_ => absurd h3 c_)
  refine lv_iload (pc := 515) hx hb dL_law_515 (lv_at hl 1 rfl) ?_
  refine lv_if_ne (pc := 517) (tgt := 532) hx hb dL_law_517 (by decide) (fun c_ => absurd rfl c_) (fun _ => ?_)
  refine lv_aload_n (pc := 520) hx hb dL_law_520 rfl (lv_at hl 5 rfl) ?_
  refine lv_iconst (v := 0) (pc := 521) hx hb dL_law_521 (by decide) ?_
  refine va_lald (pc := 522) hx hb hK hP 53 2 rfl rfl z_in01 dL_law_522 ?_
  refine lv_iload (pc := 523) hx hb dL_law_523 (lv_at hl 0 rfl) ?_
  refine lv_i2l (v := (R2.1).toInt64) (pc := 525) hx hb dL_law_525 rfl ?_
  refine W.lcmp (pc := 526) hx hb dL_law_526 ?_
  refine lv_if_eq (pc := 527) (tgt := 532) hx hb dL_law_527 (by decide) (fun _ => ?_) (fun c_ => absurd (show lg_cmp _ _ = 0 from by rw [← h4]; exact z_cmp0 _) c_)
  refine lv_goto (pc := 532) (tgt := 1905) hx hb dL_law_532 (by decide) ?_
  refine W.widen (k := kc + 20) (n := ks + 200) (by omega) (by omega) ?_
  exact kk H locs ls hP hD hS (lv_sub hl [2, 3, 4, 5, 6] rfl)
set_option maxHeartbeats 4000000 in
set_option maxRecDepth 100000 in
theorem lc_cut_t2 {p : Program} {l : Launch} {e : Env} {s : State} {m : MethodId} {below : List Frame} {meth : Method} {c : Code} {X : z_X} {b L : Nat} {xs : Nat → Int32} (C : z_LC p l s m meth c X b L xs) {a : Nat} {d d2 : Nat → Nat} {B : z_B} {o : Nat} {g : Nat → Int64} {dm : Nat → Nat} {M : z_M} {H : Heap} {locs : List Loc} {ls : Array Slot} {Q : State → Prop} {u : Int32} (kc ks : Nat) (hk : kc + 20 ≤ room_1.cells ∧ ks + 200 ≤ room_1.slots) (i : Nat) (hu : u = nI i) (hi : i + 3 < L) (hP : va_P X.1 vwCl (z_wLw X a d d2 B o g dm M) H) (hD : va_D (fun q : Nat => s.heap.size ≤ q) (z_wLw X a d d2 B o g dm M)) (hS : va_S (fun q : Nat => s.heap.size ≤ q) s.heap H locs) (hl : lv_has ls 9 [(0, .ref b), (1, .ref a), (2, .ref (dm 0)), (3, .ref o), (4, .int u)]) (hf1 : x_X4_cut B (xs (i + 1)) = some 2) {R2 : (Int32 × z_M)} (hf2 : f_X5_cut M (xs (i + 1)) = some R2) (h3 : R2.2.1 0 = 1) (kk : ∀ (H : Heap) (locs : List Loc) (ls : Array Slot), va_P X.1 vwCl (z_wLw X a d d2 B o g dm R2.2) H → va_D (fun q : Nat => s.heap.size ≤ q) (z_wLw X a d d2 B o g dm R2.2) → va_S (fun q : Nat => s.heap.size ≤ q) s.heap H locs → lv_has ls 9 [(0, .ref b), (1, .ref a), (2, .ref (dm 0)), (3, .ref o), (4, .int u)] → W p l e room_1 s m #[Value.ref b] below meth c H locs (kc + 20) (ks + 200) Q (F0 m 1905 ls [])) : W p l e room_1 s m #[Value.ref b] below meth c H locs kc ks Q (F0 m 479 ls []) := by
  obtain ⟨hx, hb, hml, hown, hts, hK, hN, hX, hbl, hT0, hl0, hL⟩ := C
  have hA : ∀ q : Nat, s.heap.size ≤ q → (fun q : Nat => s.heap.size ≤ q) q := fun _ h => h
  have hbA : ¬ (fun q : Nat => s.heap.size ≤ q) b := Nat.not_le.mpr hbl
  have S : CallFix p m c cL_law 9 s #[Value.ref b] wsL_law RL := ⟨hx, hb, hml, hown, hts⟩
  refine lv_aload_n (pc := 479) hx hb dL_law_479 rfl (lv_at hl 1 rfl) ?_
  refine lv_aload_n (pc := 480) hx hb dL_law_480 rfl (lv_at hl 0 rfl) ?_
  refine lv_iload (pc := 481) hx hb dL_law_481 (lv_at hl 4 rfl) ?_
  refine lv_iconst (v := 1) (pc := 483) hx hb dL_law_483 (by decide) ?_
  refine lv_iadd (pc := 484) hx hb dL_law_484 ?_
  refine z_sld (pc := 485) hx hb hX hbl hbA hS hL (i + 1) (z_oi i 1 hu 1 rfl) (by omega) dL_law_485 ?_
  refine lv_aload_n (pc := 486) hx hb dL_law_486 rfl (lv_at hl 3 rfl) ?_
  have hT : z_T z_no s H := (hT0.kept (fun q h1 h2 => hS.2.1 q h1 h2)).narrow (fun q h => h.elim)
  refine z_cweI (pc := 487) S (wt_cut_2 l hl0 X a d d2 B o g (xs (i + 1)) hf1) (vx_cwSW 3 hts gL_law_L_cut rfl rfl rfl hdL_cut ⟨Nat.le_of_ble_eq_true rfl, Nat.le_of_ble_eq_true rfl⟩) hP hK hN hT hD hS hA (s_W_BO X a d d2 B o g dm M) (f_W_BO X a d d2 B o g dm M B g) (show kc + 1 ≤ room_1.cells ∧ ks + 6 ≤ room_1.slots from ⟨by omega, by omega⟩) rfl hl.1 rfl (Nat.le_of_ble_eq_true rfl) dL_law_487 (fun H locs hP hD hS => ?_)
  refine lv_istore (pc := 490) (lv' := [(5, .int 1), (0, .ref b), (1, .ref a), (2, .ref (dm 0)), (3, .ref o), (4, .int u)]) hx hb dL_law_490 hl (by decide) rfl (fun ls hl => ?_)
  refine lv_aload_n (pc := 492) hx hb dL_law_492 rfl (lv_at hl 3 rfl) ?_
  refine lv_aload_n (pc := 493) hx hb dL_law_493 rfl (lv_at hl 1 rfl) ?_
  refine lv_iload (pc := 494) hx hb dL_law_494 (lv_at hl 5 rfl) ?_
  refine lv_iconst (v := 1) (pc := 496) hx hb dL_law_496 (by decide) ?_
  refine lv_iadd (pc := 497) hx hb dL_law_497 ?_
  refine z_sld (pc := 498) hx hb hX hbl hbA hS hL (i + 1) (z_oi i 1 hu 1 rfl) (by omega) dL_law_498 ?_
  refine z_cmI (pc := 499) (W1 := (z_wLw X a d d2 B o g dm R2.2)) S (m_X5_cut l X dm M (xs (i + 1)) hf2) (cwV 1 hts gL_law_X5_cut rfl rfl rfl hdX5_cut ⟨Nat.le_of_ble_eq_true rfl, Nat.le_of_ble_eq_true rfl⟩) hP hK hN hD hS hA (s_W_M X a d d2 B o g dm M) (f_W_M X a d d2 B o g dm M R2.2) (ci := 5) rfl rfl rfl (show (kc + 1) ≤ room_1.cells ∧ (ks + 6) ≤ room_1.slots from ⟨by omega, by omega⟩) rfl hl.1 rfl (Nat.le_of_ble_eq_true rfl) dL_law_499 (fun H locs hP hD hS => ?_)
  refine lv_istore (pc := 502) (lv' := [(6, .int R2.1), (5, .int 1), (0, .ref b), (1, .ref a), (2, .ref (dm 0)), (3, .ref o), (4, .int u)]) hx hb dL_law_502 hl (by decide) rfl (fun ls hl => ?_)
  refine lv_aload_n (pc := 504) hx hb dL_law_504 rfl (lv_at hl 4 rfl) ?_
  refine z_cpI (pc := 505) S (m_X5_thrown l X dm R2.2 rfl) (cwV 0 hts gL_law_X5_thrown rfl rfl rfl hdX5_thrown ⟨Nat.le_of_ble_eq_true rfl, Nat.le_of_ble_eq_true rfl⟩) hP hK hN (s_W_M X a d d2 B o g dm R2.2) (ci := 5) rfl rfl rfl (show (kc + 1) ≤ room_1.cells ∧ (ks + 6) ≤ room_1.slots from ⟨by omega, by omega⟩) rfl hl.1 rfl (Nat.le_of_ble_eq_true rfl) dL_law_505 ?_
  refine lv_iload (pc := 508) hx hb dL_law_508 (lv_at hl 1 rfl) ?_
  refine lv_icmp_eq (pc := 510) (tgt := 515) hx hb dL_law_510 (by decide) (fun _ => ?_) (fun c_ => absurd h3 c_)
  refine lv_iload (pc := 515) hx hb dL_law_515 (lv_at hl 1 rfl) ?_
  refine lv_if_ne (pc := 517) (tgt := 532) hx hb dL_law_517 (by decide) (fun _ => ?_) (fun c_ => absurd c_ (by decide))
  refine lv_goto (pc := 532) (tgt := 1905) hx hb dL_law_532 (by decide) ?_
  refine W.widen (k := kc + 20) (n := ks + 200) (by omega) (by omega) ?_
  exact kk H locs ls hP hD hS (lv_sub hl [2, 3, 4, 5, 6] rfl)
set_option maxHeartbeats 4000000 in
set_option maxRecDepth 100000 in
theorem lc_cut_t1 {p : Program} {l : Launch} {e : Env} {s : State} {m : MethodId} {below : List Frame} {meth : Method} {c : Code} {X : z_X} {b L : Nat} {xs : Nat → Int32} (C : z_LC p l s m meth c X b L xs) {a : Nat} {d d2 : Nat → Nat} {B : z_B} {o : Nat} {g : Nat → Int64} {dm : Nat → Nat} {M : z_M} {H : Heap} {locs : List Loc} {ls : Array Slot} {Q : State → Prop} {u : Int32} (kc ks : Nat) (hk : kc + 20 ≤ room_1.cells ∧ ks + 200 ≤ room_1.slots) (i : Nat) (hu : u = nI i) (hi : i + 3 < L) (hP : va_P X.1 vwCl (z_wLw X a d d2 B o g dm M) H) (hD : va_D (fun q : Nat => s.heap.size ≤ q) (z_wLw X a d d2 B o g dm M)) (hS : va_S (fun q : Nat => s.heap.size ≤ q) s.heap H locs) (hl : lv_has ls 9 [(0, .ref b), (1, .ref a), (2, .ref (dm 0)), (3, .ref o), (4, .int u)]) (hf1 : x_X4_cut B (xs (i + 1)) = some 1) {R2 : (Int32 × z_M)} (hf2 : f_X5_cut M (xs (i + 1)) = some R2) (h3 : R2.2.1 0 = 2) (kk : ∀ (H : Heap) (locs : List Loc) (ls : Array Slot), va_P X.1 vwCl (z_wLw X a d d2 B o g dm R2.2) H → va_D (fun q : Nat => s.heap.size ≤ q) (z_wLw X a d d2 B o g dm R2.2) → va_S (fun q : Nat => s.heap.size ≤ q) s.heap H locs → lv_has ls 9 [(0, .ref b), (1, .ref a), (2, .ref (dm 0)), (3, .ref o), (4, .int u)] → W p l e room_1 s m #[Value.ref b] below meth c H locs (kc + 20) (ks + 200) Q (F0 m 1905 ls [])) : W p l e room_1 s m #[Value.ref b] below meth c H locs kc ks Q (F0 m 479 ls []) := by
  obtain ⟨hx, hb, hml, hown, hts, hK, hN, hX, hbl, hT0, hl0, hL⟩ := C
  have hA : ∀ q : Nat, s.heap.size ≤ q → (fun q : Nat => s.heap.size ≤ q) q := fun _ h => h
  have hbA : ¬ (fun q : Nat => s.heap.size ≤ q) b := Nat.not_le.mpr hbl
  have S : CallFix p m c cL_law 9 s #[Value.ref b] wsL_law RL := ⟨hx, hb, hml, hown, hts⟩
  refine lv_aload_n (pc := 479) hx hb dL_law_479 rfl (lv_at hl 1 rfl) ?_
  refine lv_aload_n (pc := 480) hx hb dL_law_480 rfl (lv_at hl 0 rfl) ?_
  refine lv_iload (pc := 481) hx hb dL_law_481 (lv_at hl 4 rfl) ?_
  refine lv_iconst (v := 1) (pc := 483) hx hb dL_law_483 (by decide) ?_
  refine lv_iadd (pc := 484) hx hb dL_law_484 ?_
  refine z_sld (pc := 485) hx hb hX hbl hbA hS hL (i + 1) (z_oi i 1 hu 1 rfl) (by omega) dL_law_485 ?_
  refine lv_aload_n (pc := 486) hx hb dL_law_486 rfl (lv_at hl 3 rfl) ?_
  have hT : z_T z_no s H := (hT0.kept (fun q h1 h2 => hS.2.1 q h1 h2)).narrow (fun q h => h.elim)
  refine z_cweI (pc := 487) S (wt_cut_1 l hl0 X a d d2 B o g (xs (i + 1)) hf1) (vx_cwSW 3 hts gL_law_L_cut rfl rfl rfl hdL_cut ⟨Nat.le_of_ble_eq_true rfl, Nat.le_of_ble_eq_true rfl⟩) hP hK hN hT hD hS hA (s_W_BO X a d d2 B o g dm M) (f_W_BO X a d d2 B o g dm M B g) (show kc + 1 ≤ room_1.cells ∧ ks + 6 ≤ room_1.slots from ⟨by omega, by omega⟩) rfl hl.1 rfl (Nat.le_of_ble_eq_true rfl) dL_law_487 (fun H locs hP hD hS => ?_)
  refine lv_istore (pc := 490) (lv' := [(5, .int 2), (0, .ref b), (1, .ref a), (2, .ref (dm 0)), (3, .ref o), (4, .int u)]) hx hb dL_law_490 hl (by decide) rfl (fun ls hl => ?_)
  refine lv_aload_n (pc := 492) hx hb dL_law_492 rfl (lv_at hl 3 rfl) ?_
  refine lv_aload_n (pc := 493) hx hb dL_law_493 rfl (lv_at hl 1 rfl) ?_
  refine lv_iload (pc := 494) hx hb dL_law_494 (lv_at hl 5 rfl) ?_
  refine lv_iconst (v := 1) (pc := 496) hx hb dL_law_496 (by decide) ?_
  refine lv_iadd (pc := 497) hx hb dL_law_497 ?_
  refine z_sld (pc := 498) hx hb hX hbl hbA hS hL (i + 1) (z_oi i 1 hu 1 rfl) (by omega) dL_law_498 ?_
  refine z_cmI (pc := 499) (W1 := (z_wLw X a d d2 B o g dm R2.2)) S (m_X5_cut l X dm M (xs (i + 1)) hf2) (cwV 1 hts gL_law_X5_cut rfl rfl rfl hdX5_cut ⟨Nat.le_of_ble_eq_true rfl, Nat.le_of_ble_eq_true rfl⟩) hP hK hN hD hS hA (s_W_M X a d d2 B o g dm M) (f_W_M X a d d2 B o g dm M R2.2) (ci := 5) rfl rfl rfl (show (kc + 1) ≤ room_1.cells ∧ (ks + 6) ≤ room_1.slots from ⟨by omega, by omega⟩) rfl hl.1 rfl (Nat.le_of_ble_eq_true rfl) dL_law_499 (fun H locs hP hD hS => ?_)
  refine lv_istore (pc := 502) (lv' := [(6, .int R2.1), (5, .int 2), (0, .ref b), (1, .ref a), (2, .ref (dm 0)), (3, .ref o), (4, .int u)]) hx hb dL_law_502 hl (by decide) rfl (fun ls hl => ?_)
  refine lv_aload_n (pc := 504) hx hb dL_law_504 rfl (lv_at hl 4 rfl) ?_
  refine z_cpI (pc := 505) S (m_X5_thrown l X dm R2.2 rfl) (cwV 0 hts gL_law_X5_thrown rfl rfl rfl hdX5_thrown ⟨Nat.le_of_ble_eq_true rfl, Nat.le_of_ble_eq_true rfl⟩) hP hK hN (s_W_M X a d d2 B o g dm R2.2) (ci := 5) rfl rfl rfl (show (kc + 1) ≤ room_1.cells ∧ (ks + 6) ≤ room_1.slots from ⟨by omega, by omega⟩) rfl hl.1 rfl (Nat.le_of_ble_eq_true rfl) dL_law_505 ?_
  refine lv_iload (pc := 508) hx hb dL_law_508 (lv_at hl 1 rfl) ?_
  refine lv_icmp_eq (pc := 510) (tgt := 515) hx hb dL_law_510 (by decide) (fun _ => ?_) (fun c_ => absurd h3 c_)
  refine lv_iload (pc := 515) hx hb dL_law_515 (lv_at hl 1 rfl) ?_
  refine lv_if_ne (pc := 517) (tgt := 532) hx hb dL_law_517 (by decide) (fun _ => ?_) (fun c_ => absurd c_ (by decide))
  refine lv_goto (pc := 532) (tgt := 1905) hx hb dL_law_532 (by decide) ?_
  refine W.widen (k := kc + 20) (n := ks + 200) (by omega) (by omega) ?_
  exact kk H locs ls hP hD hS (lv_sub hl [2, 3, 4, 5, 6] rfl)
set_option maxHeartbeats 4000000 in
set_option maxRecDepth 100000 in
theorem lc_mend {p : Program} {l : Launch} {e : Env} {s : State} {m : MethodId} {below : List Frame} {meth : Method} {c : Code} {X : z_X} {b L : Nat} {xs : Nat → Int32} (C : z_LC p l s m meth c X b L xs) {a : Nat} {d d2 : Nat → Nat} {B : z_B} {o : Nat} {g : Nat → Int64} {dm : Nat → Nat} {M : z_M} {H : Heap} {locs : List Loc} {ls : Array Slot} {Q : State → Prop} {u : Int32} (kc ks : Nat) (hk : kc + 20 ≤ room_1.cells ∧ ks + 200 ≤ room_1.slots) (i : Nat) (hu : u = nI i) (hi : i + 3 < L) (hP : va_P X.1 vwCl (z_wLw X a d d2 B o g dm M) H) (hD : va_D (fun q : Nat => s.heap.size ≤ q) (z_wLw X a d d2 B o g dm M)) (hS : va_S (fun q : Nat => s.heap.size ≤ q) s.heap H locs) (hl : lv_has ls 9 [(0, .ref b), (1, .ref a), (2, .ref (dm 0)), (3, .ref o), (4, .int u)]) {R1 : (Int32 × z_B)} (hf1 : f_X4_mend B (xs (i + 1)) = some R1) {R2 : (Int32 × z_M)} (hf2 : f_X5_mend M (xs (i + 1)) = some R2) (h3 : R2.2.1 0 = 0) (h4 : R1.1 = R2.1) (kk : ∀ (H : Heap) (locs : List Loc) (ls : Array Slot), va_P X.1 vwCl (z_wLw X a d d2 R1.2 o (vp_updL g 0 (R1.1).toInt64) dm R2.2) H → va_D (fun q : Nat => s.heap.size ≤ q) (z_wLw X a d d2 R1.2 o (vp_updL g 0 (R1.1).toInt64) dm R2.2) → va_S (fun q : Nat => s.heap.size ≤ q) s.heap H locs → lv_has ls 9 [(0, .ref b), (1, .ref a), (2, .ref (dm 0)), (3, .ref o), (4, .int u)] → W p l e room_1 s m #[Value.ref b] below meth c H locs (kc + 20) (ks + 200) Q (F0 m 1905 ls [])) : W p l e room_1 s m #[Value.ref b] below meth c H locs kc ks Q (F0 m 535 ls []) := by
  obtain ⟨hx, hb, hml, hown, hts, hK, hN, hX, hbl, hT0, hl0, hL⟩ := C
  have hA : ∀ q : Nat, s.heap.size ≤ q → (fun q : Nat => s.heap.size ≤ q) q := fun _ h => h
  have hbA : ¬ (fun q : Nat => s.heap.size ≤ q) b := Nat.not_le.mpr hbl
  have S : CallFix p m c cL_law 9 s #[Value.ref b] wsL_law RL := ⟨hx, hb, hml, hown, hts⟩
  refine lv_aload_n (pc := 535) hx hb dL_law_535 rfl (lv_at hl 1 rfl) ?_
  refine lv_aload_n (pc := 536) hx hb dL_law_536 rfl (lv_at hl 0 rfl) ?_
  refine lv_iload (pc := 537) hx hb dL_law_537 (lv_at hl 4 rfl) ?_
  refine lv_iconst (v := 1) (pc := 539) hx hb dL_law_539 (by decide) ?_
  refine lv_iadd (pc := 540) hx hb dL_law_540 ?_
  refine z_sld (pc := 541) hx hb hX hbl hbA hS hL (i + 1) (z_oi i 1 hu 1 rfl) (by omega) dL_law_541 ?_
  refine lv_aload_n (pc := 542) hx hb dL_law_542 rfl (lv_at hl 3 rfl) ?_
  refine z_cwsI (pc := 543) (W1 := (z_wLw X a d d2 R1.2 o (vp_updL g 0 (R1.1).toInt64) dm M)) S (wn_mend l X a d d2 B o g (xs (i + 1)) hf1) (vx_cwSW 3 hts gL_law_L_mend rfl rfl rfl hdL_mend ⟨Nat.le_of_ble_eq_true rfl, Nat.le_of_ble_eq_true rfl⟩) hP hK hN hD hS hA (s_W_BO X a d d2 B o g dm M) (f_W_BO X a d d2 B o g dm M R1.2 (vp_updL g 0 (R1.1).toInt64)) (show kc ≤ room_1.cells ∧ ks ≤ room_1.slots from ⟨by omega, by omega⟩) rfl hl.1 rfl (Nat.le_of_ble_eq_true rfl) dL_law_543 (fun H locs hP hD hS => ?_)
  refine lv_istore (pc := 546) (lv' := [(5, .int 0), (0, .ref b), (1, .ref a), (2, .ref (dm 0)), (3, .ref o), (4, .int u)]) hx hb dL_law_546 hl (by decide) rfl (fun ls hl => ?_)
  refine lv_aload_n (pc := 548) hx hb dL_law_548 rfl (lv_at hl 3 rfl) ?_
  refine lv_aload_n (pc := 549) hx hb dL_law_549 rfl (lv_at hl 1 rfl) ?_
  refine lv_iload (pc := 550) hx hb dL_law_550 (lv_at hl 5 rfl) ?_
  refine lv_iconst (v := 1) (pc := 552) hx hb dL_law_552 (by decide) ?_
  refine lv_iadd (pc := 553) hx hb dL_law_553 ?_
  refine z_sld (pc := 554) hx hb hX hbl hbA hS hL (i + 1) (z_oi i 1 hu 1 rfl) (by omega) dL_law_554 ?_
  refine z_cmI (pc := 555) (W1 := (z_wLw X a d d2 R1.2 o (vp_updL g 0 (R1.1).toInt64) dm R2.2)) S (m_X5_mend l X dm M (xs (i + 1)) hf2) (cwV 1 hts gL_law_X5_mend rfl rfl rfl hdX5_mend ⟨Nat.le_of_ble_eq_true rfl, Nat.le_of_ble_eq_true rfl⟩) hP hK hN hD hS hA (s_W_M X a d d2 R1.2 o (vp_updL g 0 (R1.1).toInt64) dm M) (f_W_M X a d d2 R1.2 o (vp_updL g 0 (R1.1).toInt64) dm M R2.2) (ci := 5) rfl rfl rfl (show kc ≤ room_1.cells ∧ ks ≤ room_1.slots from ⟨by omega, by omega⟩) rfl hl.1 rfl (Nat.le_of_ble_eq_true rfl) dL_law_555 (fun H locs hP hD hS => ?_)
  refine lv_istore (pc := 558) (lv' := [(6, .int R2.1), (5, .int 0), (0, .ref b), (1, .ref a), (2, .ref (dm 0)), (3, .ref o), (4, .int u)]) hx hb dL_law_558 hl (by decide) rfl (fun ls hl => ?_)
  refine lv_aload_n (pc := 560) hx hb dL_law_560 rfl (lv_at hl 4 rfl) ?_
  refine z_cpI (pc := 561) S (m_X5_thrown l X dm R2.2 rfl) (cwV 0 hts gL_law_X5_thrown rfl rfl rfl hdX5_thrown ⟨Nat.le_of_ble_eq_true rfl, Nat.le_of_ble_eq_true rfl⟩) hP hK hN (s_W_M X a d d2 R1.2 o (vp_updL g 0 (R1.1).toInt64) dm R2.2) (ci := 5) rfl rfl rfl (show kc ≤ room_1.cells ∧ ks ≤ room_1.slots from ⟨by omega, by omega⟩) rfl hl.1 rfl (Nat.le_of_ble_eq_true rfl) dL_law_561 ?_
  refine lv_iload (pc := 564) hx hb dL_law_564 (lv_at hl 1 rfl) ?_
  refine lv_icmp_eq (pc := 566) (tgt := 571) hx hb dL_law_566 (by decide) (fun _ => ?_) (fun c_ => absurd h3 c_)
  refine lv_iload (pc := 571) hx hb dL_law_571 (lv_at hl 1 rfl) ?_
  refine lv_if_ne (pc := 573) (tgt := 588) hx hb dL_law_573 (by decide) (fun c_ => absurd rfl c_) (fun _ => ?_)
  refine lv_aload_n (pc := 576) hx hb dL_law_576 rfl (lv_at hl 5 rfl) ?_
  refine lv_iconst (v := 0) (pc := 577) hx hb dL_law_577 (by decide) ?_
  refine va_lald (pc := 578) hx hb hK hP 53 2 rfl rfl z_in01 dL_law_578 ?_
  refine lv_iload (pc := 579) hx hb dL_law_579 (lv_at hl 0 rfl) ?_
  refine lv_i2l (v := (R2.1).toInt64) (pc := 581) hx hb dL_law_581 rfl ?_
  refine W.lcmp (pc := 582) hx hb dL_law_582 ?_
  refine lv_if_eq (pc := 583) (tgt := 588) hx hb dL_law_583 (by decide) (fun _ => ?_) (fun c_ => absurd (show lg_cmp _ _ = 0 from by rw [← h4]; exact z_cmp0 _) c_)
  refine lv_goto (pc := 588) (tgt := 1905) hx hb dL_law_588 (by decide) ?_
  refine W.widen (k := kc + 20) (n := ks + 200) (by omega) (by omega) ?_
  exact kk H locs ls hP hD hS (lv_sub hl [2, 3, 4, 5, 6] rfl)
set_option maxHeartbeats 4000000 in
set_option maxRecDepth 100000 in
theorem lc_mend_t2 {p : Program} {l : Launch} {e : Env} {s : State} {m : MethodId} {below : List Frame} {meth : Method} {c : Code} {X : z_X} {b L : Nat} {xs : Nat → Int32} (C : z_LC p l s m meth c X b L xs) {a : Nat} {d d2 : Nat → Nat} {B : z_B} {o : Nat} {g : Nat → Int64} {dm : Nat → Nat} {M : z_M} {H : Heap} {locs : List Loc} {ls : Array Slot} {Q : State → Prop} {u : Int32} (kc ks : Nat) (hk : kc + 20 ≤ room_1.cells ∧ ks + 200 ≤ room_1.slots) (i : Nat) (hu : u = nI i) (hi : i + 3 < L) (hP : va_P X.1 vwCl (z_wLw X a d d2 B o g dm M) H) (hD : va_D (fun q : Nat => s.heap.size ≤ q) (z_wLw X a d d2 B o g dm M)) (hS : va_S (fun q : Nat => s.heap.size ≤ q) s.heap H locs) (hl : lv_has ls 9 [(0, .ref b), (1, .ref a), (2, .ref (dm 0)), (3, .ref o), (4, .int u)]) (hf1 : x_X4_mend B (xs (i + 1)) = some 2) {R2 : (Int32 × z_M)} (hf2 : f_X5_mend M (xs (i + 1)) = some R2) (h3 : R2.2.1 0 = 1) (kk : ∀ (H : Heap) (locs : List Loc) (ls : Array Slot), va_P X.1 vwCl (z_wLw X a d d2 B o g dm R2.2) H → va_D (fun q : Nat => s.heap.size ≤ q) (z_wLw X a d d2 B o g dm R2.2) → va_S (fun q : Nat => s.heap.size ≤ q) s.heap H locs → lv_has ls 9 [(0, .ref b), (1, .ref a), (2, .ref (dm 0)), (3, .ref o), (4, .int u)] → W p l e room_1 s m #[Value.ref b] below meth c H locs (kc + 20) (ks + 200) Q (F0 m 1905 ls [])) : W p l e room_1 s m #[Value.ref b] below meth c H locs kc ks Q (F0 m 535 ls []) := by
  obtain ⟨hx, hb, hml, hown, hts, hK, hN, hX, hbl, hT0, hl0, hL⟩ := C
  have hA : ∀ q : Nat, s.heap.size ≤ q → (fun q : Nat => s.heap.size ≤ q) q := fun _ h => h
  have hbA : ¬ (fun q : Nat => s.heap.size ≤ q) b := Nat.not_le.mpr hbl
  have S : CallFix p m c cL_law 9 s #[Value.ref b] wsL_law RL := ⟨hx, hb, hml, hown, hts⟩
  refine lv_aload_n (pc := 535) hx hb dL_law_535 rfl (lv_at hl 1 rfl) ?_
  refine lv_aload_n (pc := 536) hx hb dL_law_536 rfl (lv_at hl 0 rfl) ?_
  refine lv_iload (pc := 537) hx hb dL_law_537 (lv_at hl 4 rfl) ?_
  refine lv_iconst (v := 1) (pc := 539) hx hb dL_law_539 (by decide) ?_
  refine lv_iadd (pc := 540) hx hb dL_law_540 ?_
  refine z_sld (pc := 541) hx hb hX hbl hbA hS hL (i + 1) (z_oi i 1 hu 1 rfl) (by omega) dL_law_541 ?_
  refine lv_aload_n (pc := 542) hx hb dL_law_542 rfl (lv_at hl 3 rfl) ?_
  have hT : z_T z_no s H := (hT0.kept (fun q h1 h2 => hS.2.1 q h1 h2)).narrow (fun q h => h.elim)
  refine z_cweI (pc := 543) S (wt_mend_2 l hl0 X a d d2 B o g (xs (i + 1)) hf1) (vx_cwSW 3 hts gL_law_L_mend rfl rfl rfl hdL_mend ⟨Nat.le_of_ble_eq_true rfl, Nat.le_of_ble_eq_true rfl⟩) hP hK hN hT hD hS hA (s_W_BO X a d d2 B o g dm M) (f_W_BO X a d d2 B o g dm M B g) (show kc + 1 ≤ room_1.cells ∧ ks + 6 ≤ room_1.slots from ⟨by omega, by omega⟩) rfl hl.1 rfl (Nat.le_of_ble_eq_true rfl) dL_law_543 (fun H locs hP hD hS => ?_)
  refine lv_istore (pc := 546) (lv' := [(5, .int 1), (0, .ref b), (1, .ref a), (2, .ref (dm 0)), (3, .ref o), (4, .int u)]) hx hb dL_law_546 hl (by decide) rfl (fun ls hl => ?_)
  refine lv_aload_n (pc := 548) hx hb dL_law_548 rfl (lv_at hl 3 rfl) ?_
  refine lv_aload_n (pc := 549) hx hb dL_law_549 rfl (lv_at hl 1 rfl) ?_
  refine lv_iload (pc := 550) hx hb dL_law_550 (lv_at hl 5 rfl) ?_
  refine lv_iconst (v := 1) (pc := 552) hx hb dL_law_552 (by decide) ?_
  refine lv_iadd (pc := 553) hx hb dL_law_553 ?_
  refine z_sld (pc := 554) hx hb hX hbl hbA hS hL (i + 1) (z_oi i 1 hu 1 rfl) (by omega) dL_law_554 ?_
  refine z_cmI (pc := 555) (W1 := (z_wLw X a d d2 B o g dm R2.2)) S (m_X5_mend l X dm M (xs (i + 1)) hf2) (cwV 1 hts gL_law_X5_mend rfl rfl rfl hdX5_mend ⟨Nat.le_of_ble_eq_true rfl, Nat.le_of_ble_eq_true rfl⟩) hP hK hN hD hS hA (s_W_M X a d d2 B o g dm M) (f_W_M X a d d2 B o g dm M R2.2) (ci := 5) rfl rfl rfl (show (kc + 1) ≤ room_1.cells ∧ (ks + 6) ≤ room_1.slots from ⟨by omega, by omega⟩) rfl hl.1 rfl (Nat.le_of_ble_eq_true rfl) dL_law_555 (fun H locs hP hD hS => ?_)
  refine lv_istore (pc := 558) (lv' := [(6, .int R2.1), (5, .int 1), (0, .ref b), (1, .ref a), (2, .ref (dm 0)), (3, .ref o), (4, .int u)]) hx hb dL_law_558 hl (by decide) rfl (fun ls hl => ?_)
  refine lv_aload_n (pc := 560) hx hb dL_law_560 rfl (lv_at hl 4 rfl) ?_
  refine z_cpI (pc := 561) S (m_X5_thrown l X dm R2.2 rfl) (cwV 0 hts gL_law_X5_thrown rfl rfl rfl hdX5_thrown ⟨Nat.le_of_ble_eq_true rfl, Nat.le_of_ble_eq_true rfl⟩) hP hK hN (s_W_M X a d d2 B o g dm R2.2) (ci := 5) rfl rfl rfl (show (kc + 1) ≤ room_1.cells ∧ (ks + 6) ≤ room_1.slots from ⟨by omega, by omega⟩) rfl hl.1 rfl (Nat.le_of_ble_eq_true rfl) dL_law_561 ?_
  refine lv_iload (pc := 564) hx hb dL_law_564 (lv_at hl 1 rfl) ?_
  refine lv_icmp_eq (pc := 566) (tgt := 571) hx hb dL_law_566 (by decide) (fun _ => ?_) (fun c_ => absurd h3 c_)
  refine lv_iload (pc := 571) hx hb dL_law_571 (lv_at hl 1 rfl) ?_
  refine lv_if_ne (pc := 573) (tgt := 588) hx hb dL_law_573 (by decide) (fun _ => ?_) (fun c_ => absurd c_ (by decide))
  refine lv_goto (pc := 588) (tgt := 1905) hx hb dL_law_588 (by decide) ?_
  refine W.widen (k := kc + 20) (n := ks + 200) (by omega) (by omega) ?_
  exact kk H locs ls hP hD hS (lv_sub hl [2, 3, 4, 5, 6] rfl)
set_option maxHeartbeats 4000000 in
set_option maxRecDepth 100000 in
theorem lc_mend_t1 {p : Program} {l : Launch} {e : Env} {s : State} {m : MethodId} {below : List Frame} {meth : Method} {c : Code} {X : z_X} {b L : Nat} {xs : Nat → Int32} (C : z_LC p l s m meth c X b L xs) {a : Nat} {d d2 : Nat → Nat} {B : z_B} {o : Nat} {g : Nat → Int64} {dm : Nat → Nat} {M : z_M} {H : Heap} {locs : List Loc} {ls : Array Slot} {Q : State → Prop} {u : Int32} (kc ks : Nat) (hk : kc + 20 ≤ room_1.cells ∧ ks + 200 ≤ room_1.slots) (i : Nat) (hu : u = nI i) (hi : i + 3 < L) (hP : va_P X.1 vwCl (z_wLw X a d d2 B o g dm M) H) (hD : va_D (fun q : Nat => s.heap.size ≤ q) (z_wLw X a d d2 B o g dm M)) (hS : va_S (fun q : Nat => s.heap.size ≤ q) s.heap H locs) (hl : lv_has ls 9 [(0, .ref b), (1, .ref a), (2, .ref (dm 0)), (3, .ref o), (4, .int u)]) (hf1 : x_X4_mend B (xs (i + 1)) = some 1) {R2 : (Int32 × z_M)} (hf2 : f_X5_mend M (xs (i + 1)) = some R2) (h3 : R2.2.1 0 = 2) (kk : ∀ (H : Heap) (locs : List Loc) (ls : Array Slot), va_P X.1 vwCl (z_wLw X a d d2 B o g dm R2.2) H → va_D (fun q : Nat => s.heap.size ≤ q) (z_wLw X a d d2 B o g dm R2.2) → va_S (fun q : Nat => s.heap.size ≤ q) s.heap H locs → lv_has ls 9 [(0, .ref b), (1, .ref a), (2, .ref (dm 0)), (3, .ref o), (4, .int u)] → W p l e room_1 s m #[Value.ref b] below meth c H locs (kc + 20) (ks + 200) Q (F0 m 1905 ls [])) : W p l e room_1 s m #[Value.ref b] below meth c H locs kc ks Q (F0 m 535 ls []) := by
  obtain ⟨hx, hb, hml, hown, hts, hK, hN, hX, hbl, hT0, hl0, hL⟩ := C
  have hA : ∀ q : Nat, s.heap.size ≤ q → (fun q : Nat => s.heap.size ≤ q) q := fun _ h => h
  have hbA : ¬ (fun q : Nat => s.heap.size ≤ q) b := Nat.not_le.mpr hbl
  have S : CallFix p m c cL_law 9 s #[Value.ref b] wsL_law RL := ⟨hx, hb, hml, hown, hts⟩
  refine lv_aload_n (pc := 535) hx hb dL_law_535 rfl (lv_at hl 1 rfl) ?_
  refine lv_aload_n (pc := 536) hx hb dL_law_536 rfl (lv_at hl 0 rfl) ?_
  refine lv_iload (pc := 537) hx hb dL_law_537 (lv_at hl 4 rfl) ?_
  refine lv_iconst (v := 1) (pc := 539) hx hb dL_law_539 (by decide) ?_
  refine lv_iadd (pc := 540) hx hb dL_law_540 ?_
  refine z_sld (pc := 541) hx hb hX hbl hbA hS hL (i + 1) (z_oi i 1 hu 1 rfl) (by omega) dL_law_541 ?_
  refine lv_aload_n (pc := 542) hx hb dL_law_542 rfl (lv_at hl 3 rfl) ?_
  have hT : z_T z_no s H := (hT0.kept (fun q h1 h2 => hS.2.1 q h1 h2)).narrow (fun q h => h.elim)
  refine z_cweI (pc := 543) S (wt_mend_1 l hl0 X a d d2 B o g (xs (i + 1)) hf1) (vx_cwSW 3 hts gL_law_L_mend rfl rfl rfl hdL_mend ⟨Nat.le_of_ble_eq_true rfl, Nat.le_of_ble_eq_true rfl⟩) hP hK hN hT hD hS hA (s_W_BO X a d d2 B o g dm M) (f_W_BO X a d d2 B o g dm M B g) (show kc + 1 ≤ room_1.cells ∧ ks + 6 ≤ room_1.slots from ⟨by omega, by omega⟩) rfl hl.1 rfl (Nat.le_of_ble_eq_true rfl) dL_law_543 (fun H locs hP hD hS => ?_)
  refine lv_istore (pc := 546) (lv' := [(5, .int 2), (0, .ref b), (1, .ref a), (2, .ref (dm 0)), (3, .ref o), (4, .int u)]) hx hb dL_law_546 hl (by decide) rfl (fun ls hl => ?_)
  refine lv_aload_n (pc := 548) hx hb dL_law_548 rfl (lv_at hl 3 rfl) ?_
  refine lv_aload_n (pc := 549) hx hb dL_law_549 rfl (lv_at hl 1 rfl) ?_
  refine lv_iload (pc := 550) hx hb dL_law_550 (lv_at hl 5 rfl) ?_
  refine lv_iconst (v := 1) (pc := 552) hx hb dL_law_552 (by decide) ?_
  refine lv_iadd (pc := 553) hx hb dL_law_553 ?_
  refine z_sld (pc := 554) hx hb hX hbl hbA hS hL (i + 1) (z_oi i 1 hu 1 rfl) (by omega) dL_law_554 ?_
  refine z_cmI (pc := 555) (W1 := (z_wLw X a d d2 B o g dm R2.2)) S (m_X5_mend l X dm M (xs (i + 1)) hf2) (cwV 1 hts gL_law_X5_mend rfl rfl rfl hdX5_mend ⟨Nat.le_of_ble_eq_true rfl, Nat.le_of_ble_eq_true rfl⟩) hP hK hN hD hS hA (s_W_M X a d d2 B o g dm M) (f_W_M X a d d2 B o g dm M R2.2) (ci := 5) rfl rfl rfl (show (kc + 1) ≤ room_1.cells ∧ (ks + 6) ≤ room_1.slots from ⟨by omega, by omega⟩) rfl hl.1 rfl (Nat.le_of_ble_eq_true rfl) dL_law_555 (fun H locs hP hD hS => ?_)
  refine lv_istore (pc := 558) (lv' := [(6, .int R2.1), (5, .int 2), (0, .ref b), (1, .ref a), (2, .ref (dm 0)), (3, .ref o), (4, .int u)]) hx hb dL_law_558 hl (by decide) rfl (fun ls hl => ?_)
  refine lv_aload_n (pc := 560) hx hb dL_law_560 rfl (lv_at hl 4 rfl) ?_
  refine z_cpI (pc := 561) S (m_X5_thrown l X dm R2.2 rfl) (cwV 0 hts gL_law_X5_thrown rfl rfl rfl hdX5_thrown ⟨Nat.le_of_ble_eq_true rfl, Nat.le_of_ble_eq_true rfl⟩) hP hK hN (s_W_M X a d d2 B o g dm R2.2) (ci := 5) rfl rfl rfl (show (kc + 1) ≤ room_1.cells ∧ (ks + 6) ≤ room_1.slots from ⟨by omega, by omega⟩) rfl hl.1 rfl (Nat.le_of_ble_eq_true rfl) dL_law_561 ?_
  refine lv_iload (pc := 564) hx hb dL_law_564 (lv_at hl 1 rfl) ?_
  refine lv_icmp_eq (pc := 566) (tgt := 571) hx hb dL_law_566 (by decide) (fun _ => ?_) (fun c_ => absurd h3 c_)
  refine lv_iload (pc := 571) hx hb dL_law_571 (lv_at hl 1 rfl) ?_
  refine lv_if_ne (pc := 573) (tgt := 588) hx hb dL_law_573 (by decide) (fun _ => ?_) (fun c_ => absurd c_ (by decide))
  refine lv_goto (pc := 588) (tgt := 1905) hx hb dL_law_588 (by decide) ?_
  refine W.widen (k := kc + 20) (n := ks + 200) (by omega) (by omega) ?_
  exact kk H locs ls hP hD hS (lv_sub hl [2, 3, 4, 5, 6] rfl)
set_option maxHeartbeats 4000000 in
set_option maxRecDepth 100000 in
theorem lc_recharge {p : Program} {l : Launch} {e : Env} {s : State} {m : MethodId} {below : List Frame} {meth : Method} {c : Code} {X : z_X} {b L : Nat} {xs : Nat → Int32} (C : z_LC p l s m meth c X b L xs) {a : Nat} {d d2 : Nat → Nat} {B : z_B} {o : Nat} {g : Nat → Int64} {dm : Nat → Nat} {M : z_M} {H : Heap} {locs : List Loc} {ls : Array Slot} {Q : State → Prop} {u : Int32} (kc ks : Nat) (hk : kc + 20 ≤ room_1.cells ∧ ks + 200 ≤ room_1.slots) (i : Nat) (hu : u = nI i) (hi : i + 3 < L) (hP : va_P X.1 vwCl (z_wLw X a d d2 B o g dm M) H) (hD : va_D (fun q : Nat => s.heap.size ≤ q) (z_wLw X a d d2 B o g dm M)) (hS : va_S (fun q : Nat => s.heap.size ≤ q) s.heap H locs) (hl : lv_has ls 9 [(0, .ref b), (1, .ref a), (2, .ref (dm 0)), (3, .ref o), (4, .int u)]) {R1 : (Int32 × z_B)} (hf1 : f_X4_recharge B (xs (i + 1)) = some R1) {R2 : (Int32 × z_M)} (hf2 : f_X5_recharge M (xs (i + 1)) = some R2) (h3 : R2.2.1 0 = 0) (h4 : R1.1 = R2.1) (kk : ∀ (H : Heap) (locs : List Loc) (ls : Array Slot), va_P X.1 vwCl (z_wLw X a d d2 R1.2 o (vp_updL g 0 (R1.1).toInt64) dm R2.2) H → va_D (fun q : Nat => s.heap.size ≤ q) (z_wLw X a d d2 R1.2 o (vp_updL g 0 (R1.1).toInt64) dm R2.2) → va_S (fun q : Nat => s.heap.size ≤ q) s.heap H locs → lv_has ls 9 [(0, .ref b), (1, .ref a), (2, .ref (dm 0)), (3, .ref o), (4, .int u)] → W p l e room_1 s m #[Value.ref b] below meth c H locs (kc + 20) (ks + 200) Q (F0 m 1905 ls [])) : W p l e room_1 s m #[Value.ref b] below meth c H locs kc ks Q (F0 m 591 ls []) := by
  obtain ⟨hx, hb, hml, hown, hts, hK, hN, hX, hbl, hT0, hl0, hL⟩ := C
  have hA : ∀ q : Nat, s.heap.size ≤ q → (fun q : Nat => s.heap.size ≤ q) q := fun _ h => h
  have hbA : ¬ (fun q : Nat => s.heap.size ≤ q) b := Nat.not_le.mpr hbl
  have S : CallFix p m c cL_law 9 s #[Value.ref b] wsL_law RL := ⟨hx, hb, hml, hown, hts⟩
  refine lv_aload_n (pc := 591) hx hb dL_law_591 rfl (lv_at hl 1 rfl) ?_
  refine lv_aload_n (pc := 592) hx hb dL_law_592 rfl (lv_at hl 0 rfl) ?_
  refine lv_iload (pc := 593) hx hb dL_law_593 (lv_at hl 4 rfl) ?_
  refine lv_iconst (v := 1) (pc := 595) hx hb dL_law_595 (by decide) ?_
  refine lv_iadd (pc := 596) hx hb dL_law_596 ?_
  refine z_sld (pc := 597) hx hb hX hbl hbA hS hL (i + 1) (z_oi i 1 hu 1 rfl) (by omega) dL_law_597 ?_
  refine lv_aload_n (pc := 598) hx hb dL_law_598 rfl (lv_at hl 3 rfl) ?_
  refine z_cwsI (pc := 599) (W1 := (z_wLw X a d d2 R1.2 o (vp_updL g 0 (R1.1).toInt64) dm M)) S (wn_recharge l X a d d2 B o g (xs (i + 1)) hf1) (vx_cwSW 3 hts gL_law_L_recharge rfl rfl rfl hdL_recharge ⟨Nat.le_of_ble_eq_true rfl, Nat.le_of_ble_eq_true rfl⟩) hP hK hN hD hS hA (s_W_BO X a d d2 B o g dm M) (f_W_BO X a d d2 B o g dm M R1.2 (vp_updL g 0 (R1.1).toInt64)) (show kc ≤ room_1.cells ∧ ks ≤ room_1.slots from ⟨by omega, by omega⟩) rfl hl.1 rfl (Nat.le_of_ble_eq_true rfl) dL_law_599 (fun H locs hP hD hS => ?_)
  refine lv_istore (pc := 602) (lv' := [(5, .int 0), (0, .ref b), (1, .ref a), (2, .ref (dm 0)), (3, .ref o), (4, .int u)]) hx hb dL_law_602 hl (by decide) rfl (fun ls hl => ?_)
  refine lv_aload_n (pc := 604) hx hb dL_law_604 rfl (lv_at hl 3 rfl) ?_
  refine lv_aload_n (pc := 605) hx hb dL_law_605 rfl (lv_at hl 1 rfl) ?_
  refine lv_iload (pc := 606) hx hb dL_law_606 (lv_at hl 5 rfl) ?_
  refine lv_iconst (v := 1) (pc := 608) hx hb dL_law_608 (by decide) ?_
  refine lv_iadd (pc := 609) hx hb dL_law_609 ?_
  refine z_sld (pc := 610) hx hb hX hbl hbA hS hL (i + 1) (z_oi i 1 hu 1 rfl) (by omega) dL_law_610 ?_
  refine z_cmI (pc := 611) (W1 := (z_wLw X a d d2 R1.2 o (vp_updL g 0 (R1.1).toInt64) dm R2.2)) S (m_X5_recharge l X dm M (xs (i + 1)) hf2) (cwV 1 hts gL_law_X5_recharge rfl rfl rfl hdX5_recharge ⟨Nat.le_of_ble_eq_true rfl, Nat.le_of_ble_eq_true rfl⟩) hP hK hN hD hS hA (s_W_M X a d d2 R1.2 o (vp_updL g 0 (R1.1).toInt64) dm M) (f_W_M X a d d2 R1.2 o (vp_updL g 0 (R1.1).toInt64) dm M R2.2) (ci := 5) rfl rfl rfl (show kc ≤ room_1.cells ∧ ks ≤ room_1.slots from ⟨by omega, by omega⟩) rfl hl.1 rfl (Nat.le_of_ble_eq_true rfl) dL_law_611 (fun H locs hP hD hS => ?_)
  refine lv_istore (pc := 614) (lv' := [(6, .int R2.1), (5, .int 0), (0, .ref b), (1, .ref a), (2, .ref (dm 0)), (3, .ref o), (4, .int u)]) hx hb dL_law_614 hl (by decide) rfl (fun ls hl => ?_)
  refine lv_aload_n (pc := 616) hx hb dL_law_616 rfl (lv_at hl 4 rfl) ?_
  refine z_cpI (pc := 617) S (m_X5_thrown l X dm R2.2 rfl) (cwV 0 hts gL_law_X5_thrown rfl rfl rfl hdX5_thrown ⟨Nat.le_of_ble_eq_true rfl, Nat.le_of_ble_eq_true rfl⟩) hP hK hN (s_W_M X a d d2 R1.2 o (vp_updL g 0 (R1.1).toInt64) dm R2.2) (ci := 5) rfl rfl rfl (show kc ≤ room_1.cells ∧ ks ≤ room_1.slots from ⟨by omega, by omega⟩) rfl hl.1 rfl (Nat.le_of_ble_eq_true rfl) dL_law_617 ?_
  refine lv_iload (pc := 620) hx hb dL_law_620 (lv_at hl 1 rfl) ?_
  refine lv_icmp_eq (pc := 622) (tgt := 627) hx hb dL_law_622 (by decide) (fun _ => ?_) (fun c_ => absurd h3 c_)
  refine lv_iload (pc := 627) hx hb dL_law_627 (lv_at hl 1 rfl) ?_
  refine lv_if_ne (pc := 629) (tgt := 644) hx hb dL_law_629 (by decide) (fun c_ => absurd rfl c_) (fun _ => ?_)
  refine lv_aload_n (pc := 632) hx hb dL_law_632 rfl (lv_at hl 5 rfl) ?_
  refine lv_iconst (v := 0) (pc := 633) hx hb dL_law_633 (by decide) ?_
  refine va_lald (pc := 634) hx hb hK hP 53 2 rfl rfl z_in01 dL_law_634 ?_
  refine lv_iload (pc := 635) hx hb dL_law_635 (lv_at hl 0 rfl) ?_
  refine lv_i2l (v := (R2.1).toInt64) (pc := 637) hx hb dL_law_637 rfl ?_
  refine W.lcmp (pc := 638) hx hb dL_law_638 ?_
  refine lv_if_eq (pc := 639) (tgt := 644) hx hb dL_law_639 (by decide) (fun _ => ?_) (fun c_ => absurd (show lg_cmp _ _ = 0 from by rw [← h4]; exact z_cmp0 _) c_)
  refine lv_goto (pc := 644) (tgt := 1905) hx hb dL_law_644 (by decide) ?_
  refine W.widen (k := kc + 20) (n := ks + 200) (by omega) (by omega) ?_
  exact kk H locs ls hP hD hS (lv_sub hl [2, 3, 4, 5, 6] rfl)
set_option maxHeartbeats 4000000 in
set_option maxRecDepth 100000 in
theorem lc_recharge_t0 {p : Program} {l : Launch} {e : Env} {s : State} {m : MethodId} {below : List Frame} {meth : Method} {c : Code} {X : z_X} {b L : Nat} {xs : Nat → Int32} (C : z_LC p l s m meth c X b L xs) {a : Nat} {d d2 : Nat → Nat} {B : z_B} {o : Nat} {g : Nat → Int64} {dm : Nat → Nat} {M : z_M} {H : Heap} {locs : List Loc} {ls : Array Slot} {Q : State → Prop} {u : Int32} (kc ks : Nat) (hk : kc + 20 ≤ room_1.cells ∧ ks + 200 ≤ room_1.slots) (i : Nat) (hu : u = nI i) (hi : i + 3 < L) (hP : va_P X.1 vwCl (z_wLw X a d d2 B o g dm M) H) (hD : va_D (fun q : Nat => s.heap.size ≤ q) (z_wLw X a d d2 B o g dm M)) (hS : va_S (fun q : Nat => s.heap.size ≤ q) s.heap H locs) (hl : lv_has ls 9 [(0, .ref b), (1, .ref a), (2, .ref (dm 0)), (3, .ref o), (4, .int u)]) (hf1 : x_X4_recharge B (xs (i + 1)) = some 0) {R2 : (Int32 × z_M)} (hf2 : f_X5_recharge M (xs (i + 1)) = some R2) (h3 : R2.2.1 0 = 1) (kk : ∀ (H : Heap) (locs : List Loc) (ls : Array Slot), va_P X.1 vwCl (z_wLw X a d d2 B o g dm R2.2) H → va_D (fun q : Nat => s.heap.size ≤ q) (z_wLw X a d d2 B o g dm R2.2) → va_S (fun q : Nat => s.heap.size ≤ q) s.heap H locs → lv_has ls 9 [(0, .ref b), (1, .ref a), (2, .ref (dm 0)), (3, .ref o), (4, .int u)] → W p l e room_1 s m #[Value.ref b] below meth c H locs (kc + 20) (ks + 200) Q (F0 m 1905 ls [])) : W p l e room_1 s m #[Value.ref b] below meth c H locs kc ks Q (F0 m 591 ls []) := by
  obtain ⟨hx, hb, hml, hown, hts, hK, hN, hX, hbl, hT0, hl0, hL⟩ := C
  have hA : ∀ q : Nat, s.heap.size ≤ q → (fun q : Nat => s.heap.size ≤ q) q := fun _ h => h
  have hbA : ¬ (fun q : Nat => s.heap.size ≤ q) b := Nat.not_le.mpr hbl
  have S : CallFix p m c cL_law 9 s #[Value.ref b] wsL_law RL := ⟨hx, hb, hml, hown, hts⟩
  refine lv_aload_n (pc := 591) hx hb dL_law_591 rfl (lv_at hl 1 rfl) ?_
  refine lv_aload_n (pc := 592) hx hb dL_law_592 rfl (lv_at hl 0 rfl) ?_
  refine lv_iload (pc := 593) hx hb dL_law_593 (lv_at hl 4 rfl) ?_
  refine lv_iconst (v := 1) (pc := 595) hx hb dL_law_595 (by decide) ?_
  refine lv_iadd (pc := 596) hx hb dL_law_596 ?_
  refine z_sld (pc := 597) hx hb hX hbl hbA hS hL (i + 1) (z_oi i 1 hu 1 rfl) (by omega) dL_law_597 ?_
  refine lv_aload_n (pc := 598) hx hb dL_law_598 rfl (lv_at hl 3 rfl) ?_
  have hT : z_T z_no s H := (hT0.kept (fun q h1 h2 => hS.2.1 q h1 h2)).narrow (fun q h => h.elim)
  refine z_cweI (pc := 599) S (wt_recharge_0 l hl0 X a d d2 B o g (xs (i + 1)) hf1) (vx_cwSW 3 hts gL_law_L_recharge rfl rfl rfl hdL_recharge ⟨Nat.le_of_ble_eq_true rfl, Nat.le_of_ble_eq_true rfl⟩) hP hK hN hT hD hS hA (s_W_BO X a d d2 B o g dm M) (f_W_BO X a d d2 B o g dm M B g) (show kc + 1 ≤ room_1.cells ∧ ks + 6 ≤ room_1.slots from ⟨by omega, by omega⟩) rfl hl.1 rfl (Nat.le_of_ble_eq_true rfl) dL_law_599 (fun H locs hP hD hS => ?_)
  refine lv_istore (pc := 602) (lv' := [(5, .int 1), (0, .ref b), (1, .ref a), (2, .ref (dm 0)), (3, .ref o), (4, .int u)]) hx hb dL_law_602 hl (by decide) rfl (fun ls hl => ?_)
  refine lv_aload_n (pc := 604) hx hb dL_law_604 rfl (lv_at hl 3 rfl) ?_
  refine lv_aload_n (pc := 605) hx hb dL_law_605 rfl (lv_at hl 1 rfl) ?_
  refine lv_iload (pc := 606) hx hb dL_law_606 (lv_at hl 5 rfl) ?_
  refine lv_iconst (v := 1) (pc := 608) hx hb dL_law_608 (by decide) ?_
  refine lv_iadd (pc := 609) hx hb dL_law_609 ?_
  refine z_sld (pc := 610) hx hb hX hbl hbA hS hL (i + 1) (z_oi i 1 hu 1 rfl) (by omega) dL_law_610 ?_
  refine z_cmI (pc := 611) (W1 := (z_wLw X a d d2 B o g dm R2.2)) S (m_X5_recharge l X dm M (xs (i + 1)) hf2) (cwV 1 hts gL_law_X5_recharge rfl rfl rfl hdX5_recharge ⟨Nat.le_of_ble_eq_true rfl, Nat.le_of_ble_eq_true rfl⟩) hP hK hN hD hS hA (s_W_M X a d d2 B o g dm M) (f_W_M X a d d2 B o g dm M R2.2) (ci := 5) rfl rfl rfl (show (kc + 1) ≤ room_1.cells ∧ (ks + 6) ≤ room_1.slots from ⟨by omega, by omega⟩) rfl hl.1 rfl (Nat.le_of_ble_eq_true rfl) dL_law_611 (fun H locs hP hD hS => ?_)
  refine lv_istore (pc := 614) (lv' := [(6, .int R2.1), (5, .int 1), (0, .ref b), (1, .ref a), (2, .ref (dm 0)), (3, .ref o), (4, .int u)]) hx hb dL_law_614 hl (by decide) rfl (fun ls hl => ?_)
  refine lv_aload_n (pc := 616) hx hb dL_law_616 rfl (lv_at hl 4 rfl) ?_
  refine z_cpI (pc := 617) S (m_X5_thrown l X dm R2.2 rfl) (cwV 0 hts gL_law_X5_thrown rfl rfl rfl hdX5_thrown ⟨Nat.le_of_ble_eq_true rfl, Nat.le_of_ble_eq_true rfl⟩) hP hK hN (s_W_M X a d d2 B o g dm R2.2) (ci := 5) rfl rfl rfl (show (kc + 1) ≤ room_1.cells ∧ (ks + 6) ≤ room_1.slots from ⟨by omega, by omega⟩) rfl hl.1 rfl (Nat.le_of_ble_eq_true rfl) dL_law_617 ?_
  refine lv_iload (pc := 620) hx hb dL_law_620 (lv_at hl 1 rfl) ?_
  refine lv_icmp_eq (pc := 622) (tgt := 627) hx hb dL_law_622 (by decide) (fun _ => ?_) (fun c_ => absurd h3 c_)
  refine lv_iload (pc := 627) hx hb dL_law_627 (lv_at hl 1 rfl) ?_
  refine lv_if_ne (pc := 629) (tgt := 644) hx hb dL_law_629 (by decide) (fun _ => ?_) (fun c_ => absurd c_ (by decide))
  refine lv_goto (pc := 644) (tgt := 1905) hx hb dL_law_644 (by decide) ?_
  refine W.widen (k := kc + 20) (n := ks + 200) (by omega) (by omega) ?_
  exact kk H locs ls hP hD hS (lv_sub hl [2, 3, 4, 5, 6] rfl)
set_option maxHeartbeats 4000000 in
set_option maxRecDepth 100000 in
theorem lc_putUp {p : Program} {l : Launch} {e : Env} {s : State} {m : MethodId} {below : List Frame} {meth : Method} {c : Code} {X : z_X} {b L : Nat} {xs : Nat → Int32} (C : z_LC p l s m meth c X b L xs) {a : Nat} {d d2 : Nat → Nat} {B : z_B} {o : Nat} {g : Nat → Int64} {dm : Nat → Nat} {M : z_M} {H : Heap} {locs : List Loc} {ls : Array Slot} {Q : State → Prop} {u : Int32} (kc ks : Nat) (hk : kc + 20 ≤ room_1.cells ∧ ks + 200 ≤ room_1.slots) (i : Nat) (hu : u = nI i) (hi : i + 3 < L) (hP : va_P X.1 vwCl (z_wLw X a d d2 B o g dm M) H) (hD : va_D (fun q : Nat => s.heap.size ≤ q) (z_wLw X a d d2 B o g dm M)) (hS : va_S (fun q : Nat => s.heap.size ≤ q) s.heap H locs) (hl : lv_has ls 9 [(0, .ref b), (1, .ref a), (2, .ref (dm 0)), (3, .ref o), (4, .int u)]) {R1 : (Int32 × z_B)} (hf1 : f_X4_putUp B (xs (i + 1)) = some R1) {R2 : (Int32 × z_M)} (hf2 : f_X5_putUp M (xs (i + 1)) = some R2) (h3 : R2.2.1 0 = 0) (h4 : R1.1 = R2.1) (kk : ∀ (H : Heap) (locs : List Loc) (ls : Array Slot), va_P X.1 vwCl (z_wLw X a d d2 R1.2 o (vp_updL g 0 (R1.1).toInt64) dm R2.2) H → va_D (fun q : Nat => s.heap.size ≤ q) (z_wLw X a d d2 R1.2 o (vp_updL g 0 (R1.1).toInt64) dm R2.2) → va_S (fun q : Nat => s.heap.size ≤ q) s.heap H locs → lv_has ls 9 [(0, .ref b), (1, .ref a), (2, .ref (dm 0)), (3, .ref o), (4, .int u)] → W p l e room_1 s m #[Value.ref b] below meth c H locs (kc + 20) (ks + 200) Q (F0 m 1905 ls [])) : W p l e room_1 s m #[Value.ref b] below meth c H locs kc ks Q (F0 m 647 ls []) := by
  obtain ⟨hx, hb, hml, hown, hts, hK, hN, hX, hbl, hT0, hl0, hL⟩ := C
  have hA : ∀ q : Nat, s.heap.size ≤ q → (fun q : Nat => s.heap.size ≤ q) q := fun _ h => h
  have hbA : ¬ (fun q : Nat => s.heap.size ≤ q) b := Nat.not_le.mpr hbl
  have S : CallFix p m c cL_law 9 s #[Value.ref b] wsL_law RL := ⟨hx, hb, hml, hown, hts⟩
  refine lv_aload_n (pc := 647) hx hb dL_law_647 rfl (lv_at hl 1 rfl) ?_
  refine lv_aload_n (pc := 648) hx hb dL_law_648 rfl (lv_at hl 0 rfl) ?_
  refine lv_iload (pc := 649) hx hb dL_law_649 (lv_at hl 4 rfl) ?_
  refine lv_iconst (v := 1) (pc := 651) hx hb dL_law_651 (by decide) ?_
  refine lv_iadd (pc := 652) hx hb dL_law_652 ?_
  refine z_sld (pc := 653) hx hb hX hbl hbA hS hL (i + 1) (z_oi i 1 hu 1 rfl) (by omega) dL_law_653 ?_
  refine lv_aload_n (pc := 654) hx hb dL_law_654 rfl (lv_at hl 3 rfl) ?_
  refine z_cwsI (pc := 655) (W1 := (z_wLw X a d d2 R1.2 o (vp_updL g 0 (R1.1).toInt64) dm M)) S (wn_putUp l X a d d2 B o g (xs (i + 1)) hf1) (vx_cwSW 3 hts gL_law_L_putUp rfl rfl rfl hdL_putUp ⟨Nat.le_of_ble_eq_true rfl, Nat.le_of_ble_eq_true rfl⟩) hP hK hN hD hS hA (s_W_BO X a d d2 B o g dm M) (f_W_BO X a d d2 B o g dm M R1.2 (vp_updL g 0 (R1.1).toInt64)) (show kc ≤ room_1.cells ∧ ks ≤ room_1.slots from ⟨by omega, by omega⟩) rfl hl.1 rfl (Nat.le_of_ble_eq_true rfl) dL_law_655 (fun H locs hP hD hS => ?_)
  refine lv_istore (pc := 658) (lv' := [(5, .int 0), (0, .ref b), (1, .ref a), (2, .ref (dm 0)), (3, .ref o), (4, .int u)]) hx hb dL_law_658 hl (by decide) rfl (fun ls hl => ?_)
  refine lv_aload_n (pc := 660) hx hb dL_law_660 rfl (lv_at hl 3 rfl) ?_
  refine lv_aload_n (pc := 661) hx hb dL_law_661 rfl (lv_at hl 1 rfl) ?_
  refine lv_iload (pc := 662) hx hb dL_law_662 (lv_at hl 5 rfl) ?_
  refine lv_iconst (v := 1) (pc := 664) hx hb dL_law_664 (by decide) ?_
  refine lv_iadd (pc := 665) hx hb dL_law_665 ?_
  refine z_sld (pc := 666) hx hb hX hbl hbA hS hL (i + 1) (z_oi i 1 hu 1 rfl) (by omega) dL_law_666 ?_
  refine z_cmI (pc := 667) (W1 := (z_wLw X a d d2 R1.2 o (vp_updL g 0 (R1.1).toInt64) dm R2.2)) S (m_X5_putUp l X dm M (xs (i + 1)) hf2) (cwV 1 hts gL_law_X5_putUp rfl rfl rfl hdX5_putUp ⟨Nat.le_of_ble_eq_true rfl, Nat.le_of_ble_eq_true rfl⟩) hP hK hN hD hS hA (s_W_M X a d d2 R1.2 o (vp_updL g 0 (R1.1).toInt64) dm M) (f_W_M X a d d2 R1.2 o (vp_updL g 0 (R1.1).toInt64) dm M R2.2) (ci := 5) rfl rfl rfl (show kc ≤ room_1.cells ∧ ks ≤ room_1.slots from ⟨by omega, by omega⟩) rfl hl.1 rfl (Nat.le_of_ble_eq_true rfl) dL_law_667 (fun H locs hP hD hS => ?_)
  refine lv_istore (pc := 670) (lv' := [(6, .int R2.1), (5, .int 0), (0, .ref b), (1, .ref a), (2, .ref (dm 0)), (3, .ref o), (4, .int u)]) hx hb dL_law_670 hl (by decide) rfl (fun ls hl => ?_)
  refine lv_aload_n (pc := 672) hx hb dL_law_672 rfl (lv_at hl 4 rfl) ?_
  refine z_cpI (pc := 673) S (m_X5_thrown l X dm R2.2 rfl) (cwV 0 hts gL_law_X5_thrown rfl rfl rfl hdX5_thrown ⟨Nat.le_of_ble_eq_true rfl, Nat.le_of_ble_eq_true rfl⟩) hP hK hN (s_W_M X a d d2 R1.2 o (vp_updL g 0 (R1.1).toInt64) dm R2.2) (ci := 5) rfl rfl rfl (show kc ≤ room_1.cells ∧ ks ≤ room_1.slots from ⟨by omega, by omega⟩) rfl hl.1 rfl (Nat.le_of_ble_eq_true rfl) dL_law_673 ?_
  refine lv_iload (pc := 676) hx hb dL_law_676 (lv_at hl 1 rfl) ?_
  refine lv_icmp_eq (pc := 678) (tgt := 683) hx hb dL_law_678 (by decide) (fun _ => ?_) (fun c_ => absurd h3 c_)
  refine lv_iload (pc := 683) hx hb dL_law_683 (lv_at hl 1 rfl) ?_
  refine lv_if_ne (pc := 685) (tgt := 700) hx hb dL_law_685 (by decide) (fun c_ => absurd rfl c_) (fun _ => ?_)
  refine lv_aload_n (pc := 688) hx hb dL_law_688 rfl (lv_at hl 5 rfl) ?_
  refine lv_iconst (v := 0) (pc := 689) hx hb dL_law_689 (by decide) ?_
  refine va_lald (pc := 690) hx hb hK hP 53 2 rfl rfl z_in01 dL_law_690 ?_
  refine lv_iload (pc := 691) hx hb dL_law_691 (lv_at hl 0 rfl) ?_
  refine lv_i2l (v := (R2.1).toInt64) (pc := 693) hx hb dL_law_693 rfl ?_
  refine W.lcmp (pc := 694) hx hb dL_law_694 ?_
  refine lv_if_eq (pc := 695) (tgt := 700) hx hb dL_law_695 (by decide) (fun _ => ?_) (fun c_ => absurd (show lg_cmp _ _ = 0 from by rw [← h4]; exact z_cmp0 _) c_)
  refine lv_goto (pc := 700) (tgt := 1905) hx hb dL_law_700 (by decide) ?_
  refine W.widen (k := kc + 20) (n := ks + 200) (by omega) (by omega) ?_
  exact kk H locs ls hP hD hS (lv_sub hl [2, 3, 4, 5, 6] rfl)
set_option maxHeartbeats 4000000 in
set_option maxRecDepth 100000 in
theorem lc_putUp_t2 {p : Program} {l : Launch} {e : Env} {s : State} {m : MethodId} {below : List Frame} {meth : Method} {c : Code} {X : z_X} {b L : Nat} {xs : Nat → Int32} (C : z_LC p l s m meth c X b L xs) {a : Nat} {d d2 : Nat → Nat} {B : z_B} {o : Nat} {g : Nat → Int64} {dm : Nat → Nat} {M : z_M} {H : Heap} {locs : List Loc} {ls : Array Slot} {Q : State → Prop} {u : Int32} (kc ks : Nat) (hk : kc + 20 ≤ room_1.cells ∧ ks + 200 ≤ room_1.slots) (i : Nat) (hu : u = nI i) (hi : i + 3 < L) (hP : va_P X.1 vwCl (z_wLw X a d d2 B o g dm M) H) (hD : va_D (fun q : Nat => s.heap.size ≤ q) (z_wLw X a d d2 B o g dm M)) (hS : va_S (fun q : Nat => s.heap.size ≤ q) s.heap H locs) (hl : lv_has ls 9 [(0, .ref b), (1, .ref a), (2, .ref (dm 0)), (3, .ref o), (4, .int u)]) (hf1 : x_X4_putUp B (xs (i + 1)) = some 2) {R2 : (Int32 × z_M)} (hf2 : f_X5_putUp M (xs (i + 1)) = some R2) (h3 : R2.2.1 0 = 1) (kk : ∀ (H : Heap) (locs : List Loc) (ls : Array Slot), va_P X.1 vwCl (z_wLw X a d d2 B o g dm R2.2) H → va_D (fun q : Nat => s.heap.size ≤ q) (z_wLw X a d d2 B o g dm R2.2) → va_S (fun q : Nat => s.heap.size ≤ q) s.heap H locs → lv_has ls 9 [(0, .ref b), (1, .ref a), (2, .ref (dm 0)), (3, .ref o), (4, .int u)] → W p l e room_1 s m #[Value.ref b] below meth c H locs (kc + 20) (ks + 200) Q (F0 m 1905 ls [])) : W p l e room_1 s m #[Value.ref b] below meth c H locs kc ks Q (F0 m 647 ls []) := by
  obtain ⟨hx, hb, hml, hown, hts, hK, hN, hX, hbl, hT0, hl0, hL⟩ := C
  have hA : ∀ q : Nat, s.heap.size ≤ q → (fun q : Nat => s.heap.size ≤ q) q := fun _ h => h
  have hbA : ¬ (fun q : Nat => s.heap.size ≤ q) b := Nat.not_le.mpr hbl
  have S : CallFix p m c cL_law 9 s #[Value.ref b] wsL_law RL := ⟨hx, hb, hml, hown, hts⟩
  refine lv_aload_n (pc := 647) hx hb dL_law_647 rfl (lv_at hl 1 rfl) ?_
  refine lv_aload_n (pc := 648) hx hb dL_law_648 rfl (lv_at hl 0 rfl) ?_
  refine lv_iload (pc := 649) hx hb dL_law_649 (lv_at hl 4 rfl) ?_
  refine lv_iconst (v := 1) (pc := 651) hx hb dL_law_651 (by decide) ?_
  refine lv_iadd (pc := 652) hx hb dL_law_652 ?_
  refine z_sld (pc := 653) hx hb hX hbl hbA hS hL (i + 1) (z_oi i 1 hu 1 rfl) (by omega) dL_law_653 ?_
  refine lv_aload_n (pc := 654) hx hb dL_law_654 rfl (lv_at hl 3 rfl) ?_
  have hT : z_T z_no s H := (hT0.kept (fun q h1 h2 => hS.2.1 q h1 h2)).narrow (fun q h => h.elim)
  refine z_cweI (pc := 655) S (wt_putUp_2 l hl0 X a d d2 B o g (xs (i + 1)) hf1) (vx_cwSW 3 hts gL_law_L_putUp rfl rfl rfl hdL_putUp ⟨Nat.le_of_ble_eq_true rfl, Nat.le_of_ble_eq_true rfl⟩) hP hK hN hT hD hS hA (s_W_BO X a d d2 B o g dm M) (f_W_BO X a d d2 B o g dm M B g) (show kc + 1 ≤ room_1.cells ∧ ks + 6 ≤ room_1.slots from ⟨by omega, by omega⟩) rfl hl.1 rfl (Nat.le_of_ble_eq_true rfl) dL_law_655 (fun H locs hP hD hS => ?_)
  refine lv_istore (pc := 658) (lv' := [(5, .int 1), (0, .ref b), (1, .ref a), (2, .ref (dm 0)), (3, .ref o), (4, .int u)]) hx hb dL_law_658 hl (by decide) rfl (fun ls hl => ?_)
  refine lv_aload_n (pc := 660) hx hb dL_law_660 rfl (lv_at hl 3 rfl) ?_
  refine lv_aload_n (pc := 661) hx hb dL_law_661 rfl (lv_at hl 1 rfl) ?_
  refine lv_iload (pc := 662) hx hb dL_law_662 (lv_at hl 5 rfl) ?_
  refine lv_iconst (v := 1) (pc := 664) hx hb dL_law_664 (by decide) ?_
  refine lv_iadd (pc := 665) hx hb dL_law_665 ?_
  refine z_sld (pc := 666) hx hb hX hbl hbA hS hL (i + 1) (z_oi i 1 hu 1 rfl) (by omega) dL_law_666 ?_
  refine z_cmI (pc := 667) (W1 := (z_wLw X a d d2 B o g dm R2.2)) S (m_X5_putUp l X dm M (xs (i + 1)) hf2) (cwV 1 hts gL_law_X5_putUp rfl rfl rfl hdX5_putUp ⟨Nat.le_of_ble_eq_true rfl, Nat.le_of_ble_eq_true rfl⟩) hP hK hN hD hS hA (s_W_M X a d d2 B o g dm M) (f_W_M X a d d2 B o g dm M R2.2) (ci := 5) rfl rfl rfl (show (kc + 1) ≤ room_1.cells ∧ (ks + 6) ≤ room_1.slots from ⟨by omega, by omega⟩) rfl hl.1 rfl (Nat.le_of_ble_eq_true rfl) dL_law_667 (fun H locs hP hD hS => ?_)
  refine lv_istore (pc := 670) (lv' := [(6, .int R2.1), (5, .int 1), (0, .ref b), (1, .ref a), (2, .ref (dm 0)), (3, .ref o), (4, .int u)]) hx hb dL_law_670 hl (by decide) rfl (fun ls hl => ?_)
  refine lv_aload_n (pc := 672) hx hb dL_law_672 rfl (lv_at hl 4 rfl) ?_
  refine z_cpI (pc := 673) S (m_X5_thrown l X dm R2.2 rfl) (cwV 0 hts gL_law_X5_thrown rfl rfl rfl hdX5_thrown ⟨Nat.le_of_ble_eq_true rfl, Nat.le_of_ble_eq_true rfl⟩) hP hK hN (s_W_M X a d d2 B o g dm R2.2) (ci := 5) rfl rfl rfl (show (kc + 1) ≤ room_1.cells ∧ (ks + 6) ≤ room_1.slots from ⟨by omega, by omega⟩) rfl hl.1 rfl (Nat.le_of_ble_eq_true rfl) dL_law_673 ?_
  refine lv_iload (pc := 676) hx hb dL_law_676 (lv_at hl 1 rfl) ?_
  refine lv_icmp_eq (pc := 678) (tgt := 683) hx hb dL_law_678 (by decide) (fun _ => ?_) (fun c_ => absurd h3 c_)
  refine lv_iload (pc := 683) hx hb dL_law_683 (lv_at hl 1 rfl) ?_
  refine lv_if_ne (pc := 685) (tgt := 700) hx hb dL_law_685 (by decide) (fun _ => ?_) (fun c_ => absurd c_ (by decide))
  refine lv_goto (pc := 700) (tgt := 1905) hx hb dL_law_700 (by decide) ?_
  refine W.widen (k := kc + 20) (n := ks + 200) (by omega) (by omega) ?_
  exact kk H locs ls hP hD hS (lv_sub hl [2, 3, 4, 5, 6] rfl)
set_option maxHeartbeats 4000000 in
set_option maxRecDepth 100000 in
theorem lc_putUp_t1 {p : Program} {l : Launch} {e : Env} {s : State} {m : MethodId} {below : List Frame} {meth : Method} {c : Code} {X : z_X} {b L : Nat} {xs : Nat → Int32} (C : z_LC p l s m meth c X b L xs) {a : Nat} {d d2 : Nat → Nat} {B : z_B} {o : Nat} {g : Nat → Int64} {dm : Nat → Nat} {M : z_M} {H : Heap} {locs : List Loc} {ls : Array Slot} {Q : State → Prop} {u : Int32} (kc ks : Nat) (hk : kc + 20 ≤ room_1.cells ∧ ks + 200 ≤ room_1.slots) (i : Nat) (hu : u = nI i) (hi : i + 3 < L) (hP : va_P X.1 vwCl (z_wLw X a d d2 B o g dm M) H) (hD : va_D (fun q : Nat => s.heap.size ≤ q) (z_wLw X a d d2 B o g dm M)) (hS : va_S (fun q : Nat => s.heap.size ≤ q) s.heap H locs) (hl : lv_has ls 9 [(0, .ref b), (1, .ref a), (2, .ref (dm 0)), (3, .ref o), (4, .int u)]) (hf1 : x_X4_putUp B (xs (i + 1)) = some 1) {R2 : (Int32 × z_M)} (hf2 : f_X5_putUp M (xs (i + 1)) = some R2) (h3 : R2.2.1 0 = 2) (kk : ∀ (H : Heap) (locs : List Loc) (ls : Array Slot), va_P X.1 vwCl (z_wLw X a d d2 B o g dm R2.2) H → va_D (fun q : Nat => s.heap.size ≤ q) (z_wLw X a d d2 B o g dm R2.2) → va_S (fun q : Nat => s.heap.size ≤ q) s.heap H locs → lv_has ls 9 [(0, .ref b), (1, .ref a), (2, .ref (dm 0)), (3, .ref o), (4, .int u)] → W p l e room_1 s m #[Value.ref b] below meth c H locs (kc + 20) (ks + 200) Q (F0 m 1905 ls [])) : W p l e room_1 s m #[Value.ref b] below meth c H locs kc ks Q (F0 m 647 ls []) := by
  obtain ⟨hx, hb, hml, hown, hts, hK, hN, hX, hbl, hT0, hl0, hL⟩ := C
  have hA : ∀ q : Nat, s.heap.size ≤ q → (fun q : Nat => s.heap.size ≤ q) q := fun _ h => h
  have hbA : ¬ (fun q : Nat => s.heap.size ≤ q) b := Nat.not_le.mpr hbl
  have S : CallFix p m c cL_law 9 s #[Value.ref b] wsL_law RL := ⟨hx, hb, hml, hown, hts⟩
  refine lv_aload_n (pc := 647) hx hb dL_law_647 rfl (lv_at hl 1 rfl) ?_
  refine lv_aload_n (pc := 648) hx hb dL_law_648 rfl (lv_at hl 0 rfl) ?_
  refine lv_iload (pc := 649) hx hb dL_law_649 (lv_at hl 4 rfl) ?_
  refine lv_iconst (v := 1) (pc := 651) hx hb dL_law_651 (by decide) ?_
  refine lv_iadd (pc := 652) hx hb dL_law_652 ?_
  refine z_sld (pc := 653) hx hb hX hbl hbA hS hL (i + 1) (z_oi i 1 hu 1 rfl) (by omega) dL_law_653 ?_
  refine lv_aload_n (pc := 654) hx hb dL_law_654 rfl (lv_at hl 3 rfl) ?_
  have hT : z_T z_no s H := (hT0.kept (fun q h1 h2 => hS.2.1 q h1 h2)).narrow (fun q h => h.elim)
  refine z_cweI (pc := 655) S (wt_putUp_1 l hl0 X a d d2 B o g (xs (i + 1)) hf1) (vx_cwSW 3 hts gL_law_L_putUp rfl rfl rfl hdL_putUp ⟨Nat.le_of_ble_eq_true rfl, Nat.le_of_ble_eq_true rfl⟩) hP hK hN hT hD hS hA (s_W_BO X a d d2 B o g dm M) (f_W_BO X a d d2 B o g dm M B g) (show kc + 1 ≤ room_1.cells ∧ ks + 6 ≤ room_1.slots from ⟨by omega, by omega⟩) rfl hl.1 rfl (Nat.le_of_ble_eq_true rfl) dL_law_655 (fun H locs hP hD hS => ?_)
  refine lv_istore (pc := 658) (lv' := [(5, .int 2), (0, .ref b), (1, .ref a), (2, .ref (dm 0)), (3, .ref o), (4, .int u)]) hx hb dL_law_658 hl (by decide) rfl (fun ls hl => ?_)
  refine lv_aload_n (pc := 660) hx hb dL_law_660 rfl (lv_at hl 3 rfl) ?_
  refine lv_aload_n (pc := 661) hx hb dL_law_661 rfl (lv_at hl 1 rfl) ?_
  refine lv_iload (pc := 662) hx hb dL_law_662 (lv_at hl 5 rfl) ?_
  refine lv_iconst (v := 1) (pc := 664) hx hb dL_law_664 (by decide) ?_
  refine lv_iadd (pc := 665) hx hb dL_law_665 ?_
  refine z_sld (pc := 666) hx hb hX hbl hbA hS hL (i + 1) (z_oi i 1 hu 1 rfl) (by omega) dL_law_666 ?_
  refine z_cmI (pc := 667) (W1 := (z_wLw X a d d2 B o g dm R2.2)) S (m_X5_putUp l X dm M (xs (i + 1)) hf2) (cwV 1 hts gL_law_X5_putUp rfl rfl rfl hdX5_putUp ⟨Nat.le_of_ble_eq_true rfl, Nat.le_of_ble_eq_true rfl⟩) hP hK hN hD hS hA (s_W_M X a d d2 B o g dm M) (f_W_M X a d d2 B o g dm M R2.2) (ci := 5) rfl rfl rfl (show (kc + 1) ≤ room_1.cells ∧ (ks + 6) ≤ room_1.slots from ⟨by omega, by omega⟩) rfl hl.1 rfl (Nat.le_of_ble_eq_true rfl) dL_law_667 (fun H locs hP hD hS => ?_)
  refine lv_istore (pc := 670) (lv' := [(6, .int R2.1), (5, .int 2), (0, .ref b), (1, .ref a), (2, .ref (dm 0)), (3, .ref o), (4, .int u)]) hx hb dL_law_670 hl (by decide) rfl (fun ls hl => ?_)
  refine lv_aload_n (pc := 672) hx hb dL_law_672 rfl (lv_at hl 4 rfl) ?_
  refine z_cpI (pc := 673) S (m_X5_thrown l X dm R2.2 rfl) (cwV 0 hts gL_law_X5_thrown rfl rfl rfl hdX5_thrown ⟨Nat.le_of_ble_eq_true rfl, Nat.le_of_ble_eq_true rfl⟩) hP hK hN (s_W_M X a d d2 B o g dm R2.2) (ci := 5) rfl rfl rfl (show (kc + 1) ≤ room_1.cells ∧ (ks + 6) ≤ room_1.slots from ⟨by omega, by omega⟩) rfl hl.1 rfl (Nat.le_of_ble_eq_true rfl) dL_law_673 ?_
  refine lv_iload (pc := 676) hx hb dL_law_676 (lv_at hl 1 rfl) ?_
  refine lv_icmp_eq (pc := 678) (tgt := 683) hx hb dL_law_678 (by decide) (fun _ => ?_) (fun c_ => absurd h3 c_)
  refine lv_iload (pc := 683) hx hb dL_law_683 (lv_at hl 1 rfl) ?_
  refine lv_if_ne (pc := 685) (tgt := 700) hx hb dL_law_685 (by decide) (fun _ => ?_) (fun c_ => absurd c_ (by decide))
  refine lv_goto (pc := 700) (tgt := 1905) hx hb dL_law_700 (by decide) ?_
  refine W.widen (k := kc + 20) (n := ks + 200) (by omega) (by omega) ?_
  exact kk H locs ls hP hD hS (lv_sub hl [2, 3, 4, 5, 6] rfl)
set_option maxHeartbeats 4000000 in
set_option maxRecDepth 100000 in
theorem lc_pass {p : Program} {l : Launch} {e : Env} {s : State} {m : MethodId} {below : List Frame} {meth : Method} {c : Code} {X : z_X} {b L : Nat} {xs : Nat → Int32} (C : z_LC p l s m meth c X b L xs) {a : Nat} {d d2 : Nat → Nat} {B : z_B} {o : Nat} {g : Nat → Int64} {dm : Nat → Nat} {M : z_M} {H : Heap} {locs : List Loc} {ls : Array Slot} {Q : State → Prop} {u : Int32} (kc ks : Nat) (hk : kc + 20 ≤ room_1.cells ∧ ks + 200 ≤ room_1.slots) (i : Nat) (hu : u = nI i) (hi : i + 3 < L) (hP : va_P X.1 vwCl (z_wLw X a d d2 B o g dm M) H) (hD : va_D (fun q : Nat => s.heap.size ≤ q) (z_wLw X a d d2 B o g dm M)) (hS : va_S (fun q : Nat => s.heap.size ≤ q) s.heap H locs) (hl : lv_has ls 9 [(0, .ref b), (1, .ref a), (2, .ref (dm 0)), (3, .ref o), (4, .int u)]) {R1 : (Int32 × z_B)} (hf1 : f_X4_pass B (xs (i + 1)) = some R1) {R2 : (Int32 × z_M)} (hf2 : f_X5_pass M (xs (i + 1)) = some R2) (h3 : R2.2.1 0 = 0) (h4 : R1.1 = R2.1) (kk : ∀ (H : Heap) (locs : List Loc) (ls : Array Slot), va_P X.1 vwCl (z_wLw X a d d2 R1.2 o (vp_updL g 0 (R1.1).toInt64) dm R2.2) H → va_D (fun q : Nat => s.heap.size ≤ q) (z_wLw X a d d2 R1.2 o (vp_updL g 0 (R1.1).toInt64) dm R2.2) → va_S (fun q : Nat => s.heap.size ≤ q) s.heap H locs → lv_has ls 9 [(0, .ref b), (1, .ref a), (2, .ref (dm 0)), (3, .ref o), (4, .int u)] → W p l e room_1 s m #[Value.ref b] below meth c H locs (kc + 20) (ks + 200) Q (F0 m 1905 ls [])) : W p l e room_1 s m #[Value.ref b] below meth c H locs kc ks Q (F0 m 703 ls []) := by
  obtain ⟨hx, hb, hml, hown, hts, hK, hN, hX, hbl, hT0, hl0, hL⟩ := C
  have hA : ∀ q : Nat, s.heap.size ≤ q → (fun q : Nat => s.heap.size ≤ q) q := fun _ h => h
  have hbA : ¬ (fun q : Nat => s.heap.size ≤ q) b := Nat.not_le.mpr hbl
  have S : CallFix p m c cL_law 9 s #[Value.ref b] wsL_law RL := ⟨hx, hb, hml, hown, hts⟩
  refine lv_aload_n (pc := 703) hx hb dL_law_703 rfl (lv_at hl 1 rfl) ?_
  refine lv_aload_n (pc := 704) hx hb dL_law_704 rfl (lv_at hl 0 rfl) ?_
  refine lv_iload (pc := 705) hx hb dL_law_705 (lv_at hl 4 rfl) ?_
  refine lv_iconst (v := 1) (pc := 707) hx hb dL_law_707 (by decide) ?_
  refine lv_iadd (pc := 708) hx hb dL_law_708 ?_
  refine z_sld (pc := 709) hx hb hX hbl hbA hS hL (i + 1) (z_oi i 1 hu 1 rfl) (by omega) dL_law_709 ?_
  refine lv_aload_n (pc := 710) hx hb dL_law_710 rfl (lv_at hl 3 rfl) ?_
  refine z_cwsI (pc := 711) (W1 := (z_wLw X a d d2 R1.2 o (vp_updL g 0 (R1.1).toInt64) dm M)) S (wn_pass l X a d d2 B o g (xs (i + 1)) hf1) (vx_cwSW 3 hts gL_law_L_pass rfl rfl rfl hdL_pass ⟨Nat.le_of_ble_eq_true rfl, Nat.le_of_ble_eq_true rfl⟩) hP hK hN hD hS hA (s_W_BO X a d d2 B o g dm M) (f_W_BO X a d d2 B o g dm M R1.2 (vp_updL g 0 (R1.1).toInt64)) (show kc ≤ room_1.cells ∧ ks ≤ room_1.slots from ⟨by omega, by omega⟩) rfl hl.1 rfl (Nat.le_of_ble_eq_true rfl) dL_law_711 (fun H locs hP hD hS => ?_)
  refine lv_istore (pc := 714) (lv' := [(5, .int 0), (0, .ref b), (1, .ref a), (2, .ref (dm 0)), (3, .ref o), (4, .int u)]) hx hb dL_law_714 hl (by decide) rfl (fun ls hl => ?_)
  refine lv_aload_n (pc := 716) hx hb dL_law_716 rfl (lv_at hl 3 rfl) ?_
  refine lv_aload_n (pc := 717) hx hb dL_law_717 rfl (lv_at hl 1 rfl) ?_
  refine lv_iload (pc := 718) hx hb dL_law_718 (lv_at hl 5 rfl) ?_
  refine lv_iconst (v := 1) (pc := 720) hx hb dL_law_720 (by decide) ?_
  refine lv_iadd (pc := 721) hx hb dL_law_721 ?_
  refine z_sld (pc := 722) hx hb hX hbl hbA hS hL (i + 1) (z_oi i 1 hu 1 rfl) (by omega) dL_law_722 ?_
  refine z_cmI (pc := 723) (W1 := (z_wLw X a d d2 R1.2 o (vp_updL g 0 (R1.1).toInt64) dm R2.2)) S (m_X5_pass l X dm M (xs (i + 1)) hf2) (cwV 1 hts gL_law_X5_pass rfl rfl rfl hdX5_pass ⟨Nat.le_of_ble_eq_true rfl, Nat.le_of_ble_eq_true rfl⟩) hP hK hN hD hS hA (s_W_M X a d d2 R1.2 o (vp_updL g 0 (R1.1).toInt64) dm M) (f_W_M X a d d2 R1.2 o (vp_updL g 0 (R1.1).toInt64) dm M R2.2) (ci := 5) rfl rfl rfl (show kc ≤ room_1.cells ∧ ks ≤ room_1.slots from ⟨by omega, by omega⟩) rfl hl.1 rfl (Nat.le_of_ble_eq_true rfl) dL_law_723 (fun H locs hP hD hS => ?_)
  refine lv_istore (pc := 726) (lv' := [(6, .int R2.1), (5, .int 0), (0, .ref b), (1, .ref a), (2, .ref (dm 0)), (3, .ref o), (4, .int u)]) hx hb dL_law_726 hl (by decide) rfl (fun ls hl => ?_)
  refine lv_aload_n (pc := 728) hx hb dL_law_728 rfl (lv_at hl 4 rfl) ?_
  refine z_cpI (pc := 729) S (m_X5_thrown l X dm R2.2 rfl) (cwV 0 hts gL_law_X5_thrown rfl rfl rfl hdX5_thrown ⟨Nat.le_of_ble_eq_true rfl, Nat.le_of_ble_eq_true rfl⟩) hP hK hN (s_W_M X a d d2 R1.2 o (vp_updL g 0 (R1.1).toInt64) dm R2.2) (ci := 5) rfl rfl rfl (show kc ≤ room_1.cells ∧ ks ≤ room_1.slots from ⟨by omega, by omega⟩) rfl hl.1 rfl (Nat.le_of_ble_eq_true rfl) dL_law_729 ?_
  refine lv_iload (pc := 732) hx hb dL_law_732 (lv_at hl 1 rfl) ?_
  refine lv_icmp_eq (pc := 734) (tgt := 739) hx hb dL_law_734 (by decide) (fun _ => ?_) (fun c_ => absurd h3 c_)
  refine lv_iload (pc := 739) hx hb dL_law_739 (lv_at hl 1 rfl) ?_
  refine lv_if_ne (pc := 741) (tgt := 756) hx hb dL_law_741 (by decide) (fun c_ => absurd rfl c_) (fun _ => ?_)
  refine lv_aload_n (pc := 744) hx hb dL_law_744 rfl (lv_at hl 5 rfl) ?_
  refine lv_iconst (v := 0) (pc := 745) hx hb dL_law_745 (by decide) ?_
  refine va_lald (pc := 746) hx hb hK hP 53 2 rfl rfl z_in01 dL_law_746 ?_
  refine lv_iload (pc := 747) hx hb dL_law_747 (lv_at hl 0 rfl) ?_
  refine lv_i2l (v := (R2.1).toInt64) (pc := 749) hx hb dL_law_749 rfl ?_
  refine W.lcmp (pc := 750) hx hb dL_law_750 ?_
  refine lv_if_eq (pc := 751) (tgt := 756) hx hb dL_law_751 (by decide) (fun _ => ?_) (fun c_ => absurd (show lg_cmp _ _ = 0 from by rw [← h4]; exact z_cmp0 _) c_)
  refine lv_goto (pc := 756) (tgt := 1905) hx hb dL_law_756 (by decide) ?_
  refine W.widen (k := kc + 20) (n := ks + 200) (by omega) (by omega) ?_
  exact kk H locs ls hP hD hS (lv_sub hl [2, 3, 4, 5, 6] rfl)
set_option maxHeartbeats 4000000 in
set_option maxRecDepth 100000 in
theorem lc_pass_t0 {p : Program} {l : Launch} {e : Env} {s : State} {m : MethodId} {below : List Frame} {meth : Method} {c : Code} {X : z_X} {b L : Nat} {xs : Nat → Int32} (C : z_LC p l s m meth c X b L xs) {a : Nat} {d d2 : Nat → Nat} {B : z_B} {o : Nat} {g : Nat → Int64} {dm : Nat → Nat} {M : z_M} {H : Heap} {locs : List Loc} {ls : Array Slot} {Q : State → Prop} {u : Int32} (kc ks : Nat) (hk : kc + 20 ≤ room_1.cells ∧ ks + 200 ≤ room_1.slots) (i : Nat) (hu : u = nI i) (hi : i + 3 < L) (hP : va_P X.1 vwCl (z_wLw X a d d2 B o g dm M) H) (hD : va_D (fun q : Nat => s.heap.size ≤ q) (z_wLw X a d d2 B o g dm M)) (hS : va_S (fun q : Nat => s.heap.size ≤ q) s.heap H locs) (hl : lv_has ls 9 [(0, .ref b), (1, .ref a), (2, .ref (dm 0)), (3, .ref o), (4, .int u)]) (hf1 : x_X4_pass B (xs (i + 1)) = some 0) {R2 : (Int32 × z_M)} (hf2 : f_X5_pass M (xs (i + 1)) = some R2) (h3 : R2.2.1 0 = 1) (kk : ∀ (H : Heap) (locs : List Loc) (ls : Array Slot), va_P X.1 vwCl (z_wLw X a d d2 B o g dm R2.2) H → va_D (fun q : Nat => s.heap.size ≤ q) (z_wLw X a d d2 B o g dm R2.2) → va_S (fun q : Nat => s.heap.size ≤ q) s.heap H locs → lv_has ls 9 [(0, .ref b), (1, .ref a), (2, .ref (dm 0)), (3, .ref o), (4, .int u)] → W p l e room_1 s m #[Value.ref b] below meth c H locs (kc + 20) (ks + 200) Q (F0 m 1905 ls [])) : W p l e room_1 s m #[Value.ref b] below meth c H locs kc ks Q (F0 m 703 ls []) := by
  obtain ⟨hx, hb, hml, hown, hts, hK, hN, hX, hbl, hT0, hl0, hL⟩ := C
  have hA : ∀ q : Nat, s.heap.size ≤ q → (fun q : Nat => s.heap.size ≤ q) q := fun _ h => h
  have hbA : ¬ (fun q : Nat => s.heap.size ≤ q) b := Nat.not_le.mpr hbl
  have S : CallFix p m c cL_law 9 s #[Value.ref b] wsL_law RL := ⟨hx, hb, hml, hown, hts⟩
  refine lv_aload_n (pc := 703) hx hb dL_law_703 rfl (lv_at hl 1 rfl) ?_
  refine lv_aload_n (pc := 704) hx hb dL_law_704 rfl (lv_at hl 0 rfl) ?_
  refine lv_iload (pc := 705) hx hb dL_law_705 (lv_at hl 4 rfl) ?_
  refine lv_iconst (v := 1) (pc := 707) hx hb dL_law_707 (by decide) ?_
  refine lv_iadd (pc := 708) hx hb dL_law_708 ?_
  refine z_sld (pc := 709) hx hb hX hbl hbA hS hL (i + 1) (z_oi i 1 hu 1 rfl) (by omega) dL_law_709 ?_
  refine lv_aload_n (pc := 710) hx hb dL_law_710 rfl (lv_at hl 3 rfl) ?_
  have hT : z_T z_no s H := (hT0.kept (fun q h1 h2 => hS.2.1 q h1 h2)).narrow (fun q h => h.elim)
  refine z_cweI (pc := 711) S (wt_pass_0 l hl0 X a d d2 B o g (xs (i + 1)) hf1) (vx_cwSW 3 hts gL_law_L_pass rfl rfl rfl hdL_pass ⟨Nat.le_of_ble_eq_true rfl, Nat.le_of_ble_eq_true rfl⟩) hP hK hN hT hD hS hA (s_W_BO X a d d2 B o g dm M) (f_W_BO X a d d2 B o g dm M B g) (show kc + 1 ≤ room_1.cells ∧ ks + 6 ≤ room_1.slots from ⟨by omega, by omega⟩) rfl hl.1 rfl (Nat.le_of_ble_eq_true rfl) dL_law_711 (fun H locs hP hD hS => ?_)
  refine lv_istore (pc := 714) (lv' := [(5, .int 1), (0, .ref b), (1, .ref a), (2, .ref (dm 0)), (3, .ref o), (4, .int u)]) hx hb dL_law_714 hl (by decide) rfl (fun ls hl => ?_)
  refine lv_aload_n (pc := 716) hx hb dL_law_716 rfl (lv_at hl 3 rfl) ?_
  refine lv_aload_n (pc := 717) hx hb dL_law_717 rfl (lv_at hl 1 rfl) ?_
  refine lv_iload (pc := 718) hx hb dL_law_718 (lv_at hl 5 rfl) ?_
  refine lv_iconst (v := 1) (pc := 720) hx hb dL_law_720 (by decide) ?_
  refine lv_iadd (pc := 721) hx hb dL_law_721 ?_
  refine z_sld (pc := 722) hx hb hX hbl hbA hS hL (i + 1) (z_oi i 1 hu 1 rfl) (by omega) dL_law_722 ?_
  refine z_cmI (pc := 723) (W1 := (z_wLw X a d d2 B o g dm R2.2)) S (m_X5_pass l X dm M (xs (i + 1)) hf2) (cwV 1 hts gL_law_X5_pass rfl rfl rfl hdX5_pass ⟨Nat.le_of_ble_eq_true rfl, Nat.le_of_ble_eq_true rfl⟩) hP hK hN hD hS hA (s_W_M X a d d2 B o g dm M) (f_W_M X a d d2 B o g dm M R2.2) (ci := 5) rfl rfl rfl (show (kc + 1) ≤ room_1.cells ∧ (ks + 6) ≤ room_1.slots from ⟨by omega, by omega⟩) rfl hl.1 rfl (Nat.le_of_ble_eq_true rfl) dL_law_723 (fun H locs hP hD hS => ?_)
  refine lv_istore (pc := 726) (lv' := [(6, .int R2.1), (5, .int 1), (0, .ref b), (1, .ref a), (2, .ref (dm 0)), (3, .ref o), (4, .int u)]) hx hb dL_law_726 hl (by decide) rfl (fun ls hl => ?_)
  refine lv_aload_n (pc := 728) hx hb dL_law_728 rfl (lv_at hl 4 rfl) ?_
  refine z_cpI (pc := 729) S (m_X5_thrown l X dm R2.2 rfl) (cwV 0 hts gL_law_X5_thrown rfl rfl rfl hdX5_thrown ⟨Nat.le_of_ble_eq_true rfl, Nat.le_of_ble_eq_true rfl⟩) hP hK hN (s_W_M X a d d2 B o g dm R2.2) (ci := 5) rfl rfl rfl (show (kc + 1) ≤ room_1.cells ∧ (ks + 6) ≤ room_1.slots from ⟨by omega, by omega⟩) rfl hl.1 rfl (Nat.le_of_ble_eq_true rfl) dL_law_729 ?_
  refine lv_iload (pc := 732) hx hb dL_law_732 (lv_at hl 1 rfl) ?_
  refine lv_icmp_eq (pc := 734) (tgt := 739) hx hb dL_law_734 (by decide) (fun _ => ?_) (fun c_ => absurd h3 c_)
  refine lv_iload (pc := 739) hx hb dL_law_739 (lv_at hl 1 rfl) ?_
  refine lv_if_ne (pc := 741) (tgt := 756) hx hb dL_law_741 (by decide) (fun _ => ?_) (fun c_ => absurd c_ (by decide))
  refine lv_goto (pc := 756) (tgt := 1905) hx hb dL_law_756 (by decide) ?_
  refine W.widen (k := kc + 20) (n := ks + 200) (by omega) (by omega) ?_
  exact kk H locs ls hP hD hS (lv_sub hl [2, 3, 4, 5, 6] rfl)
set_option maxHeartbeats 4000000 in
set_option maxRecDepth 100000 in
theorem lc_minute {p : Program} {l : Launch} {e : Env} {s : State} {m : MethodId} {below : List Frame} {meth : Method} {c : Code} {X : z_X} {b L : Nat} {xs : Nat → Int32} (C : z_LC p l s m meth c X b L xs) {a : Nat} {d d2 : Nat → Nat} {B : z_B} {o : Nat} {g : Nat → Int64} {dm : Nat → Nat} {M : z_M} {H : Heap} {locs : List Loc} {ls : Array Slot} {Q : State → Prop} {u : Int32} (kc ks : Nat) (hk : kc + 20 ≤ room_1.cells ∧ ks + 200 ≤ room_1.slots) (i : Nat) (hu : u = nI i) (hi : i + 3 < L) (hP : va_P X.1 vwCl (z_wLw X a d d2 B o g dm M) H) (hD : va_D (fun q : Nat => s.heap.size ≤ q) (z_wLw X a d d2 B o g dm M)) (hS : va_S (fun q : Nat => s.heap.size ≤ q) s.heap H locs) (hl : lv_has ls 9 [(0, .ref b), (1, .ref a), (2, .ref (dm 0)), (3, .ref o), (4, .int u)]) {R2 : (Int32 × z_M)} (hf2 : f_X5_minute M = some R2) (h4 : (f_X4_minute B) = R2.1) (kk : ∀ (H : Heap) (locs : List Loc) (ls : Array Slot), va_P X.1 vwCl (z_wLw X a d d2 B o g dm R2.2) H → va_D (fun q : Nat => s.heap.size ≤ q) (z_wLw X a d d2 B o g dm R2.2) → va_S (fun q : Nat => s.heap.size ≤ q) s.heap H locs → lv_has ls 9 [(0, .ref b), (1, .ref a), (2, .ref (dm 0)), (3, .ref o), (4, .int u)] → W p l e room_1 s m #[Value.ref b] below meth c H locs (kc + 20) (ks + 200) Q (F0 m 1905 ls [])) : W p l e room_1 s m #[Value.ref b] below meth c H locs kc ks Q (F0 m 759 ls []) := by
  obtain ⟨hx, hb, hml, hown, hts, hK, hN, hX, hbl, hT0, hl0, hL⟩ := C
  have hA : ∀ q : Nat, s.heap.size ≤ q → (fun q : Nat => s.heap.size ≤ q) q := fun _ h => h
  have hbA : ¬ (fun q : Nat => s.heap.size ≤ q) b := Nat.not_le.mpr hbl
  have S : CallFix p m c cL_law 9 s #[Value.ref b] wsL_law RL := ⟨hx, hb, hml, hown, hts⟩
  refine lv_aload_n (pc := 759) hx hb dL_law_759 rfl (lv_at hl 1 rfl) ?_
  refine z_cpI (pc := 760) S (m_X4_minute l X a d d2 B rfl) (cwV 0 hts gL_law_X4_minute rfl rfl rfl hdX4_minute ⟨Nat.le_of_ble_eq_true rfl, Nat.le_of_ble_eq_true rfl⟩) hP hK hN (s_W_B X a d d2 B o g dm M) (ci := 4) rfl rfl rfl (show kc ≤ room_1.cells ∧ ks ≤ room_1.slots from ⟨by omega, by omega⟩) rfl hl.1 rfl (Nat.le_of_ble_eq_true rfl) dL_law_760 ?_
  refine lv_aload_n (pc := 763) hx hb dL_law_763 rfl (lv_at hl 2 rfl) ?_
  refine z_cmI (pc := 764) (W1 := (z_wLw X a d d2 B o g dm R2.2)) S (m_X5_minute l X dm M hf2) (cwV 0 hts gL_law_X5_minute rfl rfl rfl hdX5_minute ⟨Nat.le_of_ble_eq_true rfl, Nat.le_of_ble_eq_true rfl⟩) hP hK hN hD hS hA (s_W_M X a d d2 B o g dm M) (f_W_M X a d d2 B o g dm M R2.2) (ci := 5) rfl rfl rfl (show kc ≤ room_1.cells ∧ ks ≤ room_1.slots from ⟨by omega, by omega⟩) rfl hl.1 rfl (Nat.le_of_ble_eq_true rfl) dL_law_764 (fun H locs hP hD hS => ?_)
  refine lv_icmp_eq (pc := 767) (tgt := 1905) hx hb dL_law_767 (by decide) (fun _ => ?_) (fun c_ => absurd h4 c_)
  refine W.widen (k := kc + 20) (n := ks + 200) (by omega) (by omega) ?_
  exact kk H locs ls hP hD hS (lv_sub hl [0, 1, 2, 3, 4] rfl)
set_option maxHeartbeats 4000000 in
set_option maxRecDepth 100000 in
theorem lc_rooms {p : Program} {l : Launch} {e : Env} {s : State} {m : MethodId} {below : List Frame} {meth : Method} {c : Code} {X : z_X} {b L : Nat} {xs : Nat → Int32} (C : z_LC p l s m meth c X b L xs) {a : Nat} {d d2 : Nat → Nat} {B : z_B} {o : Nat} {g : Nat → Int64} {dm : Nat → Nat} {M : z_M} {H : Heap} {locs : List Loc} {ls : Array Slot} {Q : State → Prop} {u : Int32} (kc ks : Nat) (hk : kc + 20 ≤ room_1.cells ∧ ks + 200 ≤ room_1.slots) (i : Nat) (hu : u = nI i) (hi : i + 3 < L) (hP : va_P X.1 vwCl (z_wLw X a d d2 B o g dm M) H) (hD : va_D (fun q : Nat => s.heap.size ≤ q) (z_wLw X a d d2 B o g dm M)) (hS : va_S (fun q : Nat => s.heap.size ≤ q) s.heap H locs) (hl : lv_has ls 9 [(0, .ref b), (1, .ref a), (2, .ref (dm 0)), (3, .ref o), (4, .int u)]) (h4 : (f_X4_rooms B) = (f_X5_rooms M).1) (kk : ∀ (H : Heap) (locs : List Loc) (ls : Array Slot), va_P X.1 vwCl (z_wLw X a d d2 B o g dm (f_X5_rooms M).2) H → va_D (fun q : Nat => s.heap.size ≤ q) (z_wLw X a d d2 B o g dm (f_X5_rooms M).2) → va_S (fun q : Nat => s.heap.size ≤ q) s.heap H locs → lv_has ls 9 [(0, .ref b), (1, .ref a), (2, .ref (dm 0)), (3, .ref o), (4, .int u)] → W p l e room_1 s m #[Value.ref b] below meth c H locs (kc + 20) (ks + 200) Q (F0 m 1905 ls [])) : W p l e room_1 s m #[Value.ref b] below meth c H locs kc ks Q (F0 m 772 ls []) := by
  obtain ⟨hx, hb, hml, hown, hts, hK, hN, hX, hbl, hT0, hl0, hL⟩ := C
  have hA : ∀ q : Nat, s.heap.size ≤ q → (fun q : Nat => s.heap.size ≤ q) q := fun _ h => h
  have hbA : ¬ (fun q : Nat => s.heap.size ≤ q) b := Nat.not_le.mpr hbl
  have S : CallFix p m c cL_law 9 s #[Value.ref b] wsL_law RL := ⟨hx, hb, hml, hown, hts⟩
  refine lv_aload_n (pc := 772) hx hb dL_law_772 rfl (lv_at hl 1 rfl) ?_
  refine z_cpI (pc := 773) S (m_X4_rooms l X a d d2 B rfl) (cwV 0 hts gL_law_X4_rooms rfl rfl rfl hdX4_rooms ⟨Nat.le_of_ble_eq_true rfl, Nat.le_of_ble_eq_true rfl⟩) hP hK hN (s_W_B X a d d2 B o g dm M) (ci := 4) rfl rfl rfl (show kc ≤ room_1.cells ∧ ks ≤ room_1.slots from ⟨by omega, by omega⟩) rfl hl.1 rfl (Nat.le_of_ble_eq_true rfl) dL_law_773 ?_
  refine lv_aload_n (pc := 776) hx hb dL_law_776 rfl (lv_at hl 2 rfl) ?_
  refine z_cmI (pc := 777) (W1 := (z_wLw X a d d2 B o g dm (f_X5_rooms M).2)) S (m_X5_rooms l X dm M rfl) (cwV 0 hts gL_law_X5_rooms rfl rfl rfl hdX5_rooms ⟨Nat.le_of_ble_eq_true rfl, Nat.le_of_ble_eq_true rfl⟩) hP hK hN hD hS hA (s_W_M X a d d2 B o g dm M) (f_W_M X a d d2 B o g dm M (f_X5_rooms M).2) (ci := 5) rfl rfl rfl (show kc ≤ room_1.cells ∧ ks ≤ room_1.slots from ⟨by omega, by omega⟩) rfl hl.1 rfl (Nat.le_of_ble_eq_true rfl) dL_law_777 (fun H locs hP hD hS => ?_)
  refine lv_icmp_eq (pc := 780) (tgt := 1905) hx hb dL_law_780 (by decide) (fun _ => ?_) (fun c_ => absurd h4 c_)
  refine W.widen (k := kc + 20) (n := ks + 200) (by omega) (by omega) ?_
  exact kk H locs ls hP hD hS (lv_sub hl [0, 1, 2, 3, 4] rfl)
set_option maxHeartbeats 4000000 in
set_option maxRecDepth 100000 in
theorem lc_servants {p : Program} {l : Launch} {e : Env} {s : State} {m : MethodId} {below : List Frame} {meth : Method} {c : Code} {X : z_X} {b L : Nat} {xs : Nat → Int32} (C : z_LC p l s m meth c X b L xs) {a : Nat} {d d2 : Nat → Nat} {B : z_B} {o : Nat} {g : Nat → Int64} {dm : Nat → Nat} {M : z_M} {H : Heap} {locs : List Loc} {ls : Array Slot} {Q : State → Prop} {u : Int32} (kc ks : Nat) (hk : kc + 20 ≤ room_1.cells ∧ ks + 200 ≤ room_1.slots) (i : Nat) (hu : u = nI i) (hi : i + 3 < L) (hP : va_P X.1 vwCl (z_wLw X a d d2 B o g dm M) H) (hD : va_D (fun q : Nat => s.heap.size ≤ q) (z_wLw X a d d2 B o g dm M)) (hS : va_S (fun q : Nat => s.heap.size ≤ q) s.heap H locs) (hl : lv_has ls 9 [(0, .ref b), (1, .ref a), (2, .ref (dm 0)), (3, .ref o), (4, .int u)]) (h4 : (f_X4_servants B) = (f_X5_servants M).1) (kk : ∀ (H : Heap) (locs : List Loc) (ls : Array Slot), va_P X.1 vwCl (z_wLw X a d d2 B o g dm (f_X5_servants M).2) H → va_D (fun q : Nat => s.heap.size ≤ q) (z_wLw X a d d2 B o g dm (f_X5_servants M).2) → va_S (fun q : Nat => s.heap.size ≤ q) s.heap H locs → lv_has ls 9 [(0, .ref b), (1, .ref a), (2, .ref (dm 0)), (3, .ref o), (4, .int u)] → W p l e room_1 s m #[Value.ref b] below meth c H locs (kc + 20) (ks + 200) Q (F0 m 1905 ls [])) : W p l e room_1 s m #[Value.ref b] below meth c H locs kc ks Q (F0 m 785 ls []) := by
  obtain ⟨hx, hb, hml, hown, hts, hK, hN, hX, hbl, hT0, hl0, hL⟩ := C
  have hA : ∀ q : Nat, s.heap.size ≤ q → (fun q : Nat => s.heap.size ≤ q) q := fun _ h => h
  have hbA : ¬ (fun q : Nat => s.heap.size ≤ q) b := Nat.not_le.mpr hbl
  have S : CallFix p m c cL_law 9 s #[Value.ref b] wsL_law RL := ⟨hx, hb, hml, hown, hts⟩
  refine lv_aload_n (pc := 785) hx hb dL_law_785 rfl (lv_at hl 1 rfl) ?_
  refine z_cpI (pc := 786) S (m_X4_servants l X a d d2 B rfl) (cwV 0 hts gL_law_X4_servants rfl rfl rfl hdX4_servants ⟨Nat.le_of_ble_eq_true rfl, Nat.le_of_ble_eq_true rfl⟩) hP hK hN (s_W_B X a d d2 B o g dm M) (ci := 4) rfl rfl rfl (show kc ≤ room_1.cells ∧ ks ≤ room_1.slots from ⟨by omega, by omega⟩) rfl hl.1 rfl (Nat.le_of_ble_eq_true rfl) dL_law_786 ?_
  refine lv_aload_n (pc := 789) hx hb dL_law_789 rfl (lv_at hl 2 rfl) ?_
  refine z_cmI (pc := 790) (W1 := (z_wLw X a d d2 B o g dm (f_X5_servants M).2)) S (m_X5_servants l X dm M rfl) (cwV 0 hts gL_law_X5_servants rfl rfl rfl hdX5_servants ⟨Nat.le_of_ble_eq_true rfl, Nat.le_of_ble_eq_true rfl⟩) hP hK hN hD hS hA (s_W_M X a d d2 B o g dm M) (f_W_M X a d d2 B o g dm M (f_X5_servants M).2) (ci := 5) rfl rfl rfl (show kc ≤ room_1.cells ∧ ks ≤ room_1.slots from ⟨by omega, by omega⟩) rfl hl.1 rfl (Nat.le_of_ble_eq_true rfl) dL_law_790 (fun H locs hP hD hS => ?_)
  refine lv_icmp_eq (pc := 793) (tgt := 1905) hx hb dL_law_793 (by decide) (fun _ => ?_) (fun c_ => absurd h4 c_)
  refine W.widen (k := kc + 20) (n := ks + 200) (by omega) (by omega) ?_
  exact kk H locs ls hP hD hS (lv_sub hl [0, 1, 2, 3, 4] rfl)
set_option maxHeartbeats 4000000 in
set_option maxRecDepth 100000 in
theorem lc_charge {p : Program} {l : Launch} {e : Env} {s : State} {m : MethodId} {below : List Frame} {meth : Method} {c : Code} {X : z_X} {b L : Nat} {xs : Nat → Int32} (C : z_LC p l s m meth c X b L xs) {a : Nat} {d d2 : Nat → Nat} {B : z_B} {o : Nat} {g : Nat → Int64} {dm : Nat → Nat} {M : z_M} {H : Heap} {locs : List Loc} {ls : Array Slot} {Q : State → Prop} {u : Int32} (kc ks : Nat) (hk : kc + 20 ≤ room_1.cells ∧ ks + 200 ≤ room_1.slots) (i : Nat) (hu : u = nI i) (hi : i + 3 < L) (hP : va_P X.1 vwCl (z_wLw X a d d2 B o g dm M) H) (hD : va_D (fun q : Nat => s.heap.size ≤ q) (z_wLw X a d d2 B o g dm M)) (hS : va_S (fun q : Nat => s.heap.size ≤ q) s.heap H locs) (hl : lv_has ls 9 [(0, .ref b), (1, .ref a), (2, .ref (dm 0)), (3, .ref o), (4, .int u)]) {R2 : (Int32 × z_M)} (hf2 : f_X5_charge M = some R2) (h4 : (f_X4_charge B) = R2.1) (kk : ∀ (H : Heap) (locs : List Loc) (ls : Array Slot), va_P X.1 vwCl (z_wLw X a d d2 B o g dm R2.2) H → va_D (fun q : Nat => s.heap.size ≤ q) (z_wLw X a d d2 B o g dm R2.2) → va_S (fun q : Nat => s.heap.size ≤ q) s.heap H locs → lv_has ls 9 [(0, .ref b), (1, .ref a), (2, .ref (dm 0)), (3, .ref o), (4, .int u)] → W p l e room_1 s m #[Value.ref b] below meth c H locs (kc + 20) (ks + 200) Q (F0 m 1905 ls [])) : W p l e room_1 s m #[Value.ref b] below meth c H locs kc ks Q (F0 m 798 ls []) := by
  obtain ⟨hx, hb, hml, hown, hts, hK, hN, hX, hbl, hT0, hl0, hL⟩ := C
  have hA : ∀ q : Nat, s.heap.size ≤ q → (fun q : Nat => s.heap.size ≤ q) q := fun _ h => h
  have hbA : ¬ (fun q : Nat => s.heap.size ≤ q) b := Nat.not_le.mpr hbl
  have S : CallFix p m c cL_law 9 s #[Value.ref b] wsL_law RL := ⟨hx, hb, hml, hown, hts⟩
  refine lv_aload_n (pc := 798) hx hb dL_law_798 rfl (lv_at hl 1 rfl) ?_
  refine z_cpI (pc := 799) S (m_X4_charge l X a d d2 B rfl) (cwV 0 hts gL_law_X4_charge rfl rfl rfl hdX4_charge ⟨Nat.le_of_ble_eq_true rfl, Nat.le_of_ble_eq_true rfl⟩) hP hK hN (s_W_B X a d d2 B o g dm M) (ci := 4) rfl rfl rfl (show kc ≤ room_1.cells ∧ ks ≤ room_1.slots from ⟨by omega, by omega⟩) rfl hl.1 rfl (Nat.le_of_ble_eq_true rfl) dL_law_799 ?_
  refine lv_aload_n (pc := 802) hx hb dL_law_802 rfl (lv_at hl 2 rfl) ?_
  refine z_cmI (pc := 803) (W1 := (z_wLw X a d d2 B o g dm R2.2)) S (m_X5_charge l X dm M hf2) (cwV 0 hts gL_law_X5_charge rfl rfl rfl hdX5_charge ⟨Nat.le_of_ble_eq_true rfl, Nat.le_of_ble_eq_true rfl⟩) hP hK hN hD hS hA (s_W_M X a d d2 B o g dm M) (f_W_M X a d d2 B o g dm M R2.2) (ci := 5) rfl rfl rfl (show kc ≤ room_1.cells ∧ ks ≤ room_1.slots from ⟨by omega, by omega⟩) rfl hl.1 rfl (Nat.le_of_ble_eq_true rfl) dL_law_803 (fun H locs hP hD hS => ?_)
  refine lv_icmp_eq (pc := 806) (tgt := 1905) hx hb dL_law_806 (by decide) (fun _ => ?_) (fun c_ => absurd h4 c_)
  refine W.widen (k := kc + 20) (n := ks + 200) (by omega) (by omega) ?_
  exact kk H locs ls hP hD hS (lv_sub hl [0, 1, 2, 3, 4] rfl)
set_option maxHeartbeats 4000000 in
set_option maxRecDepth 100000 in
theorem lc_served {p : Program} {l : Launch} {e : Env} {s : State} {m : MethodId} {below : List Frame} {meth : Method} {c : Code} {X : z_X} {b L : Nat} {xs : Nat → Int32} (C : z_LC p l s m meth c X b L xs) {a : Nat} {d d2 : Nat → Nat} {B : z_B} {o : Nat} {g : Nat → Int64} {dm : Nat → Nat} {M : z_M} {H : Heap} {locs : List Loc} {ls : Array Slot} {Q : State → Prop} {u : Int32} (kc ks : Nat) (hk : kc + 20 ≤ room_1.cells ∧ ks + 200 ≤ room_1.slots) (i : Nat) (hu : u = nI i) (hi : i + 3 < L) (hP : va_P X.1 vwCl (z_wLw X a d d2 B o g dm M) H) (hD : va_D (fun q : Nat => s.heap.size ≤ q) (z_wLw X a d d2 B o g dm M)) (hS : va_S (fun q : Nat => s.heap.size ≤ q) s.heap H locs) (hl : lv_has ls 9 [(0, .ref b), (1, .ref a), (2, .ref (dm 0)), (3, .ref o), (4, .int u)]) {R2 : (Int32 × z_M)} (hf2 : f_X5_served M = some R2) (h4 : (f_X4_served B) = R2.1) (kk : ∀ (H : Heap) (locs : List Loc) (ls : Array Slot), va_P X.1 vwCl (z_wLw X a d d2 B o g dm R2.2) H → va_D (fun q : Nat => s.heap.size ≤ q) (z_wLw X a d d2 B o g dm R2.2) → va_S (fun q : Nat => s.heap.size ≤ q) s.heap H locs → lv_has ls 9 [(0, .ref b), (1, .ref a), (2, .ref (dm 0)), (3, .ref o), (4, .int u)] → W p l e room_1 s m #[Value.ref b] below meth c H locs (kc + 20) (ks + 200) Q (F0 m 1905 ls [])) : W p l e room_1 s m #[Value.ref b] below meth c H locs kc ks Q (F0 m 811 ls []) := by
  obtain ⟨hx, hb, hml, hown, hts, hK, hN, hX, hbl, hT0, hl0, hL⟩ := C
  have hA : ∀ q : Nat, s.heap.size ≤ q → (fun q : Nat => s.heap.size ≤ q) q := fun _ h => h
  have hbA : ¬ (fun q : Nat => s.heap.size ≤ q) b := Nat.not_le.mpr hbl
  have S : CallFix p m c cL_law 9 s #[Value.ref b] wsL_law RL := ⟨hx, hb, hml, hown, hts⟩
  refine lv_aload_n (pc := 811) hx hb dL_law_811 rfl (lv_at hl 1 rfl) ?_
  refine z_cpI (pc := 812) S (m_X4_served l X a d d2 B rfl) (cwV 0 hts gL_law_X4_served rfl rfl rfl hdX4_served ⟨Nat.le_of_ble_eq_true rfl, Nat.le_of_ble_eq_true rfl⟩) hP hK hN (s_W_B X a d d2 B o g dm M) (ci := 4) rfl rfl rfl (show kc ≤ room_1.cells ∧ ks ≤ room_1.slots from ⟨by omega, by omega⟩) rfl hl.1 rfl (Nat.le_of_ble_eq_true rfl) dL_law_812 ?_
  refine lv_aload_n (pc := 815) hx hb dL_law_815 rfl (lv_at hl 2 rfl) ?_
  refine z_cmI (pc := 816) (W1 := (z_wLw X a d d2 B o g dm R2.2)) S (m_X5_served l X dm M hf2) (cwV 0 hts gL_law_X5_served rfl rfl rfl hdX5_served ⟨Nat.le_of_ble_eq_true rfl, Nat.le_of_ble_eq_true rfl⟩) hP hK hN hD hS hA (s_W_M X a d d2 B o g dm M) (f_W_M X a d d2 B o g dm M R2.2) (ci := 5) rfl rfl rfl (show kc ≤ room_1.cells ∧ ks ≤ room_1.slots from ⟨by omega, by omega⟩) rfl hl.1 rfl (Nat.le_of_ble_eq_true rfl) dL_law_816 (fun H locs hP hD hS => ?_)
  refine lv_icmp_eq (pc := 819) (tgt := 1905) hx hb dL_law_819 (by decide) (fun _ => ?_) (fun c_ => absurd h4 c_)
  refine W.widen (k := kc + 20) (n := ks + 200) (by omega) (by omega) ?_
  exact kk H locs ls hP hD hS (lv_sub hl [0, 1, 2, 3, 4] rfl)
set_option maxHeartbeats 4000000 in
set_option maxRecDepth 100000 in
theorem lc_inVain {p : Program} {l : Launch} {e : Env} {s : State} {m : MethodId} {below : List Frame} {meth : Method} {c : Code} {X : z_X} {b L : Nat} {xs : Nat → Int32} (C : z_LC p l s m meth c X b L xs) {a : Nat} {d d2 : Nat → Nat} {B : z_B} {o : Nat} {g : Nat → Int64} {dm : Nat → Nat} {M : z_M} {H : Heap} {locs : List Loc} {ls : Array Slot} {Q : State → Prop} {u : Int32} (kc ks : Nat) (hk : kc + 20 ≤ room_1.cells ∧ ks + 200 ≤ room_1.slots) (i : Nat) (hu : u = nI i) (hi : i + 3 < L) (hP : va_P X.1 vwCl (z_wLw X a d d2 B o g dm M) H) (hD : va_D (fun q : Nat => s.heap.size ≤ q) (z_wLw X a d d2 B o g dm M)) (hS : va_S (fun q : Nat => s.heap.size ≤ q) s.heap H locs) (hl : lv_has ls 9 [(0, .ref b), (1, .ref a), (2, .ref (dm 0)), (3, .ref o), (4, .int u)]) {R2 : (Int32 × z_M)} (hf2 : f_X5_inVain M = some R2) (h4 : (f_X4_inVain B) = R2.1) (kk : ∀ (H : Heap) (locs : List Loc) (ls : Array Slot), va_P X.1 vwCl (z_wLw X a d d2 B o g dm R2.2) H → va_D (fun q : Nat => s.heap.size ≤ q) (z_wLw X a d d2 B o g dm R2.2) → va_S (fun q : Nat => s.heap.size ≤ q) s.heap H locs → lv_has ls 9 [(0, .ref b), (1, .ref a), (2, .ref (dm 0)), (3, .ref o), (4, .int u)] → W p l e room_1 s m #[Value.ref b] below meth c H locs (kc + 20) (ks + 200) Q (F0 m 1905 ls [])) : W p l e room_1 s m #[Value.ref b] below meth c H locs kc ks Q (F0 m 824 ls []) := by
  obtain ⟨hx, hb, hml, hown, hts, hK, hN, hX, hbl, hT0, hl0, hL⟩ := C
  have hA : ∀ q : Nat, s.heap.size ≤ q → (fun q : Nat => s.heap.size ≤ q) q := fun _ h => h
  have hbA : ¬ (fun q : Nat => s.heap.size ≤ q) b := Nat.not_le.mpr hbl
  have S : CallFix p m c cL_law 9 s #[Value.ref b] wsL_law RL := ⟨hx, hb, hml, hown, hts⟩
  refine lv_aload_n (pc := 824) hx hb dL_law_824 rfl (lv_at hl 1 rfl) ?_
  refine z_cpI (pc := 825) S (m_X4_inVain l X a d d2 B rfl) (cwV 0 hts gL_law_X4_inVain rfl rfl rfl hdX4_inVain ⟨Nat.le_of_ble_eq_true rfl, Nat.le_of_ble_eq_true rfl⟩) hP hK hN (s_W_B X a d d2 B o g dm M) (ci := 4) rfl rfl rfl (show kc ≤ room_1.cells ∧ ks ≤ room_1.slots from ⟨by omega, by omega⟩) rfl hl.1 rfl (Nat.le_of_ble_eq_true rfl) dL_law_825 ?_
  refine lv_aload_n (pc := 828) hx hb dL_law_828 rfl (lv_at hl 2 rfl) ?_
  refine z_cmI (pc := 829) (W1 := (z_wLw X a d d2 B o g dm R2.2)) S (m_X5_inVain l X dm M hf2) (cwV 0 hts gL_law_X5_inVain rfl rfl rfl hdX5_inVain ⟨Nat.le_of_ble_eq_true rfl, Nat.le_of_ble_eq_true rfl⟩) hP hK hN hD hS hA (s_W_M X a d d2 B o g dm M) (f_W_M X a d d2 B o g dm M R2.2) (ci := 5) rfl rfl rfl (show kc ≤ room_1.cells ∧ ks ≤ room_1.slots from ⟨by omega, by omega⟩) rfl hl.1 rfl (Nat.le_of_ble_eq_true rfl) dL_law_829 (fun H locs hP hD hS => ?_)
  refine lv_icmp_eq (pc := 832) (tgt := 1905) hx hb dL_law_832 (by decide) (fun _ => ?_) (fun c_ => absurd h4 c_)
  refine W.widen (k := kc + 20) (n := ks + 200) (by omega) (by omega) ?_
  exact kk H locs ls hP hD hS (lv_sub hl [0, 1, 2, 3, 4] rfl)
set_option maxHeartbeats 4000000 in
set_option maxRecDepth 100000 in
theorem lc_gaveUp {p : Program} {l : Launch} {e : Env} {s : State} {m : MethodId} {below : List Frame} {meth : Method} {c : Code} {X : z_X} {b L : Nat} {xs : Nat → Int32} (C : z_LC p l s m meth c X b L xs) {a : Nat} {d d2 : Nat → Nat} {B : z_B} {o : Nat} {g : Nat → Int64} {dm : Nat → Nat} {M : z_M} {H : Heap} {locs : List Loc} {ls : Array Slot} {Q : State → Prop} {u : Int32} (kc ks : Nat) (hk : kc + 20 ≤ room_1.cells ∧ ks + 200 ≤ room_1.slots) (i : Nat) (hu : u = nI i) (hi : i + 3 < L) (hP : va_P X.1 vwCl (z_wLw X a d d2 B o g dm M) H) (hD : va_D (fun q : Nat => s.heap.size ≤ q) (z_wLw X a d d2 B o g dm M)) (hS : va_S (fun q : Nat => s.heap.size ≤ q) s.heap H locs) (hl : lv_has ls 9 [(0, .ref b), (1, .ref a), (2, .ref (dm 0)), (3, .ref o), (4, .int u)]) {R2 : (Int32 × z_M)} (hf2 : f_X5_gaveUp M = some R2) (h4 : (f_X4_gaveUp B) = R2.1) (kk : ∀ (H : Heap) (locs : List Loc) (ls : Array Slot), va_P X.1 vwCl (z_wLw X a d d2 B o g dm R2.2) H → va_D (fun q : Nat => s.heap.size ≤ q) (z_wLw X a d d2 B o g dm R2.2) → va_S (fun q : Nat => s.heap.size ≤ q) s.heap H locs → lv_has ls 9 [(0, .ref b), (1, .ref a), (2, .ref (dm 0)), (3, .ref o), (4, .int u)] → W p l e room_1 s m #[Value.ref b] below meth c H locs (kc + 20) (ks + 200) Q (F0 m 1905 ls [])) : W p l e room_1 s m #[Value.ref b] below meth c H locs kc ks Q (F0 m 837 ls []) := by
  obtain ⟨hx, hb, hml, hown, hts, hK, hN, hX, hbl, hT0, hl0, hL⟩ := C
  have hA : ∀ q : Nat, s.heap.size ≤ q → (fun q : Nat => s.heap.size ≤ q) q := fun _ h => h
  have hbA : ¬ (fun q : Nat => s.heap.size ≤ q) b := Nat.not_le.mpr hbl
  have S : CallFix p m c cL_law 9 s #[Value.ref b] wsL_law RL := ⟨hx, hb, hml, hown, hts⟩
  refine lv_aload_n (pc := 837) hx hb dL_law_837 rfl (lv_at hl 1 rfl) ?_
  refine z_cpI (pc := 838) S (m_X4_gaveUp l X a d d2 B rfl) (cwV 0 hts gL_law_X4_gaveUp rfl rfl rfl hdX4_gaveUp ⟨Nat.le_of_ble_eq_true rfl, Nat.le_of_ble_eq_true rfl⟩) hP hK hN (s_W_B X a d d2 B o g dm M) (ci := 4) rfl rfl rfl (show kc ≤ room_1.cells ∧ ks ≤ room_1.slots from ⟨by omega, by omega⟩) rfl hl.1 rfl (Nat.le_of_ble_eq_true rfl) dL_law_838 ?_
  refine lv_aload_n (pc := 841) hx hb dL_law_841 rfl (lv_at hl 2 rfl) ?_
  refine z_cmI (pc := 842) (W1 := (z_wLw X a d d2 B o g dm R2.2)) S (m_X5_gaveUp l X dm M hf2) (cwV 0 hts gL_law_X5_gaveUp rfl rfl rfl hdX5_gaveUp ⟨Nat.le_of_ble_eq_true rfl, Nat.le_of_ble_eq_true rfl⟩) hP hK hN hD hS hA (s_W_M X a d d2 B o g dm M) (f_W_M X a d d2 B o g dm M R2.2) (ci := 5) rfl rfl rfl (show kc ≤ room_1.cells ∧ ks ≤ room_1.slots from ⟨by omega, by omega⟩) rfl hl.1 rfl (Nat.le_of_ble_eq_true rfl) dL_law_842 (fun H locs hP hD hS => ?_)
  refine lv_icmp_eq (pc := 845) (tgt := 1905) hx hb dL_law_845 (by decide) (fun _ => ?_) (fun c_ => absurd h4 c_)
  refine W.widen (k := kc + 20) (n := ks + 200) (by omega) (by omega) ?_
  exact kk H locs ls hP hD hS (lv_sub hl [0, 1, 2, 3, 4] rfl)
set_option maxHeartbeats 4000000 in
set_option maxRecDepth 100000 in
theorem lc_unheard {p : Program} {l : Launch} {e : Env} {s : State} {m : MethodId} {below : List Frame} {meth : Method} {c : Code} {X : z_X} {b L : Nat} {xs : Nat → Int32} (C : z_LC p l s m meth c X b L xs) {a : Nat} {d d2 : Nat → Nat} {B : z_B} {o : Nat} {g : Nat → Int64} {dm : Nat → Nat} {M : z_M} {H : Heap} {locs : List Loc} {ls : Array Slot} {Q : State → Prop} {u : Int32} (kc ks : Nat) (hk : kc + 20 ≤ room_1.cells ∧ ks + 200 ≤ room_1.slots) (i : Nat) (hu : u = nI i) (hi : i + 3 < L) (hP : va_P X.1 vwCl (z_wLw X a d d2 B o g dm M) H) (hD : va_D (fun q : Nat => s.heap.size ≤ q) (z_wLw X a d d2 B o g dm M)) (hS : va_S (fun q : Nat => s.heap.size ≤ q) s.heap H locs) (hl : lv_has ls 9 [(0, .ref b), (1, .ref a), (2, .ref (dm 0)), (3, .ref o), (4, .int u)]) {R2 : (Int32 × z_M)} (hf2 : f_X5_unheard M = some R2) (h4 : (f_X4_unheard B) = R2.1) (kk : ∀ (H : Heap) (locs : List Loc) (ls : Array Slot), va_P X.1 vwCl (z_wLw X a d d2 B o g dm R2.2) H → va_D (fun q : Nat => s.heap.size ≤ q) (z_wLw X a d d2 B o g dm R2.2) → va_S (fun q : Nat => s.heap.size ≤ q) s.heap H locs → lv_has ls 9 [(0, .ref b), (1, .ref a), (2, .ref (dm 0)), (3, .ref o), (4, .int u)] → W p l e room_1 s m #[Value.ref b] below meth c H locs (kc + 20) (ks + 200) Q (F0 m 1905 ls [])) : W p l e room_1 s m #[Value.ref b] below meth c H locs kc ks Q (F0 m 850 ls []) := by
  obtain ⟨hx, hb, hml, hown, hts, hK, hN, hX, hbl, hT0, hl0, hL⟩ := C
  have hA : ∀ q : Nat, s.heap.size ≤ q → (fun q : Nat => s.heap.size ≤ q) q := fun _ h => h
  have hbA : ¬ (fun q : Nat => s.heap.size ≤ q) b := Nat.not_le.mpr hbl
  have S : CallFix p m c cL_law 9 s #[Value.ref b] wsL_law RL := ⟨hx, hb, hml, hown, hts⟩
  refine lv_aload_n (pc := 850) hx hb dL_law_850 rfl (lv_at hl 1 rfl) ?_
  refine z_cpI (pc := 851) S (m_X4_unheard l X a d d2 B rfl) (cwV 0 hts gL_law_X4_unheard rfl rfl rfl hdX4_unheard ⟨Nat.le_of_ble_eq_true rfl, Nat.le_of_ble_eq_true rfl⟩) hP hK hN (s_W_B X a d d2 B o g dm M) (ci := 4) rfl rfl rfl (show kc ≤ room_1.cells ∧ ks ≤ room_1.slots from ⟨by omega, by omega⟩) rfl hl.1 rfl (Nat.le_of_ble_eq_true rfl) dL_law_851 ?_
  refine lv_aload_n (pc := 854) hx hb dL_law_854 rfl (lv_at hl 2 rfl) ?_
  refine z_cmI (pc := 855) (W1 := (z_wLw X a d d2 B o g dm R2.2)) S (m_X5_unheard l X dm M hf2) (cwV 0 hts gL_law_X5_unheard rfl rfl rfl hdX5_unheard ⟨Nat.le_of_ble_eq_true rfl, Nat.le_of_ble_eq_true rfl⟩) hP hK hN hD hS hA (s_W_M X a d d2 B o g dm M) (f_W_M X a d d2 B o g dm M R2.2) (ci := 5) rfl rfl rfl (show kc ≤ room_1.cells ∧ ks ≤ room_1.slots from ⟨by omega, by omega⟩) rfl hl.1 rfl (Nat.le_of_ble_eq_true rfl) dL_law_855 (fun H locs hP hD hS => ?_)
  refine lv_icmp_eq (pc := 858) (tgt := 1905) hx hb dL_law_858 (by decide) (fun _ => ?_) (fun c_ => absurd h4 c_)
  refine W.widen (k := kc + 20) (n := ks + 200) (by omega) (by omega) ?_
  exact kk H locs ls hP hD hS (lv_sub hl [0, 1, 2, 3, 4] rfl)
set_option maxHeartbeats 4000000 in
set_option maxRecDepth 100000 in
theorem lc_dropOf {p : Program} {l : Launch} {e : Env} {s : State} {m : MethodId} {below : List Frame} {meth : Method} {c : Code} {X : z_X} {b L : Nat} {xs : Nat → Int32} (C : z_LC p l s m meth c X b L xs) {a : Nat} {d d2 : Nat → Nat} {B : z_B} {o : Nat} {g : Nat → Int64} {dm : Nat → Nat} {M : z_M} {H : Heap} {locs : List Loc} {ls : Array Slot} {Q : State → Prop} {u : Int32} (kc ks : Nat) (hk : kc + 20 ≤ room_1.cells ∧ ks + 200 ≤ room_1.slots) (i : Nat) (hu : u = nI i) (hi : i + 3 < L) (hP : va_P X.1 vwCl (z_wLw X a d d2 B o g dm M) H) (hD : va_D (fun q : Nat => s.heap.size ≤ q) (z_wLw X a d d2 B o g dm M)) (hS : va_S (fun q : Nat => s.heap.size ≤ q) s.heap H locs) (hl : lv_has ls 9 [(0, .ref b), (1, .ref a), (2, .ref (dm 0)), (3, .ref o), (4, .int u)]) {R1 : Int32} (hf1 : f_X4_dropOf B (xs (i + 1)) = some R1) {R2 : (Int32 × z_M)} (hf2 : f_X5_dropOf M (xs (i + 1)) = some R2) (h3 : R2.2.1 0 = 0) (h4 : R1 = R2.1) (kk : ∀ (H : Heap) (locs : List Loc) (ls : Array Slot), va_P X.1 vwCl (z_wLw X a d d2 B o (vp_updL g 0 (R1).toInt64) dm R2.2) H → va_D (fun q : Nat => s.heap.size ≤ q) (z_wLw X a d d2 B o (vp_updL g 0 (R1).toInt64) dm R2.2) → va_S (fun q : Nat => s.heap.size ≤ q) s.heap H locs → lv_has ls 9 [(0, .ref b), (1, .ref a), (2, .ref (dm 0)), (3, .ref o), (4, .int u)] → W p l e room_1 s m #[Value.ref b] below meth c H locs (kc + 20) (ks + 200) Q (F0 m 1905 ls [])) : W p l e room_1 s m #[Value.ref b] below meth c H locs kc ks Q (F0 m 863 ls []) := by
  obtain ⟨hx, hb, hml, hown, hts, hK, hN, hX, hbl, hT0, hl0, hL⟩ := C
  have hA : ∀ q : Nat, s.heap.size ≤ q → (fun q : Nat => s.heap.size ≤ q) q := fun _ h => h
  have hbA : ¬ (fun q : Nat => s.heap.size ≤ q) b := Nat.not_le.mpr hbl
  have S : CallFix p m c cL_law 9 s #[Value.ref b] wsL_law RL := ⟨hx, hb, hml, hown, hts⟩
  refine lv_aload_n (pc := 863) hx hb dL_law_863 rfl (lv_at hl 1 rfl) ?_
  refine lv_aload_n (pc := 864) hx hb dL_law_864 rfl (lv_at hl 0 rfl) ?_
  refine lv_iload (pc := 865) hx hb dL_law_865 (lv_at hl 4 rfl) ?_
  refine lv_iconst (v := 1) (pc := 867) hx hb dL_law_867 (by decide) ?_
  refine lv_iadd (pc := 868) hx hb dL_law_868 ?_
  refine z_sld (pc := 869) hx hb hX hbl hbA hS hL (i + 1) (z_oi i 1 hu 1 rfl) (by omega) dL_law_869 ?_
  refine lv_aload_n (pc := 870) hx hb dL_law_870 rfl (lv_at hl 3 rfl) ?_
  refine z_cwsI (pc := 871) (W1 := (z_wLw X a d d2 B o (vp_updL g 0 (R1).toInt64) dm M)) S (wn_dropOf l X a d d2 B o g (xs (i + 1)) hf1) (vx_cwSW 3 hts gL_law_L_dropOf rfl rfl rfl hdL_dropOf ⟨Nat.le_of_ble_eq_true rfl, Nat.le_of_ble_eq_true rfl⟩) hP hK hN hD hS hA (s_W_BO X a d d2 B o g dm M) (f_W_BO X a d d2 B o g dm M B (vp_updL g 0 (R1).toInt64)) (show kc ≤ room_1.cells ∧ ks ≤ room_1.slots from ⟨by omega, by omega⟩) rfl hl.1 rfl (Nat.le_of_ble_eq_true rfl) dL_law_871 (fun H locs hP hD hS => ?_)
  refine lv_istore (pc := 874) (lv' := [(5, .int 0), (0, .ref b), (1, .ref a), (2, .ref (dm 0)), (3, .ref o), (4, .int u)]) hx hb dL_law_874 hl (by decide) rfl (fun ls hl => ?_)
  refine lv_aload_n (pc := 876) hx hb dL_law_876 rfl (lv_at hl 3 rfl) ?_
  refine lv_aload_n (pc := 877) hx hb dL_law_877 rfl (lv_at hl 1 rfl) ?_
  refine lv_iload (pc := 878) hx hb dL_law_878 (lv_at hl 5 rfl) ?_
  refine lv_iconst (v := 1) (pc := 880) hx hb dL_law_880 (by decide) ?_
  refine lv_iadd (pc := 881) hx hb dL_law_881 ?_
  refine z_sld (pc := 882) hx hb hX hbl hbA hS hL (i + 1) (z_oi i 1 hu 1 rfl) (by omega) dL_law_882 ?_
  refine z_cmI (pc := 883) (W1 := (z_wLw X a d d2 B o (vp_updL g 0 (R1).toInt64) dm R2.2)) S (m_X5_dropOf l X dm M (xs (i + 1)) hf2) (cwV 1 hts gL_law_X5_dropOf rfl rfl rfl hdX5_dropOf ⟨Nat.le_of_ble_eq_true rfl, Nat.le_of_ble_eq_true rfl⟩) hP hK hN hD hS hA (s_W_M X a d d2 B o (vp_updL g 0 (R1).toInt64) dm M) (f_W_M X a d d2 B o (vp_updL g 0 (R1).toInt64) dm M R2.2) (ci := 5) rfl rfl rfl (show kc ≤ room_1.cells ∧ ks ≤ room_1.slots from ⟨by omega, by omega⟩) rfl hl.1 rfl (Nat.le_of_ble_eq_true rfl) dL_law_883 (fun H locs hP hD hS => ?_)
  refine lv_istore (pc := 886) (lv' := [(6, .int R2.1), (5, .int 0), (0, .ref b), (1, .ref a), (2, .ref (dm 0)), (3, .ref o), (4, .int u)]) hx hb dL_law_886 hl (by decide) rfl (fun ls hl => ?_)
  refine lv_aload_n (pc := 888) hx hb dL_law_888 rfl (lv_at hl 4 rfl) ?_
  refine z_cpI (pc := 889) S (m_X5_thrown l X dm R2.2 rfl) (cwV 0 hts gL_law_X5_thrown rfl rfl rfl hdX5_thrown ⟨Nat.le_of_ble_eq_true rfl, Nat.le_of_ble_eq_true rfl⟩) hP hK hN (s_W_M X a d d2 B o (vp_updL g 0 (R1).toInt64) dm R2.2) (ci := 5) rfl rfl rfl (show kc ≤ room_1.cells ∧ ks ≤ room_1.slots from ⟨by omega, by omega⟩) rfl hl.1 rfl (Nat.le_of_ble_eq_true rfl) dL_law_889 ?_
  refine lv_iload (pc := 892) hx hb dL_law_892 (lv_at hl 1 rfl) ?_
  refine lv_icmp_eq (pc := 894) (tgt := 899) hx hb dL_law_894 (by decide) (fun _ => ?_) (fun c_ => absurd h3 c_)
  refine lv_iload (pc := 899) hx hb dL_law_899 (lv_at hl 1 rfl) ?_
  refine lv_if_ne (pc := 901) (tgt := 916) hx hb dL_law_901 (by decide) (fun c_ => absurd rfl c_) (fun _ => ?_)
  refine lv_aload_n (pc := 904) hx hb dL_law_904 rfl (lv_at hl 5 rfl) ?_
  refine lv_iconst (v := 0) (pc := 905) hx hb dL_law_905 (by decide) ?_
  refine va_lald (pc := 906) hx hb hK hP 53 2 rfl rfl z_in01 dL_law_906 ?_
  refine lv_iload (pc := 907) hx hb dL_law_907 (lv_at hl 0 rfl) ?_
  refine lv_i2l (v := (R2.1).toInt64) (pc := 909) hx hb dL_law_909 rfl ?_
  refine W.lcmp (pc := 910) hx hb dL_law_910 ?_
  refine lv_if_eq (pc := 911) (tgt := 916) hx hb dL_law_911 (by decide) (fun _ => ?_) (fun c_ => absurd (show lg_cmp _ _ = 0 from by rw [← h4]; exact z_cmp0 _) c_)
  refine lv_goto (pc := 916) (tgt := 1905) hx hb dL_law_916 (by decide) ?_
  refine W.widen (k := kc + 20) (n := ks + 200) (by omega) (by omega) ?_
  exact kk H locs ls hP hD hS (lv_sub hl [2, 3, 4, 5, 6] rfl)
set_option maxHeartbeats 4000000 in
set_option maxRecDepth 100000 in
theorem lc_dropOf_t2 {p : Program} {l : Launch} {e : Env} {s : State} {m : MethodId} {below : List Frame} {meth : Method} {c : Code} {X : z_X} {b L : Nat} {xs : Nat → Int32} (C : z_LC p l s m meth c X b L xs) {a : Nat} {d d2 : Nat → Nat} {B : z_B} {o : Nat} {g : Nat → Int64} {dm : Nat → Nat} {M : z_M} {H : Heap} {locs : List Loc} {ls : Array Slot} {Q : State → Prop} {u : Int32} (kc ks : Nat) (hk : kc + 20 ≤ room_1.cells ∧ ks + 200 ≤ room_1.slots) (i : Nat) (hu : u = nI i) (hi : i + 3 < L) (hP : va_P X.1 vwCl (z_wLw X a d d2 B o g dm M) H) (hD : va_D (fun q : Nat => s.heap.size ≤ q) (z_wLw X a d d2 B o g dm M)) (hS : va_S (fun q : Nat => s.heap.size ≤ q) s.heap H locs) (hl : lv_has ls 9 [(0, .ref b), (1, .ref a), (2, .ref (dm 0)), (3, .ref o), (4, .int u)]) (hf1 : x_X4_dropOf B (xs (i + 1)) = some 2) {R2 : (Int32 × z_M)} (hf2 : f_X5_dropOf M (xs (i + 1)) = some R2) (h3 : R2.2.1 0 = 1) (kk : ∀ (H : Heap) (locs : List Loc) (ls : Array Slot), va_P X.1 vwCl (z_wLw X a d d2 B o g dm R2.2) H → va_D (fun q : Nat => s.heap.size ≤ q) (z_wLw X a d d2 B o g dm R2.2) → va_S (fun q : Nat => s.heap.size ≤ q) s.heap H locs → lv_has ls 9 [(0, .ref b), (1, .ref a), (2, .ref (dm 0)), (3, .ref o), (4, .int u)] → W p l e room_1 s m #[Value.ref b] below meth c H locs (kc + 20) (ks + 200) Q (F0 m 1905 ls [])) : W p l e room_1 s m #[Value.ref b] below meth c H locs kc ks Q (F0 m 863 ls []) := by
  obtain ⟨hx, hb, hml, hown, hts, hK, hN, hX, hbl, hT0, hl0, hL⟩ := C
  have hA : ∀ q : Nat, s.heap.size ≤ q → (fun q : Nat => s.heap.size ≤ q) q := fun _ h => h
  have hbA : ¬ (fun q : Nat => s.heap.size ≤ q) b := Nat.not_le.mpr hbl
  have S : CallFix p m c cL_law 9 s #[Value.ref b] wsL_law RL := ⟨hx, hb, hml, hown, hts⟩
  refine lv_aload_n (pc := 863) hx hb dL_law_863 rfl (lv_at hl 1 rfl) ?_
  refine lv_aload_n (pc := 864) hx hb dL_law_864 rfl (lv_at hl 0 rfl) ?_
  refine lv_iload (pc := 865) hx hb dL_law_865 (lv_at hl 4 rfl) ?_
  refine lv_iconst (v := 1) (pc := 867) hx hb dL_law_867 (by decide) ?_
  refine lv_iadd (pc := 868) hx hb dL_law_868 ?_
  refine z_sld (pc := 869) hx hb hX hbl hbA hS hL (i + 1) (z_oi i 1 hu 1 rfl) (by omega) dL_law_869 ?_
  refine lv_aload_n (pc := 870) hx hb dL_law_870 rfl (lv_at hl 3 rfl) ?_
  have hT : z_T z_no s H := (hT0.kept (fun q h1 h2 => hS.2.1 q h1 h2)).narrow (fun q h => h.elim)
  refine z_cweI (pc := 871) S (wt_dropOf_2 l hl0 X a d d2 B o g (xs (i + 1)) hf1) (vx_cwSW 3 hts gL_law_L_dropOf rfl rfl rfl hdL_dropOf ⟨Nat.le_of_ble_eq_true rfl, Nat.le_of_ble_eq_true rfl⟩) hP hK hN hT hD hS hA (s_W_BO X a d d2 B o g dm M) (f_W_BO X a d d2 B o g dm M B g) (show kc + 1 ≤ room_1.cells ∧ ks + 6 ≤ room_1.slots from ⟨by omega, by omega⟩) rfl hl.1 rfl (Nat.le_of_ble_eq_true rfl) dL_law_871 (fun H locs hP hD hS => ?_)
  refine lv_istore (pc := 874) (lv' := [(5, .int 1), (0, .ref b), (1, .ref a), (2, .ref (dm 0)), (3, .ref o), (4, .int u)]) hx hb dL_law_874 hl (by decide) rfl (fun ls hl => ?_)
  refine lv_aload_n (pc := 876) hx hb dL_law_876 rfl (lv_at hl 3 rfl) ?_
  refine lv_aload_n (pc := 877) hx hb dL_law_877 rfl (lv_at hl 1 rfl) ?_
  refine lv_iload (pc := 878) hx hb dL_law_878 (lv_at hl 5 rfl) ?_
  refine lv_iconst (v := 1) (pc := 880) hx hb dL_law_880 (by decide) ?_
  refine lv_iadd (pc := 881) hx hb dL_law_881 ?_
  refine z_sld (pc := 882) hx hb hX hbl hbA hS hL (i + 1) (z_oi i 1 hu 1 rfl) (by omega) dL_law_882 ?_
  refine z_cmI (pc := 883) (W1 := (z_wLw X a d d2 B o g dm R2.2)) S (m_X5_dropOf l X dm M (xs (i + 1)) hf2) (cwV 1 hts gL_law_X5_dropOf rfl rfl rfl hdX5_dropOf ⟨Nat.le_of_ble_eq_true rfl, Nat.le_of_ble_eq_true rfl⟩) hP hK hN hD hS hA (s_W_M X a d d2 B o g dm M) (f_W_M X a d d2 B o g dm M R2.2) (ci := 5) rfl rfl rfl (show (kc + 1) ≤ room_1.cells ∧ (ks + 6) ≤ room_1.slots from ⟨by omega, by omega⟩) rfl hl.1 rfl (Nat.le_of_ble_eq_true rfl) dL_law_883 (fun H locs hP hD hS => ?_)
  refine lv_istore (pc := 886) (lv' := [(6, .int R2.1), (5, .int 1), (0, .ref b), (1, .ref a), (2, .ref (dm 0)), (3, .ref o), (4, .int u)]) hx hb dL_law_886 hl (by decide) rfl (fun ls hl => ?_)
  refine lv_aload_n (pc := 888) hx hb dL_law_888 rfl (lv_at hl 4 rfl) ?_
  refine z_cpI (pc := 889) S (m_X5_thrown l X dm R2.2 rfl) (cwV 0 hts gL_law_X5_thrown rfl rfl rfl hdX5_thrown ⟨Nat.le_of_ble_eq_true rfl, Nat.le_of_ble_eq_true rfl⟩) hP hK hN (s_W_M X a d d2 B o g dm R2.2) (ci := 5) rfl rfl rfl (show (kc + 1) ≤ room_1.cells ∧ (ks + 6) ≤ room_1.slots from ⟨by omega, by omega⟩) rfl hl.1 rfl (Nat.le_of_ble_eq_true rfl) dL_law_889 ?_
  refine lv_iload (pc := 892) hx hb dL_law_892 (lv_at hl 1 rfl) ?_
  refine lv_icmp_eq (pc := 894) (tgt := 899) hx hb dL_law_894 (by decide) (fun _ => ?_) (fun c_ => absurd h3 c_)
  refine lv_iload (pc := 899) hx hb dL_law_899 (lv_at hl 1 rfl) ?_
  refine lv_if_ne (pc := 901) (tgt := 916) hx hb dL_law_901 (by decide) (fun _ => ?_) (fun c_ => absurd c_ (by decide))
  refine lv_goto (pc := 916) (tgt := 1905) hx hb dL_law_916 (by decide) ?_
  refine W.widen (k := kc + 20) (n := ks + 200) (by omega) (by omega) ?_
  exact kk H locs ls hP hD hS (lv_sub hl [2, 3, 4, 5, 6] rfl)
set_option maxHeartbeats 4000000 in
set_option maxRecDepth 100000 in
theorem lc_roomOf {p : Program} {l : Launch} {e : Env} {s : State} {m : MethodId} {below : List Frame} {meth : Method} {c : Code} {X : z_X} {b L : Nat} {xs : Nat → Int32} (C : z_LC p l s m meth c X b L xs) {a : Nat} {d d2 : Nat → Nat} {B : z_B} {o : Nat} {g : Nat → Int64} {dm : Nat → Nat} {M : z_M} {H : Heap} {locs : List Loc} {ls : Array Slot} {Q : State → Prop} {u : Int32} (kc ks : Nat) (hk : kc + 20 ≤ room_1.cells ∧ ks + 200 ≤ room_1.slots) (i : Nat) (hu : u = nI i) (hi : i + 3 < L) (hP : va_P X.1 vwCl (z_wLw X a d d2 B o g dm M) H) (hD : va_D (fun q : Nat => s.heap.size ≤ q) (z_wLw X a d d2 B o g dm M)) (hS : va_S (fun q : Nat => s.heap.size ≤ q) s.heap H locs) (hl : lv_has ls 9 [(0, .ref b), (1, .ref a), (2, .ref (dm 0)), (3, .ref o), (4, .int u)]) {R1 : Int32} (hf1 : f_X4_roomOf B (xs (i + 1)) = some R1) {R2 : (Int32 × z_M)} (hf2 : f_X5_roomOf M (xs (i + 1)) = some R2) (h3 : R2.2.1 0 = 0) (h4 : R1 = R2.1) (kk : ∀ (H : Heap) (locs : List Loc) (ls : Array Slot), va_P X.1 vwCl (z_wLw X a d d2 B o (vp_updL g 0 (R1).toInt64) dm R2.2) H → va_D (fun q : Nat => s.heap.size ≤ q) (z_wLw X a d d2 B o (vp_updL g 0 (R1).toInt64) dm R2.2) → va_S (fun q : Nat => s.heap.size ≤ q) s.heap H locs → lv_has ls 9 [(0, .ref b), (1, .ref a), (2, .ref (dm 0)), (3, .ref o), (4, .int u)] → W p l e room_1 s m #[Value.ref b] below meth c H locs (kc + 20) (ks + 200) Q (F0 m 1905 ls [])) : W p l e room_1 s m #[Value.ref b] below meth c H locs kc ks Q (F0 m 919 ls []) := by
  obtain ⟨hx, hb, hml, hown, hts, hK, hN, hX, hbl, hT0, hl0, hL⟩ := C
  have hA : ∀ q : Nat, s.heap.size ≤ q → (fun q : Nat => s.heap.size ≤ q) q := fun _ h => h
  have hbA : ¬ (fun q : Nat => s.heap.size ≤ q) b := Nat.not_le.mpr hbl
  have S : CallFix p m c cL_law 9 s #[Value.ref b] wsL_law RL := ⟨hx, hb, hml, hown, hts⟩
  refine lv_aload_n (pc := 919) hx hb dL_law_919 rfl (lv_at hl 1 rfl) ?_
  refine lv_aload_n (pc := 920) hx hb dL_law_920 rfl (lv_at hl 0 rfl) ?_
  refine lv_iload (pc := 921) hx hb dL_law_921 (lv_at hl 4 rfl) ?_
  refine lv_iconst (v := 1) (pc := 923) hx hb dL_law_923 (by decide) ?_
  refine lv_iadd (pc := 924) hx hb dL_law_924 ?_
  refine z_sld (pc := 925) hx hb hX hbl hbA hS hL (i + 1) (z_oi i 1 hu 1 rfl) (by omega) dL_law_925 ?_
  refine lv_aload_n (pc := 926) hx hb dL_law_926 rfl (lv_at hl 3 rfl) ?_
  refine z_cwsI (pc := 927) (W1 := (z_wLw X a d d2 B o (vp_updL g 0 (R1).toInt64) dm M)) S (wn_roomOf l X a d d2 B o g (xs (i + 1)) hf1) (vx_cwSW 3 hts gL_law_L_roomOf rfl rfl rfl hdL_roomOf ⟨Nat.le_of_ble_eq_true rfl, Nat.le_of_ble_eq_true rfl⟩) hP hK hN hD hS hA (s_W_BO X a d d2 B o g dm M) (f_W_BO X a d d2 B o g dm M B (vp_updL g 0 (R1).toInt64)) (show kc ≤ room_1.cells ∧ ks ≤ room_1.slots from ⟨by omega, by omega⟩) rfl hl.1 rfl (Nat.le_of_ble_eq_true rfl) dL_law_927 (fun H locs hP hD hS => ?_)
  refine lv_istore (pc := 930) (lv' := [(5, .int 0), (0, .ref b), (1, .ref a), (2, .ref (dm 0)), (3, .ref o), (4, .int u)]) hx hb dL_law_930 hl (by decide) rfl (fun ls hl => ?_)
  refine lv_aload_n (pc := 932) hx hb dL_law_932 rfl (lv_at hl 3 rfl) ?_
  refine lv_aload_n (pc := 933) hx hb dL_law_933 rfl (lv_at hl 1 rfl) ?_
  refine lv_iload (pc := 934) hx hb dL_law_934 (lv_at hl 5 rfl) ?_
  refine lv_iconst (v := 1) (pc := 936) hx hb dL_law_936 (by decide) ?_
  refine lv_iadd (pc := 937) hx hb dL_law_937 ?_
  refine z_sld (pc := 938) hx hb hX hbl hbA hS hL (i + 1) (z_oi i 1 hu 1 rfl) (by omega) dL_law_938 ?_
  refine z_cmI (pc := 939) (W1 := (z_wLw X a d d2 B o (vp_updL g 0 (R1).toInt64) dm R2.2)) S (m_X5_roomOf l X dm M (xs (i + 1)) hf2) (cwV 1 hts gL_law_X5_roomOf rfl rfl rfl hdX5_roomOf ⟨Nat.le_of_ble_eq_true rfl, Nat.le_of_ble_eq_true rfl⟩) hP hK hN hD hS hA (s_W_M X a d d2 B o (vp_updL g 0 (R1).toInt64) dm M) (f_W_M X a d d2 B o (vp_updL g 0 (R1).toInt64) dm M R2.2) (ci := 5) rfl rfl rfl (show kc ≤ room_1.cells ∧ ks ≤ room_1.slots from ⟨by omega, by omega⟩) rfl hl.1 rfl (Nat.le_of_ble_eq_true rfl) dL_law_939 (fun H locs hP hD hS => ?_)
  refine lv_istore (pc := 942) (lv' := [(6, .int R2.1), (5, .int 0), (0, .ref b), (1, .ref a), (2, .ref (dm 0)), (3, .ref o), (4, .int u)]) hx hb dL_law_942 hl (by decide) rfl (fun ls hl => ?_)
  refine lv_aload_n (pc := 944) hx hb dL_law_944 rfl (lv_at hl 4 rfl) ?_
  refine z_cpI (pc := 945) S (m_X5_thrown l X dm R2.2 rfl) (cwV 0 hts gL_law_X5_thrown rfl rfl rfl hdX5_thrown ⟨Nat.le_of_ble_eq_true rfl, Nat.le_of_ble_eq_true rfl⟩) hP hK hN (s_W_M X a d d2 B o (vp_updL g 0 (R1).toInt64) dm R2.2) (ci := 5) rfl rfl rfl (show kc ≤ room_1.cells ∧ ks ≤ room_1.slots from ⟨by omega, by omega⟩) rfl hl.1 rfl (Nat.le_of_ble_eq_true rfl) dL_law_945 ?_
  refine lv_iload (pc := 948) hx hb dL_law_948 (lv_at hl 1 rfl) ?_
  refine lv_icmp_eq (pc := 950) (tgt := 955) hx hb dL_law_950 (by decide) (fun _ => ?_) (fun c_ => absurd h3 c_)
  refine lv_iload (pc := 955) hx hb dL_law_955 (lv_at hl 1 rfl) ?_
  refine lv_if_ne (pc := 957) (tgt := 972) hx hb dL_law_957 (by decide) (fun c_ => absurd rfl c_) (fun _ => ?_)
  refine lv_aload_n (pc := 960) hx hb dL_law_960 rfl (lv_at hl 5 rfl) ?_
  refine lv_iconst (v := 0) (pc := 961) hx hb dL_law_961 (by decide) ?_
  refine va_lald (pc := 962) hx hb hK hP 53 2 rfl rfl z_in01 dL_law_962 ?_
  refine lv_iload (pc := 963) hx hb dL_law_963 (lv_at hl 0 rfl) ?_
  refine lv_i2l (v := (R2.1).toInt64) (pc := 965) hx hb dL_law_965 rfl ?_
  refine W.lcmp (pc := 966) hx hb dL_law_966 ?_
  refine lv_if_eq (pc := 967) (tgt := 972) hx hb dL_law_967 (by decide) (fun _ => ?_) (fun c_ => absurd (show lg_cmp _ _ = 0 from by rw [← h4]; exact z_cmp0 _) c_)
  refine lv_goto (pc := 972) (tgt := 1905) hx hb dL_law_972 (by decide) ?_
  refine W.widen (k := kc + 20) (n := ks + 200) (by omega) (by omega) ?_
  exact kk H locs ls hP hD hS (lv_sub hl [2, 3, 4, 5, 6] rfl)
set_option maxHeartbeats 4000000 in
set_option maxRecDepth 100000 in
theorem lc_roomOf_t2 {p : Program} {l : Launch} {e : Env} {s : State} {m : MethodId} {below : List Frame} {meth : Method} {c : Code} {X : z_X} {b L : Nat} {xs : Nat → Int32} (C : z_LC p l s m meth c X b L xs) {a : Nat} {d d2 : Nat → Nat} {B : z_B} {o : Nat} {g : Nat → Int64} {dm : Nat → Nat} {M : z_M} {H : Heap} {locs : List Loc} {ls : Array Slot} {Q : State → Prop} {u : Int32} (kc ks : Nat) (hk : kc + 20 ≤ room_1.cells ∧ ks + 200 ≤ room_1.slots) (i : Nat) (hu : u = nI i) (hi : i + 3 < L) (hP : va_P X.1 vwCl (z_wLw X a d d2 B o g dm M) H) (hD : va_D (fun q : Nat => s.heap.size ≤ q) (z_wLw X a d d2 B o g dm M)) (hS : va_S (fun q : Nat => s.heap.size ≤ q) s.heap H locs) (hl : lv_has ls 9 [(0, .ref b), (1, .ref a), (2, .ref (dm 0)), (3, .ref o), (4, .int u)]) (hf1 : x_X4_roomOf B (xs (i + 1)) = some 2) {R2 : (Int32 × z_M)} (hf2 : f_X5_roomOf M (xs (i + 1)) = some R2) (h3 : R2.2.1 0 = 1) (kk : ∀ (H : Heap) (locs : List Loc) (ls : Array Slot), va_P X.1 vwCl (z_wLw X a d d2 B o g dm R2.2) H → va_D (fun q : Nat => s.heap.size ≤ q) (z_wLw X a d d2 B o g dm R2.2) → va_S (fun q : Nat => s.heap.size ≤ q) s.heap H locs → lv_has ls 9 [(0, .ref b), (1, .ref a), (2, .ref (dm 0)), (3, .ref o), (4, .int u)] → W p l e room_1 s m #[Value.ref b] below meth c H locs (kc + 20) (ks + 200) Q (F0 m 1905 ls [])) : W p l e room_1 s m #[Value.ref b] below meth c H locs kc ks Q (F0 m 919 ls []) := by
  obtain ⟨hx, hb, hml, hown, hts, hK, hN, hX, hbl, hT0, hl0, hL⟩ := C
  have hA : ∀ q : Nat, s.heap.size ≤ q → (fun q : Nat => s.heap.size ≤ q) q := fun _ h => h
  have hbA : ¬ (fun q : Nat => s.heap.size ≤ q) b := Nat.not_le.mpr hbl
  have S : CallFix p m c cL_law 9 s #[Value.ref b] wsL_law RL := ⟨hx, hb, hml, hown, hts⟩
  refine lv_aload_n (pc := 919) hx hb dL_law_919 rfl (lv_at hl 1 rfl) ?_
  refine lv_aload_n (pc := 920) hx hb dL_law_920 rfl (lv_at hl 0 rfl) ?_
  refine lv_iload (pc := 921) hx hb dL_law_921 (lv_at hl 4 rfl) ?_
  refine lv_iconst (v := 1) (pc := 923) hx hb dL_law_923 (by decide) ?_
  refine lv_iadd (pc := 924) hx hb dL_law_924 ?_
  refine z_sld (pc := 925) hx hb hX hbl hbA hS hL (i + 1) (z_oi i 1 hu 1 rfl) (by omega) dL_law_925 ?_
  refine lv_aload_n (pc := 926) hx hb dL_law_926 rfl (lv_at hl 3 rfl) ?_
  have hT : z_T z_no s H := (hT0.kept (fun q h1 h2 => hS.2.1 q h1 h2)).narrow (fun q h => h.elim)
  refine z_cweI (pc := 927) S (wt_roomOf_2 l hl0 X a d d2 B o g (xs (i + 1)) hf1) (vx_cwSW 3 hts gL_law_L_roomOf rfl rfl rfl hdL_roomOf ⟨Nat.le_of_ble_eq_true rfl, Nat.le_of_ble_eq_true rfl⟩) hP hK hN hT hD hS hA (s_W_BO X a d d2 B o g dm M) (f_W_BO X a d d2 B o g dm M B g) (show kc + 1 ≤ room_1.cells ∧ ks + 6 ≤ room_1.slots from ⟨by omega, by omega⟩) rfl hl.1 rfl (Nat.le_of_ble_eq_true rfl) dL_law_927 (fun H locs hP hD hS => ?_)
  refine lv_istore (pc := 930) (lv' := [(5, .int 1), (0, .ref b), (1, .ref a), (2, .ref (dm 0)), (3, .ref o), (4, .int u)]) hx hb dL_law_930 hl (by decide) rfl (fun ls hl => ?_)
  refine lv_aload_n (pc := 932) hx hb dL_law_932 rfl (lv_at hl 3 rfl) ?_
  refine lv_aload_n (pc := 933) hx hb dL_law_933 rfl (lv_at hl 1 rfl) ?_
  refine lv_iload (pc := 934) hx hb dL_law_934 (lv_at hl 5 rfl) ?_
  refine lv_iconst (v := 1) (pc := 936) hx hb dL_law_936 (by decide) ?_
  refine lv_iadd (pc := 937) hx hb dL_law_937 ?_
  refine z_sld (pc := 938) hx hb hX hbl hbA hS hL (i + 1) (z_oi i 1 hu 1 rfl) (by omega) dL_law_938 ?_
  refine z_cmI (pc := 939) (W1 := (z_wLw X a d d2 B o g dm R2.2)) S (m_X5_roomOf l X dm M (xs (i + 1)) hf2) (cwV 1 hts gL_law_X5_roomOf rfl rfl rfl hdX5_roomOf ⟨Nat.le_of_ble_eq_true rfl, Nat.le_of_ble_eq_true rfl⟩) hP hK hN hD hS hA (s_W_M X a d d2 B o g dm M) (f_W_M X a d d2 B o g dm M R2.2) (ci := 5) rfl rfl rfl (show (kc + 1) ≤ room_1.cells ∧ (ks + 6) ≤ room_1.slots from ⟨by omega, by omega⟩) rfl hl.1 rfl (Nat.le_of_ble_eq_true rfl) dL_law_939 (fun H locs hP hD hS => ?_)
  refine lv_istore (pc := 942) (lv' := [(6, .int R2.1), (5, .int 1), (0, .ref b), (1, .ref a), (2, .ref (dm 0)), (3, .ref o), (4, .int u)]) hx hb dL_law_942 hl (by decide) rfl (fun ls hl => ?_)
  refine lv_aload_n (pc := 944) hx hb dL_law_944 rfl (lv_at hl 4 rfl) ?_
  refine z_cpI (pc := 945) S (m_X5_thrown l X dm R2.2 rfl) (cwV 0 hts gL_law_X5_thrown rfl rfl rfl hdX5_thrown ⟨Nat.le_of_ble_eq_true rfl, Nat.le_of_ble_eq_true rfl⟩) hP hK hN (s_W_M X a d d2 B o g dm R2.2) (ci := 5) rfl rfl rfl (show (kc + 1) ≤ room_1.cells ∧ (ks + 6) ≤ room_1.slots from ⟨by omega, by omega⟩) rfl hl.1 rfl (Nat.le_of_ble_eq_true rfl) dL_law_945 ?_
  refine lv_iload (pc := 948) hx hb dL_law_948 (lv_at hl 1 rfl) ?_
  refine lv_icmp_eq (pc := 950) (tgt := 955) hx hb dL_law_950 (by decide) (fun _ => ?_) (fun c_ => absurd h3 c_)
  refine lv_iload (pc := 955) hx hb dL_law_955 (lv_at hl 1 rfl) ?_
  refine lv_if_ne (pc := 957) (tgt := 972) hx hb dL_law_957 (by decide) (fun _ => ?_) (fun c_ => absurd c_ (by decide))
  refine lv_goto (pc := 972) (tgt := 1905) hx hb dL_law_972 (by decide) ?_
  refine W.widen (k := kc + 20) (n := ks + 200) (by omega) (by omega) ?_
  exact kk H locs ls hP hD hS (lv_sub hl [2, 3, 4, 5, 6] rfl)
set_option maxHeartbeats 4000000 in
set_option maxRecDepth 100000 in
theorem lc_isCut {p : Program} {l : Launch} {e : Env} {s : State} {m : MethodId} {below : List Frame} {meth : Method} {c : Code} {X : z_X} {b L : Nat} {xs : Nat → Int32} (C : z_LC p l s m meth c X b L xs) {a : Nat} {d d2 : Nat → Nat} {B : z_B} {o : Nat} {g : Nat → Int64} {dm : Nat → Nat} {M : z_M} {H : Heap} {locs : List Loc} {ls : Array Slot} {Q : State → Prop} {u : Int32} (kc ks : Nat) (hk : kc + 20 ≤ room_1.cells ∧ ks + 200 ≤ room_1.slots) (i : Nat) (hu : u = nI i) (hi : i + 3 < L) (hP : va_P X.1 vwCl (z_wLw X a d d2 B o g dm M) H) (hD : va_D (fun q : Nat => s.heap.size ≤ q) (z_wLw X a d d2 B o g dm M)) (hS : va_S (fun q : Nat => s.heap.size ≤ q) s.heap H locs) (hl : lv_has ls 9 [(0, .ref b), (1, .ref a), (2, .ref (dm 0)), (3, .ref o), (4, .int u)]) {R1 : Int32} (hf1 : f_X4_isCut B (xs (i + 1)) = some R1) {R2 : (Int32 × z_M)} (hf2 : f_X5_isCut M (xs (i + 1)) = some R2) (h3 : R2.2.1 0 = 0) (h4 : R1 = R2.1) (kk : ∀ (H : Heap) (locs : List Loc) (ls : Array Slot), va_P X.1 vwCl (z_wLw X a d d2 B o (vp_updL g 0 (if R1 = 0 then 0 else 1)) dm R2.2) H → va_D (fun q : Nat => s.heap.size ≤ q) (z_wLw X a d d2 B o (vp_updL g 0 (if R1 = 0 then 0 else 1)) dm R2.2) → va_S (fun q : Nat => s.heap.size ≤ q) s.heap H locs → lv_has ls 9 [(0, .ref b), (1, .ref a), (2, .ref (dm 0)), (3, .ref o), (4, .int u)] → W p l e room_1 s m #[Value.ref b] below meth c H locs (kc + 20) (ks + 200) Q (F0 m 1905 ls [])) : W p l e room_1 s m #[Value.ref b] below meth c H locs kc ks Q (F0 m 975 ls []) := by
  obtain ⟨hx, hb, hml, hown, hts, hK, hN, hX, hbl, hT0, hl0, hL⟩ := C
  have hA : ∀ q : Nat, s.heap.size ≤ q → (fun q : Nat => s.heap.size ≤ q) q := fun _ h => h
  have hbA : ¬ (fun q : Nat => s.heap.size ≤ q) b := Nat.not_le.mpr hbl
  have S : CallFix p m c cL_law 9 s #[Value.ref b] wsL_law RL := ⟨hx, hb, hml, hown, hts⟩
  refine lv_aload_n (pc := 975) hx hb dL_law_975 rfl (lv_at hl 1 rfl) ?_
  refine lv_aload_n (pc := 976) hx hb dL_law_976 rfl (lv_at hl 0 rfl) ?_
  refine lv_iload (pc := 977) hx hb dL_law_977 (lv_at hl 4 rfl) ?_
  refine lv_iconst (v := 1) (pc := 979) hx hb dL_law_979 (by decide) ?_
  refine lv_iadd (pc := 980) hx hb dL_law_980 ?_
  refine z_sld (pc := 981) hx hb hX hbl hbA hS hL (i + 1) (z_oi i 1 hu 1 rfl) (by omega) dL_law_981 ?_
  refine lv_aload_n (pc := 982) hx hb dL_law_982 rfl (lv_at hl 3 rfl) ?_
  refine z_cwsI (pc := 983) (W1 := (z_wLw X a d d2 B o (vp_updL g 0 (if R1 = 0 then 0 else 1)) dm M)) S (wn_isCut l X a d d2 B o g (xs (i + 1)) hf1) (vx_cwSW 3 hts gL_law_L_isCut rfl rfl rfl hdL_isCut ⟨Nat.le_of_ble_eq_true rfl, Nat.le_of_ble_eq_true rfl⟩) hP hK hN hD hS hA (s_W_BO X a d d2 B o g dm M) (f_W_BO X a d d2 B o g dm M B (vp_updL g 0 (if R1 = 0 then 0 else 1))) (show kc ≤ room_1.cells ∧ ks ≤ room_1.slots from ⟨by omega, by omega⟩) rfl hl.1 rfl (Nat.le_of_ble_eq_true rfl) dL_law_983 (fun H locs hP hD hS => ?_)
  refine lv_istore (pc := 986) (lv' := [(5, .int 0), (0, .ref b), (1, .ref a), (2, .ref (dm 0)), (3, .ref o), (4, .int u)]) hx hb dL_law_986 hl (by decide) rfl (fun ls hl => ?_)
  refine lv_aload_n (pc := 988) hx hb dL_law_988 rfl (lv_at hl 3 rfl) ?_
  refine lv_aload_n (pc := 989) hx hb dL_law_989 rfl (lv_at hl 1 rfl) ?_
  refine lv_iload (pc := 990) hx hb dL_law_990 (lv_at hl 5 rfl) ?_
  refine lv_iconst (v := 1) (pc := 992) hx hb dL_law_992 (by decide) ?_
  refine lv_iadd (pc := 993) hx hb dL_law_993 ?_
  refine z_sld (pc := 994) hx hb hX hbl hbA hS hL (i + 1) (z_oi i 1 hu 1 rfl) (by omega) dL_law_994 ?_
  refine z_cmI (pc := 995) (W1 := (z_wLw X a d d2 B o (vp_updL g 0 (if R1 = 0 then 0 else 1)) dm R2.2)) S (m_X5_isCut l X dm M (xs (i + 1)) hf2) (cwV 1 hts gL_law_X5_isCut rfl rfl rfl hdX5_isCut ⟨Nat.le_of_ble_eq_true rfl, Nat.le_of_ble_eq_true rfl⟩) hP hK hN hD hS hA (s_W_M X a d d2 B o (vp_updL g 0 (if R1 = 0 then 0 else 1)) dm M) (f_W_M X a d d2 B o (vp_updL g 0 (if R1 = 0 then 0 else 1)) dm M R2.2) (ci := 5) rfl rfl rfl (show kc ≤ room_1.cells ∧ ks ≤ room_1.slots from ⟨by omega, by omega⟩) rfl hl.1 rfl (Nat.le_of_ble_eq_true rfl) dL_law_995 (fun H locs hP hD hS => ?_)
  refine lv_istore (pc := 998) (lv' := [(6, .int R2.1), (5, .int 0), (0, .ref b), (1, .ref a), (2, .ref (dm 0)), (3, .ref o), (4, .int u)]) hx hb dL_law_998 hl (by decide) rfl (fun ls hl => ?_)
  refine lv_aload_n (pc := 1000) hx hb dL_law_1000 rfl (lv_at hl 4 rfl) ?_
  refine z_cpI (pc := 1001) S (m_X5_thrown l X dm R2.2 rfl) (cwV 0 hts gL_law_X5_thrown rfl rfl rfl hdX5_thrown ⟨Nat.le_of_ble_eq_true rfl, Nat.le_of_ble_eq_true rfl⟩) hP hK hN (s_W_M X a d d2 B o (vp_updL g 0 (if R1 = 0 then 0 else 1)) dm R2.2) (ci := 5) rfl rfl rfl (show kc ≤ room_1.cells ∧ ks ≤ room_1.slots from ⟨by omega, by omega⟩) rfl hl.1 rfl (Nat.le_of_ble_eq_true rfl) dL_law_1001 ?_
  refine lv_iload (pc := 1004) hx hb dL_law_1004 (lv_at hl 1 rfl) ?_
  refine lv_icmp_eq (pc := 1006) (tgt := 1011) hx hb dL_law_1006 (by decide) (fun _ => ?_) (fun c_ => absurd h3 c_)
  refine lv_iload (pc := 1011) hx hb dL_law_1011 (lv_at hl 1 rfl) ?_
  refine lv_if_ne (pc := 1013) (tgt := 1035) hx hb dL_law_1013 (by decide) (fun c_ => absurd rfl c_) (fun _ => ?_)
  refine lv_aload_n (pc := 1016) hx hb dL_law_1016 rfl (lv_at hl 5 rfl) ?_
  refine lv_iconst (v := 0) (pc := 1017) hx hb dL_law_1017 (by decide) ?_
  refine va_lald (pc := 1018) hx hb hK hP 53 2 rfl rfl z_in01 dL_law_1018 ?_
  refine lv_iload (pc := 1019) hx hb dL_law_1019 (lv_at hl 0 rfl) ?_
  refine lv_if_eq (pc := 1021) (tgt := 1028) hx hb dL_law_1021 (by decide) (fun cb => ?_) (fun cb => ?_)
  · refine lv_lconst (v := 0) (pc := 1028) hx hb dL_law_1028 rfl ?_
    refine W.lcmp (pc := 1029) hx hb dL_law_1029 ?_
    refine lv_if_eq (pc := 1030) (tgt := 1035) hx hb dL_law_1030 (by decide) (fun _ => ?_) (fun c_ => absurd (show lg_cmp _ 0 = 0 from by rw [if_pos (h4.trans cb)]; exact z_cmp0 _) c_)
    refine lv_goto (pc := 1035) (tgt := 1905) hx hb dL_law_1035 (by decide) ?_
    refine W.widen (k := kc + 20) (n := ks + 200) (by omega) (by omega) ?_
    exact kk H locs ls hP hD hS (lv_sub hl [2, 3, 4, 5, 6] rfl)
  · refine lv_lconst (v := 1) (pc := 1024) hx hb dL_law_1024 rfl ?_
    refine lv_goto (pc := 1025) (tgt := 1029) hx hb dL_law_1025 (by decide) ?_
    refine W.lcmp (pc := 1029) hx hb dL_law_1029 ?_
    refine lv_if_eq (pc := 1030) (tgt := 1035) hx hb dL_law_1030 (by decide) (fun _ => ?_) (fun c_ => absurd (show lg_cmp _ 1 = 0 from by rw [if_neg (fun z => cb (h4.symm.trans z))]; exact z_cmp0 _) c_)
    refine lv_goto (pc := 1035) (tgt := 1905) hx hb dL_law_1035 (by decide) ?_
    refine W.widen (k := kc + 20) (n := ks + 200) (by omega) (by omega) ?_
    exact kk H locs ls hP hD hS (lv_sub hl [2, 3, 4, 5, 6] rfl)
set_option maxHeartbeats 4000000 in
set_option maxRecDepth 100000 in
theorem lc_isCut_t2 {p : Program} {l : Launch} {e : Env} {s : State} {m : MethodId} {below : List Frame} {meth : Method} {c : Code} {X : z_X} {b L : Nat} {xs : Nat → Int32} (C : z_LC p l s m meth c X b L xs) {a : Nat} {d d2 : Nat → Nat} {B : z_B} {o : Nat} {g : Nat → Int64} {dm : Nat → Nat} {M : z_M} {H : Heap} {locs : List Loc} {ls : Array Slot} {Q : State → Prop} {u : Int32} (kc ks : Nat) (hk : kc + 20 ≤ room_1.cells ∧ ks + 200 ≤ room_1.slots) (i : Nat) (hu : u = nI i) (hi : i + 3 < L) (hP : va_P X.1 vwCl (z_wLw X a d d2 B o g dm M) H) (hD : va_D (fun q : Nat => s.heap.size ≤ q) (z_wLw X a d d2 B o g dm M)) (hS : va_S (fun q : Nat => s.heap.size ≤ q) s.heap H locs) (hl : lv_has ls 9 [(0, .ref b), (1, .ref a), (2, .ref (dm 0)), (3, .ref o), (4, .int u)]) (hf1 : x_X4_isCut B (xs (i + 1)) = some 2) {R2 : (Int32 × z_M)} (hf2 : f_X5_isCut M (xs (i + 1)) = some R2) (h3 : R2.2.1 0 = 1) (kk : ∀ (H : Heap) (locs : List Loc) (ls : Array Slot), va_P X.1 vwCl (z_wLw X a d d2 B o g dm R2.2) H → va_D (fun q : Nat => s.heap.size ≤ q) (z_wLw X a d d2 B o g dm R2.2) → va_S (fun q : Nat => s.heap.size ≤ q) s.heap H locs → lv_has ls 9 [(0, .ref b), (1, .ref a), (2, .ref (dm 0)), (3, .ref o), (4, .int u)] → W p l e room_1 s m #[Value.ref b] below meth c H locs (kc + 20) (ks + 200) Q (F0 m 1905 ls [])) : W p l e room_1 s m #[Value.ref b] below meth c H locs kc ks Q (F0 m 975 ls []) := by
  obtain ⟨hx, hb, hml, hown, hts, hK, hN, hX, hbl, hT0, hl0, hL⟩ := C
  have hA : ∀ q : Nat, s.heap.size ≤ q → (fun q : Nat => s.heap.size ≤ q) q := fun _ h => h
  have hbA : ¬ (fun q : Nat => s.heap.size ≤ q) b := Nat.not_le.mpr hbl
  have S : CallFix p m c cL_law 9 s #[Value.ref b] wsL_law RL := ⟨hx, hb, hml, hown, hts⟩
  refine lv_aload_n (pc := 975) hx hb dL_law_975 rfl (lv_at hl 1 rfl) ?_
  refine lv_aload_n (pc := 976) hx hb dL_law_976 rfl (lv_at hl 0 rfl) ?_
  refine lv_iload (pc := 977) hx hb dL_law_977 (lv_at hl 4 rfl) ?_
  refine lv_iconst (v := 1) (pc := 979) hx hb dL_law_979 (by decide) ?_
  refine lv_iadd (pc := 980) hx hb dL_law_980 ?_
  refine z_sld (pc := 981) hx hb hX hbl hbA hS hL (i + 1) (z_oi i 1 hu 1 rfl) (by omega) dL_law_981 ?_
  refine lv_aload_n (pc := 982) hx hb dL_law_982 rfl (lv_at hl 3 rfl) ?_
  have hT : z_T z_no s H := (hT0.kept (fun q h1 h2 => hS.2.1 q h1 h2)).narrow (fun q h => h.elim)
  refine z_cweI (pc := 983) S (wt_isCut_2 l hl0 X a d d2 B o g (xs (i + 1)) hf1) (vx_cwSW 3 hts gL_law_L_isCut rfl rfl rfl hdL_isCut ⟨Nat.le_of_ble_eq_true rfl, Nat.le_of_ble_eq_true rfl⟩) hP hK hN hT hD hS hA (s_W_BO X a d d2 B o g dm M) (f_W_BO X a d d2 B o g dm M B g) (show kc + 1 ≤ room_1.cells ∧ ks + 6 ≤ room_1.slots from ⟨by omega, by omega⟩) rfl hl.1 rfl (Nat.le_of_ble_eq_true rfl) dL_law_983 (fun H locs hP hD hS => ?_)
  refine lv_istore (pc := 986) (lv' := [(5, .int 1), (0, .ref b), (1, .ref a), (2, .ref (dm 0)), (3, .ref o), (4, .int u)]) hx hb dL_law_986 hl (by decide) rfl (fun ls hl => ?_)
  refine lv_aload_n (pc := 988) hx hb dL_law_988 rfl (lv_at hl 3 rfl) ?_
  refine lv_aload_n (pc := 989) hx hb dL_law_989 rfl (lv_at hl 1 rfl) ?_
  refine lv_iload (pc := 990) hx hb dL_law_990 (lv_at hl 5 rfl) ?_
  refine lv_iconst (v := 1) (pc := 992) hx hb dL_law_992 (by decide) ?_
  refine lv_iadd (pc := 993) hx hb dL_law_993 ?_
  refine z_sld (pc := 994) hx hb hX hbl hbA hS hL (i + 1) (z_oi i 1 hu 1 rfl) (by omega) dL_law_994 ?_
  refine z_cmI (pc := 995) (W1 := (z_wLw X a d d2 B o g dm R2.2)) S (m_X5_isCut l X dm M (xs (i + 1)) hf2) (cwV 1 hts gL_law_X5_isCut rfl rfl rfl hdX5_isCut ⟨Nat.le_of_ble_eq_true rfl, Nat.le_of_ble_eq_true rfl⟩) hP hK hN hD hS hA (s_W_M X a d d2 B o g dm M) (f_W_M X a d d2 B o g dm M R2.2) (ci := 5) rfl rfl rfl (show (kc + 1) ≤ room_1.cells ∧ (ks + 6) ≤ room_1.slots from ⟨by omega, by omega⟩) rfl hl.1 rfl (Nat.le_of_ble_eq_true rfl) dL_law_995 (fun H locs hP hD hS => ?_)
  refine lv_istore (pc := 998) (lv' := [(6, .int R2.1), (5, .int 1), (0, .ref b), (1, .ref a), (2, .ref (dm 0)), (3, .ref o), (4, .int u)]) hx hb dL_law_998 hl (by decide) rfl (fun ls hl => ?_)
  refine lv_aload_n (pc := 1000) hx hb dL_law_1000 rfl (lv_at hl 4 rfl) ?_
  refine z_cpI (pc := 1001) S (m_X5_thrown l X dm R2.2 rfl) (cwV 0 hts gL_law_X5_thrown rfl rfl rfl hdX5_thrown ⟨Nat.le_of_ble_eq_true rfl, Nat.le_of_ble_eq_true rfl⟩) hP hK hN (s_W_M X a d d2 B o g dm R2.2) (ci := 5) rfl rfl rfl (show (kc + 1) ≤ room_1.cells ∧ (ks + 6) ≤ room_1.slots from ⟨by omega, by omega⟩) rfl hl.1 rfl (Nat.le_of_ble_eq_true rfl) dL_law_1001 ?_
  refine lv_iload (pc := 1004) hx hb dL_law_1004 (lv_at hl 1 rfl) ?_
  refine lv_icmp_eq (pc := 1006) (tgt := 1011) hx hb dL_law_1006 (by decide) (fun _ => ?_) (fun c_ => absurd h3 c_)
  refine lv_iload (pc := 1011) hx hb dL_law_1011 (lv_at hl 1 rfl) ?_
  refine lv_if_ne (pc := 1013) (tgt := 1035) hx hb dL_law_1013 (by decide) (fun _ => ?_) (fun c_ => absurd c_ (by decide))
  refine lv_goto (pc := 1035) (tgt := 1905) hx hb dL_law_1035 (by decide) ?_
  refine W.widen (k := kc + 20) (n := ks + 200) (by omega) (by omega) ?_
  exact kk H locs ls hP hD hS (lv_sub hl [2, 3, 4, 5, 6] rfl)
set_option maxHeartbeats 4000000 in
set_option maxRecDepth 100000 in
theorem lc_waitedFor {p : Program} {l : Launch} {e : Env} {s : State} {m : MethodId} {below : List Frame} {meth : Method} {c : Code} {X : z_X} {b L : Nat} {xs : Nat → Int32} (C : z_LC p l s m meth c X b L xs) {a : Nat} {d d2 : Nat → Nat} {B : z_B} {o : Nat} {g : Nat → Int64} {dm : Nat → Nat} {M : z_M} {H : Heap} {locs : List Loc} {ls : Array Slot} {Q : State → Prop} {u : Int32} (kc ks : Nat) (hk : kc + 20 ≤ room_1.cells ∧ ks + 200 ≤ room_1.slots) (i : Nat) (hu : u = nI i) (hi : i + 3 < L) (hP : va_P X.1 vwCl (z_wLw X a d d2 B o g dm M) H) (hD : va_D (fun q : Nat => s.heap.size ≤ q) (z_wLw X a d d2 B o g dm M)) (hS : va_S (fun q : Nat => s.heap.size ≤ q) s.heap H locs) (hl : lv_has ls 9 [(0, .ref b), (1, .ref a), (2, .ref (dm 0)), (3, .ref o), (4, .int u)]) {R1 : Int32} (hf1 : f_X4_waitedFor B (xs (i + 1)) = some R1) {R2 : (Int32 × z_M)} (hf2 : f_X5_waitedFor M (xs (i + 1)) = some R2) (h3 : R2.2.1 0 = 0) (h4 : R1 = R2.1) (kk : ∀ (H : Heap) (locs : List Loc) (ls : Array Slot), va_P X.1 vwCl (z_wLw X a d d2 B o (vp_updL g 0 (R1).toInt64) dm R2.2) H → va_D (fun q : Nat => s.heap.size ≤ q) (z_wLw X a d d2 B o (vp_updL g 0 (R1).toInt64) dm R2.2) → va_S (fun q : Nat => s.heap.size ≤ q) s.heap H locs → lv_has ls 9 [(0, .ref b), (1, .ref a), (2, .ref (dm 0)), (3, .ref o), (4, .int u)] → W p l e room_1 s m #[Value.ref b] below meth c H locs (kc + 20) (ks + 200) Q (F0 m 1905 ls [])) : W p l e room_1 s m #[Value.ref b] below meth c H locs kc ks Q (F0 m 1038 ls []) := by
  obtain ⟨hx, hb, hml, hown, hts, hK, hN, hX, hbl, hT0, hl0, hL⟩ := C
  have hA : ∀ q : Nat, s.heap.size ≤ q → (fun q : Nat => s.heap.size ≤ q) q := fun _ h => h
  have hbA : ¬ (fun q : Nat => s.heap.size ≤ q) b := Nat.not_le.mpr hbl
  have S : CallFix p m c cL_law 9 s #[Value.ref b] wsL_law RL := ⟨hx, hb, hml, hown, hts⟩
  refine lv_aload_n (pc := 1038) hx hb dL_law_1038 rfl (lv_at hl 1 rfl) ?_
  refine lv_aload_n (pc := 1039) hx hb dL_law_1039 rfl (lv_at hl 0 rfl) ?_
  refine lv_iload (pc := 1040) hx hb dL_law_1040 (lv_at hl 4 rfl) ?_
  refine lv_iconst (v := 1) (pc := 1042) hx hb dL_law_1042 (by decide) ?_
  refine lv_iadd (pc := 1043) hx hb dL_law_1043 ?_
  refine z_sld (pc := 1044) hx hb hX hbl hbA hS hL (i + 1) (z_oi i 1 hu 1 rfl) (by omega) dL_law_1044 ?_
  refine lv_aload_n (pc := 1045) hx hb dL_law_1045 rfl (lv_at hl 3 rfl) ?_
  refine z_cwsI (pc := 1046) (W1 := (z_wLw X a d d2 B o (vp_updL g 0 (R1).toInt64) dm M)) S (wn_waitedFor l X a d d2 B o g (xs (i + 1)) hf1) (vx_cwSW 3 hts gL_law_L_waitedFor rfl rfl rfl hdL_waitedFor ⟨Nat.le_of_ble_eq_true rfl, Nat.le_of_ble_eq_true rfl⟩) hP hK hN hD hS hA (s_W_BO X a d d2 B o g dm M) (f_W_BO X a d d2 B o g dm M B (vp_updL g 0 (R1).toInt64)) (show kc ≤ room_1.cells ∧ ks ≤ room_1.slots from ⟨by omega, by omega⟩) rfl hl.1 rfl (Nat.le_of_ble_eq_true rfl) dL_law_1046 (fun H locs hP hD hS => ?_)
  refine lv_istore (pc := 1049) (lv' := [(5, .int 0), (0, .ref b), (1, .ref a), (2, .ref (dm 0)), (3, .ref o), (4, .int u)]) hx hb dL_law_1049 hl (by decide) rfl (fun ls hl => ?_)
  refine lv_aload_n (pc := 1051) hx hb dL_law_1051 rfl (lv_at hl 3 rfl) ?_
  refine lv_aload_n (pc := 1052) hx hb dL_law_1052 rfl (lv_at hl 1 rfl) ?_
  refine lv_iload (pc := 1053) hx hb dL_law_1053 (lv_at hl 5 rfl) ?_
  refine lv_iconst (v := 1) (pc := 1055) hx hb dL_law_1055 (by decide) ?_
  refine lv_iadd (pc := 1056) hx hb dL_law_1056 ?_
  refine z_sld (pc := 1057) hx hb hX hbl hbA hS hL (i + 1) (z_oi i 1 hu 1 rfl) (by omega) dL_law_1057 ?_
  refine z_cmI (pc := 1058) (W1 := (z_wLw X a d d2 B o (vp_updL g 0 (R1).toInt64) dm R2.2)) S (m_X5_waitedFor l X dm M (xs (i + 1)) hf2) (cwV 1 hts gL_law_X5_waitedFor rfl rfl rfl hdX5_waitedFor ⟨Nat.le_of_ble_eq_true rfl, Nat.le_of_ble_eq_true rfl⟩) hP hK hN hD hS hA (s_W_M X a d d2 B o (vp_updL g 0 (R1).toInt64) dm M) (f_W_M X a d d2 B o (vp_updL g 0 (R1).toInt64) dm M R2.2) (ci := 5) rfl rfl rfl (show kc ≤ room_1.cells ∧ ks ≤ room_1.slots from ⟨by omega, by omega⟩) rfl hl.1 rfl (Nat.le_of_ble_eq_true rfl) dL_law_1058 (fun H locs hP hD hS => ?_)
  refine lv_istore (pc := 1061) (lv' := [(6, .int R2.1), (5, .int 0), (0, .ref b), (1, .ref a), (2, .ref (dm 0)), (3, .ref o), (4, .int u)]) hx hb dL_law_1061 hl (by decide) rfl (fun ls hl => ?_)
  refine lv_aload_n (pc := 1063) hx hb dL_law_1063 rfl (lv_at hl 4 rfl) ?_
  refine z_cpI (pc := 1064) S (m_X5_thrown l X dm R2.2 rfl) (cwV 0 hts gL_law_X5_thrown rfl rfl rfl hdX5_thrown ⟨Nat.le_of_ble_eq_true rfl, Nat.le_of_ble_eq_true rfl⟩) hP hK hN (s_W_M X a d d2 B o (vp_updL g 0 (R1).toInt64) dm R2.2) (ci := 5) rfl rfl rfl (show kc ≤ room_1.cells ∧ ks ≤ room_1.slots from ⟨by omega, by omega⟩) rfl hl.1 rfl (Nat.le_of_ble_eq_true rfl) dL_law_1064 ?_
  refine lv_iload (pc := 1067) hx hb dL_law_1067 (lv_at hl 1 rfl) ?_
  refine lv_icmp_eq (pc := 1069) (tgt := 1074) hx hb dL_law_1069 (by decide) (fun _ => ?_) (fun c_ => absurd h3 c_)
  refine lv_iload (pc := 1074) hx hb dL_law_1074 (lv_at hl 1 rfl) ?_
  refine lv_if_ne (pc := 1076) (tgt := 1091) hx hb dL_law_1076 (by decide) (fun c_ => absurd rfl c_) (fun _ => ?_)
  refine lv_aload_n (pc := 1079) hx hb dL_law_1079 rfl (lv_at hl 5 rfl) ?_
  refine lv_iconst (v := 0) (pc := 1080) hx hb dL_law_1080 (by decide) ?_
  refine va_lald (pc := 1081) hx hb hK hP 53 2 rfl rfl z_in01 dL_law_1081 ?_
  refine lv_iload (pc := 1082) hx hb dL_law_1082 (lv_at hl 0 rfl) ?_
  refine lv_i2l (v := (R2.1).toInt64) (pc := 1084) hx hb dL_law_1084 rfl ?_
  refine W.lcmp (pc := 1085) hx hb dL_law_1085 ?_
  refine lv_if_eq (pc := 1086) (tgt := 1091) hx hb dL_law_1086 (by decide) (fun _ => ?_) (fun c_ => absurd (show lg_cmp _ _ = 0 from by rw [← h4]; exact z_cmp0 _) c_)
  refine lv_goto (pc := 1091) (tgt := 1905) hx hb dL_law_1091 (by decide) ?_
  refine W.widen (k := kc + 20) (n := ks + 200) (by omega) (by omega) ?_
  exact kk H locs ls hP hD hS (lv_sub hl [2, 3, 4, 5, 6] rfl)
set_option maxHeartbeats 4000000 in
set_option maxRecDepth 100000 in
theorem lc_waitedFor_t2 {p : Program} {l : Launch} {e : Env} {s : State} {m : MethodId} {below : List Frame} {meth : Method} {c : Code} {X : z_X} {b L : Nat} {xs : Nat → Int32} (C : z_LC p l s m meth c X b L xs) {a : Nat} {d d2 : Nat → Nat} {B : z_B} {o : Nat} {g : Nat → Int64} {dm : Nat → Nat} {M : z_M} {H : Heap} {locs : List Loc} {ls : Array Slot} {Q : State → Prop} {u : Int32} (kc ks : Nat) (hk : kc + 20 ≤ room_1.cells ∧ ks + 200 ≤ room_1.slots) (i : Nat) (hu : u = nI i) (hi : i + 3 < L) (hP : va_P X.1 vwCl (z_wLw X a d d2 B o g dm M) H) (hD : va_D (fun q : Nat => s.heap.size ≤ q) (z_wLw X a d d2 B o g dm M)) (hS : va_S (fun q : Nat => s.heap.size ≤ q) s.heap H locs) (hl : lv_has ls 9 [(0, .ref b), (1, .ref a), (2, .ref (dm 0)), (3, .ref o), (4, .int u)]) (hf1 : x_X4_waitedFor B (xs (i + 1)) = some 2) {R2 : (Int32 × z_M)} (hf2 : f_X5_waitedFor M (xs (i + 1)) = some R2) (h3 : R2.2.1 0 = 1) (kk : ∀ (H : Heap) (locs : List Loc) (ls : Array Slot), va_P X.1 vwCl (z_wLw X a d d2 B o g dm R2.2) H → va_D (fun q : Nat => s.heap.size ≤ q) (z_wLw X a d d2 B o g dm R2.2) → va_S (fun q : Nat => s.heap.size ≤ q) s.heap H locs → lv_has ls 9 [(0, .ref b), (1, .ref a), (2, .ref (dm 0)), (3, .ref o), (4, .int u)] → W p l e room_1 s m #[Value.ref b] below meth c H locs (kc + 20) (ks + 200) Q (F0 m 1905 ls [])) : W p l e room_1 s m #[Value.ref b] below meth c H locs kc ks Q (F0 m 1038 ls []) := by
  obtain ⟨hx, hb, hml, hown, hts, hK, hN, hX, hbl, hT0, hl0, hL⟩ := C
  have hA : ∀ q : Nat, s.heap.size ≤ q → (fun q : Nat => s.heap.size ≤ q) q := fun _ h => h
  have hbA : ¬ (fun q : Nat => s.heap.size ≤ q) b := Nat.not_le.mpr hbl
  have S : CallFix p m c cL_law 9 s #[Value.ref b] wsL_law RL := ⟨hx, hb, hml, hown, hts⟩
  refine lv_aload_n (pc := 1038) hx hb dL_law_1038 rfl (lv_at hl 1 rfl) ?_
  refine lv_aload_n (pc := 1039) hx hb dL_law_1039 rfl (lv_at hl 0 rfl) ?_
  refine lv_iload (pc := 1040) hx hb dL_law_1040 (lv_at hl 4 rfl) ?_
  refine lv_iconst (v := 1) (pc := 1042) hx hb dL_law_1042 (by decide) ?_
  refine lv_iadd (pc := 1043) hx hb dL_law_1043 ?_
  refine z_sld (pc := 1044) hx hb hX hbl hbA hS hL (i + 1) (z_oi i 1 hu 1 rfl) (by omega) dL_law_1044 ?_
  refine lv_aload_n (pc := 1045) hx hb dL_law_1045 rfl (lv_at hl 3 rfl) ?_
  have hT : z_T z_no s H := (hT0.kept (fun q h1 h2 => hS.2.1 q h1 h2)).narrow (fun q h => h.elim)
  refine z_cweI (pc := 1046) S (wt_waitedFor_2 l hl0 X a d d2 B o g (xs (i + 1)) hf1) (vx_cwSW 3 hts gL_law_L_waitedFor rfl rfl rfl hdL_waitedFor ⟨Nat.le_of_ble_eq_true rfl, Nat.le_of_ble_eq_true rfl⟩) hP hK hN hT hD hS hA (s_W_BO X a d d2 B o g dm M) (f_W_BO X a d d2 B o g dm M B g) (show kc + 1 ≤ room_1.cells ∧ ks + 6 ≤ room_1.slots from ⟨by omega, by omega⟩) rfl hl.1 rfl (Nat.le_of_ble_eq_true rfl) dL_law_1046 (fun H locs hP hD hS => ?_)
  refine lv_istore (pc := 1049) (lv' := [(5, .int 1), (0, .ref b), (1, .ref a), (2, .ref (dm 0)), (3, .ref o), (4, .int u)]) hx hb dL_law_1049 hl (by decide) rfl (fun ls hl => ?_)
  refine lv_aload_n (pc := 1051) hx hb dL_law_1051 rfl (lv_at hl 3 rfl) ?_
  refine lv_aload_n (pc := 1052) hx hb dL_law_1052 rfl (lv_at hl 1 rfl) ?_
  refine lv_iload (pc := 1053) hx hb dL_law_1053 (lv_at hl 5 rfl) ?_
  refine lv_iconst (v := 1) (pc := 1055) hx hb dL_law_1055 (by decide) ?_
  refine lv_iadd (pc := 1056) hx hb dL_law_1056 ?_
  refine z_sld (pc := 1057) hx hb hX hbl hbA hS hL (i + 1) (z_oi i 1 hu 1 rfl) (by omega) dL_law_1057 ?_
  refine z_cmI (pc := 1058) (W1 := (z_wLw X a d d2 B o g dm R2.2)) S (m_X5_waitedFor l X dm M (xs (i + 1)) hf2) (cwV 1 hts gL_law_X5_waitedFor rfl rfl rfl hdX5_waitedFor ⟨Nat.le_of_ble_eq_true rfl, Nat.le_of_ble_eq_true rfl⟩) hP hK hN hD hS hA (s_W_M X a d d2 B o g dm M) (f_W_M X a d d2 B o g dm M R2.2) (ci := 5) rfl rfl rfl (show (kc + 1) ≤ room_1.cells ∧ (ks + 6) ≤ room_1.slots from ⟨by omega, by omega⟩) rfl hl.1 rfl (Nat.le_of_ble_eq_true rfl) dL_law_1058 (fun H locs hP hD hS => ?_)
  refine lv_istore (pc := 1061) (lv' := [(6, .int R2.1), (5, .int 1), (0, .ref b), (1, .ref a), (2, .ref (dm 0)), (3, .ref o), (4, .int u)]) hx hb dL_law_1061 hl (by decide) rfl (fun ls hl => ?_)
  refine lv_aload_n (pc := 1063) hx hb dL_law_1063 rfl (lv_at hl 4 rfl) ?_
  refine z_cpI (pc := 1064) S (m_X5_thrown l X dm R2.2 rfl) (cwV 0 hts gL_law_X5_thrown rfl rfl rfl hdX5_thrown ⟨Nat.le_of_ble_eq_true rfl, Nat.le_of_ble_eq_true rfl⟩) hP hK hN (s_W_M X a d d2 B o g dm R2.2) (ci := 5) rfl rfl rfl (show (kc + 1) ≤ room_1.cells ∧ (ks + 6) ≤ room_1.slots from ⟨by omega, by omega⟩) rfl hl.1 rfl (Nat.le_of_ble_eq_true rfl) dL_law_1064 ?_
  refine lv_iload (pc := 1067) hx hb dL_law_1067 (lv_at hl 1 rfl) ?_
  refine lv_icmp_eq (pc := 1069) (tgt := 1074) hx hb dL_law_1069 (by decide) (fun _ => ?_) (fun c_ => absurd h3 c_)
  refine lv_iload (pc := 1074) hx hb dL_law_1074 (lv_at hl 1 rfl) ?_
  refine lv_if_ne (pc := 1076) (tgt := 1091) hx hb dL_law_1076 (by decide) (fun _ => ?_) (fun c_ => absurd c_ (by decide))
  refine lv_goto (pc := 1091) (tgt := 1905) hx hb dL_law_1091 (by decide) ?_
  refine W.widen (k := kc + 20) (n := ks + 200) (by omega) (by omega) ?_
  exact kk H locs ls hP hD hS (lv_sub hl [2, 3, 4, 5, 6] rfl)
set_option maxHeartbeats 4000000 in
set_option maxRecDepth 100000 in
theorem lc_longestWaiting {p : Program} {l : Launch} {e : Env} {s : State} {m : MethodId} {below : List Frame} {meth : Method} {c : Code} {X : z_X} {b L : Nat} {xs : Nat → Int32} (C : z_LC p l s m meth c X b L xs) {a : Nat} {d d2 : Nat → Nat} {B : z_B} {o : Nat} {g : Nat → Int64} {dm : Nat → Nat} {M : z_M} {H : Heap} {locs : List Loc} {ls : Array Slot} {Q : State → Prop} {u : Int32} (kc ks : Nat) (hk : kc + 20 ≤ room_1.cells ∧ ks + 200 ≤ room_1.slots) (i : Nat) (hu : u = nI i) (hi : i + 3 < L) (hP : va_P X.1 vwCl (z_wLw X a d d2 B o g dm M) H) (hD : va_D (fun q : Nat => s.heap.size ≤ q) (z_wLw X a d d2 B o g dm M)) (hS : va_S (fun q : Nat => s.heap.size ≤ q) s.heap H locs) (hl : lv_has ls 9 [(0, .ref b), (1, .ref a), (2, .ref (dm 0)), (3, .ref o), (4, .int u)]) {R1 : Int32} (hf1 : f_X4_longestWaiting B = some R1) {R2 : (Int32 × z_M)} (hf2 : f_X5_longestWaiting M = some R2) (h4 : R1 = R2.1) (kk : ∀ (H : Heap) (locs : List Loc) (ls : Array Slot), va_P X.1 vwCl (z_wLw X a d d2 B o g dm R2.2) H → va_D (fun q : Nat => s.heap.size ≤ q) (z_wLw X a d d2 B o g dm R2.2) → va_S (fun q : Nat => s.heap.size ≤ q) s.heap H locs → lv_has ls 9 [(0, .ref b), (1, .ref a), (2, .ref (dm 0)), (3, .ref o), (4, .int u)] → W p l e room_1 s m #[Value.ref b] below meth c H locs (kc + 20) (ks + 200) Q (F0 m 1905 ls [])) : W p l e room_1 s m #[Value.ref b] below meth c H locs kc ks Q (F0 m 1094 ls []) := by
  obtain ⟨hx, hb, hml, hown, hts, hK, hN, hX, hbl, hT0, hl0, hL⟩ := C
  have hA : ∀ q : Nat, s.heap.size ≤ q → (fun q : Nat => s.heap.size ≤ q) q := fun _ h => h
  have hbA : ¬ (fun q : Nat => s.heap.size ≤ q) b := Nat.not_le.mpr hbl
  have S : CallFix p m c cL_law 9 s #[Value.ref b] wsL_law RL := ⟨hx, hb, hml, hown, hts⟩
  refine lv_aload_n (pc := 1094) hx hb dL_law_1094 rfl (lv_at hl 1 rfl) ?_
  refine z_cpI (pc := 1095) S (m_X4_longestWaiting l X a d d2 B hf1) (cwV 0 hts gL_law_X4_longestWaiting rfl rfl rfl hdX4_longestWaiting ⟨Nat.le_of_ble_eq_true rfl, Nat.le_of_ble_eq_true rfl⟩) hP hK hN (s_W_B X a d d2 B o g dm M) (ci := 4) rfl rfl rfl (show kc ≤ room_1.cells ∧ ks ≤ room_1.slots from ⟨by omega, by omega⟩) rfl hl.1 rfl (Nat.le_of_ble_eq_true rfl) dL_law_1095 ?_
  refine lv_aload_n (pc := 1098) hx hb dL_law_1098 rfl (lv_at hl 2 rfl) ?_
  refine z_cmI (pc := 1099) (W1 := (z_wLw X a d d2 B o g dm R2.2)) S (m_X5_longestWaiting l X dm M hf2) (cwV 0 hts gL_law_X5_longestWaiting rfl rfl rfl hdX5_longestWaiting ⟨Nat.le_of_ble_eq_true rfl, Nat.le_of_ble_eq_true rfl⟩) hP hK hN hD hS hA (s_W_M X a d d2 B o g dm M) (f_W_M X a d d2 B o g dm M R2.2) (ci := 5) rfl rfl rfl (show kc ≤ room_1.cells ∧ ks ≤ room_1.slots from ⟨by omega, by omega⟩) rfl hl.1 rfl (Nat.le_of_ble_eq_true rfl) dL_law_1099 (fun H locs hP hD hS => ?_)
  refine lv_icmp_eq (pc := 1102) (tgt := 1905) hx hb dL_law_1102 (by decide) (fun _ => ?_) (fun c_ => absurd h4 c_)
  refine W.widen (k := kc + 20) (n := ks + 200) (by omega) (by omega) ?_
  exact kk H locs ls hP hD hS (lv_sub hl [0, 1, 2, 3, 4] rfl)
set_option maxHeartbeats 4000000 in
set_option maxRecDepth 100000 in
theorem lc_crossed {p : Program} {l : Launch} {e : Env} {s : State} {m : MethodId} {below : List Frame} {meth : Method} {c : Code} {X : z_X} {b L : Nat} {xs : Nat → Int32} (C : z_LC p l s m meth c X b L xs) {a : Nat} {d d2 : Nat → Nat} {B : z_B} {o : Nat} {g : Nat → Int64} {dm : Nat → Nat} {M : z_M} {H : Heap} {locs : List Loc} {ls : Array Slot} {Q : State → Prop} {u : Int32} (kc ks : Nat) (hk : kc + 20 ≤ room_1.cells ∧ ks + 200 ≤ room_1.slots) (i : Nat) (hu : u = nI i) (hi : i + 3 < L) (hP : va_P X.1 vwCl (z_wLw X a d d2 B o g dm M) H) (hD : va_D (fun q : Nat => s.heap.size ≤ q) (z_wLw X a d d2 B o g dm M)) (hS : va_S (fun q : Nat => s.heap.size ≤ q) s.heap H locs) (hl : lv_has ls 9 [(0, .ref b), (1, .ref a), (2, .ref (dm 0)), (3, .ref o), (4, .int u)]) {R1 : Int32} (hf1 : f_X4_crossed B = some R1) {R2 : (Int32 × z_M)} (hf2 : f_X5_crossed M = some R2) (h4 : R1 = R2.1) (kk : ∀ (H : Heap) (locs : List Loc) (ls : Array Slot), va_P X.1 vwCl (z_wLw X a d d2 B o g dm R2.2) H → va_D (fun q : Nat => s.heap.size ≤ q) (z_wLw X a d d2 B o g dm R2.2) → va_S (fun q : Nat => s.heap.size ≤ q) s.heap H locs → lv_has ls 9 [(0, .ref b), (1, .ref a), (2, .ref (dm 0)), (3, .ref o), (4, .int u)] → W p l e room_1 s m #[Value.ref b] below meth c H locs (kc + 20) (ks + 200) Q (F0 m 1905 ls [])) : W p l e room_1 s m #[Value.ref b] below meth c H locs kc ks Q (F0 m 1107 ls []) := by
  obtain ⟨hx, hb, hml, hown, hts, hK, hN, hX, hbl, hT0, hl0, hL⟩ := C
  have hA : ∀ q : Nat, s.heap.size ≤ q → (fun q : Nat => s.heap.size ≤ q) q := fun _ h => h
  have hbA : ¬ (fun q : Nat => s.heap.size ≤ q) b := Nat.not_le.mpr hbl
  have S : CallFix p m c cL_law 9 s #[Value.ref b] wsL_law RL := ⟨hx, hb, hml, hown, hts⟩
  refine lv_aload_n (pc := 1107) hx hb dL_law_1107 rfl (lv_at hl 1 rfl) ?_
  refine z_cpI (pc := 1108) S (m_X4_crossed l X a d d2 B hf1) (cwV 0 hts gL_law_X4_crossed rfl rfl rfl hdX4_crossed ⟨Nat.le_of_ble_eq_true rfl, Nat.le_of_ble_eq_true rfl⟩) hP hK hN (s_W_B X a d d2 B o g dm M) (ci := 4) rfl rfl rfl (show kc ≤ room_1.cells ∧ ks ≤ room_1.slots from ⟨by omega, by omega⟩) rfl hl.1 rfl (Nat.le_of_ble_eq_true rfl) dL_law_1108 ?_
  refine lv_aload_n (pc := 1111) hx hb dL_law_1111 rfl (lv_at hl 2 rfl) ?_
  refine z_cmI (pc := 1112) (W1 := (z_wLw X a d d2 B o g dm R2.2)) S (m_X5_crossed l X dm M hf2) (cwV 0 hts gL_law_X5_crossed rfl rfl rfl hdX5_crossed ⟨Nat.le_of_ble_eq_true rfl, Nat.le_of_ble_eq_true rfl⟩) hP hK hN hD hS hA (s_W_M X a d d2 B o g dm M) (f_W_M X a d d2 B o g dm M R2.2) (ci := 5) rfl rfl rfl (show kc ≤ room_1.cells ∧ ks ≤ room_1.slots from ⟨by omega, by omega⟩) rfl hl.1 rfl (Nat.le_of_ble_eq_true rfl) dL_law_1112 (fun H locs hP hD hS => ?_)
  refine lv_icmp_eq (pc := 1115) (tgt := 1905) hx hb dL_law_1115 (by decide) (fun _ => ?_) (fun c_ => absurd h4 c_)
  refine W.widen (k := kc + 20) (n := ks + 200) (by omega) (by omega) ?_
  exact kk H locs ls hP hD hS (lv_sub hl [0, 1, 2, 3, 4] rfl)
set_option maxHeartbeats 4000000 in
set_option maxRecDepth 100000 in
theorem lc_crossingsNeeded {p : Program} {l : Launch} {e : Env} {s : State} {m : MethodId} {below : List Frame} {meth : Method} {c : Code} {X : z_X} {b L : Nat} {xs : Nat → Int32} (C : z_LC p l s m meth c X b L xs) {a : Nat} {d d2 : Nat → Nat} {B : z_B} {o : Nat} {g : Nat → Int64} {dm : Nat → Nat} {M : z_M} {H : Heap} {locs : List Loc} {ls : Array Slot} {Q : State → Prop} {u : Int32} (kc ks : Nat) (hk : kc + 20 ≤ room_1.cells ∧ ks + 200 ≤ room_1.slots) (i : Nat) (hu : u = nI i) (hi : i + 3 < L) (hP : va_P X.1 vwCl (z_wLw X a d d2 B o g dm M) H) (hD : va_D (fun q : Nat => s.heap.size ≤ q) (z_wLw X a d d2 B o g dm M)) (hS : va_S (fun q : Nat => s.heap.size ≤ q) s.heap H locs) (hl : lv_has ls 9 [(0, .ref b), (1, .ref a), (2, .ref (dm 0)), (3, .ref o), (4, .int u)]) {R1 : Int32} (hf1 : f_X4_crossingsNeeded B = some R1) {R2 : (Int32 × z_M)} (hf2 : f_X5_crossingsNeeded M = some R2) (h4 : R1 = R2.1) (kk : ∀ (H : Heap) (locs : List Loc) (ls : Array Slot), va_P X.1 vwCl (z_wLw X a d d2 B o g dm R2.2) H → va_D (fun q : Nat => s.heap.size ≤ q) (z_wLw X a d d2 B o g dm R2.2) → va_S (fun q : Nat => s.heap.size ≤ q) s.heap H locs → lv_has ls 9 [(0, .ref b), (1, .ref a), (2, .ref (dm 0)), (3, .ref o), (4, .int u)] → W p l e room_1 s m #[Value.ref b] below meth c H locs (kc + 20) (ks + 200) Q (F0 m 1905 ls [])) : W p l e room_1 s m #[Value.ref b] below meth c H locs kc ks Q (F0 m 1120 ls []) := by
  obtain ⟨hx, hb, hml, hown, hts, hK, hN, hX, hbl, hT0, hl0, hL⟩ := C
  have hA : ∀ q : Nat, s.heap.size ≤ q → (fun q : Nat => s.heap.size ≤ q) q := fun _ h => h
  have hbA : ¬ (fun q : Nat => s.heap.size ≤ q) b := Nat.not_le.mpr hbl
  have S : CallFix p m c cL_law 9 s #[Value.ref b] wsL_law RL := ⟨hx, hb, hml, hown, hts⟩
  refine lv_aload_n (pc := 1120) hx hb dL_law_1120 rfl (lv_at hl 1 rfl) ?_
  refine z_cpI (pc := 1121) S (m_X4_crossingsNeeded l X a d d2 B hf1) (cwV 0 hts gL_law_X4_crossingsNeeded rfl rfl rfl hdX4_crossingsNeeded ⟨Nat.le_of_ble_eq_true rfl, Nat.le_of_ble_eq_true rfl⟩) hP hK hN (s_W_B X a d d2 B o g dm M) (ci := 4) rfl rfl rfl (show kc ≤ room_1.cells ∧ ks ≤ room_1.slots from ⟨by omega, by omega⟩) rfl hl.1 rfl (Nat.le_of_ble_eq_true rfl) dL_law_1121 ?_
  refine lv_aload_n (pc := 1124) hx hb dL_law_1124 rfl (lv_at hl 2 rfl) ?_
  refine z_cmI (pc := 1125) (W1 := (z_wLw X a d d2 B o g dm R2.2)) S (m_X5_crossingsNeeded l X dm M hf2) (cwV 0 hts gL_law_X5_crossingsNeeded rfl rfl rfl hdX5_crossingsNeeded ⟨Nat.le_of_ble_eq_true rfl, Nat.le_of_ble_eq_true rfl⟩) hP hK hN hD hS hA (s_W_M X a d d2 B o g dm M) (f_W_M X a d d2 B o g dm M R2.2) (ci := 5) rfl rfl rfl (show kc ≤ room_1.cells ∧ ks ≤ room_1.slots from ⟨by omega, by omega⟩) rfl hl.1 rfl (Nat.le_of_ble_eq_true rfl) dL_law_1125 (fun H locs hP hD hS => ?_)
  refine lv_icmp_eq (pc := 1128) (tgt := 1905) hx hb dL_law_1128 (by decide) (fun _ => ?_) (fun c_ => absurd h4 c_)
  refine W.widen (k := kc + 20) (n := ks + 200) (by omega) (by omega) ?_
  exact kk H locs ls hP hD hS (lv_sub hl [0, 1, 2, 3, 4] rfl)
set_option maxHeartbeats 4000000 in
set_option maxRecDepth 100000 in
theorem lc_fallen {p : Program} {l : Launch} {e : Env} {s : State} {m : MethodId} {below : List Frame} {meth : Method} {c : Code} {X : z_X} {b L : Nat} {xs : Nat → Int32} (C : z_LC p l s m meth c X b L xs) {a : Nat} {d d2 : Nat → Nat} {B : z_B} {o : Nat} {g : Nat → Int64} {dm : Nat → Nat} {M : z_M} {H : Heap} {locs : List Loc} {ls : Array Slot} {Q : State → Prop} {u : Int32} (kc ks : Nat) (hk : kc + 20 ≤ room_1.cells ∧ ks + 200 ≤ room_1.slots) (i : Nat) (hu : u = nI i) (hi : i + 3 < L) (hP : va_P X.1 vwCl (z_wLw X a d d2 B o g dm M) H) (hD : va_D (fun q : Nat => s.heap.size ≤ q) (z_wLw X a d d2 B o g dm M)) (hS : va_S (fun q : Nat => s.heap.size ≤ q) s.heap H locs) (hl : lv_has ls 9 [(0, .ref b), (1, .ref a), (2, .ref (dm 0)), (3, .ref o), (4, .int u)]) {R2 : (Int32 × z_M)} (hf2 : f_X5_fallen M = some R2) (h4 : (f_X4_fallen B) = R2.1) (kk : ∀ (H : Heap) (locs : List Loc) (ls : Array Slot), va_P X.1 vwCl (z_wLw X a d d2 B o g dm R2.2) H → va_D (fun q : Nat => s.heap.size ≤ q) (z_wLw X a d d2 B o g dm R2.2) → va_S (fun q : Nat => s.heap.size ≤ q) s.heap H locs → lv_has ls 9 [(0, .ref b), (1, .ref a), (2, .ref (dm 0)), (3, .ref o), (4, .int u)] → W p l e room_1 s m #[Value.ref b] below meth c H locs (kc + 20) (ks + 200) Q (F0 m 1905 ls [])) : W p l e room_1 s m #[Value.ref b] below meth c H locs kc ks Q (F0 m 1133 ls []) := by
  obtain ⟨hx, hb, hml, hown, hts, hK, hN, hX, hbl, hT0, hl0, hL⟩ := C
  have hA : ∀ q : Nat, s.heap.size ≤ q → (fun q : Nat => s.heap.size ≤ q) q := fun _ h => h
  have hbA : ¬ (fun q : Nat => s.heap.size ≤ q) b := Nat.not_le.mpr hbl
  have S : CallFix p m c cL_law 9 s #[Value.ref b] wsL_law RL := ⟨hx, hb, hml, hown, hts⟩
  refine lv_aload_n (pc := 1133) hx hb dL_law_1133 rfl (lv_at hl 1 rfl) ?_
  refine z_cpI (pc := 1134) S (m_X4_fallen l X a d d2 B rfl) (cwV 0 hts gL_law_X4_fallen rfl rfl rfl hdX4_fallen ⟨Nat.le_of_ble_eq_true rfl, Nat.le_of_ble_eq_true rfl⟩) hP hK hN (s_W_B X a d d2 B o g dm M) (ci := 4) rfl rfl rfl (show kc ≤ room_1.cells ∧ ks ≤ room_1.slots from ⟨by omega, by omega⟩) rfl hl.1 rfl (Nat.le_of_ble_eq_true rfl) dL_law_1134 ?_
  refine lv_aload_n (pc := 1137) hx hb dL_law_1137 rfl (lv_at hl 2 rfl) ?_
  refine z_cmI (pc := 1138) (W1 := (z_wLw X a d d2 B o g dm R2.2)) S (m_X5_fallen l X dm M hf2) (cwV 0 hts gL_law_X5_fallen rfl rfl rfl hdX5_fallen ⟨Nat.le_of_ble_eq_true rfl, Nat.le_of_ble_eq_true rfl⟩) hP hK hN hD hS hA (s_W_M X a d d2 B o g dm M) (f_W_M X a d d2 B o g dm M R2.2) (ci := 5) rfl rfl rfl (show kc ≤ room_1.cells ∧ ks ≤ room_1.slots from ⟨by omega, by omega⟩) rfl hl.1 rfl (Nat.le_of_ble_eq_true rfl) dL_law_1138 (fun H locs hP hD hS => ?_)
  refine lv_icmp_eq (pc := 1141) (tgt := 1905) hx hb dL_law_1141 (by decide) (fun _ => ?_) (fun c_ => absurd h4 c_)
  refine W.widen (k := kc + 20) (n := ks + 200) (by omega) (by omega) ?_
  exact kk H locs ls hP hD hS (lv_sub hl [0, 1, 2, 3, 4] rfl)
set_option maxHeartbeats 4000000 in
set_option maxRecDepth 100000 in
theorem lc_hasFallen {p : Program} {l : Launch} {e : Env} {s : State} {m : MethodId} {below : List Frame} {meth : Method} {c : Code} {X : z_X} {b L : Nat} {xs : Nat → Int32} (C : z_LC p l s m meth c X b L xs) {a : Nat} {d d2 : Nat → Nat} {B : z_B} {o : Nat} {g : Nat → Int64} {dm : Nat → Nat} {M : z_M} {H : Heap} {locs : List Loc} {ls : Array Slot} {Q : State → Prop} {u : Int32} (kc ks : Nat) (hk : kc + 20 ≤ room_1.cells ∧ ks + 200 ≤ room_1.slots) (i : Nat) (hu : u = nI i) (hi : i + 3 < L) (hP : va_P X.1 vwCl (z_wLw X a d d2 B o g dm M) H) (hD : va_D (fun q : Nat => s.heap.size ≤ q) (z_wLw X a d d2 B o g dm M)) (hS : va_S (fun q : Nat => s.heap.size ≤ q) s.heap H locs) (hl : lv_has ls 9 [(0, .ref b), (1, .ref a), (2, .ref (dm 0)), (3, .ref o), (4, .int u)]) {R1 : Int32} (hf1 : f_X4_hasFallen B (xs (i + 1)) = some R1) {R2 : (Int32 × z_M)} (hf2 : f_X5_hasFallen M (xs (i + 1)) = some R2) (h3 : R2.2.1 0 = 0) (h4 : R1 = R2.1) (kk : ∀ (H : Heap) (locs : List Loc) (ls : Array Slot), va_P X.1 vwCl (z_wLw X a d d2 B o (vp_updL g 0 (if R1 = 0 then 0 else 1)) dm R2.2) H → va_D (fun q : Nat => s.heap.size ≤ q) (z_wLw X a d d2 B o (vp_updL g 0 (if R1 = 0 then 0 else 1)) dm R2.2) → va_S (fun q : Nat => s.heap.size ≤ q) s.heap H locs → lv_has ls 9 [(0, .ref b), (1, .ref a), (2, .ref (dm 0)), (3, .ref o), (4, .int u)] → W p l e room_1 s m #[Value.ref b] below meth c H locs (kc + 20) (ks + 200) Q (F0 m 1905 ls [])) : W p l e room_1 s m #[Value.ref b] below meth c H locs kc ks Q (F0 m 1146 ls []) := by
  obtain ⟨hx, hb, hml, hown, hts, hK, hN, hX, hbl, hT0, hl0, hL⟩ := C
  have hA : ∀ q : Nat, s.heap.size ≤ q → (fun q : Nat => s.heap.size ≤ q) q := fun _ h => h
  have hbA : ¬ (fun q : Nat => s.heap.size ≤ q) b := Nat.not_le.mpr hbl
  have S : CallFix p m c cL_law 9 s #[Value.ref b] wsL_law RL := ⟨hx, hb, hml, hown, hts⟩
  refine lv_aload_n (pc := 1146) hx hb dL_law_1146 rfl (lv_at hl 1 rfl) ?_
  refine lv_aload_n (pc := 1147) hx hb dL_law_1147 rfl (lv_at hl 0 rfl) ?_
  refine lv_iload (pc := 1148) hx hb dL_law_1148 (lv_at hl 4 rfl) ?_
  refine lv_iconst (v := 1) (pc := 1150) hx hb dL_law_1150 (by decide) ?_
  refine lv_iadd (pc := 1151) hx hb dL_law_1151 ?_
  refine z_sld (pc := 1152) hx hb hX hbl hbA hS hL (i + 1) (z_oi i 1 hu 1 rfl) (by omega) dL_law_1152 ?_
  refine lv_aload_n (pc := 1153) hx hb dL_law_1153 rfl (lv_at hl 3 rfl) ?_
  refine z_cwsI (pc := 1154) (W1 := (z_wLw X a d d2 B o (vp_updL g 0 (if R1 = 0 then 0 else 1)) dm M)) S (wn_hasFallen l X a d d2 B o g (xs (i + 1)) hf1) (vx_cwSW 3 hts gL_law_L_hasFallen rfl rfl rfl hdL_hasFallen ⟨Nat.le_of_ble_eq_true rfl, Nat.le_of_ble_eq_true rfl⟩) hP hK hN hD hS hA (s_W_BO X a d d2 B o g dm M) (f_W_BO X a d d2 B o g dm M B (vp_updL g 0 (if R1 = 0 then 0 else 1))) (show kc ≤ room_1.cells ∧ ks ≤ room_1.slots from ⟨by omega, by omega⟩) rfl hl.1 rfl (Nat.le_of_ble_eq_true rfl) dL_law_1154 (fun H locs hP hD hS => ?_)
  refine lv_istore (pc := 1157) (lv' := [(5, .int 0), (0, .ref b), (1, .ref a), (2, .ref (dm 0)), (3, .ref o), (4, .int u)]) hx hb dL_law_1157 hl (by decide) rfl (fun ls hl => ?_)
  refine lv_aload_n (pc := 1159) hx hb dL_law_1159 rfl (lv_at hl 3 rfl) ?_
  refine lv_aload_n (pc := 1160) hx hb dL_law_1160 rfl (lv_at hl 1 rfl) ?_
  refine lv_iload (pc := 1161) hx hb dL_law_1161 (lv_at hl 5 rfl) ?_
  refine lv_iconst (v := 1) (pc := 1163) hx hb dL_law_1163 (by decide) ?_
  refine lv_iadd (pc := 1164) hx hb dL_law_1164 ?_
  refine z_sld (pc := 1165) hx hb hX hbl hbA hS hL (i + 1) (z_oi i 1 hu 1 rfl) (by omega) dL_law_1165 ?_
  refine z_cmI (pc := 1166) (W1 := (z_wLw X a d d2 B o (vp_updL g 0 (if R1 = 0 then 0 else 1)) dm R2.2)) S (m_X5_hasFallen l X dm M (xs (i + 1)) hf2) (cwV 1 hts gL_law_X5_hasFallen rfl rfl rfl hdX5_hasFallen ⟨Nat.le_of_ble_eq_true rfl, Nat.le_of_ble_eq_true rfl⟩) hP hK hN hD hS hA (s_W_M X a d d2 B o (vp_updL g 0 (if R1 = 0 then 0 else 1)) dm M) (f_W_M X a d d2 B o (vp_updL g 0 (if R1 = 0 then 0 else 1)) dm M R2.2) (ci := 5) rfl rfl rfl (show kc ≤ room_1.cells ∧ ks ≤ room_1.slots from ⟨by omega, by omega⟩) rfl hl.1 rfl (Nat.le_of_ble_eq_true rfl) dL_law_1166 (fun H locs hP hD hS => ?_)
  refine lv_istore (pc := 1169) (lv' := [(6, .int R2.1), (5, .int 0), (0, .ref b), (1, .ref a), (2, .ref (dm 0)), (3, .ref o), (4, .int u)]) hx hb dL_law_1169 hl (by decide) rfl (fun ls hl => ?_)
  refine lv_aload_n (pc := 1171) hx hb dL_law_1171 rfl (lv_at hl 4 rfl) ?_
  refine z_cpI (pc := 1172) S (m_X5_thrown l X dm R2.2 rfl) (cwV 0 hts gL_law_X5_thrown rfl rfl rfl hdX5_thrown ⟨Nat.le_of_ble_eq_true rfl, Nat.le_of_ble_eq_true rfl⟩) hP hK hN (s_W_M X a d d2 B o (vp_updL g 0 (if R1 = 0 then 0 else 1)) dm R2.2) (ci := 5) rfl rfl rfl (show kc ≤ room_1.cells ∧ ks ≤ room_1.slots from ⟨by omega, by omega⟩) rfl hl.1 rfl (Nat.le_of_ble_eq_true rfl) dL_law_1172 ?_
  refine lv_iload (pc := 1175) hx hb dL_law_1175 (lv_at hl 1 rfl) ?_
  refine lv_icmp_eq (pc := 1177) (tgt := 1182) hx hb dL_law_1177 (by decide) (fun _ => ?_) (fun c_ => absurd h3 c_)
  refine lv_iload (pc := 1182) hx hb dL_law_1182 (lv_at hl 1 rfl) ?_
  refine lv_if_ne (pc := 1184) (tgt := 1206) hx hb dL_law_1184 (by decide) (fun c_ => absurd rfl c_) (fun _ => ?_)
  refine lv_aload_n (pc := 1187) hx hb dL_law_1187 rfl (lv_at hl 5 rfl) ?_
  refine lv_iconst (v := 0) (pc := 1188) hx hb dL_law_1188 (by decide) ?_
  refine va_lald (pc := 1189) hx hb hK hP 53 2 rfl rfl z_in01 dL_law_1189 ?_
  refine lv_iload (pc := 1190) hx hb dL_law_1190 (lv_at hl 0 rfl) ?_
  refine lv_if_eq (pc := 1192) (tgt := 1199) hx hb dL_law_1192 (by decide) (fun cb => ?_) (fun cb => ?_)
  · refine lv_lconst (v := 0) (pc := 1199) hx hb dL_law_1199 rfl ?_
    refine W.lcmp (pc := 1200) hx hb dL_law_1200 ?_
    refine lv_if_eq (pc := 1201) (tgt := 1206) hx hb dL_law_1201 (by decide) (fun _ => ?_) (fun c_ => absurd (show lg_cmp _ 0 = 0 from by rw [if_pos (h4.trans cb)]; exact z_cmp0 _) c_)
    refine lv_goto (pc := 1206) (tgt := 1905) hx hb dL_law_1206 (by decide) ?_
    refine W.widen (k := kc + 20) (n := ks + 200) (by omega) (by omega) ?_
    exact kk H locs ls hP hD hS (lv_sub hl [2, 3, 4, 5, 6] rfl)
  · refine lv_lconst (v := 1) (pc := 1195) hx hb dL_law_1195 rfl ?_
    refine lv_goto (pc := 1196) (tgt := 1200) hx hb dL_law_1196 (by decide) ?_
    refine W.lcmp (pc := 1200) hx hb dL_law_1200 ?_
    refine lv_if_eq (pc := 1201) (tgt := 1206) hx hb dL_law_1201 (by decide) (fun _ => ?_) (fun c_ => absurd (show lg_cmp _ 1 = 0 from by rw [if_neg (fun z => cb (h4.symm.trans z))]; exact z_cmp0 _) c_)
    refine lv_goto (pc := 1206) (tgt := 1905) hx hb dL_law_1206 (by decide) ?_
    refine W.widen (k := kc + 20) (n := ks + 200) (by omega) (by omega) ?_
    exact kk H locs ls hP hD hS (lv_sub hl [2, 3, 4, 5, 6] rfl)
set_option maxHeartbeats 4000000 in
set_option maxRecDepth 100000 in
theorem lc_hasFallen_t2 {p : Program} {l : Launch} {e : Env} {s : State} {m : MethodId} {below : List Frame} {meth : Method} {c : Code} {X : z_X} {b L : Nat} {xs : Nat → Int32} (C : z_LC p l s m meth c X b L xs) {a : Nat} {d d2 : Nat → Nat} {B : z_B} {o : Nat} {g : Nat → Int64} {dm : Nat → Nat} {M : z_M} {H : Heap} {locs : List Loc} {ls : Array Slot} {Q : State → Prop} {u : Int32} (kc ks : Nat) (hk : kc + 20 ≤ room_1.cells ∧ ks + 200 ≤ room_1.slots) (i : Nat) (hu : u = nI i) (hi : i + 3 < L) (hP : va_P X.1 vwCl (z_wLw X a d d2 B o g dm M) H) (hD : va_D (fun q : Nat => s.heap.size ≤ q) (z_wLw X a d d2 B o g dm M)) (hS : va_S (fun q : Nat => s.heap.size ≤ q) s.heap H locs) (hl : lv_has ls 9 [(0, .ref b), (1, .ref a), (2, .ref (dm 0)), (3, .ref o), (4, .int u)]) (hf1 : x_X4_hasFallen B (xs (i + 1)) = some 2) {R2 : (Int32 × z_M)} (hf2 : f_X5_hasFallen M (xs (i + 1)) = some R2) (h3 : R2.2.1 0 = 1) (kk : ∀ (H : Heap) (locs : List Loc) (ls : Array Slot), va_P X.1 vwCl (z_wLw X a d d2 B o g dm R2.2) H → va_D (fun q : Nat => s.heap.size ≤ q) (z_wLw X a d d2 B o g dm R2.2) → va_S (fun q : Nat => s.heap.size ≤ q) s.heap H locs → lv_has ls 9 [(0, .ref b), (1, .ref a), (2, .ref (dm 0)), (3, .ref o), (4, .int u)] → W p l e room_1 s m #[Value.ref b] below meth c H locs (kc + 20) (ks + 200) Q (F0 m 1905 ls [])) : W p l e room_1 s m #[Value.ref b] below meth c H locs kc ks Q (F0 m 1146 ls []) := by
  obtain ⟨hx, hb, hml, hown, hts, hK, hN, hX, hbl, hT0, hl0, hL⟩ := C
  have hA : ∀ q : Nat, s.heap.size ≤ q → (fun q : Nat => s.heap.size ≤ q) q := fun _ h => h
  have hbA : ¬ (fun q : Nat => s.heap.size ≤ q) b := Nat.not_le.mpr hbl
  have S : CallFix p m c cL_law 9 s #[Value.ref b] wsL_law RL := ⟨hx, hb, hml, hown, hts⟩
  refine lv_aload_n (pc := 1146) hx hb dL_law_1146 rfl (lv_at hl 1 rfl) ?_
  refine lv_aload_n (pc := 1147) hx hb dL_law_1147 rfl (lv_at hl 0 rfl) ?_
  refine lv_iload (pc := 1148) hx hb dL_law_1148 (lv_at hl 4 rfl) ?_
  refine lv_iconst (v := 1) (pc := 1150) hx hb dL_law_1150 (by decide) ?_
  refine lv_iadd (pc := 1151) hx hb dL_law_1151 ?_
  refine z_sld (pc := 1152) hx hb hX hbl hbA hS hL (i + 1) (z_oi i 1 hu 1 rfl) (by omega) dL_law_1152 ?_
  refine lv_aload_n (pc := 1153) hx hb dL_law_1153 rfl (lv_at hl 3 rfl) ?_
  have hT : z_T z_no s H := (hT0.kept (fun q h1 h2 => hS.2.1 q h1 h2)).narrow (fun q h => h.elim)
  refine z_cweI (pc := 1154) S (wt_hasFallen_2 l hl0 X a d d2 B o g (xs (i + 1)) hf1) (vx_cwSW 3 hts gL_law_L_hasFallen rfl rfl rfl hdL_hasFallen ⟨Nat.le_of_ble_eq_true rfl, Nat.le_of_ble_eq_true rfl⟩) hP hK hN hT hD hS hA (s_W_BO X a d d2 B o g dm M) (f_W_BO X a d d2 B o g dm M B g) (show kc + 1 ≤ room_1.cells ∧ ks + 6 ≤ room_1.slots from ⟨by omega, by omega⟩) rfl hl.1 rfl (Nat.le_of_ble_eq_true rfl) dL_law_1154 (fun H locs hP hD hS => ?_)
  refine lv_istore (pc := 1157) (lv' := [(5, .int 1), (0, .ref b), (1, .ref a), (2, .ref (dm 0)), (3, .ref o), (4, .int u)]) hx hb dL_law_1157 hl (by decide) rfl (fun ls hl => ?_)
  refine lv_aload_n (pc := 1159) hx hb dL_law_1159 rfl (lv_at hl 3 rfl) ?_
  refine lv_aload_n (pc := 1160) hx hb dL_law_1160 rfl (lv_at hl 1 rfl) ?_
  refine lv_iload (pc := 1161) hx hb dL_law_1161 (lv_at hl 5 rfl) ?_
  refine lv_iconst (v := 1) (pc := 1163) hx hb dL_law_1163 (by decide) ?_
  refine lv_iadd (pc := 1164) hx hb dL_law_1164 ?_
  refine z_sld (pc := 1165) hx hb hX hbl hbA hS hL (i + 1) (z_oi i 1 hu 1 rfl) (by omega) dL_law_1165 ?_
  refine z_cmI (pc := 1166) (W1 := (z_wLw X a d d2 B o g dm R2.2)) S (m_X5_hasFallen l X dm M (xs (i + 1)) hf2) (cwV 1 hts gL_law_X5_hasFallen rfl rfl rfl hdX5_hasFallen ⟨Nat.le_of_ble_eq_true rfl, Nat.le_of_ble_eq_true rfl⟩) hP hK hN hD hS hA (s_W_M X a d d2 B o g dm M) (f_W_M X a d d2 B o g dm M R2.2) (ci := 5) rfl rfl rfl (show (kc + 1) ≤ room_1.cells ∧ (ks + 6) ≤ room_1.slots from ⟨by omega, by omega⟩) rfl hl.1 rfl (Nat.le_of_ble_eq_true rfl) dL_law_1166 (fun H locs hP hD hS => ?_)
  refine lv_istore (pc := 1169) (lv' := [(6, .int R2.1), (5, .int 1), (0, .ref b), (1, .ref a), (2, .ref (dm 0)), (3, .ref o), (4, .int u)]) hx hb dL_law_1169 hl (by decide) rfl (fun ls hl => ?_)
  refine lv_aload_n (pc := 1171) hx hb dL_law_1171 rfl (lv_at hl 4 rfl) ?_
  refine z_cpI (pc := 1172) S (m_X5_thrown l X dm R2.2 rfl) (cwV 0 hts gL_law_X5_thrown rfl rfl rfl hdX5_thrown ⟨Nat.le_of_ble_eq_true rfl, Nat.le_of_ble_eq_true rfl⟩) hP hK hN (s_W_M X a d d2 B o g dm R2.2) (ci := 5) rfl rfl rfl (show (kc + 1) ≤ room_1.cells ∧ (ks + 6) ≤ room_1.slots from ⟨by omega, by omega⟩) rfl hl.1 rfl (Nat.le_of_ble_eq_true rfl) dL_law_1172 ?_
  refine lv_iload (pc := 1175) hx hb dL_law_1175 (lv_at hl 1 rfl) ?_
  refine lv_icmp_eq (pc := 1177) (tgt := 1182) hx hb dL_law_1177 (by decide) (fun _ => ?_) (fun c_ => absurd h3 c_)
  refine lv_iload (pc := 1182) hx hb dL_law_1182 (lv_at hl 1 rfl) ?_
  refine lv_if_ne (pc := 1184) (tgt := 1206) hx hb dL_law_1184 (by decide) (fun _ => ?_) (fun c_ => absurd c_ (by decide))
  refine lv_goto (pc := 1206) (tgt := 1905) hx hb dL_law_1206 (by decide) ?_
  refine W.widen (k := kc + 20) (n := ks + 200) (by omega) (by omega) ?_
  exact kk H locs ls hP hD hS (lv_sub hl [2, 3, 4, 5, 6] rfl)
set_option maxHeartbeats 4000000 in
set_option maxRecDepth 100000 in
theorem lc_placeInLine {p : Program} {l : Launch} {e : Env} {s : State} {m : MethodId} {below : List Frame} {meth : Method} {c : Code} {X : z_X} {b L : Nat} {xs : Nat → Int32} (C : z_LC p l s m meth c X b L xs) {a : Nat} {d d2 : Nat → Nat} {B : z_B} {o : Nat} {g : Nat → Int64} {dm : Nat → Nat} {M : z_M} {H : Heap} {locs : List Loc} {ls : Array Slot} {Q : State → Prop} {u : Int32} (kc ks : Nat) (hk : kc + 20 ≤ room_1.cells ∧ ks + 200 ≤ room_1.slots) (i : Nat) (hu : u = nI i) (hi : i + 3 < L) (hP : va_P X.1 vwCl (z_wLw X a d d2 B o g dm M) H) (hD : va_D (fun q : Nat => s.heap.size ≤ q) (z_wLw X a d d2 B o g dm M)) (hS : va_S (fun q : Nat => s.heap.size ≤ q) s.heap H locs) (hl : lv_has ls 9 [(0, .ref b), (1, .ref a), (2, .ref (dm 0)), (3, .ref o), (4, .int u)]) {R1 : Int32} (hf1 : f_X4_placeInLine B (xs (i + 1)) = some R1) {R2 : (Int32 × z_M)} (hf2 : f_X5_placeInLine M (xs (i + 1)) = some R2) (h3 : R2.2.1 0 = 0) (h4 : R1 = R2.1) (kk : ∀ (H : Heap) (locs : List Loc) (ls : Array Slot), va_P X.1 vwCl (z_wLw X a d d2 B o (vp_updL g 0 (R1).toInt64) dm R2.2) H → va_D (fun q : Nat => s.heap.size ≤ q) (z_wLw X a d d2 B o (vp_updL g 0 (R1).toInt64) dm R2.2) → va_S (fun q : Nat => s.heap.size ≤ q) s.heap H locs → lv_has ls 9 [(0, .ref b), (1, .ref a), (2, .ref (dm 0)), (3, .ref o), (4, .int u)] → W p l e room_1 s m #[Value.ref b] below meth c H locs (kc + 20) (ks + 200) Q (F0 m 1905 ls [])) : W p l e room_1 s m #[Value.ref b] below meth c H locs kc ks Q (F0 m 1209 ls []) := by
  obtain ⟨hx, hb, hml, hown, hts, hK, hN, hX, hbl, hT0, hl0, hL⟩ := C
  have hA : ∀ q : Nat, s.heap.size ≤ q → (fun q : Nat => s.heap.size ≤ q) q := fun _ h => h
  have hbA : ¬ (fun q : Nat => s.heap.size ≤ q) b := Nat.not_le.mpr hbl
  have S : CallFix p m c cL_law 9 s #[Value.ref b] wsL_law RL := ⟨hx, hb, hml, hown, hts⟩
  refine lv_aload_n (pc := 1209) hx hb dL_law_1209 rfl (lv_at hl 1 rfl) ?_
  refine lv_aload_n (pc := 1210) hx hb dL_law_1210 rfl (lv_at hl 0 rfl) ?_
  refine lv_iload (pc := 1211) hx hb dL_law_1211 (lv_at hl 4 rfl) ?_
  refine lv_iconst (v := 1) (pc := 1213) hx hb dL_law_1213 (by decide) ?_
  refine lv_iadd (pc := 1214) hx hb dL_law_1214 ?_
  refine z_sld (pc := 1215) hx hb hX hbl hbA hS hL (i + 1) (z_oi i 1 hu 1 rfl) (by omega) dL_law_1215 ?_
  refine lv_aload_n (pc := 1216) hx hb dL_law_1216 rfl (lv_at hl 3 rfl) ?_
  refine z_cwsI (pc := 1217) (W1 := (z_wLw X a d d2 B o (vp_updL g 0 (R1).toInt64) dm M)) S (wn_placeInLine l X a d d2 B o g (xs (i + 1)) hf1) (vx_cwSW 3 hts gL_law_L_placeInLine rfl rfl rfl hdL_placeInLine ⟨Nat.le_of_ble_eq_true rfl, Nat.le_of_ble_eq_true rfl⟩) hP hK hN hD hS hA (s_W_BO X a d d2 B o g dm M) (f_W_BO X a d d2 B o g dm M B (vp_updL g 0 (R1).toInt64)) (show kc ≤ room_1.cells ∧ ks ≤ room_1.slots from ⟨by omega, by omega⟩) rfl hl.1 rfl (Nat.le_of_ble_eq_true rfl) dL_law_1217 (fun H locs hP hD hS => ?_)
  refine lv_istore (pc := 1220) (lv' := [(5, .int 0), (0, .ref b), (1, .ref a), (2, .ref (dm 0)), (3, .ref o), (4, .int u)]) hx hb dL_law_1220 hl (by decide) rfl (fun ls hl => ?_)
  refine lv_aload_n (pc := 1222) hx hb dL_law_1222 rfl (lv_at hl 3 rfl) ?_
  refine lv_aload_n (pc := 1223) hx hb dL_law_1223 rfl (lv_at hl 1 rfl) ?_
  refine lv_iload (pc := 1224) hx hb dL_law_1224 (lv_at hl 5 rfl) ?_
  refine lv_iconst (v := 1) (pc := 1226) hx hb dL_law_1226 (by decide) ?_
  refine lv_iadd (pc := 1227) hx hb dL_law_1227 ?_
  refine z_sld (pc := 1228) hx hb hX hbl hbA hS hL (i + 1) (z_oi i 1 hu 1 rfl) (by omega) dL_law_1228 ?_
  refine z_cmI (pc := 1229) (W1 := (z_wLw X a d d2 B o (vp_updL g 0 (R1).toInt64) dm R2.2)) S (m_X5_placeInLine l X dm M (xs (i + 1)) hf2) (cwV 1 hts gL_law_X5_placeInLine rfl rfl rfl hdX5_placeInLine ⟨Nat.le_of_ble_eq_true rfl, Nat.le_of_ble_eq_true rfl⟩) hP hK hN hD hS hA (s_W_M X a d d2 B o (vp_updL g 0 (R1).toInt64) dm M) (f_W_M X a d d2 B o (vp_updL g 0 (R1).toInt64) dm M R2.2) (ci := 5) rfl rfl rfl (show kc ≤ room_1.cells ∧ ks ≤ room_1.slots from ⟨by omega, by omega⟩) rfl hl.1 rfl (Nat.le_of_ble_eq_true rfl) dL_law_1229 (fun H locs hP hD hS => ?_)
  refine lv_istore (pc := 1232) (lv' := [(6, .int R2.1), (5, .int 0), (0, .ref b), (1, .ref a), (2, .ref (dm 0)), (3, .ref o), (4, .int u)]) hx hb dL_law_1232 hl (by decide) rfl (fun ls hl => ?_)
  refine lv_aload_n (pc := 1234) hx hb dL_law_1234 rfl (lv_at hl 4 rfl) ?_
  refine z_cpI (pc := 1235) S (m_X5_thrown l X dm R2.2 rfl) (cwV 0 hts gL_law_X5_thrown rfl rfl rfl hdX5_thrown ⟨Nat.le_of_ble_eq_true rfl, Nat.le_of_ble_eq_true rfl⟩) hP hK hN (s_W_M X a d d2 B o (vp_updL g 0 (R1).toInt64) dm R2.2) (ci := 5) rfl rfl rfl (show kc ≤ room_1.cells ∧ ks ≤ room_1.slots from ⟨by omega, by omega⟩) rfl hl.1 rfl (Nat.le_of_ble_eq_true rfl) dL_law_1235 ?_
  refine lv_iload (pc := 1238) hx hb dL_law_1238 (lv_at hl 1 rfl) ?_
  refine lv_icmp_eq (pc := 1240) (tgt := 1245) hx hb dL_law_1240 (by decide) (fun _ => ?_) (fun c_ => absurd h3 c_)
  refine lv_iload (pc := 1245) hx hb dL_law_1245 (lv_at hl 1 rfl) ?_
  refine lv_if_ne (pc := 1247) (tgt := 1262) hx hb dL_law_1247 (by decide) (fun c_ => absurd rfl c_) (fun _ => ?_)
  refine lv_aload_n (pc := 1250) hx hb dL_law_1250 rfl (lv_at hl 5 rfl) ?_
  refine lv_iconst (v := 0) (pc := 1251) hx hb dL_law_1251 (by decide) ?_
  refine va_lald (pc := 1252) hx hb hK hP 53 2 rfl rfl z_in01 dL_law_1252 ?_
  refine lv_iload (pc := 1253) hx hb dL_law_1253 (lv_at hl 0 rfl) ?_
  refine lv_i2l (v := (R2.1).toInt64) (pc := 1255) hx hb dL_law_1255 rfl ?_
  refine W.lcmp (pc := 1256) hx hb dL_law_1256 ?_
  refine lv_if_eq (pc := 1257) (tgt := 1262) hx hb dL_law_1257 (by decide) (fun _ => ?_) (fun c_ => absurd (show lg_cmp _ _ = 0 from by rw [← h4]; exact z_cmp0 _) c_)
  refine lv_goto (pc := 1262) (tgt := 1905) hx hb dL_law_1262 (by decide) ?_
  refine W.widen (k := kc + 20) (n := ks + 200) (by omega) (by omega) ?_
  exact kk H locs ls hP hD hS (lv_sub hl [2, 3, 4, 5, 6] rfl)
set_option maxHeartbeats 4000000 in
set_option maxRecDepth 100000 in
theorem lc_placeInLine_t2 {p : Program} {l : Launch} {e : Env} {s : State} {m : MethodId} {below : List Frame} {meth : Method} {c : Code} {X : z_X} {b L : Nat} {xs : Nat → Int32} (C : z_LC p l s m meth c X b L xs) {a : Nat} {d d2 : Nat → Nat} {B : z_B} {o : Nat} {g : Nat → Int64} {dm : Nat → Nat} {M : z_M} {H : Heap} {locs : List Loc} {ls : Array Slot} {Q : State → Prop} {u : Int32} (kc ks : Nat) (hk : kc + 20 ≤ room_1.cells ∧ ks + 200 ≤ room_1.slots) (i : Nat) (hu : u = nI i) (hi : i + 3 < L) (hP : va_P X.1 vwCl (z_wLw X a d d2 B o g dm M) H) (hD : va_D (fun q : Nat => s.heap.size ≤ q) (z_wLw X a d d2 B o g dm M)) (hS : va_S (fun q : Nat => s.heap.size ≤ q) s.heap H locs) (hl : lv_has ls 9 [(0, .ref b), (1, .ref a), (2, .ref (dm 0)), (3, .ref o), (4, .int u)]) (hf1 : x_X4_placeInLine B (xs (i + 1)) = some 2) {R2 : (Int32 × z_M)} (hf2 : f_X5_placeInLine M (xs (i + 1)) = some R2) (h3 : R2.2.1 0 = 1) (kk : ∀ (H : Heap) (locs : List Loc) (ls : Array Slot), va_P X.1 vwCl (z_wLw X a d d2 B o g dm R2.2) H → va_D (fun q : Nat => s.heap.size ≤ q) (z_wLw X a d d2 B o g dm R2.2) → va_S (fun q : Nat => s.heap.size ≤ q) s.heap H locs → lv_has ls 9 [(0, .ref b), (1, .ref a), (2, .ref (dm 0)), (3, .ref o), (4, .int u)] → W p l e room_1 s m #[Value.ref b] below meth c H locs (kc + 20) (ks + 200) Q (F0 m 1905 ls [])) : W p l e room_1 s m #[Value.ref b] below meth c H locs kc ks Q (F0 m 1209 ls []) := by
  obtain ⟨hx, hb, hml, hown, hts, hK, hN, hX, hbl, hT0, hl0, hL⟩ := C
  have hA : ∀ q : Nat, s.heap.size ≤ q → (fun q : Nat => s.heap.size ≤ q) q := fun _ h => h
  have hbA : ¬ (fun q : Nat => s.heap.size ≤ q) b := Nat.not_le.mpr hbl
  have S : CallFix p m c cL_law 9 s #[Value.ref b] wsL_law RL := ⟨hx, hb, hml, hown, hts⟩
  refine lv_aload_n (pc := 1209) hx hb dL_law_1209 rfl (lv_at hl 1 rfl) ?_
  refine lv_aload_n (pc := 1210) hx hb dL_law_1210 rfl (lv_at hl 0 rfl) ?_
  refine lv_iload (pc := 1211) hx hb dL_law_1211 (lv_at hl 4 rfl) ?_
  refine lv_iconst (v := 1) (pc := 1213) hx hb dL_law_1213 (by decide) ?_
  refine lv_iadd (pc := 1214) hx hb dL_law_1214 ?_
  refine z_sld (pc := 1215) hx hb hX hbl hbA hS hL (i + 1) (z_oi i 1 hu 1 rfl) (by omega) dL_law_1215 ?_
  refine lv_aload_n (pc := 1216) hx hb dL_law_1216 rfl (lv_at hl 3 rfl) ?_
  have hT : z_T z_no s H := (hT0.kept (fun q h1 h2 => hS.2.1 q h1 h2)).narrow (fun q h => h.elim)
  refine z_cweI (pc := 1217) S (wt_placeInLine_2 l hl0 X a d d2 B o g (xs (i + 1)) hf1) (vx_cwSW 3 hts gL_law_L_placeInLine rfl rfl rfl hdL_placeInLine ⟨Nat.le_of_ble_eq_true rfl, Nat.le_of_ble_eq_true rfl⟩) hP hK hN hT hD hS hA (s_W_BO X a d d2 B o g dm M) (f_W_BO X a d d2 B o g dm M B g) (show kc + 1 ≤ room_1.cells ∧ ks + 6 ≤ room_1.slots from ⟨by omega, by omega⟩) rfl hl.1 rfl (Nat.le_of_ble_eq_true rfl) dL_law_1217 (fun H locs hP hD hS => ?_)
  refine lv_istore (pc := 1220) (lv' := [(5, .int 1), (0, .ref b), (1, .ref a), (2, .ref (dm 0)), (3, .ref o), (4, .int u)]) hx hb dL_law_1220 hl (by decide) rfl (fun ls hl => ?_)
  refine lv_aload_n (pc := 1222) hx hb dL_law_1222 rfl (lv_at hl 3 rfl) ?_
  refine lv_aload_n (pc := 1223) hx hb dL_law_1223 rfl (lv_at hl 1 rfl) ?_
  refine lv_iload (pc := 1224) hx hb dL_law_1224 (lv_at hl 5 rfl) ?_
  refine lv_iconst (v := 1) (pc := 1226) hx hb dL_law_1226 (by decide) ?_
  refine lv_iadd (pc := 1227) hx hb dL_law_1227 ?_
  refine z_sld (pc := 1228) hx hb hX hbl hbA hS hL (i + 1) (z_oi i 1 hu 1 rfl) (by omega) dL_law_1228 ?_
  refine z_cmI (pc := 1229) (W1 := (z_wLw X a d d2 B o g dm R2.2)) S (m_X5_placeInLine l X dm M (xs (i + 1)) hf2) (cwV 1 hts gL_law_X5_placeInLine rfl rfl rfl hdX5_placeInLine ⟨Nat.le_of_ble_eq_true rfl, Nat.le_of_ble_eq_true rfl⟩) hP hK hN hD hS hA (s_W_M X a d d2 B o g dm M) (f_W_M X a d d2 B o g dm M R2.2) (ci := 5) rfl rfl rfl (show (kc + 1) ≤ room_1.cells ∧ (ks + 6) ≤ room_1.slots from ⟨by omega, by omega⟩) rfl hl.1 rfl (Nat.le_of_ble_eq_true rfl) dL_law_1229 (fun H locs hP hD hS => ?_)
  refine lv_istore (pc := 1232) (lv' := [(6, .int R2.1), (5, .int 1), (0, .ref b), (1, .ref a), (2, .ref (dm 0)), (3, .ref o), (4, .int u)]) hx hb dL_law_1232 hl (by decide) rfl (fun ls hl => ?_)
  refine lv_aload_n (pc := 1234) hx hb dL_law_1234 rfl (lv_at hl 4 rfl) ?_
  refine z_cpI (pc := 1235) S (m_X5_thrown l X dm R2.2 rfl) (cwV 0 hts gL_law_X5_thrown rfl rfl rfl hdX5_thrown ⟨Nat.le_of_ble_eq_true rfl, Nat.le_of_ble_eq_true rfl⟩) hP hK hN (s_W_M X a d d2 B o g dm R2.2) (ci := 5) rfl rfl rfl (show (kc + 1) ≤ room_1.cells ∧ (ks + 6) ≤ room_1.slots from ⟨by omega, by omega⟩) rfl hl.1 rfl (Nat.le_of_ble_eq_true rfl) dL_law_1235 ?_
  refine lv_iload (pc := 1238) hx hb dL_law_1238 (lv_at hl 1 rfl) ?_
  refine lv_icmp_eq (pc := 1240) (tgt := 1245) hx hb dL_law_1240 (by decide) (fun _ => ?_) (fun c_ => absurd h3 c_)
  refine lv_iload (pc := 1245) hx hb dL_law_1245 (lv_at hl 1 rfl) ?_
  refine lv_if_ne (pc := 1247) (tgt := 1262) hx hb dL_law_1247 (by decide) (fun _ => ?_) (fun c_ => absurd c_ (by decide))
  refine lv_goto (pc := 1262) (tgt := 1905) hx hb dL_law_1262 (by decide) ?_
  refine W.widen (k := kc + 20) (n := ks + 200) (by omega) (by omega) ?_
  exact kk H locs ls hP hD hS (lv_sub hl [2, 3, 4, 5, 6] rfl)
set_option maxHeartbeats 4000000 in
set_option maxRecDepth 100000 in
theorem lc_nextDrop {p : Program} {l : Launch} {e : Env} {s : State} {m : MethodId} {below : List Frame} {meth : Method} {c : Code} {X : z_X} {b L : Nat} {xs : Nat → Int32} (C : z_LC p l s m meth c X b L xs) {a : Nat} {d d2 : Nat → Nat} {B : z_B} {o : Nat} {g : Nat → Int64} {dm : Nat → Nat} {M : z_M} {H : Heap} {locs : List Loc} {ls : Array Slot} {Q : State → Prop} {u : Int32} (kc ks : Nat) (hk : kc + 20 ≤ room_1.cells ∧ ks + 200 ≤ room_1.slots) (i : Nat) (hu : u = nI i) (hi : i + 3 < L) (hP : va_P X.1 vwCl (z_wLw X a d d2 B o g dm M) H) (hD : va_D (fun q : Nat => s.heap.size ≤ q) (z_wLw X a d d2 B o g dm M)) (hS : va_S (fun q : Nat => s.heap.size ≤ q) s.heap H locs) (hl : lv_has ls 9 [(0, .ref b), (1, .ref a), (2, .ref (dm 0)), (3, .ref o), (4, .int u)]) {R1 : Int32} (hf1 : f_X4_nextDrop B = some R1) {R2 : (Int32 × z_M)} (hf2 : f_X5_nextDrop M = some R2) (h4 : R1 = R2.1) (kk : ∀ (H : Heap) (locs : List Loc) (ls : Array Slot), va_P X.1 vwCl (z_wLw X a d d2 B o g dm R2.2) H → va_D (fun q : Nat => s.heap.size ≤ q) (z_wLw X a d d2 B o g dm R2.2) → va_S (fun q : Nat => s.heap.size ≤ q) s.heap H locs → lv_has ls 9 [(0, .ref b), (1, .ref a), (2, .ref (dm 0)), (3, .ref o), (4, .int u)] → W p l e room_1 s m #[Value.ref b] below meth c H locs (kc + 20) (ks + 200) Q (F0 m 1905 ls [])) : W p l e room_1 s m #[Value.ref b] below meth c H locs kc ks Q (F0 m 1265 ls []) := by
  obtain ⟨hx, hb, hml, hown, hts, hK, hN, hX, hbl, hT0, hl0, hL⟩ := C
  have hA : ∀ q : Nat, s.heap.size ≤ q → (fun q : Nat => s.heap.size ≤ q) q := fun _ h => h
  have hbA : ¬ (fun q : Nat => s.heap.size ≤ q) b := Nat.not_le.mpr hbl
  have S : CallFix p m c cL_law 9 s #[Value.ref b] wsL_law RL := ⟨hx, hb, hml, hown, hts⟩
  refine lv_aload_n (pc := 1265) hx hb dL_law_1265 rfl (lv_at hl 1 rfl) ?_
  refine z_cpI (pc := 1266) S (m_X4_nextDrop l X a d d2 B hf1) (cwV 0 hts gL_law_X4_nextDrop rfl rfl rfl hdX4_nextDrop ⟨Nat.le_of_ble_eq_true rfl, Nat.le_of_ble_eq_true rfl⟩) hP hK hN (s_W_B X a d d2 B o g dm M) (ci := 4) rfl rfl rfl (show kc ≤ room_1.cells ∧ ks ≤ room_1.slots from ⟨by omega, by omega⟩) rfl hl.1 rfl (Nat.le_of_ble_eq_true rfl) dL_law_1266 ?_
  refine lv_aload_n (pc := 1269) hx hb dL_law_1269 rfl (lv_at hl 2 rfl) ?_
  refine z_cmI (pc := 1270) (W1 := (z_wLw X a d d2 B o g dm R2.2)) S (m_X5_nextDrop l X dm M hf2) (cwV 0 hts gL_law_X5_nextDrop rfl rfl rfl hdX5_nextDrop ⟨Nat.le_of_ble_eq_true rfl, Nat.le_of_ble_eq_true rfl⟩) hP hK hN hD hS hA (s_W_M X a d d2 B o g dm M) (f_W_M X a d d2 B o g dm M R2.2) (ci := 5) rfl rfl rfl (show kc ≤ room_1.cells ∧ ks ≤ room_1.slots from ⟨by omega, by omega⟩) rfl hl.1 rfl (Nat.le_of_ble_eq_true rfl) dL_law_1270 (fun H locs hP hD hS => ?_)
  refine lv_icmp_eq (pc := 1273) (tgt := 1905) hx hb dL_law_1273 (by decide) (fun _ => ?_) (fun c_ => absurd h4 c_)
  refine W.widen (k := kc + 20) (n := ks + 200) (by omega) (by omega) ?_
  exact kk H locs ls hP hD hS (lv_sub hl [0, 1, 2, 3, 4] rfl)
set_option maxHeartbeats 4000000 in
set_option maxRecDepth 100000 in
theorem lc_ringsLeft {p : Program} {l : Launch} {e : Env} {s : State} {m : MethodId} {below : List Frame} {meth : Method} {c : Code} {X : z_X} {b L : Nat} {xs : Nat → Int32} (C : z_LC p l s m meth c X b L xs) {a : Nat} {d d2 : Nat → Nat} {B : z_B} {o : Nat} {g : Nat → Int64} {dm : Nat → Nat} {M : z_M} {H : Heap} {locs : List Loc} {ls : Array Slot} {Q : State → Prop} {u : Int32} (kc ks : Nat) (hk : kc + 20 ≤ room_1.cells ∧ ks + 200 ≤ room_1.slots) (i : Nat) (hu : u = nI i) (hi : i + 3 < L) (hP : va_P X.1 vwCl (z_wLw X a d d2 B o g dm M) H) (hD : va_D (fun q : Nat => s.heap.size ≤ q) (z_wLw X a d d2 B o g dm M)) (hS : va_S (fun q : Nat => s.heap.size ≤ q) s.heap H locs) (hl : lv_has ls 9 [(0, .ref b), (1, .ref a), (2, .ref (dm 0)), (3, .ref o), (4, .int u)]) {R1 : Int32} (hf1 : f_X4_ringsLeft B (xs (i + 1)) = some R1) {R2 : (Int32 × z_M)} (hf2 : f_X5_ringsLeft M (xs (i + 1)) = some R2) (h3 : R2.2.1 0 = 0) (h4 : R1 = R2.1) (kk : ∀ (H : Heap) (locs : List Loc) (ls : Array Slot), va_P X.1 vwCl (z_wLw X a d d2 B o (vp_updL g 0 (R1).toInt64) dm R2.2) H → va_D (fun q : Nat => s.heap.size ≤ q) (z_wLw X a d d2 B o (vp_updL g 0 (R1).toInt64) dm R2.2) → va_S (fun q : Nat => s.heap.size ≤ q) s.heap H locs → lv_has ls 9 [(0, .ref b), (1, .ref a), (2, .ref (dm 0)), (3, .ref o), (4, .int u)] → W p l e room_1 s m #[Value.ref b] below meth c H locs (kc + 20) (ks + 200) Q (F0 m 1905 ls [])) : W p l e room_1 s m #[Value.ref b] below meth c H locs kc ks Q (F0 m 1278 ls []) := by
  obtain ⟨hx, hb, hml, hown, hts, hK, hN, hX, hbl, hT0, hl0, hL⟩ := C
  have hA : ∀ q : Nat, s.heap.size ≤ q → (fun q : Nat => s.heap.size ≤ q) q := fun _ h => h
  have hbA : ¬ (fun q : Nat => s.heap.size ≤ q) b := Nat.not_le.mpr hbl
  have S : CallFix p m c cL_law 9 s #[Value.ref b] wsL_law RL := ⟨hx, hb, hml, hown, hts⟩
  refine lv_aload_n (pc := 1278) hx hb dL_law_1278 rfl (lv_at hl 1 rfl) ?_
  refine lv_aload_n (pc := 1279) hx hb dL_law_1279 rfl (lv_at hl 0 rfl) ?_
  refine lv_iload (pc := 1280) hx hb dL_law_1280 (lv_at hl 4 rfl) ?_
  refine lv_iconst (v := 1) (pc := 1282) hx hb dL_law_1282 (by decide) ?_
  refine lv_iadd (pc := 1283) hx hb dL_law_1283 ?_
  refine z_sld (pc := 1284) hx hb hX hbl hbA hS hL (i + 1) (z_oi i 1 hu 1 rfl) (by omega) dL_law_1284 ?_
  refine lv_aload_n (pc := 1285) hx hb dL_law_1285 rfl (lv_at hl 3 rfl) ?_
  refine z_cwsI (pc := 1286) (W1 := (z_wLw X a d d2 B o (vp_updL g 0 (R1).toInt64) dm M)) S (wn_ringsLeft l X a d d2 B o g (xs (i + 1)) hf1) (vx_cwSW 3 hts gL_law_L_ringsLeft rfl rfl rfl hdL_ringsLeft ⟨Nat.le_of_ble_eq_true rfl, Nat.le_of_ble_eq_true rfl⟩) hP hK hN hD hS hA (s_W_BO X a d d2 B o g dm M) (f_W_BO X a d d2 B o g dm M B (vp_updL g 0 (R1).toInt64)) (show kc ≤ room_1.cells ∧ ks ≤ room_1.slots from ⟨by omega, by omega⟩) rfl hl.1 rfl (Nat.le_of_ble_eq_true rfl) dL_law_1286 (fun H locs hP hD hS => ?_)
  refine lv_istore (pc := 1289) (lv' := [(5, .int 0), (0, .ref b), (1, .ref a), (2, .ref (dm 0)), (3, .ref o), (4, .int u)]) hx hb dL_law_1289 hl (by decide) rfl (fun ls hl => ?_)
  refine lv_aload_n (pc := 1291) hx hb dL_law_1291 rfl (lv_at hl 3 rfl) ?_
  refine lv_aload_n (pc := 1292) hx hb dL_law_1292 rfl (lv_at hl 1 rfl) ?_
  refine lv_iload (pc := 1293) hx hb dL_law_1293 (lv_at hl 5 rfl) ?_
  refine lv_iconst (v := 1) (pc := 1295) hx hb dL_law_1295 (by decide) ?_
  refine lv_iadd (pc := 1296) hx hb dL_law_1296 ?_
  refine z_sld (pc := 1297) hx hb hX hbl hbA hS hL (i + 1) (z_oi i 1 hu 1 rfl) (by omega) dL_law_1297 ?_
  refine z_cmI (pc := 1298) (W1 := (z_wLw X a d d2 B o (vp_updL g 0 (R1).toInt64) dm R2.2)) S (m_X5_ringsLeft l X dm M (xs (i + 1)) hf2) (cwV 1 hts gL_law_X5_ringsLeft rfl rfl rfl hdX5_ringsLeft ⟨Nat.le_of_ble_eq_true rfl, Nat.le_of_ble_eq_true rfl⟩) hP hK hN hD hS hA (s_W_M X a d d2 B o (vp_updL g 0 (R1).toInt64) dm M) (f_W_M X a d d2 B o (vp_updL g 0 (R1).toInt64) dm M R2.2) (ci := 5) rfl rfl rfl (show kc ≤ room_1.cells ∧ ks ≤ room_1.slots from ⟨by omega, by omega⟩) rfl hl.1 rfl (Nat.le_of_ble_eq_true rfl) dL_law_1298 (fun H locs hP hD hS => ?_)
  refine lv_istore (pc := 1301) (lv' := [(6, .int R2.1), (5, .int 0), (0, .ref b), (1, .ref a), (2, .ref (dm 0)), (3, .ref o), (4, .int u)]) hx hb dL_law_1301 hl (by decide) rfl (fun ls hl => ?_)
  refine lv_aload_n (pc := 1303) hx hb dL_law_1303 rfl (lv_at hl 4 rfl) ?_
  refine z_cpI (pc := 1304) S (m_X5_thrown l X dm R2.2 rfl) (cwV 0 hts gL_law_X5_thrown rfl rfl rfl hdX5_thrown ⟨Nat.le_of_ble_eq_true rfl, Nat.le_of_ble_eq_true rfl⟩) hP hK hN (s_W_M X a d d2 B o (vp_updL g 0 (R1).toInt64) dm R2.2) (ci := 5) rfl rfl rfl (show kc ≤ room_1.cells ∧ ks ≤ room_1.slots from ⟨by omega, by omega⟩) rfl hl.1 rfl (Nat.le_of_ble_eq_true rfl) dL_law_1304 ?_
  refine lv_iload (pc := 1307) hx hb dL_law_1307 (lv_at hl 1 rfl) ?_
  refine lv_icmp_eq (pc := 1309) (tgt := 1314) hx hb dL_law_1309 (by decide) (fun _ => ?_) (fun c_ => absurd h3 c_)
  refine lv_iload (pc := 1314) hx hb dL_law_1314 (lv_at hl 1 rfl) ?_
  refine lv_if_ne (pc := 1316) (tgt := 1331) hx hb dL_law_1316 (by decide) (fun c_ => absurd rfl c_) (fun _ => ?_)
  refine lv_aload_n (pc := 1319) hx hb dL_law_1319 rfl (lv_at hl 5 rfl) ?_
  refine lv_iconst (v := 0) (pc := 1320) hx hb dL_law_1320 (by decide) ?_
  refine va_lald (pc := 1321) hx hb hK hP 53 2 rfl rfl z_in01 dL_law_1321 ?_
  refine lv_iload (pc := 1322) hx hb dL_law_1322 (lv_at hl 0 rfl) ?_
  refine lv_i2l (v := (R2.1).toInt64) (pc := 1324) hx hb dL_law_1324 rfl ?_
  refine W.lcmp (pc := 1325) hx hb dL_law_1325 ?_
  refine lv_if_eq (pc := 1326) (tgt := 1331) hx hb dL_law_1326 (by decide) (fun _ => ?_) (fun c_ => absurd (show lg_cmp _ _ = 0 from by rw [← h4]; exact z_cmp0 _) c_)
  refine lv_goto (pc := 1331) (tgt := 1905) hx hb dL_law_1331 (by decide) ?_
  refine W.widen (k := kc + 20) (n := ks + 200) (by omega) (by omega) ?_
  exact kk H locs ls hP hD hS (lv_sub hl [2, 3, 4, 5, 6] rfl)
set_option maxHeartbeats 4000000 in
set_option maxRecDepth 100000 in
theorem lc_ringsLeft_t2 {p : Program} {l : Launch} {e : Env} {s : State} {m : MethodId} {below : List Frame} {meth : Method} {c : Code} {X : z_X} {b L : Nat} {xs : Nat → Int32} (C : z_LC p l s m meth c X b L xs) {a : Nat} {d d2 : Nat → Nat} {B : z_B} {o : Nat} {g : Nat → Int64} {dm : Nat → Nat} {M : z_M} {H : Heap} {locs : List Loc} {ls : Array Slot} {Q : State → Prop} {u : Int32} (kc ks : Nat) (hk : kc + 20 ≤ room_1.cells ∧ ks + 200 ≤ room_1.slots) (i : Nat) (hu : u = nI i) (hi : i + 3 < L) (hP : va_P X.1 vwCl (z_wLw X a d d2 B o g dm M) H) (hD : va_D (fun q : Nat => s.heap.size ≤ q) (z_wLw X a d d2 B o g dm M)) (hS : va_S (fun q : Nat => s.heap.size ≤ q) s.heap H locs) (hl : lv_has ls 9 [(0, .ref b), (1, .ref a), (2, .ref (dm 0)), (3, .ref o), (4, .int u)]) (hf1 : x_X4_ringsLeft B (xs (i + 1)) = some 2) {R2 : (Int32 × z_M)} (hf2 : f_X5_ringsLeft M (xs (i + 1)) = some R2) (h3 : R2.2.1 0 = 1) (kk : ∀ (H : Heap) (locs : List Loc) (ls : Array Slot), va_P X.1 vwCl (z_wLw X a d d2 B o g dm R2.2) H → va_D (fun q : Nat => s.heap.size ≤ q) (z_wLw X a d d2 B o g dm R2.2) → va_S (fun q : Nat => s.heap.size ≤ q) s.heap H locs → lv_has ls 9 [(0, .ref b), (1, .ref a), (2, .ref (dm 0)), (3, .ref o), (4, .int u)] → W p l e room_1 s m #[Value.ref b] below meth c H locs (kc + 20) (ks + 200) Q (F0 m 1905 ls [])) : W p l e room_1 s m #[Value.ref b] below meth c H locs kc ks Q (F0 m 1278 ls []) := by
  obtain ⟨hx, hb, hml, hown, hts, hK, hN, hX, hbl, hT0, hl0, hL⟩ := C
  have hA : ∀ q : Nat, s.heap.size ≤ q → (fun q : Nat => s.heap.size ≤ q) q := fun _ h => h
  have hbA : ¬ (fun q : Nat => s.heap.size ≤ q) b := Nat.not_le.mpr hbl
  have S : CallFix p m c cL_law 9 s #[Value.ref b] wsL_law RL := ⟨hx, hb, hml, hown, hts⟩
  refine lv_aload_n (pc := 1278) hx hb dL_law_1278 rfl (lv_at hl 1 rfl) ?_
  refine lv_aload_n (pc := 1279) hx hb dL_law_1279 rfl (lv_at hl 0 rfl) ?_
  refine lv_iload (pc := 1280) hx hb dL_law_1280 (lv_at hl 4 rfl) ?_
  refine lv_iconst (v := 1) (pc := 1282) hx hb dL_law_1282 (by decide) ?_
  refine lv_iadd (pc := 1283) hx hb dL_law_1283 ?_
  refine z_sld (pc := 1284) hx hb hX hbl hbA hS hL (i + 1) (z_oi i 1 hu 1 rfl) (by omega) dL_law_1284 ?_
  refine lv_aload_n (pc := 1285) hx hb dL_law_1285 rfl (lv_at hl 3 rfl) ?_
  have hT : z_T z_no s H := (hT0.kept (fun q h1 h2 => hS.2.1 q h1 h2)).narrow (fun q h => h.elim)
  refine z_cweI (pc := 1286) S (wt_ringsLeft_2 l hl0 X a d d2 B o g (xs (i + 1)) hf1) (vx_cwSW 3 hts gL_law_L_ringsLeft rfl rfl rfl hdL_ringsLeft ⟨Nat.le_of_ble_eq_true rfl, Nat.le_of_ble_eq_true rfl⟩) hP hK hN hT hD hS hA (s_W_BO X a d d2 B o g dm M) (f_W_BO X a d d2 B o g dm M B g) (show kc + 1 ≤ room_1.cells ∧ ks + 6 ≤ room_1.slots from ⟨by omega, by omega⟩) rfl hl.1 rfl (Nat.le_of_ble_eq_true rfl) dL_law_1286 (fun H locs hP hD hS => ?_)
  refine lv_istore (pc := 1289) (lv' := [(5, .int 1), (0, .ref b), (1, .ref a), (2, .ref (dm 0)), (3, .ref o), (4, .int u)]) hx hb dL_law_1289 hl (by decide) rfl (fun ls hl => ?_)
  refine lv_aload_n (pc := 1291) hx hb dL_law_1291 rfl (lv_at hl 3 rfl) ?_
  refine lv_aload_n (pc := 1292) hx hb dL_law_1292 rfl (lv_at hl 1 rfl) ?_
  refine lv_iload (pc := 1293) hx hb dL_law_1293 (lv_at hl 5 rfl) ?_
  refine lv_iconst (v := 1) (pc := 1295) hx hb dL_law_1295 (by decide) ?_
  refine lv_iadd (pc := 1296) hx hb dL_law_1296 ?_
  refine z_sld (pc := 1297) hx hb hX hbl hbA hS hL (i + 1) (z_oi i 1 hu 1 rfl) (by omega) dL_law_1297 ?_
  refine z_cmI (pc := 1298) (W1 := (z_wLw X a d d2 B o g dm R2.2)) S (m_X5_ringsLeft l X dm M (xs (i + 1)) hf2) (cwV 1 hts gL_law_X5_ringsLeft rfl rfl rfl hdX5_ringsLeft ⟨Nat.le_of_ble_eq_true rfl, Nat.le_of_ble_eq_true rfl⟩) hP hK hN hD hS hA (s_W_M X a d d2 B o g dm M) (f_W_M X a d d2 B o g dm M R2.2) (ci := 5) rfl rfl rfl (show (kc + 1) ≤ room_1.cells ∧ (ks + 6) ≤ room_1.slots from ⟨by omega, by omega⟩) rfl hl.1 rfl (Nat.le_of_ble_eq_true rfl) dL_law_1298 (fun H locs hP hD hS => ?_)
  refine lv_istore (pc := 1301) (lv' := [(6, .int R2.1), (5, .int 1), (0, .ref b), (1, .ref a), (2, .ref (dm 0)), (3, .ref o), (4, .int u)]) hx hb dL_law_1301 hl (by decide) rfl (fun ls hl => ?_)
  refine lv_aload_n (pc := 1303) hx hb dL_law_1303 rfl (lv_at hl 4 rfl) ?_
  refine z_cpI (pc := 1304) S (m_X5_thrown l X dm R2.2 rfl) (cwV 0 hts gL_law_X5_thrown rfl rfl rfl hdX5_thrown ⟨Nat.le_of_ble_eq_true rfl, Nat.le_of_ble_eq_true rfl⟩) hP hK hN (s_W_M X a d d2 B o g dm R2.2) (ci := 5) rfl rfl rfl (show (kc + 1) ≤ room_1.cells ∧ (ks + 6) ≤ room_1.slots from ⟨by omega, by omega⟩) rfl hl.1 rfl (Nat.le_of_ble_eq_true rfl) dL_law_1304 ?_
  refine lv_iload (pc := 1307) hx hb dL_law_1307 (lv_at hl 1 rfl) ?_
  refine lv_icmp_eq (pc := 1309) (tgt := 1314) hx hb dL_law_1309 (by decide) (fun _ => ?_) (fun c_ => absurd h3 c_)
  refine lv_iload (pc := 1314) hx hb dL_law_1314 (lv_at hl 1 rfl) ?_
  refine lv_if_ne (pc := 1316) (tgt := 1331) hx hb dL_law_1316 (by decide) (fun _ => ?_) (fun c_ => absurd c_ (by decide))
  refine lv_goto (pc := 1331) (tgt := 1905) hx hb dL_law_1331 (by decide) ?_
  refine W.widen (k := kc + 20) (n := ks + 200) (by omega) (by omega) ?_
  exact kk H locs ls hP hD hS (lv_sub hl [2, 3, 4, 5, 6] rfl)
set_option maxHeartbeats 4000000 in
set_option maxRecDepth 100000 in
theorem lc_floorOf {p : Program} {l : Launch} {e : Env} {s : State} {m : MethodId} {below : List Frame} {meth : Method} {c : Code} {X : z_X} {b L : Nat} {xs : Nat → Int32} (C : z_LC p l s m meth c X b L xs) {a : Nat} {d d2 : Nat → Nat} {B : z_B} {o : Nat} {g : Nat → Int64} {dm : Nat → Nat} {M : z_M} {H : Heap} {locs : List Loc} {ls : Array Slot} {Q : State → Prop} {u : Int32} (kc ks : Nat) (hk : kc + 20 ≤ room_1.cells ∧ ks + 200 ≤ room_1.slots) (i : Nat) (hu : u = nI i) (hi : i + 3 < L) (hP : va_P X.1 vwCl (z_wLw X a d d2 B o g dm M) H) (hD : va_D (fun q : Nat => s.heap.size ≤ q) (z_wLw X a d d2 B o g dm M)) (hS : va_S (fun q : Nat => s.heap.size ≤ q) s.heap H locs) (hl : lv_has ls 9 [(0, .ref b), (1, .ref a), (2, .ref (dm 0)), (3, .ref o), (4, .int u)]) {R1 : Int32} (hf1 : f_X4_floorOf B (xs (i + 1)) = some R1) {R2 : (Int32 × z_M)} (hf2 : f_X5_floorOf M (xs (i + 1)) = some R2) (h3 : R2.2.1 0 = 0) (h4 : R1 = R2.1) (kk : ∀ (H : Heap) (locs : List Loc) (ls : Array Slot), va_P X.1 vwCl (z_wLw X a d d2 B o (vp_updL g 0 (R1).toInt64) dm R2.2) H → va_D (fun q : Nat => s.heap.size ≤ q) (z_wLw X a d d2 B o (vp_updL g 0 (R1).toInt64) dm R2.2) → va_S (fun q : Nat => s.heap.size ≤ q) s.heap H locs → lv_has ls 9 [(0, .ref b), (1, .ref a), (2, .ref (dm 0)), (3, .ref o), (4, .int u)] → W p l e room_1 s m #[Value.ref b] below meth c H locs (kc + 20) (ks + 200) Q (F0 m 1905 ls [])) : W p l e room_1 s m #[Value.ref b] below meth c H locs kc ks Q (F0 m 1334 ls []) := by
  obtain ⟨hx, hb, hml, hown, hts, hK, hN, hX, hbl, hT0, hl0, hL⟩ := C
  have hA : ∀ q : Nat, s.heap.size ≤ q → (fun q : Nat => s.heap.size ≤ q) q := fun _ h => h
  have hbA : ¬ (fun q : Nat => s.heap.size ≤ q) b := Nat.not_le.mpr hbl
  have S : CallFix p m c cL_law 9 s #[Value.ref b] wsL_law RL := ⟨hx, hb, hml, hown, hts⟩
  refine lv_aload_n (pc := 1334) hx hb dL_law_1334 rfl (lv_at hl 1 rfl) ?_
  refine lv_aload_n (pc := 1335) hx hb dL_law_1335 rfl (lv_at hl 0 rfl) ?_
  refine lv_iload (pc := 1336) hx hb dL_law_1336 (lv_at hl 4 rfl) ?_
  refine lv_iconst (v := 1) (pc := 1338) hx hb dL_law_1338 (by decide) ?_
  refine lv_iadd (pc := 1339) hx hb dL_law_1339 ?_
  refine z_sld (pc := 1340) hx hb hX hbl hbA hS hL (i + 1) (z_oi i 1 hu 1 rfl) (by omega) dL_law_1340 ?_
  refine lv_aload_n (pc := 1341) hx hb dL_law_1341 rfl (lv_at hl 3 rfl) ?_
  refine z_cwsI (pc := 1342) (W1 := (z_wLw X a d d2 B o (vp_updL g 0 (R1).toInt64) dm M)) S (wn_floorOf l X a d d2 B o g (xs (i + 1)) hf1) (vx_cwSW 3 hts gL_law_L_floorOf rfl rfl rfl hdL_floorOf ⟨Nat.le_of_ble_eq_true rfl, Nat.le_of_ble_eq_true rfl⟩) hP hK hN hD hS hA (s_W_BO X a d d2 B o g dm M) (f_W_BO X a d d2 B o g dm M B (vp_updL g 0 (R1).toInt64)) (show kc ≤ room_1.cells ∧ ks ≤ room_1.slots from ⟨by omega, by omega⟩) rfl hl.1 rfl (Nat.le_of_ble_eq_true rfl) dL_law_1342 (fun H locs hP hD hS => ?_)
  refine lv_istore (pc := 1345) (lv' := [(5, .int 0), (0, .ref b), (1, .ref a), (2, .ref (dm 0)), (3, .ref o), (4, .int u)]) hx hb dL_law_1345 hl (by decide) rfl (fun ls hl => ?_)
  refine lv_aload_n (pc := 1347) hx hb dL_law_1347 rfl (lv_at hl 3 rfl) ?_
  refine lv_aload_n (pc := 1348) hx hb dL_law_1348 rfl (lv_at hl 1 rfl) ?_
  refine lv_iload (pc := 1349) hx hb dL_law_1349 (lv_at hl 5 rfl) ?_
  refine lv_iconst (v := 1) (pc := 1351) hx hb dL_law_1351 (by decide) ?_
  refine lv_iadd (pc := 1352) hx hb dL_law_1352 ?_
  refine z_sld (pc := 1353) hx hb hX hbl hbA hS hL (i + 1) (z_oi i 1 hu 1 rfl) (by omega) dL_law_1353 ?_
  refine z_cmI (pc := 1354) (W1 := (z_wLw X a d d2 B o (vp_updL g 0 (R1).toInt64) dm R2.2)) S (m_X5_floorOf l X dm M (xs (i + 1)) hf2) (cwV 1 hts gL_law_X5_floorOf rfl rfl rfl hdX5_floorOf ⟨Nat.le_of_ble_eq_true rfl, Nat.le_of_ble_eq_true rfl⟩) hP hK hN hD hS hA (s_W_M X a d d2 B o (vp_updL g 0 (R1).toInt64) dm M) (f_W_M X a d d2 B o (vp_updL g 0 (R1).toInt64) dm M R2.2) (ci := 5) rfl rfl rfl (show kc ≤ room_1.cells ∧ ks ≤ room_1.slots from ⟨by omega, by omega⟩) rfl hl.1 rfl (Nat.le_of_ble_eq_true rfl) dL_law_1354 (fun H locs hP hD hS => ?_)
  refine lv_istore (pc := 1357) (lv' := [(6, .int R2.1), (5, .int 0), (0, .ref b), (1, .ref a), (2, .ref (dm 0)), (3, .ref o), (4, .int u)]) hx hb dL_law_1357 hl (by decide) rfl (fun ls hl => ?_)
  refine lv_aload_n (pc := 1359) hx hb dL_law_1359 rfl (lv_at hl 4 rfl) ?_
  refine z_cpI (pc := 1360) S (m_X5_thrown l X dm R2.2 rfl) (cwV 0 hts gL_law_X5_thrown rfl rfl rfl hdX5_thrown ⟨Nat.le_of_ble_eq_true rfl, Nat.le_of_ble_eq_true rfl⟩) hP hK hN (s_W_M X a d d2 B o (vp_updL g 0 (R1).toInt64) dm R2.2) (ci := 5) rfl rfl rfl (show kc ≤ room_1.cells ∧ ks ≤ room_1.slots from ⟨by omega, by omega⟩) rfl hl.1 rfl (Nat.le_of_ble_eq_true rfl) dL_law_1360 ?_
  refine lv_iload (pc := 1363) hx hb dL_law_1363 (lv_at hl 1 rfl) ?_
  refine lv_icmp_eq (pc := 1365) (tgt := 1370) hx hb dL_law_1365 (by decide) (fun _ => ?_) (fun c_ => absurd h3 c_)
  refine lv_iload (pc := 1370) hx hb dL_law_1370 (lv_at hl 1 rfl) ?_
  refine lv_if_ne (pc := 1372) (tgt := 1387) hx hb dL_law_1372 (by decide) (fun c_ => absurd rfl c_) (fun _ => ?_)
  refine lv_aload_n (pc := 1375) hx hb dL_law_1375 rfl (lv_at hl 5 rfl) ?_
  refine lv_iconst (v := 0) (pc := 1376) hx hb dL_law_1376 (by decide) ?_
  refine va_lald (pc := 1377) hx hb hK hP 53 2 rfl rfl z_in01 dL_law_1377 ?_
  refine lv_iload (pc := 1378) hx hb dL_law_1378 (lv_at hl 0 rfl) ?_
  refine lv_i2l (v := (R2.1).toInt64) (pc := 1380) hx hb dL_law_1380 rfl ?_
  refine W.lcmp (pc := 1381) hx hb dL_law_1381 ?_
  refine lv_if_eq (pc := 1382) (tgt := 1387) hx hb dL_law_1382 (by decide) (fun _ => ?_) (fun c_ => absurd (show lg_cmp _ _ = 0 from by rw [← h4]; exact z_cmp0 _) c_)
  refine lv_goto (pc := 1387) (tgt := 1905) hx hb dL_law_1387 (by decide) ?_
  refine W.widen (k := kc + 20) (n := ks + 200) (by omega) (by omega) ?_
  exact kk H locs ls hP hD hS (lv_sub hl [2, 3, 4, 5, 6] rfl)
set_option maxHeartbeats 4000000 in
set_option maxRecDepth 100000 in
theorem lc_floorOf_t2 {p : Program} {l : Launch} {e : Env} {s : State} {m : MethodId} {below : List Frame} {meth : Method} {c : Code} {X : z_X} {b L : Nat} {xs : Nat → Int32} (C : z_LC p l s m meth c X b L xs) {a : Nat} {d d2 : Nat → Nat} {B : z_B} {o : Nat} {g : Nat → Int64} {dm : Nat → Nat} {M : z_M} {H : Heap} {locs : List Loc} {ls : Array Slot} {Q : State → Prop} {u : Int32} (kc ks : Nat) (hk : kc + 20 ≤ room_1.cells ∧ ks + 200 ≤ room_1.slots) (i : Nat) (hu : u = nI i) (hi : i + 3 < L) (hP : va_P X.1 vwCl (z_wLw X a d d2 B o g dm M) H) (hD : va_D (fun q : Nat => s.heap.size ≤ q) (z_wLw X a d d2 B o g dm M)) (hS : va_S (fun q : Nat => s.heap.size ≤ q) s.heap H locs) (hl : lv_has ls 9 [(0, .ref b), (1, .ref a), (2, .ref (dm 0)), (3, .ref o), (4, .int u)]) (hf1 : x_X4_floorOf B (xs (i + 1)) = some 2) {R2 : (Int32 × z_M)} (hf2 : f_X5_floorOf M (xs (i + 1)) = some R2) (h3 : R2.2.1 0 = 1) (kk : ∀ (H : Heap) (locs : List Loc) (ls : Array Slot), va_P X.1 vwCl (z_wLw X a d d2 B o g dm R2.2) H → va_D (fun q : Nat => s.heap.size ≤ q) (z_wLw X a d d2 B o g dm R2.2) → va_S (fun q : Nat => s.heap.size ≤ q) s.heap H locs → lv_has ls 9 [(0, .ref b), (1, .ref a), (2, .ref (dm 0)), (3, .ref o), (4, .int u)] → W p l e room_1 s m #[Value.ref b] below meth c H locs (kc + 20) (ks + 200) Q (F0 m 1905 ls [])) : W p l e room_1 s m #[Value.ref b] below meth c H locs kc ks Q (F0 m 1334 ls []) := by
  obtain ⟨hx, hb, hml, hown, hts, hK, hN, hX, hbl, hT0, hl0, hL⟩ := C
  have hA : ∀ q : Nat, s.heap.size ≤ q → (fun q : Nat => s.heap.size ≤ q) q := fun _ h => h
  have hbA : ¬ (fun q : Nat => s.heap.size ≤ q) b := Nat.not_le.mpr hbl
  have S : CallFix p m c cL_law 9 s #[Value.ref b] wsL_law RL := ⟨hx, hb, hml, hown, hts⟩
  refine lv_aload_n (pc := 1334) hx hb dL_law_1334 rfl (lv_at hl 1 rfl) ?_
  refine lv_aload_n (pc := 1335) hx hb dL_law_1335 rfl (lv_at hl 0 rfl) ?_
  refine lv_iload (pc := 1336) hx hb dL_law_1336 (lv_at hl 4 rfl) ?_
  refine lv_iconst (v := 1) (pc := 1338) hx hb dL_law_1338 (by decide) ?_
  refine lv_iadd (pc := 1339) hx hb dL_law_1339 ?_
  refine z_sld (pc := 1340) hx hb hX hbl hbA hS hL (i + 1) (z_oi i 1 hu 1 rfl) (by omega) dL_law_1340 ?_
  refine lv_aload_n (pc := 1341) hx hb dL_law_1341 rfl (lv_at hl 3 rfl) ?_
  have hT : z_T z_no s H := (hT0.kept (fun q h1 h2 => hS.2.1 q h1 h2)).narrow (fun q h => h.elim)
  refine z_cweI (pc := 1342) S (wt_floorOf_2 l hl0 X a d d2 B o g (xs (i + 1)) hf1) (vx_cwSW 3 hts gL_law_L_floorOf rfl rfl rfl hdL_floorOf ⟨Nat.le_of_ble_eq_true rfl, Nat.le_of_ble_eq_true rfl⟩) hP hK hN hT hD hS hA (s_W_BO X a d d2 B o g dm M) (f_W_BO X a d d2 B o g dm M B g) (show kc + 1 ≤ room_1.cells ∧ ks + 6 ≤ room_1.slots from ⟨by omega, by omega⟩) rfl hl.1 rfl (Nat.le_of_ble_eq_true rfl) dL_law_1342 (fun H locs hP hD hS => ?_)
  refine lv_istore (pc := 1345) (lv' := [(5, .int 1), (0, .ref b), (1, .ref a), (2, .ref (dm 0)), (3, .ref o), (4, .int u)]) hx hb dL_law_1345 hl (by decide) rfl (fun ls hl => ?_)
  refine lv_aload_n (pc := 1347) hx hb dL_law_1347 rfl (lv_at hl 3 rfl) ?_
  refine lv_aload_n (pc := 1348) hx hb dL_law_1348 rfl (lv_at hl 1 rfl) ?_
  refine lv_iload (pc := 1349) hx hb dL_law_1349 (lv_at hl 5 rfl) ?_
  refine lv_iconst (v := 1) (pc := 1351) hx hb dL_law_1351 (by decide) ?_
  refine lv_iadd (pc := 1352) hx hb dL_law_1352 ?_
  refine z_sld (pc := 1353) hx hb hX hbl hbA hS hL (i + 1) (z_oi i 1 hu 1 rfl) (by omega) dL_law_1353 ?_
  refine z_cmI (pc := 1354) (W1 := (z_wLw X a d d2 B o g dm R2.2)) S (m_X5_floorOf l X dm M (xs (i + 1)) hf2) (cwV 1 hts gL_law_X5_floorOf rfl rfl rfl hdX5_floorOf ⟨Nat.le_of_ble_eq_true rfl, Nat.le_of_ble_eq_true rfl⟩) hP hK hN hD hS hA (s_W_M X a d d2 B o g dm M) (f_W_M X a d d2 B o g dm M R2.2) (ci := 5) rfl rfl rfl (show (kc + 1) ≤ room_1.cells ∧ (ks + 6) ≤ room_1.slots from ⟨by omega, by omega⟩) rfl hl.1 rfl (Nat.le_of_ble_eq_true rfl) dL_law_1354 (fun H locs hP hD hS => ?_)
  refine lv_istore (pc := 1357) (lv' := [(6, .int R2.1), (5, .int 1), (0, .ref b), (1, .ref a), (2, .ref (dm 0)), (3, .ref o), (4, .int u)]) hx hb dL_law_1357 hl (by decide) rfl (fun ls hl => ?_)
  refine lv_aload_n (pc := 1359) hx hb dL_law_1359 rfl (lv_at hl 4 rfl) ?_
  refine z_cpI (pc := 1360) S (m_X5_thrown l X dm R2.2 rfl) (cwV 0 hts gL_law_X5_thrown rfl rfl rfl hdX5_thrown ⟨Nat.le_of_ble_eq_true rfl, Nat.le_of_ble_eq_true rfl⟩) hP hK hN (s_W_M X a d d2 B o g dm R2.2) (ci := 5) rfl rfl rfl (show (kc + 1) ≤ room_1.cells ∧ (ks + 6) ≤ room_1.slots from ⟨by omega, by omega⟩) rfl hl.1 rfl (Nat.le_of_ble_eq_true rfl) dL_law_1360 ?_
  refine lv_iload (pc := 1363) hx hb dL_law_1363 (lv_at hl 1 rfl) ?_
  refine lv_icmp_eq (pc := 1365) (tgt := 1370) hx hb dL_law_1365 (by decide) (fun _ => ?_) (fun c_ => absurd h3 c_)
  refine lv_iload (pc := 1370) hx hb dL_law_1370 (lv_at hl 1 rfl) ?_
  refine lv_if_ne (pc := 1372) (tgt := 1387) hx hb dL_law_1372 (by decide) (fun _ => ?_) (fun c_ => absurd c_ (by decide))
  refine lv_goto (pc := 1387) (tgt := 1905) hx hb dL_law_1387 (by decide) ?_
  refine W.widen (k := kc + 20) (n := ks + 200) (by omega) (by omega) ?_
  exact kk H locs ls hP hD hS (lv_sub hl [2, 3, 4, 5, 6] rfl)
set_option maxHeartbeats 4000000 in
set_option maxRecDepth 100000 in
theorem lc_goesTo {p : Program} {l : Launch} {e : Env} {s : State} {m : MethodId} {below : List Frame} {meth : Method} {c : Code} {X : z_X} {b L : Nat} {xs : Nat → Int32} (C : z_LC p l s m meth c X b L xs) {a : Nat} {d d2 : Nat → Nat} {B : z_B} {o : Nat} {g : Nat → Int64} {dm : Nat → Nat} {M : z_M} {H : Heap} {locs : List Loc} {ls : Array Slot} {Q : State → Prop} {u : Int32} (kc ks : Nat) (hk : kc + 20 ≤ room_1.cells ∧ ks + 200 ≤ room_1.slots) (i : Nat) (hu : u = nI i) (hi : i + 3 < L) (hP : va_P X.1 vwCl (z_wLw X a d d2 B o g dm M) H) (hD : va_D (fun q : Nat => s.heap.size ≤ q) (z_wLw X a d d2 B o g dm M)) (hS : va_S (fun q : Nat => s.heap.size ≤ q) s.heap H locs) (hl : lv_has ls 9 [(0, .ref b), (1, .ref a), (2, .ref (dm 0)), (3, .ref o), (4, .int u)]) {R1 : Int32} (hf1 : f_X4_goesTo B (xs (i + 1)) = some R1) {R2 : (Int32 × z_M)} (hf2 : f_X5_goesTo M (xs (i + 1)) = some R2) (h3 : R2.2.1 0 = 0) (h4 : R1 = R2.1) (kk : ∀ (H : Heap) (locs : List Loc) (ls : Array Slot), va_P X.1 vwCl (z_wLw X a d d2 B o (vp_updL g 0 (R1).toInt64) dm R2.2) H → va_D (fun q : Nat => s.heap.size ≤ q) (z_wLw X a d d2 B o (vp_updL g 0 (R1).toInt64) dm R2.2) → va_S (fun q : Nat => s.heap.size ≤ q) s.heap H locs → lv_has ls 9 [(0, .ref b), (1, .ref a), (2, .ref (dm 0)), (3, .ref o), (4, .int u)] → W p l e room_1 s m #[Value.ref b] below meth c H locs (kc + 20) (ks + 200) Q (F0 m 1905 ls [])) : W p l e room_1 s m #[Value.ref b] below meth c H locs kc ks Q (F0 m 1390 ls []) := by
  obtain ⟨hx, hb, hml, hown, hts, hK, hN, hX, hbl, hT0, hl0, hL⟩ := C
  have hA : ∀ q : Nat, s.heap.size ≤ q → (fun q : Nat => s.heap.size ≤ q) q := fun _ h => h
  have hbA : ¬ (fun q : Nat => s.heap.size ≤ q) b := Nat.not_le.mpr hbl
  have S : CallFix p m c cL_law 9 s #[Value.ref b] wsL_law RL := ⟨hx, hb, hml, hown, hts⟩
  refine lv_aload_n (pc := 1390) hx hb dL_law_1390 rfl (lv_at hl 1 rfl) ?_
  refine lv_aload_n (pc := 1391) hx hb dL_law_1391 rfl (lv_at hl 0 rfl) ?_
  refine lv_iload (pc := 1392) hx hb dL_law_1392 (lv_at hl 4 rfl) ?_
  refine lv_iconst (v := 1) (pc := 1394) hx hb dL_law_1394 (by decide) ?_
  refine lv_iadd (pc := 1395) hx hb dL_law_1395 ?_
  refine z_sld (pc := 1396) hx hb hX hbl hbA hS hL (i + 1) (z_oi i 1 hu 1 rfl) (by omega) dL_law_1396 ?_
  refine lv_aload_n (pc := 1397) hx hb dL_law_1397 rfl (lv_at hl 3 rfl) ?_
  refine z_cwsI (pc := 1398) (W1 := (z_wLw X a d d2 B o (vp_updL g 0 (R1).toInt64) dm M)) S (wn_goesTo l X a d d2 B o g (xs (i + 1)) hf1) (vx_cwSW 3 hts gL_law_L_goesTo rfl rfl rfl hdL_goesTo ⟨Nat.le_of_ble_eq_true rfl, Nat.le_of_ble_eq_true rfl⟩) hP hK hN hD hS hA (s_W_BO X a d d2 B o g dm M) (f_W_BO X a d d2 B o g dm M B (vp_updL g 0 (R1).toInt64)) (show kc ≤ room_1.cells ∧ ks ≤ room_1.slots from ⟨by omega, by omega⟩) rfl hl.1 rfl (Nat.le_of_ble_eq_true rfl) dL_law_1398 (fun H locs hP hD hS => ?_)
  refine lv_istore (pc := 1401) (lv' := [(5, .int 0), (0, .ref b), (1, .ref a), (2, .ref (dm 0)), (3, .ref o), (4, .int u)]) hx hb dL_law_1401 hl (by decide) rfl (fun ls hl => ?_)
  refine lv_aload_n (pc := 1403) hx hb dL_law_1403 rfl (lv_at hl 3 rfl) ?_
  refine lv_aload_n (pc := 1404) hx hb dL_law_1404 rfl (lv_at hl 1 rfl) ?_
  refine lv_iload (pc := 1405) hx hb dL_law_1405 (lv_at hl 5 rfl) ?_
  refine lv_iconst (v := 1) (pc := 1407) hx hb dL_law_1407 (by decide) ?_
  refine lv_iadd (pc := 1408) hx hb dL_law_1408 ?_
  refine z_sld (pc := 1409) hx hb hX hbl hbA hS hL (i + 1) (z_oi i 1 hu 1 rfl) (by omega) dL_law_1409 ?_
  refine z_cmI (pc := 1410) (W1 := (z_wLw X a d d2 B o (vp_updL g 0 (R1).toInt64) dm R2.2)) S (m_X5_goesTo l X dm M (xs (i + 1)) hf2) (cwV 1 hts gL_law_X5_goesTo rfl rfl rfl hdX5_goesTo ⟨Nat.le_of_ble_eq_true rfl, Nat.le_of_ble_eq_true rfl⟩) hP hK hN hD hS hA (s_W_M X a d d2 B o (vp_updL g 0 (R1).toInt64) dm M) (f_W_M X a d d2 B o (vp_updL g 0 (R1).toInt64) dm M R2.2) (ci := 5) rfl rfl rfl (show kc ≤ room_1.cells ∧ ks ≤ room_1.slots from ⟨by omega, by omega⟩) rfl hl.1 rfl (Nat.le_of_ble_eq_true rfl) dL_law_1410 (fun H locs hP hD hS => ?_)
  refine lv_istore (pc := 1413) (lv' := [(6, .int R2.1), (5, .int 0), (0, .ref b), (1, .ref a), (2, .ref (dm 0)), (3, .ref o), (4, .int u)]) hx hb dL_law_1413 hl (by decide) rfl (fun ls hl => ?_)
  refine lv_aload_n (pc := 1415) hx hb dL_law_1415 rfl (lv_at hl 4 rfl) ?_
  refine z_cpI (pc := 1416) S (m_X5_thrown l X dm R2.2 rfl) (cwV 0 hts gL_law_X5_thrown rfl rfl rfl hdX5_thrown ⟨Nat.le_of_ble_eq_true rfl, Nat.le_of_ble_eq_true rfl⟩) hP hK hN (s_W_M X a d d2 B o (vp_updL g 0 (R1).toInt64) dm R2.2) (ci := 5) rfl rfl rfl (show kc ≤ room_1.cells ∧ ks ≤ room_1.slots from ⟨by omega, by omega⟩) rfl hl.1 rfl (Nat.le_of_ble_eq_true rfl) dL_law_1416 ?_
  refine lv_iload (pc := 1419) hx hb dL_law_1419 (lv_at hl 1 rfl) ?_
  refine lv_icmp_eq (pc := 1421) (tgt := 1426) hx hb dL_law_1421 (by decide) (fun _ => ?_) (fun c_ => absurd h3 c_)
  refine lv_iload (pc := 1426) hx hb dL_law_1426 (lv_at hl 1 rfl) ?_
  refine lv_if_ne (pc := 1428) (tgt := 1443) hx hb dL_law_1428 (by decide) (fun c_ => absurd rfl c_) (fun _ => ?_)
  refine lv_aload_n (pc := 1431) hx hb dL_law_1431 rfl (lv_at hl 5 rfl) ?_
  refine lv_iconst (v := 0) (pc := 1432) hx hb dL_law_1432 (by decide) ?_
  refine va_lald (pc := 1433) hx hb hK hP 53 2 rfl rfl z_in01 dL_law_1433 ?_
  refine lv_iload (pc := 1434) hx hb dL_law_1434 (lv_at hl 0 rfl) ?_
  refine lv_i2l (v := (R2.1).toInt64) (pc := 1436) hx hb dL_law_1436 rfl ?_
  refine W.lcmp (pc := 1437) hx hb dL_law_1437 ?_
  refine lv_if_eq (pc := 1438) (tgt := 1443) hx hb dL_law_1438 (by decide) (fun _ => ?_) (fun c_ => absurd (show lg_cmp _ _ = 0 from by rw [← h4]; exact z_cmp0 _) c_)
  refine lv_goto (pc := 1443) (tgt := 1905) hx hb dL_law_1443 (by decide) ?_
  refine W.widen (k := kc + 20) (n := ks + 200) (by omega) (by omega) ?_
  exact kk H locs ls hP hD hS (lv_sub hl [2, 3, 4, 5, 6] rfl)
set_option maxHeartbeats 4000000 in
set_option maxRecDepth 100000 in
theorem lc_goesTo_t2 {p : Program} {l : Launch} {e : Env} {s : State} {m : MethodId} {below : List Frame} {meth : Method} {c : Code} {X : z_X} {b L : Nat} {xs : Nat → Int32} (C : z_LC p l s m meth c X b L xs) {a : Nat} {d d2 : Nat → Nat} {B : z_B} {o : Nat} {g : Nat → Int64} {dm : Nat → Nat} {M : z_M} {H : Heap} {locs : List Loc} {ls : Array Slot} {Q : State → Prop} {u : Int32} (kc ks : Nat) (hk : kc + 20 ≤ room_1.cells ∧ ks + 200 ≤ room_1.slots) (i : Nat) (hu : u = nI i) (hi : i + 3 < L) (hP : va_P X.1 vwCl (z_wLw X a d d2 B o g dm M) H) (hD : va_D (fun q : Nat => s.heap.size ≤ q) (z_wLw X a d d2 B o g dm M)) (hS : va_S (fun q : Nat => s.heap.size ≤ q) s.heap H locs) (hl : lv_has ls 9 [(0, .ref b), (1, .ref a), (2, .ref (dm 0)), (3, .ref o), (4, .int u)]) (hf1 : x_X4_goesTo B (xs (i + 1)) = some 2) {R2 : (Int32 × z_M)} (hf2 : f_X5_goesTo M (xs (i + 1)) = some R2) (h3 : R2.2.1 0 = 1) (kk : ∀ (H : Heap) (locs : List Loc) (ls : Array Slot), va_P X.1 vwCl (z_wLw X a d d2 B o g dm R2.2) H → va_D (fun q : Nat => s.heap.size ≤ q) (z_wLw X a d d2 B o g dm R2.2) → va_S (fun q : Nat => s.heap.size ≤ q) s.heap H locs → lv_has ls 9 [(0, .ref b), (1, .ref a), (2, .ref (dm 0)), (3, .ref o), (4, .int u)] → W p l e room_1 s m #[Value.ref b] below meth c H locs (kc + 20) (ks + 200) Q (F0 m 1905 ls [])) : W p l e room_1 s m #[Value.ref b] below meth c H locs kc ks Q (F0 m 1390 ls []) := by
  obtain ⟨hx, hb, hml, hown, hts, hK, hN, hX, hbl, hT0, hl0, hL⟩ := C
  have hA : ∀ q : Nat, s.heap.size ≤ q → (fun q : Nat => s.heap.size ≤ q) q := fun _ h => h
  have hbA : ¬ (fun q : Nat => s.heap.size ≤ q) b := Nat.not_le.mpr hbl
  have S : CallFix p m c cL_law 9 s #[Value.ref b] wsL_law RL := ⟨hx, hb, hml, hown, hts⟩
  refine lv_aload_n (pc := 1390) hx hb dL_law_1390 rfl (lv_at hl 1 rfl) ?_
  refine lv_aload_n (pc := 1391) hx hb dL_law_1391 rfl (lv_at hl 0 rfl) ?_
  refine lv_iload (pc := 1392) hx hb dL_law_1392 (lv_at hl 4 rfl) ?_
  refine lv_iconst (v := 1) (pc := 1394) hx hb dL_law_1394 (by decide) ?_
  refine lv_iadd (pc := 1395) hx hb dL_law_1395 ?_
  refine z_sld (pc := 1396) hx hb hX hbl hbA hS hL (i + 1) (z_oi i 1 hu 1 rfl) (by omega) dL_law_1396 ?_
  refine lv_aload_n (pc := 1397) hx hb dL_law_1397 rfl (lv_at hl 3 rfl) ?_
  have hT : z_T z_no s H := (hT0.kept (fun q h1 h2 => hS.2.1 q h1 h2)).narrow (fun q h => h.elim)
  refine z_cweI (pc := 1398) S (wt_goesTo_2 l hl0 X a d d2 B o g (xs (i + 1)) hf1) (vx_cwSW 3 hts gL_law_L_goesTo rfl rfl rfl hdL_goesTo ⟨Nat.le_of_ble_eq_true rfl, Nat.le_of_ble_eq_true rfl⟩) hP hK hN hT hD hS hA (s_W_BO X a d d2 B o g dm M) (f_W_BO X a d d2 B o g dm M B g) (show kc + 1 ≤ room_1.cells ∧ ks + 6 ≤ room_1.slots from ⟨by omega, by omega⟩) rfl hl.1 rfl (Nat.le_of_ble_eq_true rfl) dL_law_1398 (fun H locs hP hD hS => ?_)
  refine lv_istore (pc := 1401) (lv' := [(5, .int 1), (0, .ref b), (1, .ref a), (2, .ref (dm 0)), (3, .ref o), (4, .int u)]) hx hb dL_law_1401 hl (by decide) rfl (fun ls hl => ?_)
  refine lv_aload_n (pc := 1403) hx hb dL_law_1403 rfl (lv_at hl 3 rfl) ?_
  refine lv_aload_n (pc := 1404) hx hb dL_law_1404 rfl (lv_at hl 1 rfl) ?_
  refine lv_iload (pc := 1405) hx hb dL_law_1405 (lv_at hl 5 rfl) ?_
  refine lv_iconst (v := 1) (pc := 1407) hx hb dL_law_1407 (by decide) ?_
  refine lv_iadd (pc := 1408) hx hb dL_law_1408 ?_
  refine z_sld (pc := 1409) hx hb hX hbl hbA hS hL (i + 1) (z_oi i 1 hu 1 rfl) (by omega) dL_law_1409 ?_
  refine z_cmI (pc := 1410) (W1 := (z_wLw X a d d2 B o g dm R2.2)) S (m_X5_goesTo l X dm M (xs (i + 1)) hf2) (cwV 1 hts gL_law_X5_goesTo rfl rfl rfl hdX5_goesTo ⟨Nat.le_of_ble_eq_true rfl, Nat.le_of_ble_eq_true rfl⟩) hP hK hN hD hS hA (s_W_M X a d d2 B o g dm M) (f_W_M X a d d2 B o g dm M R2.2) (ci := 5) rfl rfl rfl (show (kc + 1) ≤ room_1.cells ∧ (ks + 6) ≤ room_1.slots from ⟨by omega, by omega⟩) rfl hl.1 rfl (Nat.le_of_ble_eq_true rfl) dL_law_1410 (fun H locs hP hD hS => ?_)
  refine lv_istore (pc := 1413) (lv' := [(6, .int R2.1), (5, .int 1), (0, .ref b), (1, .ref a), (2, .ref (dm 0)), (3, .ref o), (4, .int u)]) hx hb dL_law_1413 hl (by decide) rfl (fun ls hl => ?_)
  refine lv_aload_n (pc := 1415) hx hb dL_law_1415 rfl (lv_at hl 4 rfl) ?_
  refine z_cpI (pc := 1416) S (m_X5_thrown l X dm R2.2 rfl) (cwV 0 hts gL_law_X5_thrown rfl rfl rfl hdX5_thrown ⟨Nat.le_of_ble_eq_true rfl, Nat.le_of_ble_eq_true rfl⟩) hP hK hN (s_W_M X a d d2 B o g dm R2.2) (ci := 5) rfl rfl rfl (show (kc + 1) ≤ room_1.cells ∧ (ks + 6) ≤ room_1.slots from ⟨by omega, by omega⟩) rfl hl.1 rfl (Nat.le_of_ble_eq_true rfl) dL_law_1416 ?_
  refine lv_iload (pc := 1419) hx hb dL_law_1419 (lv_at hl 1 rfl) ?_
  refine lv_icmp_eq (pc := 1421) (tgt := 1426) hx hb dL_law_1421 (by decide) (fun _ => ?_) (fun c_ => absurd h3 c_)
  refine lv_iload (pc := 1426) hx hb dL_law_1426 (lv_at hl 1 rfl) ?_
  refine lv_if_ne (pc := 1428) (tgt := 1443) hx hb dL_law_1428 (by decide) (fun _ => ?_) (fun c_ => absurd c_ (by decide))
  refine lv_goto (pc := 1443) (tgt := 1905) hx hb dL_law_1443 (by decide) ?_
  refine W.widen (k := kc + 20) (n := ks + 200) (by omega) (by omega) ?_
  exact kk H locs ls hP hD hS (lv_sub hl [2, 3, 4, 5, 6] rfl)
set_option maxHeartbeats 4000000 in
set_option maxRecDepth 100000 in
theorem lc_serves {p : Program} {l : Launch} {e : Env} {s : State} {m : MethodId} {below : List Frame} {meth : Method} {c : Code} {X : z_X} {b L : Nat} {xs : Nat → Int32} (C : z_LC p l s m meth c X b L xs) {a : Nat} {d d2 : Nat → Nat} {B : z_B} {o : Nat} {g : Nat → Int64} {dm : Nat → Nat} {M : z_M} {H : Heap} {locs : List Loc} {ls : Array Slot} {Q : State → Prop} {u : Int32} (kc ks : Nat) (hk : kc + 20 ≤ room_1.cells ∧ ks + 200 ≤ room_1.slots) (i : Nat) (hu : u = nI i) (hi : i + 3 < L) (hP : va_P X.1 vwCl (z_wLw X a d d2 B o g dm M) H) (hD : va_D (fun q : Nat => s.heap.size ≤ q) (z_wLw X a d d2 B o g dm M)) (hS : va_S (fun q : Nat => s.heap.size ≤ q) s.heap H locs) (hl : lv_has ls 9 [(0, .ref b), (1, .ref a), (2, .ref (dm 0)), (3, .ref o), (4, .int u)]) {R1 : Int32} (hf1 : f_X4_serves B (xs (i + 1)) = some R1) {R2 : (Int32 × z_M)} (hf2 : f_X5_serves M (xs (i + 1)) = some R2) (h3 : R2.2.1 0 = 0) (h4 : R1 = R2.1) (kk : ∀ (H : Heap) (locs : List Loc) (ls : Array Slot), va_P X.1 vwCl (z_wLw X a d d2 B o (vp_updL g 0 (R1).toInt64) dm R2.2) H → va_D (fun q : Nat => s.heap.size ≤ q) (z_wLw X a d d2 B o (vp_updL g 0 (R1).toInt64) dm R2.2) → va_S (fun q : Nat => s.heap.size ≤ q) s.heap H locs → lv_has ls 9 [(0, .ref b), (1, .ref a), (2, .ref (dm 0)), (3, .ref o), (4, .int u)] → W p l e room_1 s m #[Value.ref b] below meth c H locs (kc + 20) (ks + 200) Q (F0 m 1905 ls [])) : W p l e room_1 s m #[Value.ref b] below meth c H locs kc ks Q (F0 m 1446 ls []) := by
  obtain ⟨hx, hb, hml, hown, hts, hK, hN, hX, hbl, hT0, hl0, hL⟩ := C
  have hA : ∀ q : Nat, s.heap.size ≤ q → (fun q : Nat => s.heap.size ≤ q) q := fun _ h => h
  have hbA : ¬ (fun q : Nat => s.heap.size ≤ q) b := Nat.not_le.mpr hbl
  have S : CallFix p m c cL_law 9 s #[Value.ref b] wsL_law RL := ⟨hx, hb, hml, hown, hts⟩
  refine lv_aload_n (pc := 1446) hx hb dL_law_1446 rfl (lv_at hl 1 rfl) ?_
  refine lv_aload_n (pc := 1447) hx hb dL_law_1447 rfl (lv_at hl 0 rfl) ?_
  refine lv_iload (pc := 1448) hx hb dL_law_1448 (lv_at hl 4 rfl) ?_
  refine lv_iconst (v := 1) (pc := 1450) hx hb dL_law_1450 (by decide) ?_
  refine lv_iadd (pc := 1451) hx hb dL_law_1451 ?_
  refine z_sld (pc := 1452) hx hb hX hbl hbA hS hL (i + 1) (z_oi i 1 hu 1 rfl) (by omega) dL_law_1452 ?_
  refine lv_aload_n (pc := 1453) hx hb dL_law_1453 rfl (lv_at hl 3 rfl) ?_
  refine z_cwsI (pc := 1454) (W1 := (z_wLw X a d d2 B o (vp_updL g 0 (R1).toInt64) dm M)) S (wn_serves l X a d d2 B o g (xs (i + 1)) hf1) (vx_cwSW 3 hts gL_law_L_serves rfl rfl rfl hdL_serves ⟨Nat.le_of_ble_eq_true rfl, Nat.le_of_ble_eq_true rfl⟩) hP hK hN hD hS hA (s_W_BO X a d d2 B o g dm M) (f_W_BO X a d d2 B o g dm M B (vp_updL g 0 (R1).toInt64)) (show kc ≤ room_1.cells ∧ ks ≤ room_1.slots from ⟨by omega, by omega⟩) rfl hl.1 rfl (Nat.le_of_ble_eq_true rfl) dL_law_1454 (fun H locs hP hD hS => ?_)
  refine lv_istore (pc := 1457) (lv' := [(5, .int 0), (0, .ref b), (1, .ref a), (2, .ref (dm 0)), (3, .ref o), (4, .int u)]) hx hb dL_law_1457 hl (by decide) rfl (fun ls hl => ?_)
  refine lv_aload_n (pc := 1459) hx hb dL_law_1459 rfl (lv_at hl 3 rfl) ?_
  refine lv_aload_n (pc := 1460) hx hb dL_law_1460 rfl (lv_at hl 1 rfl) ?_
  refine lv_iload (pc := 1461) hx hb dL_law_1461 (lv_at hl 5 rfl) ?_
  refine lv_iconst (v := 1) (pc := 1463) hx hb dL_law_1463 (by decide) ?_
  refine lv_iadd (pc := 1464) hx hb dL_law_1464 ?_
  refine z_sld (pc := 1465) hx hb hX hbl hbA hS hL (i + 1) (z_oi i 1 hu 1 rfl) (by omega) dL_law_1465 ?_
  refine z_cmI (pc := 1466) (W1 := (z_wLw X a d d2 B o (vp_updL g 0 (R1).toInt64) dm R2.2)) S (m_X5_serves l X dm M (xs (i + 1)) hf2) (cwV 1 hts gL_law_X5_serves rfl rfl rfl hdX5_serves ⟨Nat.le_of_ble_eq_true rfl, Nat.le_of_ble_eq_true rfl⟩) hP hK hN hD hS hA (s_W_M X a d d2 B o (vp_updL g 0 (R1).toInt64) dm M) (f_W_M X a d d2 B o (vp_updL g 0 (R1).toInt64) dm M R2.2) (ci := 5) rfl rfl rfl (show kc ≤ room_1.cells ∧ ks ≤ room_1.slots from ⟨by omega, by omega⟩) rfl hl.1 rfl (Nat.le_of_ble_eq_true rfl) dL_law_1466 (fun H locs hP hD hS => ?_)
  refine lv_istore (pc := 1469) (lv' := [(6, .int R2.1), (5, .int 0), (0, .ref b), (1, .ref a), (2, .ref (dm 0)), (3, .ref o), (4, .int u)]) hx hb dL_law_1469 hl (by decide) rfl (fun ls hl => ?_)
  refine lv_aload_n (pc := 1471) hx hb dL_law_1471 rfl (lv_at hl 4 rfl) ?_
  refine z_cpI (pc := 1472) S (m_X5_thrown l X dm R2.2 rfl) (cwV 0 hts gL_law_X5_thrown rfl rfl rfl hdX5_thrown ⟨Nat.le_of_ble_eq_true rfl, Nat.le_of_ble_eq_true rfl⟩) hP hK hN (s_W_M X a d d2 B o (vp_updL g 0 (R1).toInt64) dm R2.2) (ci := 5) rfl rfl rfl (show kc ≤ room_1.cells ∧ ks ≤ room_1.slots from ⟨by omega, by omega⟩) rfl hl.1 rfl (Nat.le_of_ble_eq_true rfl) dL_law_1472 ?_
  refine lv_iload (pc := 1475) hx hb dL_law_1475 (lv_at hl 1 rfl) ?_
  refine lv_icmp_eq (pc := 1477) (tgt := 1482) hx hb dL_law_1477 (by decide) (fun _ => ?_) (fun c_ => absurd h3 c_)
  refine lv_iload (pc := 1482) hx hb dL_law_1482 (lv_at hl 1 rfl) ?_
  refine lv_if_ne (pc := 1484) (tgt := 1499) hx hb dL_law_1484 (by decide) (fun c_ => absurd rfl c_) (fun _ => ?_)
  refine lv_aload_n (pc := 1487) hx hb dL_law_1487 rfl (lv_at hl 5 rfl) ?_
  refine lv_iconst (v := 0) (pc := 1488) hx hb dL_law_1488 (by decide) ?_
  refine va_lald (pc := 1489) hx hb hK hP 53 2 rfl rfl z_in01 dL_law_1489 ?_
  refine lv_iload (pc := 1490) hx hb dL_law_1490 (lv_at hl 0 rfl) ?_
  refine lv_i2l (v := (R2.1).toInt64) (pc := 1492) hx hb dL_law_1492 rfl ?_
  refine W.lcmp (pc := 1493) hx hb dL_law_1493 ?_
  refine lv_if_eq (pc := 1494) (tgt := 1499) hx hb dL_law_1494 (by decide) (fun _ => ?_) (fun c_ => absurd (show lg_cmp _ _ = 0 from by rw [← h4]; exact z_cmp0 _) c_)
  refine lv_goto (pc := 1499) (tgt := 1905) hx hb dL_law_1499 (by decide) ?_
  refine W.widen (k := kc + 20) (n := ks + 200) (by omega) (by omega) ?_
  exact kk H locs ls hP hD hS (lv_sub hl [2, 3, 4, 5, 6] rfl)
set_option maxHeartbeats 4000000 in
set_option maxRecDepth 100000 in
theorem lc_serves_t2 {p : Program} {l : Launch} {e : Env} {s : State} {m : MethodId} {below : List Frame} {meth : Method} {c : Code} {X : z_X} {b L : Nat} {xs : Nat → Int32} (C : z_LC p l s m meth c X b L xs) {a : Nat} {d d2 : Nat → Nat} {B : z_B} {o : Nat} {g : Nat → Int64} {dm : Nat → Nat} {M : z_M} {H : Heap} {locs : List Loc} {ls : Array Slot} {Q : State → Prop} {u : Int32} (kc ks : Nat) (hk : kc + 20 ≤ room_1.cells ∧ ks + 200 ≤ room_1.slots) (i : Nat) (hu : u = nI i) (hi : i + 3 < L) (hP : va_P X.1 vwCl (z_wLw X a d d2 B o g dm M) H) (hD : va_D (fun q : Nat => s.heap.size ≤ q) (z_wLw X a d d2 B o g dm M)) (hS : va_S (fun q : Nat => s.heap.size ≤ q) s.heap H locs) (hl : lv_has ls 9 [(0, .ref b), (1, .ref a), (2, .ref (dm 0)), (3, .ref o), (4, .int u)]) (hf1 : x_X4_serves B (xs (i + 1)) = some 2) {R2 : (Int32 × z_M)} (hf2 : f_X5_serves M (xs (i + 1)) = some R2) (h3 : R2.2.1 0 = 1) (kk : ∀ (H : Heap) (locs : List Loc) (ls : Array Slot), va_P X.1 vwCl (z_wLw X a d d2 B o g dm R2.2) H → va_D (fun q : Nat => s.heap.size ≤ q) (z_wLw X a d d2 B o g dm R2.2) → va_S (fun q : Nat => s.heap.size ≤ q) s.heap H locs → lv_has ls 9 [(0, .ref b), (1, .ref a), (2, .ref (dm 0)), (3, .ref o), (4, .int u)] → W p l e room_1 s m #[Value.ref b] below meth c H locs (kc + 20) (ks + 200) Q (F0 m 1905 ls [])) : W p l e room_1 s m #[Value.ref b] below meth c H locs kc ks Q (F0 m 1446 ls []) := by
  obtain ⟨hx, hb, hml, hown, hts, hK, hN, hX, hbl, hT0, hl0, hL⟩ := C
  have hA : ∀ q : Nat, s.heap.size ≤ q → (fun q : Nat => s.heap.size ≤ q) q := fun _ h => h
  have hbA : ¬ (fun q : Nat => s.heap.size ≤ q) b := Nat.not_le.mpr hbl
  have S : CallFix p m c cL_law 9 s #[Value.ref b] wsL_law RL := ⟨hx, hb, hml, hown, hts⟩
  refine lv_aload_n (pc := 1446) hx hb dL_law_1446 rfl (lv_at hl 1 rfl) ?_
  refine lv_aload_n (pc := 1447) hx hb dL_law_1447 rfl (lv_at hl 0 rfl) ?_
  refine lv_iload (pc := 1448) hx hb dL_law_1448 (lv_at hl 4 rfl) ?_
  refine lv_iconst (v := 1) (pc := 1450) hx hb dL_law_1450 (by decide) ?_
  refine lv_iadd (pc := 1451) hx hb dL_law_1451 ?_
  refine z_sld (pc := 1452) hx hb hX hbl hbA hS hL (i + 1) (z_oi i 1 hu 1 rfl) (by omega) dL_law_1452 ?_
  refine lv_aload_n (pc := 1453) hx hb dL_law_1453 rfl (lv_at hl 3 rfl) ?_
  have hT : z_T z_no s H := (hT0.kept (fun q h1 h2 => hS.2.1 q h1 h2)).narrow (fun q h => h.elim)
  refine z_cweI (pc := 1454) S (wt_serves_2 l hl0 X a d d2 B o g (xs (i + 1)) hf1) (vx_cwSW 3 hts gL_law_L_serves rfl rfl rfl hdL_serves ⟨Nat.le_of_ble_eq_true rfl, Nat.le_of_ble_eq_true rfl⟩) hP hK hN hT hD hS hA (s_W_BO X a d d2 B o g dm M) (f_W_BO X a d d2 B o g dm M B g) (show kc + 1 ≤ room_1.cells ∧ ks + 6 ≤ room_1.slots from ⟨by omega, by omega⟩) rfl hl.1 rfl (Nat.le_of_ble_eq_true rfl) dL_law_1454 (fun H locs hP hD hS => ?_)
  refine lv_istore (pc := 1457) (lv' := [(5, .int 1), (0, .ref b), (1, .ref a), (2, .ref (dm 0)), (3, .ref o), (4, .int u)]) hx hb dL_law_1457 hl (by decide) rfl (fun ls hl => ?_)
  refine lv_aload_n (pc := 1459) hx hb dL_law_1459 rfl (lv_at hl 3 rfl) ?_
  refine lv_aload_n (pc := 1460) hx hb dL_law_1460 rfl (lv_at hl 1 rfl) ?_
  refine lv_iload (pc := 1461) hx hb dL_law_1461 (lv_at hl 5 rfl) ?_
  refine lv_iconst (v := 1) (pc := 1463) hx hb dL_law_1463 (by decide) ?_
  refine lv_iadd (pc := 1464) hx hb dL_law_1464 ?_
  refine z_sld (pc := 1465) hx hb hX hbl hbA hS hL (i + 1) (z_oi i 1 hu 1 rfl) (by omega) dL_law_1465 ?_
  refine z_cmI (pc := 1466) (W1 := (z_wLw X a d d2 B o g dm R2.2)) S (m_X5_serves l X dm M (xs (i + 1)) hf2) (cwV 1 hts gL_law_X5_serves rfl rfl rfl hdX5_serves ⟨Nat.le_of_ble_eq_true rfl, Nat.le_of_ble_eq_true rfl⟩) hP hK hN hD hS hA (s_W_M X a d d2 B o g dm M) (f_W_M X a d d2 B o g dm M R2.2) (ci := 5) rfl rfl rfl (show (kc + 1) ≤ room_1.cells ∧ (ks + 6) ≤ room_1.slots from ⟨by omega, by omega⟩) rfl hl.1 rfl (Nat.le_of_ble_eq_true rfl) dL_law_1466 (fun H locs hP hD hS => ?_)
  refine lv_istore (pc := 1469) (lv' := [(6, .int R2.1), (5, .int 1), (0, .ref b), (1, .ref a), (2, .ref (dm 0)), (3, .ref o), (4, .int u)]) hx hb dL_law_1469 hl (by decide) rfl (fun ls hl => ?_)
  refine lv_aload_n (pc := 1471) hx hb dL_law_1471 rfl (lv_at hl 4 rfl) ?_
  refine z_cpI (pc := 1472) S (m_X5_thrown l X dm R2.2 rfl) (cwV 0 hts gL_law_X5_thrown rfl rfl rfl hdX5_thrown ⟨Nat.le_of_ble_eq_true rfl, Nat.le_of_ble_eq_true rfl⟩) hP hK hN (s_W_M X a d d2 B o g dm R2.2) (ci := 5) rfl rfl rfl (show (kc + 1) ≤ room_1.cells ∧ (ks + 6) ≤ room_1.slots from ⟨by omega, by omega⟩) rfl hl.1 rfl (Nat.le_of_ble_eq_true rfl) dL_law_1472 ?_
  refine lv_iload (pc := 1475) hx hb dL_law_1475 (lv_at hl 1 rfl) ?_
  refine lv_icmp_eq (pc := 1477) (tgt := 1482) hx hb dL_law_1477 (by decide) (fun _ => ?_) (fun c_ => absurd h3 c_)
  refine lv_iload (pc := 1482) hx hb dL_law_1482 (lv_at hl 1 rfl) ?_
  refine lv_if_ne (pc := 1484) (tgt := 1499) hx hb dL_law_1484 (by decide) (fun _ => ?_) (fun c_ => absurd c_ (by decide))
  refine lv_goto (pc := 1499) (tgt := 1905) hx hb dL_law_1499 (by decide) ?_
  refine W.widen (k := kc + 20) (n := ks + 200) (by omega) (by omega) ?_
  exact kk H locs ls hP hD hS (lv_sub hl [2, 3, 4, 5, 6] rfl)
set_option maxHeartbeats 4000000 in
set_option maxRecDepth 100000 in
theorem lc_minutesLeft {p : Program} {l : Launch} {e : Env} {s : State} {m : MethodId} {below : List Frame} {meth : Method} {c : Code} {X : z_X} {b L : Nat} {xs : Nat → Int32} (C : z_LC p l s m meth c X b L xs) {a : Nat} {d d2 : Nat → Nat} {B : z_B} {o : Nat} {g : Nat → Int64} {dm : Nat → Nat} {M : z_M} {H : Heap} {locs : List Loc} {ls : Array Slot} {Q : State → Prop} {u : Int32} (kc ks : Nat) (hk : kc + 20 ≤ room_1.cells ∧ ks + 200 ≤ room_1.slots) (i : Nat) (hu : u = nI i) (hi : i + 3 < L) (hP : va_P X.1 vwCl (z_wLw X a d d2 B o g dm M) H) (hD : va_D (fun q : Nat => s.heap.size ≤ q) (z_wLw X a d d2 B o g dm M)) (hS : va_S (fun q : Nat => s.heap.size ≤ q) s.heap H locs) (hl : lv_has ls 9 [(0, .ref b), (1, .ref a), (2, .ref (dm 0)), (3, .ref o), (4, .int u)]) {R1 : Int32} (hf1 : f_X4_minutesLeft B (xs (i + 1)) = some R1) {R2 : (Int32 × z_M)} (hf2 : f_X5_minutesLeft M (xs (i + 1)) = some R2) (h3 : R2.2.1 0 = 0) (h4 : R1 = R2.1) (kk : ∀ (H : Heap) (locs : List Loc) (ls : Array Slot), va_P X.1 vwCl (z_wLw X a d d2 B o (vp_updL g 0 (R1).toInt64) dm R2.2) H → va_D (fun q : Nat => s.heap.size ≤ q) (z_wLw X a d d2 B o (vp_updL g 0 (R1).toInt64) dm R2.2) → va_S (fun q : Nat => s.heap.size ≤ q) s.heap H locs → lv_has ls 9 [(0, .ref b), (1, .ref a), (2, .ref (dm 0)), (3, .ref o), (4, .int u)] → W p l e room_1 s m #[Value.ref b] below meth c H locs (kc + 20) (ks + 200) Q (F0 m 1905 ls [])) : W p l e room_1 s m #[Value.ref b] below meth c H locs kc ks Q (F0 m 1502 ls []) := by
  obtain ⟨hx, hb, hml, hown, hts, hK, hN, hX, hbl, hT0, hl0, hL⟩ := C
  have hA : ∀ q : Nat, s.heap.size ≤ q → (fun q : Nat => s.heap.size ≤ q) q := fun _ h => h
  have hbA : ¬ (fun q : Nat => s.heap.size ≤ q) b := Nat.not_le.mpr hbl
  have S : CallFix p m c cL_law 9 s #[Value.ref b] wsL_law RL := ⟨hx, hb, hml, hown, hts⟩
  refine lv_aload_n (pc := 1502) hx hb dL_law_1502 rfl (lv_at hl 1 rfl) ?_
  refine lv_aload_n (pc := 1503) hx hb dL_law_1503 rfl (lv_at hl 0 rfl) ?_
  refine lv_iload (pc := 1504) hx hb dL_law_1504 (lv_at hl 4 rfl) ?_
  refine lv_iconst (v := 1) (pc := 1506) hx hb dL_law_1506 (by decide) ?_
  refine lv_iadd (pc := 1507) hx hb dL_law_1507 ?_
  refine z_sld (pc := 1508) hx hb hX hbl hbA hS hL (i + 1) (z_oi i 1 hu 1 rfl) (by omega) dL_law_1508 ?_
  refine lv_aload_n (pc := 1509) hx hb dL_law_1509 rfl (lv_at hl 3 rfl) ?_
  refine z_cwsI (pc := 1510) (W1 := (z_wLw X a d d2 B o (vp_updL g 0 (R1).toInt64) dm M)) S (wn_minutesLeft l X a d d2 B o g (xs (i + 1)) hf1) (vx_cwSW 3 hts gL_law_L_minutesLeft rfl rfl rfl hdL_minutesLeft ⟨Nat.le_of_ble_eq_true rfl, Nat.le_of_ble_eq_true rfl⟩) hP hK hN hD hS hA (s_W_BO X a d d2 B o g dm M) (f_W_BO X a d d2 B o g dm M B (vp_updL g 0 (R1).toInt64)) (show kc ≤ room_1.cells ∧ ks ≤ room_1.slots from ⟨by omega, by omega⟩) rfl hl.1 rfl (Nat.le_of_ble_eq_true rfl) dL_law_1510 (fun H locs hP hD hS => ?_)
  refine lv_istore (pc := 1513) (lv' := [(5, .int 0), (0, .ref b), (1, .ref a), (2, .ref (dm 0)), (3, .ref o), (4, .int u)]) hx hb dL_law_1513 hl (by decide) rfl (fun ls hl => ?_)
  refine lv_aload_n (pc := 1515) hx hb dL_law_1515 rfl (lv_at hl 3 rfl) ?_
  refine lv_aload_n (pc := 1516) hx hb dL_law_1516 rfl (lv_at hl 1 rfl) ?_
  refine lv_iload (pc := 1517) hx hb dL_law_1517 (lv_at hl 5 rfl) ?_
  refine lv_iconst (v := 1) (pc := 1519) hx hb dL_law_1519 (by decide) ?_
  refine lv_iadd (pc := 1520) hx hb dL_law_1520 ?_
  refine z_sld (pc := 1521) hx hb hX hbl hbA hS hL (i + 1) (z_oi i 1 hu 1 rfl) (by omega) dL_law_1521 ?_
  refine z_cmI (pc := 1522) (W1 := (z_wLw X a d d2 B o (vp_updL g 0 (R1).toInt64) dm R2.2)) S (m_X5_minutesLeft l X dm M (xs (i + 1)) hf2) (cwV 1 hts gL_law_X5_minutesLeft rfl rfl rfl hdX5_minutesLeft ⟨Nat.le_of_ble_eq_true rfl, Nat.le_of_ble_eq_true rfl⟩) hP hK hN hD hS hA (s_W_M X a d d2 B o (vp_updL g 0 (R1).toInt64) dm M) (f_W_M X a d d2 B o (vp_updL g 0 (R1).toInt64) dm M R2.2) (ci := 5) rfl rfl rfl (show kc ≤ room_1.cells ∧ ks ≤ room_1.slots from ⟨by omega, by omega⟩) rfl hl.1 rfl (Nat.le_of_ble_eq_true rfl) dL_law_1522 (fun H locs hP hD hS => ?_)
  refine lv_istore (pc := 1525) (lv' := [(6, .int R2.1), (5, .int 0), (0, .ref b), (1, .ref a), (2, .ref (dm 0)), (3, .ref o), (4, .int u)]) hx hb dL_law_1525 hl (by decide) rfl (fun ls hl => ?_)
  refine lv_aload_n (pc := 1527) hx hb dL_law_1527 rfl (lv_at hl 4 rfl) ?_
  refine z_cpI (pc := 1528) S (m_X5_thrown l X dm R2.2 rfl) (cwV 0 hts gL_law_X5_thrown rfl rfl rfl hdX5_thrown ⟨Nat.le_of_ble_eq_true rfl, Nat.le_of_ble_eq_true rfl⟩) hP hK hN (s_W_M X a d d2 B o (vp_updL g 0 (R1).toInt64) dm R2.2) (ci := 5) rfl rfl rfl (show kc ≤ room_1.cells ∧ ks ≤ room_1.slots from ⟨by omega, by omega⟩) rfl hl.1 rfl (Nat.le_of_ble_eq_true rfl) dL_law_1528 ?_
  refine lv_iload (pc := 1531) hx hb dL_law_1531 (lv_at hl 1 rfl) ?_
  refine lv_icmp_eq (pc := 1533) (tgt := 1538) hx hb dL_law_1533 (by decide) (fun _ => ?_) (fun c_ => absurd h3 c_)
  refine lv_iload (pc := 1538) hx hb dL_law_1538 (lv_at hl 1 rfl) ?_
  refine lv_if_ne (pc := 1540) (tgt := 1555) hx hb dL_law_1540 (by decide) (fun c_ => absurd rfl c_) (fun _ => ?_)
  refine lv_aload_n (pc := 1543) hx hb dL_law_1543 rfl (lv_at hl 5 rfl) ?_
  refine lv_iconst (v := 0) (pc := 1544) hx hb dL_law_1544 (by decide) ?_
  refine va_lald (pc := 1545) hx hb hK hP 53 2 rfl rfl z_in01 dL_law_1545 ?_
  refine lv_iload (pc := 1546) hx hb dL_law_1546 (lv_at hl 0 rfl) ?_
  refine lv_i2l (v := (R2.1).toInt64) (pc := 1548) hx hb dL_law_1548 rfl ?_
  refine W.lcmp (pc := 1549) hx hb dL_law_1549 ?_
  refine lv_if_eq (pc := 1550) (tgt := 1555) hx hb dL_law_1550 (by decide) (fun _ => ?_) (fun c_ => absurd (show lg_cmp _ _ = 0 from by rw [← h4]; exact z_cmp0 _) c_)
  refine lv_goto (pc := 1555) (tgt := 1905) hx hb dL_law_1555 (by decide) ?_
  refine W.widen (k := kc + 20) (n := ks + 200) (by omega) (by omega) ?_
  exact kk H locs ls hP hD hS (lv_sub hl [2, 3, 4, 5, 6] rfl)
set_option maxHeartbeats 4000000 in
set_option maxRecDepth 100000 in
theorem lc_minutesLeft_t2 {p : Program} {l : Launch} {e : Env} {s : State} {m : MethodId} {below : List Frame} {meth : Method} {c : Code} {X : z_X} {b L : Nat} {xs : Nat → Int32} (C : z_LC p l s m meth c X b L xs) {a : Nat} {d d2 : Nat → Nat} {B : z_B} {o : Nat} {g : Nat → Int64} {dm : Nat → Nat} {M : z_M} {H : Heap} {locs : List Loc} {ls : Array Slot} {Q : State → Prop} {u : Int32} (kc ks : Nat) (hk : kc + 20 ≤ room_1.cells ∧ ks + 200 ≤ room_1.slots) (i : Nat) (hu : u = nI i) (hi : i + 3 < L) (hP : va_P X.1 vwCl (z_wLw X a d d2 B o g dm M) H) (hD : va_D (fun q : Nat => s.heap.size ≤ q) (z_wLw X a d d2 B o g dm M)) (hS : va_S (fun q : Nat => s.heap.size ≤ q) s.heap H locs) (hl : lv_has ls 9 [(0, .ref b), (1, .ref a), (2, .ref (dm 0)), (3, .ref o), (4, .int u)]) (hf1 : x_X4_minutesLeft B (xs (i + 1)) = some 2) {R2 : (Int32 × z_M)} (hf2 : f_X5_minutesLeft M (xs (i + 1)) = some R2) (h3 : R2.2.1 0 = 1) (kk : ∀ (H : Heap) (locs : List Loc) (ls : Array Slot), va_P X.1 vwCl (z_wLw X a d d2 B o g dm R2.2) H → va_D (fun q : Nat => s.heap.size ≤ q) (z_wLw X a d d2 B o g dm R2.2) → va_S (fun q : Nat => s.heap.size ≤ q) s.heap H locs → lv_has ls 9 [(0, .ref b), (1, .ref a), (2, .ref (dm 0)), (3, .ref o), (4, .int u)] → W p l e room_1 s m #[Value.ref b] below meth c H locs (kc + 20) (ks + 200) Q (F0 m 1905 ls [])) : W p l e room_1 s m #[Value.ref b] below meth c H locs kc ks Q (F0 m 1502 ls []) := by
  obtain ⟨hx, hb, hml, hown, hts, hK, hN, hX, hbl, hT0, hl0, hL⟩ := C
  have hA : ∀ q : Nat, s.heap.size ≤ q → (fun q : Nat => s.heap.size ≤ q) q := fun _ h => h
  have hbA : ¬ (fun q : Nat => s.heap.size ≤ q) b := Nat.not_le.mpr hbl
  have S : CallFix p m c cL_law 9 s #[Value.ref b] wsL_law RL := ⟨hx, hb, hml, hown, hts⟩
  refine lv_aload_n (pc := 1502) hx hb dL_law_1502 rfl (lv_at hl 1 rfl) ?_
  refine lv_aload_n (pc := 1503) hx hb dL_law_1503 rfl (lv_at hl 0 rfl) ?_
  refine lv_iload (pc := 1504) hx hb dL_law_1504 (lv_at hl 4 rfl) ?_
  refine lv_iconst (v := 1) (pc := 1506) hx hb dL_law_1506 (by decide) ?_
  refine lv_iadd (pc := 1507) hx hb dL_law_1507 ?_
  refine z_sld (pc := 1508) hx hb hX hbl hbA hS hL (i + 1) (z_oi i 1 hu 1 rfl) (by omega) dL_law_1508 ?_
  refine lv_aload_n (pc := 1509) hx hb dL_law_1509 rfl (lv_at hl 3 rfl) ?_
  have hT : z_T z_no s H := (hT0.kept (fun q h1 h2 => hS.2.1 q h1 h2)).narrow (fun q h => h.elim)
  refine z_cweI (pc := 1510) S (wt_minutesLeft_2 l hl0 X a d d2 B o g (xs (i + 1)) hf1) (vx_cwSW 3 hts gL_law_L_minutesLeft rfl rfl rfl hdL_minutesLeft ⟨Nat.le_of_ble_eq_true rfl, Nat.le_of_ble_eq_true rfl⟩) hP hK hN hT hD hS hA (s_W_BO X a d d2 B o g dm M) (f_W_BO X a d d2 B o g dm M B g) (show kc + 1 ≤ room_1.cells ∧ ks + 6 ≤ room_1.slots from ⟨by omega, by omega⟩) rfl hl.1 rfl (Nat.le_of_ble_eq_true rfl) dL_law_1510 (fun H locs hP hD hS => ?_)
  refine lv_istore (pc := 1513) (lv' := [(5, .int 1), (0, .ref b), (1, .ref a), (2, .ref (dm 0)), (3, .ref o), (4, .int u)]) hx hb dL_law_1513 hl (by decide) rfl (fun ls hl => ?_)
  refine lv_aload_n (pc := 1515) hx hb dL_law_1515 rfl (lv_at hl 3 rfl) ?_
  refine lv_aload_n (pc := 1516) hx hb dL_law_1516 rfl (lv_at hl 1 rfl) ?_
  refine lv_iload (pc := 1517) hx hb dL_law_1517 (lv_at hl 5 rfl) ?_
  refine lv_iconst (v := 1) (pc := 1519) hx hb dL_law_1519 (by decide) ?_
  refine lv_iadd (pc := 1520) hx hb dL_law_1520 ?_
  refine z_sld (pc := 1521) hx hb hX hbl hbA hS hL (i + 1) (z_oi i 1 hu 1 rfl) (by omega) dL_law_1521 ?_
  refine z_cmI (pc := 1522) (W1 := (z_wLw X a d d2 B o g dm R2.2)) S (m_X5_minutesLeft l X dm M (xs (i + 1)) hf2) (cwV 1 hts gL_law_X5_minutesLeft rfl rfl rfl hdX5_minutesLeft ⟨Nat.le_of_ble_eq_true rfl, Nat.le_of_ble_eq_true rfl⟩) hP hK hN hD hS hA (s_W_M X a d d2 B o g dm M) (f_W_M X a d d2 B o g dm M R2.2) (ci := 5) rfl rfl rfl (show (kc + 1) ≤ room_1.cells ∧ (ks + 6) ≤ room_1.slots from ⟨by omega, by omega⟩) rfl hl.1 rfl (Nat.le_of_ble_eq_true rfl) dL_law_1522 (fun H locs hP hD hS => ?_)
  refine lv_istore (pc := 1525) (lv' := [(6, .int R2.1), (5, .int 1), (0, .ref b), (1, .ref a), (2, .ref (dm 0)), (3, .ref o), (4, .int u)]) hx hb dL_law_1525 hl (by decide) rfl (fun ls hl => ?_)
  refine lv_aload_n (pc := 1527) hx hb dL_law_1527 rfl (lv_at hl 4 rfl) ?_
  refine z_cpI (pc := 1528) S (m_X5_thrown l X dm R2.2 rfl) (cwV 0 hts gL_law_X5_thrown rfl rfl rfl hdX5_thrown ⟨Nat.le_of_ble_eq_true rfl, Nat.le_of_ble_eq_true rfl⟩) hP hK hN (s_W_M X a d d2 B o g dm R2.2) (ci := 5) rfl rfl rfl (show (kc + 1) ≤ room_1.cells ∧ (ks + 6) ≤ room_1.slots from ⟨by omega, by omega⟩) rfl hl.1 rfl (Nat.le_of_ble_eq_true rfl) dL_law_1528 ?_
  refine lv_iload (pc := 1531) hx hb dL_law_1531 (lv_at hl 1 rfl) ?_
  refine lv_icmp_eq (pc := 1533) (tgt := 1538) hx hb dL_law_1533 (by decide) (fun _ => ?_) (fun c_ => absurd h3 c_)
  refine lv_iload (pc := 1538) hx hb dL_law_1538 (lv_at hl 1 rfl) ?_
  refine lv_if_ne (pc := 1540) (tgt := 1555) hx hb dL_law_1540 (by decide) (fun _ => ?_) (fun c_ => absurd c_ (by decide))
  refine lv_goto (pc := 1555) (tgt := 1905) hx hb dL_law_1555 (by decide) ?_
  refine W.widen (k := kc + 20) (n := ks + 200) (by omega) (by omega) ?_
  exact kk H locs ls hP hD hS (lv_sub hl [2, 3, 4, 5, 6] rfl)
set_option maxHeartbeats 4000000 in
set_option maxRecDepth 100000 in
theorem lc_wayTo {p : Program} {l : Launch} {e : Env} {s : State} {m : MethodId} {below : List Frame} {meth : Method} {c : Code} {X : z_X} {b L : Nat} {xs : Nat → Int32} (C : z_LC p l s m meth c X b L xs) {a : Nat} {d d2 : Nat → Nat} {B : z_B} {o : Nat} {g : Nat → Int64} {dm : Nat → Nat} {M : z_M} {H : Heap} {locs : List Loc} {ls : Array Slot} {Q : State → Prop} {u : Int32} (kc ks : Nat) (hk : kc + 20 ≤ room_1.cells ∧ ks + 200 ≤ room_1.slots) (i : Nat) (hu : u = nI i) (hi : i + 3 < L) (hP : va_P X.1 vwCl (z_wLw X a d d2 B o g dm M) H) (hD : va_D (fun q : Nat => s.heap.size ≤ q) (z_wLw X a d d2 B o g dm M)) (hS : va_S (fun q : Nat => s.heap.size ≤ q) s.heap H locs) (hl : lv_has ls 9 [(0, .ref b), (1, .ref a), (2, .ref (dm 0)), (3, .ref o), (4, .int u)]) {R1 : Int32} (hf1 : f_X4_wayTo B (xs (i + 1)) (xs (i + 2)) = some R1) {R2 : (Int32 × z_M)} (hf2 : f_X5_wayTo M (xs (i + 1)) (xs (i + 2)) = some R2) (h3 : R2.2.1 0 = 0) (h4 : R1 = R2.1) (kk : ∀ (H : Heap) (locs : List Loc) (ls : Array Slot), va_P X.1 vwCl (z_wLw X a d d2 B o (vp_updL g 0 (R1).toInt64) dm R2.2) H → va_D (fun q : Nat => s.heap.size ≤ q) (z_wLw X a d d2 B o (vp_updL g 0 (R1).toInt64) dm R2.2) → va_S (fun q : Nat => s.heap.size ≤ q) s.heap H locs → lv_has ls 9 [(0, .ref b), (1, .ref a), (2, .ref (dm 0)), (3, .ref o), (4, .int u)] → W p l e room_1 s m #[Value.ref b] below meth c H locs (kc + 20) (ks + 200) Q (F0 m 1905 ls [])) : W p l e room_1 s m #[Value.ref b] below meth c H locs kc ks Q (F0 m 1558 ls []) := by
  obtain ⟨hx, hb, hml, hown, hts, hK, hN, hX, hbl, hT0, hl0, hL⟩ := C
  have hA : ∀ q : Nat, s.heap.size ≤ q → (fun q : Nat => s.heap.size ≤ q) q := fun _ h => h
  have hbA : ¬ (fun q : Nat => s.heap.size ≤ q) b := Nat.not_le.mpr hbl
  have S : CallFix p m c cL_law 9 s #[Value.ref b] wsL_law RL := ⟨hx, hb, hml, hown, hts⟩
  refine lv_aload_n (pc := 1558) hx hb dL_law_1558 rfl (lv_at hl 1 rfl) ?_
  refine lv_aload_n (pc := 1559) hx hb dL_law_1559 rfl (lv_at hl 0 rfl) ?_
  refine lv_iload (pc := 1560) hx hb dL_law_1560 (lv_at hl 4 rfl) ?_
  refine lv_iconst (v := 1) (pc := 1562) hx hb dL_law_1562 (by decide) ?_
  refine lv_iadd (pc := 1563) hx hb dL_law_1563 ?_
  refine z_sld (pc := 1564) hx hb hX hbl hbA hS hL (i + 1) (z_oi i 1 hu 1 rfl) (by omega) dL_law_1564 ?_
  refine lv_aload_n (pc := 1565) hx hb dL_law_1565 rfl (lv_at hl 0 rfl) ?_
  refine lv_iload (pc := 1566) hx hb dL_law_1566 (lv_at hl 4 rfl) ?_
  refine lv_iconst (v := 2) (pc := 1568) hx hb dL_law_1568 (by decide) ?_
  refine lv_iadd (pc := 1569) hx hb dL_law_1569 ?_
  refine z_sld (pc := 1570) hx hb hX hbl hbA hS hL (i + 2) (z_oi i 2 hu 2 rfl) (by omega) dL_law_1570 ?_
  refine lv_aload_n (pc := 1571) hx hb dL_law_1571 rfl (lv_at hl 3 rfl) ?_
  refine z_cwsI (pc := 1572) (W1 := (z_wLw X a d d2 B o (vp_updL g 0 (R1).toInt64) dm M)) S (wn_wayTo l X a d d2 B o g (xs (i + 1)) (xs (i + 2)) hf1) (vx_cwSW 4 hts gL_law_L_wayTo rfl rfl rfl hdL_wayTo ⟨Nat.le_of_ble_eq_true rfl, Nat.le_of_ble_eq_true rfl⟩) hP hK hN hD hS hA (s_W_BO X a d d2 B o g dm M) (f_W_BO X a d d2 B o g dm M B (vp_updL g 0 (R1).toInt64)) (show kc ≤ room_1.cells ∧ ks ≤ room_1.slots from ⟨by omega, by omega⟩) rfl hl.1 rfl (Nat.le_of_ble_eq_true rfl) dL_law_1572 (fun H locs hP hD hS => ?_)
  refine lv_istore (pc := 1575) (lv' := [(5, .int 0), (0, .ref b), (1, .ref a), (2, .ref (dm 0)), (3, .ref o), (4, .int u)]) hx hb dL_law_1575 hl (by decide) rfl (fun ls hl => ?_)
  refine lv_aload_n (pc := 1577) hx hb dL_law_1577 rfl (lv_at hl 3 rfl) ?_
  refine lv_aload_n (pc := 1578) hx hb dL_law_1578 rfl (lv_at hl 1 rfl) ?_
  refine lv_iload (pc := 1579) hx hb dL_law_1579 (lv_at hl 5 rfl) ?_
  refine lv_iconst (v := 1) (pc := 1581) hx hb dL_law_1581 (by decide) ?_
  refine lv_iadd (pc := 1582) hx hb dL_law_1582 ?_
  refine z_sld (pc := 1583) hx hb hX hbl hbA hS hL (i + 1) (z_oi i 1 hu 1 rfl) (by omega) dL_law_1583 ?_
  refine lv_aload_n (pc := 1584) hx hb dL_law_1584 rfl (lv_at hl 1 rfl) ?_
  refine lv_iload (pc := 1585) hx hb dL_law_1585 (lv_at hl 5 rfl) ?_
  refine lv_iconst (v := 2) (pc := 1587) hx hb dL_law_1587 (by decide) ?_
  refine lv_iadd (pc := 1588) hx hb dL_law_1588 ?_
  refine z_sld (pc := 1589) hx hb hX hbl hbA hS hL (i + 2) (z_oi i 2 hu 2 rfl) (by omega) dL_law_1589 ?_
  refine z_cmI (pc := 1590) (W1 := (z_wLw X a d d2 B o (vp_updL g 0 (R1).toInt64) dm R2.2)) S (m_X5_wayTo l X dm M (xs (i + 1)) (xs (i + 2)) hf2) (cwV 2 hts gL_law_X5_wayTo rfl rfl rfl hdX5_wayTo ⟨Nat.le_of_ble_eq_true rfl, Nat.le_of_ble_eq_true rfl⟩) hP hK hN hD hS hA (s_W_M X a d d2 B o (vp_updL g 0 (R1).toInt64) dm M) (f_W_M X a d d2 B o (vp_updL g 0 (R1).toInt64) dm M R2.2) (ci := 5) rfl rfl rfl (show kc ≤ room_1.cells ∧ ks ≤ room_1.slots from ⟨by omega, by omega⟩) rfl hl.1 rfl (Nat.le_of_ble_eq_true rfl) dL_law_1590 (fun H locs hP hD hS => ?_)
  refine lv_istore (pc := 1593) (lv' := [(6, .int R2.1), (5, .int 0), (0, .ref b), (1, .ref a), (2, .ref (dm 0)), (3, .ref o), (4, .int u)]) hx hb dL_law_1593 hl (by decide) rfl (fun ls hl => ?_)
  refine lv_aload_n (pc := 1595) hx hb dL_law_1595 rfl (lv_at hl 4 rfl) ?_
  refine z_cpI (pc := 1596) S (m_X5_thrown l X dm R2.2 rfl) (cwV 0 hts gL_law_X5_thrown rfl rfl rfl hdX5_thrown ⟨Nat.le_of_ble_eq_true rfl, Nat.le_of_ble_eq_true rfl⟩) hP hK hN (s_W_M X a d d2 B o (vp_updL g 0 (R1).toInt64) dm R2.2) (ci := 5) rfl rfl rfl (show kc ≤ room_1.cells ∧ ks ≤ room_1.slots from ⟨by omega, by omega⟩) rfl hl.1 rfl (Nat.le_of_ble_eq_true rfl) dL_law_1596 ?_
  refine lv_iload (pc := 1599) hx hb dL_law_1599 (lv_at hl 1 rfl) ?_
  refine lv_icmp_eq (pc := 1601) (tgt := 1606) hx hb dL_law_1601 (by decide) (fun _ => ?_) (fun c_ => absurd h3 c_)
  refine lv_iload (pc := 1606) hx hb dL_law_1606 (lv_at hl 1 rfl) ?_
  refine lv_if_ne (pc := 1608) (tgt := 1623) hx hb dL_law_1608 (by decide) (fun c_ => absurd rfl c_) (fun _ => ?_)
  refine lv_aload_n (pc := 1611) hx hb dL_law_1611 rfl (lv_at hl 5 rfl) ?_
  refine lv_iconst (v := 0) (pc := 1612) hx hb dL_law_1612 (by decide) ?_
  refine va_lald (pc := 1613) hx hb hK hP 53 2 rfl rfl z_in01 dL_law_1613 ?_
  refine lv_iload (pc := 1614) hx hb dL_law_1614 (lv_at hl 0 rfl) ?_
  refine lv_i2l (v := (R2.1).toInt64) (pc := 1616) hx hb dL_law_1616 rfl ?_
  refine W.lcmp (pc := 1617) hx hb dL_law_1617 ?_
  refine lv_if_eq (pc := 1618) (tgt := 1623) hx hb dL_law_1618 (by decide) (fun _ => ?_) (fun c_ => absurd (show lg_cmp _ _ = 0 from by rw [← h4]; exact z_cmp0 _) c_)
  refine lv_goto (pc := 1623) (tgt := 1905) hx hb dL_law_1623 (by decide) ?_
  refine W.widen (k := kc + 20) (n := ks + 200) (by omega) (by omega) ?_
  exact kk H locs ls hP hD hS (lv_sub hl [2, 3, 4, 5, 6] rfl)
set_option maxHeartbeats 4000000 in
set_option maxRecDepth 100000 in
theorem lc_wayTo_t2 {p : Program} {l : Launch} {e : Env} {s : State} {m : MethodId} {below : List Frame} {meth : Method} {c : Code} {X : z_X} {b L : Nat} {xs : Nat → Int32} (C : z_LC p l s m meth c X b L xs) {a : Nat} {d d2 : Nat → Nat} {B : z_B} {o : Nat} {g : Nat → Int64} {dm : Nat → Nat} {M : z_M} {H : Heap} {locs : List Loc} {ls : Array Slot} {Q : State → Prop} {u : Int32} (kc ks : Nat) (hk : kc + 20 ≤ room_1.cells ∧ ks + 200 ≤ room_1.slots) (i : Nat) (hu : u = nI i) (hi : i + 3 < L) (hP : va_P X.1 vwCl (z_wLw X a d d2 B o g dm M) H) (hD : va_D (fun q : Nat => s.heap.size ≤ q) (z_wLw X a d d2 B o g dm M)) (hS : va_S (fun q : Nat => s.heap.size ≤ q) s.heap H locs) (hl : lv_has ls 9 [(0, .ref b), (1, .ref a), (2, .ref (dm 0)), (3, .ref o), (4, .int u)]) (hf1 : x_X4_wayTo B (xs (i + 1)) (xs (i + 2)) = some 2) {R2 : (Int32 × z_M)} (hf2 : f_X5_wayTo M (xs (i + 1)) (xs (i + 2)) = some R2) (h3 : R2.2.1 0 = 1) (kk : ∀ (H : Heap) (locs : List Loc) (ls : Array Slot), va_P X.1 vwCl (z_wLw X a d d2 B o g dm R2.2) H → va_D (fun q : Nat => s.heap.size ≤ q) (z_wLw X a d d2 B o g dm R2.2) → va_S (fun q : Nat => s.heap.size ≤ q) s.heap H locs → lv_has ls 9 [(0, .ref b), (1, .ref a), (2, .ref (dm 0)), (3, .ref o), (4, .int u)] → W p l e room_1 s m #[Value.ref b] below meth c H locs (kc + 20) (ks + 200) Q (F0 m 1905 ls [])) : W p l e room_1 s m #[Value.ref b] below meth c H locs kc ks Q (F0 m 1558 ls []) := by
  obtain ⟨hx, hb, hml, hown, hts, hK, hN, hX, hbl, hT0, hl0, hL⟩ := C
  have hA : ∀ q : Nat, s.heap.size ≤ q → (fun q : Nat => s.heap.size ≤ q) q := fun _ h => h
  have hbA : ¬ (fun q : Nat => s.heap.size ≤ q) b := Nat.not_le.mpr hbl
  have S : CallFix p m c cL_law 9 s #[Value.ref b] wsL_law RL := ⟨hx, hb, hml, hown, hts⟩
  refine lv_aload_n (pc := 1558) hx hb dL_law_1558 rfl (lv_at hl 1 rfl) ?_
  refine lv_aload_n (pc := 1559) hx hb dL_law_1559 rfl (lv_at hl 0 rfl) ?_
  refine lv_iload (pc := 1560) hx hb dL_law_1560 (lv_at hl 4 rfl) ?_
  refine lv_iconst (v := 1) (pc := 1562) hx hb dL_law_1562 (by decide) ?_
  refine lv_iadd (pc := 1563) hx hb dL_law_1563 ?_
  refine z_sld (pc := 1564) hx hb hX hbl hbA hS hL (i + 1) (z_oi i 1 hu 1 rfl) (by omega) dL_law_1564 ?_
  refine lv_aload_n (pc := 1565) hx hb dL_law_1565 rfl (lv_at hl 0 rfl) ?_
  refine lv_iload (pc := 1566) hx hb dL_law_1566 (lv_at hl 4 rfl) ?_
  refine lv_iconst (v := 2) (pc := 1568) hx hb dL_law_1568 (by decide) ?_
  refine lv_iadd (pc := 1569) hx hb dL_law_1569 ?_
  refine z_sld (pc := 1570) hx hb hX hbl hbA hS hL (i + 2) (z_oi i 2 hu 2 rfl) (by omega) dL_law_1570 ?_
  refine lv_aload_n (pc := 1571) hx hb dL_law_1571 rfl (lv_at hl 3 rfl) ?_
  have hT : z_T z_no s H := (hT0.kept (fun q h1 h2 => hS.2.1 q h1 h2)).narrow (fun q h => h.elim)
  refine z_cweI (pc := 1572) S (wt_wayTo_2 l hl0 X a d d2 B o g (xs (i + 1)) (xs (i + 2)) hf1) (vx_cwSW 4 hts gL_law_L_wayTo rfl rfl rfl hdL_wayTo ⟨Nat.le_of_ble_eq_true rfl, Nat.le_of_ble_eq_true rfl⟩) hP hK hN hT hD hS hA (s_W_BO X a d d2 B o g dm M) (f_W_BO X a d d2 B o g dm M B g) (show kc + 1 ≤ room_1.cells ∧ ks + 6 ≤ room_1.slots from ⟨by omega, by omega⟩) rfl hl.1 rfl (Nat.le_of_ble_eq_true rfl) dL_law_1572 (fun H locs hP hD hS => ?_)
  refine lv_istore (pc := 1575) (lv' := [(5, .int 1), (0, .ref b), (1, .ref a), (2, .ref (dm 0)), (3, .ref o), (4, .int u)]) hx hb dL_law_1575 hl (by decide) rfl (fun ls hl => ?_)
  refine lv_aload_n (pc := 1577) hx hb dL_law_1577 rfl (lv_at hl 3 rfl) ?_
  refine lv_aload_n (pc := 1578) hx hb dL_law_1578 rfl (lv_at hl 1 rfl) ?_
  refine lv_iload (pc := 1579) hx hb dL_law_1579 (lv_at hl 5 rfl) ?_
  refine lv_iconst (v := 1) (pc := 1581) hx hb dL_law_1581 (by decide) ?_
  refine lv_iadd (pc := 1582) hx hb dL_law_1582 ?_
  refine z_sld (pc := 1583) hx hb hX hbl hbA hS hL (i + 1) (z_oi i 1 hu 1 rfl) (by omega) dL_law_1583 ?_
  refine lv_aload_n (pc := 1584) hx hb dL_law_1584 rfl (lv_at hl 1 rfl) ?_
  refine lv_iload (pc := 1585) hx hb dL_law_1585 (lv_at hl 5 rfl) ?_
  refine lv_iconst (v := 2) (pc := 1587) hx hb dL_law_1587 (by decide) ?_
  refine lv_iadd (pc := 1588) hx hb dL_law_1588 ?_
  refine z_sld (pc := 1589) hx hb hX hbl hbA hS hL (i + 2) (z_oi i 2 hu 2 rfl) (by omega) dL_law_1589 ?_
  refine z_cmI (pc := 1590) (W1 := (z_wLw X a d d2 B o g dm R2.2)) S (m_X5_wayTo l X dm M (xs (i + 1)) (xs (i + 2)) hf2) (cwV 2 hts gL_law_X5_wayTo rfl rfl rfl hdX5_wayTo ⟨Nat.le_of_ble_eq_true rfl, Nat.le_of_ble_eq_true rfl⟩) hP hK hN hD hS hA (s_W_M X a d d2 B o g dm M) (f_W_M X a d d2 B o g dm M R2.2) (ci := 5) rfl rfl rfl (show (kc + 1) ≤ room_1.cells ∧ (ks + 6) ≤ room_1.slots from ⟨by omega, by omega⟩) rfl hl.1 rfl (Nat.le_of_ble_eq_true rfl) dL_law_1590 (fun H locs hP hD hS => ?_)
  refine lv_istore (pc := 1593) (lv' := [(6, .int R2.1), (5, .int 1), (0, .ref b), (1, .ref a), (2, .ref (dm 0)), (3, .ref o), (4, .int u)]) hx hb dL_law_1593 hl (by decide) rfl (fun ls hl => ?_)
  refine lv_aload_n (pc := 1595) hx hb dL_law_1595 rfl (lv_at hl 4 rfl) ?_
  refine z_cpI (pc := 1596) S (m_X5_thrown l X dm R2.2 rfl) (cwV 0 hts gL_law_X5_thrown rfl rfl rfl hdX5_thrown ⟨Nat.le_of_ble_eq_true rfl, Nat.le_of_ble_eq_true rfl⟩) hP hK hN (s_W_M X a d d2 B o g dm R2.2) (ci := 5) rfl rfl rfl (show (kc + 1) ≤ room_1.cells ∧ (ks + 6) ≤ room_1.slots from ⟨by omega, by omega⟩) rfl hl.1 rfl (Nat.le_of_ble_eq_true rfl) dL_law_1596 ?_
  refine lv_iload (pc := 1599) hx hb dL_law_1599 (lv_at hl 1 rfl) ?_
  refine lv_icmp_eq (pc := 1601) (tgt := 1606) hx hb dL_law_1601 (by decide) (fun _ => ?_) (fun c_ => absurd h3 c_)
  refine lv_iload (pc := 1606) hx hb dL_law_1606 (lv_at hl 1 rfl) ?_
  refine lv_if_ne (pc := 1608) (tgt := 1623) hx hb dL_law_1608 (by decide) (fun _ => ?_) (fun c_ => absurd c_ (by decide))
  refine lv_goto (pc := 1623) (tgt := 1905) hx hb dL_law_1623 (by decide) ?_
  refine W.widen (k := kc + 20) (n := ks + 200) (by omega) (by omega) ?_
  exact kk H locs ls hP hD hS (lv_sub hl [2, 3, 4, 5, 6] rfl)
set_option maxHeartbeats 4000000 in
set_option maxRecDepth 100000 in
theorem lc_nearestIdle {p : Program} {l : Launch} {e : Env} {s : State} {m : MethodId} {below : List Frame} {meth : Method} {c : Code} {X : z_X} {b L : Nat} {xs : Nat → Int32} (C : z_LC p l s m meth c X b L xs) {a : Nat} {d d2 : Nat → Nat} {B : z_B} {o : Nat} {g : Nat → Int64} {dm : Nat → Nat} {M : z_M} {H : Heap} {locs : List Loc} {ls : Array Slot} {Q : State → Prop} {u : Int32} (kc ks : Nat) (hk : kc + 20 ≤ room_1.cells ∧ ks + 200 ≤ room_1.slots) (i : Nat) (hu : u = nI i) (hi : i + 3 < L) (hP : va_P X.1 vwCl (z_wLw X a d d2 B o g dm M) H) (hD : va_D (fun q : Nat => s.heap.size ≤ q) (z_wLw X a d d2 B o g dm M)) (hS : va_S (fun q : Nat => s.heap.size ≤ q) s.heap H locs) (hl : lv_has ls 9 [(0, .ref b), (1, .ref a), (2, .ref (dm 0)), (3, .ref o), (4, .int u)]) {R1 : Int32} (hf1 : f_X4_nearestIdle B (xs (i + 1)) = some R1) {R2 : (Int32 × z_M)} (hf2 : f_X5_nearestIdle M (xs (i + 1)) = some R2) (h3 : R2.2.1 0 = 0) (h4 : R1 = R2.1) (kk : ∀ (H : Heap) (locs : List Loc) (ls : Array Slot), va_P X.1 vwCl (z_wLw X a d d2 B o (vp_updL g 0 (R1).toInt64) dm R2.2) H → va_D (fun q : Nat => s.heap.size ≤ q) (z_wLw X a d d2 B o (vp_updL g 0 (R1).toInt64) dm R2.2) → va_S (fun q : Nat => s.heap.size ≤ q) s.heap H locs → lv_has ls 9 [(0, .ref b), (1, .ref a), (2, .ref (dm 0)), (3, .ref o), (4, .int u)] → W p l e room_1 s m #[Value.ref b] below meth c H locs (kc + 20) (ks + 200) Q (F0 m 1905 ls [])) : W p l e room_1 s m #[Value.ref b] below meth c H locs kc ks Q (F0 m 1626 ls []) := by
  obtain ⟨hx, hb, hml, hown, hts, hK, hN, hX, hbl, hT0, hl0, hL⟩ := C
  have hA : ∀ q : Nat, s.heap.size ≤ q → (fun q : Nat => s.heap.size ≤ q) q := fun _ h => h
  have hbA : ¬ (fun q : Nat => s.heap.size ≤ q) b := Nat.not_le.mpr hbl
  have S : CallFix p m c cL_law 9 s #[Value.ref b] wsL_law RL := ⟨hx, hb, hml, hown, hts⟩
  refine lv_aload_n (pc := 1626) hx hb dL_law_1626 rfl (lv_at hl 1 rfl) ?_
  refine lv_aload_n (pc := 1627) hx hb dL_law_1627 rfl (lv_at hl 0 rfl) ?_
  refine lv_iload (pc := 1628) hx hb dL_law_1628 (lv_at hl 4 rfl) ?_
  refine lv_iconst (v := 1) (pc := 1630) hx hb dL_law_1630 (by decide) ?_
  refine lv_iadd (pc := 1631) hx hb dL_law_1631 ?_
  refine z_sld (pc := 1632) hx hb hX hbl hbA hS hL (i + 1) (z_oi i 1 hu 1 rfl) (by omega) dL_law_1632 ?_
  refine lv_aload_n (pc := 1633) hx hb dL_law_1633 rfl (lv_at hl 3 rfl) ?_
  refine z_cwsI (pc := 1634) (W1 := (z_wLw X a d d2 B o (vp_updL g 0 (R1).toInt64) dm M)) S (wn_nearestIdle l X a d d2 B o g (xs (i + 1)) hf1) (vx_cwSW 3 hts gL_law_L_nearestIdle rfl rfl rfl hdL_nearestIdle ⟨Nat.le_of_ble_eq_true rfl, Nat.le_of_ble_eq_true rfl⟩) hP hK hN hD hS hA (s_W_BO X a d d2 B o g dm M) (f_W_BO X a d d2 B o g dm M B (vp_updL g 0 (R1).toInt64)) (show kc ≤ room_1.cells ∧ ks ≤ room_1.slots from ⟨by omega, by omega⟩) rfl hl.1 rfl (Nat.le_of_ble_eq_true rfl) dL_law_1634 (fun H locs hP hD hS => ?_)
  refine lv_istore (pc := 1637) (lv' := [(5, .int 0), (0, .ref b), (1, .ref a), (2, .ref (dm 0)), (3, .ref o), (4, .int u)]) hx hb dL_law_1637 hl (by decide) rfl (fun ls hl => ?_)
  refine lv_aload_n (pc := 1639) hx hb dL_law_1639 rfl (lv_at hl 3 rfl) ?_
  refine lv_aload_n (pc := 1640) hx hb dL_law_1640 rfl (lv_at hl 1 rfl) ?_
  refine lv_iload (pc := 1641) hx hb dL_law_1641 (lv_at hl 5 rfl) ?_
  refine lv_iconst (v := 1) (pc := 1643) hx hb dL_law_1643 (by decide) ?_
  refine lv_iadd (pc := 1644) hx hb dL_law_1644 ?_
  refine z_sld (pc := 1645) hx hb hX hbl hbA hS hL (i + 1) (z_oi i 1 hu 1 rfl) (by omega) dL_law_1645 ?_
  refine z_cmI (pc := 1646) (W1 := (z_wLw X a d d2 B o (vp_updL g 0 (R1).toInt64) dm R2.2)) S (m_X5_nearestIdle l X dm M (xs (i + 1)) hf2) (cwV 1 hts gL_law_X5_nearestIdle rfl rfl rfl hdX5_nearestIdle ⟨Nat.le_of_ble_eq_true rfl, Nat.le_of_ble_eq_true rfl⟩) hP hK hN hD hS hA (s_W_M X a d d2 B o (vp_updL g 0 (R1).toInt64) dm M) (f_W_M X a d d2 B o (vp_updL g 0 (R1).toInt64) dm M R2.2) (ci := 5) rfl rfl rfl (show kc ≤ room_1.cells ∧ ks ≤ room_1.slots from ⟨by omega, by omega⟩) rfl hl.1 rfl (Nat.le_of_ble_eq_true rfl) dL_law_1646 (fun H locs hP hD hS => ?_)
  refine lv_istore (pc := 1649) (lv' := [(6, .int R2.1), (5, .int 0), (0, .ref b), (1, .ref a), (2, .ref (dm 0)), (3, .ref o), (4, .int u)]) hx hb dL_law_1649 hl (by decide) rfl (fun ls hl => ?_)
  refine lv_aload_n (pc := 1651) hx hb dL_law_1651 rfl (lv_at hl 4 rfl) ?_
  refine z_cpI (pc := 1652) S (m_X5_thrown l X dm R2.2 rfl) (cwV 0 hts gL_law_X5_thrown rfl rfl rfl hdX5_thrown ⟨Nat.le_of_ble_eq_true rfl, Nat.le_of_ble_eq_true rfl⟩) hP hK hN (s_W_M X a d d2 B o (vp_updL g 0 (R1).toInt64) dm R2.2) (ci := 5) rfl rfl rfl (show kc ≤ room_1.cells ∧ ks ≤ room_1.slots from ⟨by omega, by omega⟩) rfl hl.1 rfl (Nat.le_of_ble_eq_true rfl) dL_law_1652 ?_
  refine lv_iload (pc := 1655) hx hb dL_law_1655 (lv_at hl 1 rfl) ?_
  refine lv_icmp_eq (pc := 1657) (tgt := 1662) hx hb dL_law_1657 (by decide) (fun _ => ?_) (fun c_ => absurd h3 c_)
  refine lv_iload (pc := 1662) hx hb dL_law_1662 (lv_at hl 1 rfl) ?_
  refine lv_if_ne (pc := 1664) (tgt := 1679) hx hb dL_law_1664 (by decide) (fun c_ => absurd rfl c_) (fun _ => ?_)
  refine lv_aload_n (pc := 1667) hx hb dL_law_1667 rfl (lv_at hl 5 rfl) ?_
  refine lv_iconst (v := 0) (pc := 1668) hx hb dL_law_1668 (by decide) ?_
  refine va_lald (pc := 1669) hx hb hK hP 53 2 rfl rfl z_in01 dL_law_1669 ?_
  refine lv_iload (pc := 1670) hx hb dL_law_1670 (lv_at hl 0 rfl) ?_
  refine lv_i2l (v := (R2.1).toInt64) (pc := 1672) hx hb dL_law_1672 rfl ?_
  refine W.lcmp (pc := 1673) hx hb dL_law_1673 ?_
  refine lv_if_eq (pc := 1674) (tgt := 1679) hx hb dL_law_1674 (by decide) (fun _ => ?_) (fun c_ => absurd (show lg_cmp _ _ = 0 from by rw [← h4]; exact z_cmp0 _) c_)
  refine lv_goto (pc := 1679) (tgt := 1905) hx hb dL_law_1679 (by decide) ?_
  refine W.widen (k := kc + 20) (n := ks + 200) (by omega) (by omega) ?_
  exact kk H locs ls hP hD hS (lv_sub hl [2, 3, 4, 5, 6] rfl)
set_option maxHeartbeats 4000000 in
set_option maxRecDepth 100000 in
theorem lc_nearestIdle_t2 {p : Program} {l : Launch} {e : Env} {s : State} {m : MethodId} {below : List Frame} {meth : Method} {c : Code} {X : z_X} {b L : Nat} {xs : Nat → Int32} (C : z_LC p l s m meth c X b L xs) {a : Nat} {d d2 : Nat → Nat} {B : z_B} {o : Nat} {g : Nat → Int64} {dm : Nat → Nat} {M : z_M} {H : Heap} {locs : List Loc} {ls : Array Slot} {Q : State → Prop} {u : Int32} (kc ks : Nat) (hk : kc + 20 ≤ room_1.cells ∧ ks + 200 ≤ room_1.slots) (i : Nat) (hu : u = nI i) (hi : i + 3 < L) (hP : va_P X.1 vwCl (z_wLw X a d d2 B o g dm M) H) (hD : va_D (fun q : Nat => s.heap.size ≤ q) (z_wLw X a d d2 B o g dm M)) (hS : va_S (fun q : Nat => s.heap.size ≤ q) s.heap H locs) (hl : lv_has ls 9 [(0, .ref b), (1, .ref a), (2, .ref (dm 0)), (3, .ref o), (4, .int u)]) (hf1 : x_X4_nearestIdle B (xs (i + 1)) = some 2) {R2 : (Int32 × z_M)} (hf2 : f_X5_nearestIdle M (xs (i + 1)) = some R2) (h3 : R2.2.1 0 = 1) (kk : ∀ (H : Heap) (locs : List Loc) (ls : Array Slot), va_P X.1 vwCl (z_wLw X a d d2 B o g dm R2.2) H → va_D (fun q : Nat => s.heap.size ≤ q) (z_wLw X a d d2 B o g dm R2.2) → va_S (fun q : Nat => s.heap.size ≤ q) s.heap H locs → lv_has ls 9 [(0, .ref b), (1, .ref a), (2, .ref (dm 0)), (3, .ref o), (4, .int u)] → W p l e room_1 s m #[Value.ref b] below meth c H locs (kc + 20) (ks + 200) Q (F0 m 1905 ls [])) : W p l e room_1 s m #[Value.ref b] below meth c H locs kc ks Q (F0 m 1626 ls []) := by
  obtain ⟨hx, hb, hml, hown, hts, hK, hN, hX, hbl, hT0, hl0, hL⟩ := C
  have hA : ∀ q : Nat, s.heap.size ≤ q → (fun q : Nat => s.heap.size ≤ q) q := fun _ h => h
  have hbA : ¬ (fun q : Nat => s.heap.size ≤ q) b := Nat.not_le.mpr hbl
  have S : CallFix p m c cL_law 9 s #[Value.ref b] wsL_law RL := ⟨hx, hb, hml, hown, hts⟩
  refine lv_aload_n (pc := 1626) hx hb dL_law_1626 rfl (lv_at hl 1 rfl) ?_
  refine lv_aload_n (pc := 1627) hx hb dL_law_1627 rfl (lv_at hl 0 rfl) ?_
  refine lv_iload (pc := 1628) hx hb dL_law_1628 (lv_at hl 4 rfl) ?_
  refine lv_iconst (v := 1) (pc := 1630) hx hb dL_law_1630 (by decide) ?_
  refine lv_iadd (pc := 1631) hx hb dL_law_1631 ?_
  refine z_sld (pc := 1632) hx hb hX hbl hbA hS hL (i + 1) (z_oi i 1 hu 1 rfl) (by omega) dL_law_1632 ?_
  refine lv_aload_n (pc := 1633) hx hb dL_law_1633 rfl (lv_at hl 3 rfl) ?_
  have hT : z_T z_no s H := (hT0.kept (fun q h1 h2 => hS.2.1 q h1 h2)).narrow (fun q h => h.elim)
  refine z_cweI (pc := 1634) S (wt_nearestIdle_2 l hl0 X a d d2 B o g (xs (i + 1)) hf1) (vx_cwSW 3 hts gL_law_L_nearestIdle rfl rfl rfl hdL_nearestIdle ⟨Nat.le_of_ble_eq_true rfl, Nat.le_of_ble_eq_true rfl⟩) hP hK hN hT hD hS hA (s_W_BO X a d d2 B o g dm M) (f_W_BO X a d d2 B o g dm M B g) (show kc + 1 ≤ room_1.cells ∧ ks + 6 ≤ room_1.slots from ⟨by omega, by omega⟩) rfl hl.1 rfl (Nat.le_of_ble_eq_true rfl) dL_law_1634 (fun H locs hP hD hS => ?_)
  refine lv_istore (pc := 1637) (lv' := [(5, .int 1), (0, .ref b), (1, .ref a), (2, .ref (dm 0)), (3, .ref o), (4, .int u)]) hx hb dL_law_1637 hl (by decide) rfl (fun ls hl => ?_)
  refine lv_aload_n (pc := 1639) hx hb dL_law_1639 rfl (lv_at hl 3 rfl) ?_
  refine lv_aload_n (pc := 1640) hx hb dL_law_1640 rfl (lv_at hl 1 rfl) ?_
  refine lv_iload (pc := 1641) hx hb dL_law_1641 (lv_at hl 5 rfl) ?_
  refine lv_iconst (v := 1) (pc := 1643) hx hb dL_law_1643 (by decide) ?_
  refine lv_iadd (pc := 1644) hx hb dL_law_1644 ?_
  refine z_sld (pc := 1645) hx hb hX hbl hbA hS hL (i + 1) (z_oi i 1 hu 1 rfl) (by omega) dL_law_1645 ?_
  refine z_cmI (pc := 1646) (W1 := (z_wLw X a d d2 B o g dm R2.2)) S (m_X5_nearestIdle l X dm M (xs (i + 1)) hf2) (cwV 1 hts gL_law_X5_nearestIdle rfl rfl rfl hdX5_nearestIdle ⟨Nat.le_of_ble_eq_true rfl, Nat.le_of_ble_eq_true rfl⟩) hP hK hN hD hS hA (s_W_M X a d d2 B o g dm M) (f_W_M X a d d2 B o g dm M R2.2) (ci := 5) rfl rfl rfl (show (kc + 1) ≤ room_1.cells ∧ (ks + 6) ≤ room_1.slots from ⟨by omega, by omega⟩) rfl hl.1 rfl (Nat.le_of_ble_eq_true rfl) dL_law_1646 (fun H locs hP hD hS => ?_)
  refine lv_istore (pc := 1649) (lv' := [(6, .int R2.1), (5, .int 1), (0, .ref b), (1, .ref a), (2, .ref (dm 0)), (3, .ref o), (4, .int u)]) hx hb dL_law_1649 hl (by decide) rfl (fun ls hl => ?_)
  refine lv_aload_n (pc := 1651) hx hb dL_law_1651 rfl (lv_at hl 4 rfl) ?_
  refine z_cpI (pc := 1652) S (m_X5_thrown l X dm R2.2 rfl) (cwV 0 hts gL_law_X5_thrown rfl rfl rfl hdX5_thrown ⟨Nat.le_of_ble_eq_true rfl, Nat.le_of_ble_eq_true rfl⟩) hP hK hN (s_W_M X a d d2 B o g dm R2.2) (ci := 5) rfl rfl rfl (show (kc + 1) ≤ room_1.cells ∧ (ks + 6) ≤ room_1.slots from ⟨by omega, by omega⟩) rfl hl.1 rfl (Nat.le_of_ble_eq_true rfl) dL_law_1652 ?_
  refine lv_iload (pc := 1655) hx hb dL_law_1655 (lv_at hl 1 rfl) ?_
  refine lv_icmp_eq (pc := 1657) (tgt := 1662) hx hb dL_law_1657 (by decide) (fun _ => ?_) (fun c_ => absurd h3 c_)
  refine lv_iload (pc := 1662) hx hb dL_law_1662 (lv_at hl 1 rfl) ?_
  refine lv_if_ne (pc := 1664) (tgt := 1679) hx hb dL_law_1664 (by decide) (fun _ => ?_) (fun c_ => absurd c_ (by decide))
  refine lv_goto (pc := 1679) (tgt := 1905) hx hb dL_law_1679 (by decide) ?_
  refine W.widen (k := kc + 20) (n := ks + 200) (by omega) (by omega) ?_
  exact kk H locs ls hP hD hS (lv_sub hl [2, 3, 4, 5, 6] rfl)
set_option maxHeartbeats 4000000 in
set_option maxRecDepth 100000 in
theorem lc_minutesUntilServed {p : Program} {l : Launch} {e : Env} {s : State} {m : MethodId} {below : List Frame} {meth : Method} {c : Code} {X : z_X} {b L : Nat} {xs : Nat → Int32} (C : z_LC p l s m meth c X b L xs) {a : Nat} {d d2 : Nat → Nat} {B : z_B} {o : Nat} {g : Nat → Int64} {dm : Nat → Nat} {M : z_M} {H : Heap} {locs : List Loc} {ls : Array Slot} {Q : State → Prop} {u : Int32} (kc ks : Nat) (hk : kc + 20 ≤ room_1.cells ∧ ks + 200 ≤ room_1.slots) (i : Nat) (hu : u = nI i) (hi : i + 3 < L) (hP : va_P X.1 vwCl (z_wLw X a d d2 B o g dm M) H) (hD : va_D (fun q : Nat => s.heap.size ≤ q) (z_wLw X a d d2 B o g dm M)) (hS : va_S (fun q : Nat => s.heap.size ≤ q) s.heap H locs) (hl : lv_has ls 9 [(0, .ref b), (1, .ref a), (2, .ref (dm 0)), (3, .ref o), (4, .int u)]) {R1 : (Int32 × z_B)} (hf1 : f_X4_minutesUntilServed B (xs (i + 1)) = some R1) {R2 : (Int32 × z_M)} (hf2 : f_X5_minutesUntilServed M (xs (i + 1)) = some R2) (h3 : R2.2.1 0 = 0) (h4 : R1.1 = R2.1) (kk : ∀ (H : Heap) (locs : List Loc) (ls : Array Slot), va_P X.1 vwCl (z_wLw X a d d2 R1.2 o (vp_updL g 0 (R1.1).toInt64) dm R2.2) H → va_D (fun q : Nat => s.heap.size ≤ q) (z_wLw X a d d2 R1.2 o (vp_updL g 0 (R1.1).toInt64) dm R2.2) → va_S (fun q : Nat => s.heap.size ≤ q) s.heap H locs → lv_has ls 9 [(0, .ref b), (1, .ref a), (2, .ref (dm 0)), (3, .ref o), (4, .int u)] → W p l e room_1 s m #[Value.ref b] below meth c H locs (kc + 20) (ks + 200) Q (F0 m 1905 ls [])) : W p l e room_1 s m #[Value.ref b] below meth c H locs kc ks Q (F0 m 1682 ls []) := by
  obtain ⟨hx, hb, hml, hown, hts, hK, hN, hX, hbl, hT0, hl0, hL⟩ := C
  have hA : ∀ q : Nat, s.heap.size ≤ q → (fun q : Nat => s.heap.size ≤ q) q := fun _ h => h
  have hbA : ¬ (fun q : Nat => s.heap.size ≤ q) b := Nat.not_le.mpr hbl
  have S : CallFix p m c cL_law 9 s #[Value.ref b] wsL_law RL := ⟨hx, hb, hml, hown, hts⟩
  refine lv_aload_n (pc := 1682) hx hb dL_law_1682 rfl (lv_at hl 1 rfl) ?_
  refine lv_aload_n (pc := 1683) hx hb dL_law_1683 rfl (lv_at hl 0 rfl) ?_
  refine lv_iload (pc := 1684) hx hb dL_law_1684 (lv_at hl 4 rfl) ?_
  refine lv_iconst (v := 1) (pc := 1686) hx hb dL_law_1686 (by decide) ?_
  refine lv_iadd (pc := 1687) hx hb dL_law_1687 ?_
  refine z_sld (pc := 1688) hx hb hX hbl hbA hS hL (i + 1) (z_oi i 1 hu 1 rfl) (by omega) dL_law_1688 ?_
  refine lv_aload_n (pc := 1689) hx hb dL_law_1689 rfl (lv_at hl 3 rfl) ?_
  refine z_cwsI (pc := 1690) (W1 := (z_wLw X a d d2 R1.2 o (vp_updL g 0 (R1.1).toInt64) dm M)) S (wn_minutesUntilServed l X a d d2 B o g (xs (i + 1)) hf1) (vx_cwSW 3 hts gL_law_L_minutesUntilServed rfl rfl rfl hdL_minutesUntilServed ⟨Nat.le_of_ble_eq_true rfl, Nat.le_of_ble_eq_true rfl⟩) hP hK hN hD hS hA (s_W_BO X a d d2 B o g dm M) (f_W_BO X a d d2 B o g dm M R1.2 (vp_updL g 0 (R1.1).toInt64)) (show kc ≤ room_1.cells ∧ ks ≤ room_1.slots from ⟨by omega, by omega⟩) rfl hl.1 rfl (Nat.le_of_ble_eq_true rfl) dL_law_1690 (fun H locs hP hD hS => ?_)
  refine lv_istore (pc := 1693) (lv' := [(5, .int 0), (0, .ref b), (1, .ref a), (2, .ref (dm 0)), (3, .ref o), (4, .int u)]) hx hb dL_law_1693 hl (by decide) rfl (fun ls hl => ?_)
  refine lv_aload_n (pc := 1695) hx hb dL_law_1695 rfl (lv_at hl 3 rfl) ?_
  refine lv_aload_n (pc := 1696) hx hb dL_law_1696 rfl (lv_at hl 1 rfl) ?_
  refine lv_iload (pc := 1697) hx hb dL_law_1697 (lv_at hl 5 rfl) ?_
  refine lv_iconst (v := 1) (pc := 1699) hx hb dL_law_1699 (by decide) ?_
  refine lv_iadd (pc := 1700) hx hb dL_law_1700 ?_
  refine z_sld (pc := 1701) hx hb hX hbl hbA hS hL (i + 1) (z_oi i 1 hu 1 rfl) (by omega) dL_law_1701 ?_
  refine z_cmI (pc := 1702) (W1 := (z_wLw X a d d2 R1.2 o (vp_updL g 0 (R1.1).toInt64) dm R2.2)) S (m_X5_minutesUntilServed l X dm M (xs (i + 1)) hf2) (cwV 1 hts gL_law_X5_minutesUntilServed rfl rfl rfl hdX5_minutesUntilServed ⟨Nat.le_of_ble_eq_true rfl, Nat.le_of_ble_eq_true rfl⟩) hP hK hN hD hS hA (s_W_M X a d d2 R1.2 o (vp_updL g 0 (R1.1).toInt64) dm M) (f_W_M X a d d2 R1.2 o (vp_updL g 0 (R1.1).toInt64) dm M R2.2) (ci := 5) rfl rfl rfl (show kc ≤ room_1.cells ∧ ks ≤ room_1.slots from ⟨by omega, by omega⟩) rfl hl.1 rfl (Nat.le_of_ble_eq_true rfl) dL_law_1702 (fun H locs hP hD hS => ?_)
  refine lv_istore (pc := 1705) (lv' := [(6, .int R2.1), (5, .int 0), (0, .ref b), (1, .ref a), (2, .ref (dm 0)), (3, .ref o), (4, .int u)]) hx hb dL_law_1705 hl (by decide) rfl (fun ls hl => ?_)
  refine lv_aload_n (pc := 1707) hx hb dL_law_1707 rfl (lv_at hl 4 rfl) ?_
  refine z_cpI (pc := 1708) S (m_X5_thrown l X dm R2.2 rfl) (cwV 0 hts gL_law_X5_thrown rfl rfl rfl hdX5_thrown ⟨Nat.le_of_ble_eq_true rfl, Nat.le_of_ble_eq_true rfl⟩) hP hK hN (s_W_M X a d d2 R1.2 o (vp_updL g 0 (R1.1).toInt64) dm R2.2) (ci := 5) rfl rfl rfl (show kc ≤ room_1.cells ∧ ks ≤ room_1.slots from ⟨by omega, by omega⟩) rfl hl.1 rfl (Nat.le_of_ble_eq_true rfl) dL_law_1708 ?_
  refine lv_iload (pc := 1711) hx hb dL_law_1711 (lv_at hl 1 rfl) ?_
  refine lv_icmp_eq (pc := 1713) (tgt := 1718) hx hb dL_law_1713 (by decide) (fun _ => ?_) (fun c_ => absurd h3 c_)
  refine lv_iload (pc := 1718) hx hb dL_law_1718 (lv_at hl 1 rfl) ?_
  refine lv_if_ne (pc := 1720) (tgt := 1735) hx hb dL_law_1720 (by decide) (fun c_ => absurd rfl c_) (fun _ => ?_)
  refine lv_aload_n (pc := 1723) hx hb dL_law_1723 rfl (lv_at hl 5 rfl) ?_
  refine lv_iconst (v := 0) (pc := 1724) hx hb dL_law_1724 (by decide) ?_
  refine va_lald (pc := 1725) hx hb hK hP 53 2 rfl rfl z_in01 dL_law_1725 ?_
  refine lv_iload (pc := 1726) hx hb dL_law_1726 (lv_at hl 0 rfl) ?_
  refine lv_i2l (v := (R2.1).toInt64) (pc := 1728) hx hb dL_law_1728 rfl ?_
  refine W.lcmp (pc := 1729) hx hb dL_law_1729 ?_
  refine lv_if_eq (pc := 1730) (tgt := 1735) hx hb dL_law_1730 (by decide) (fun _ => ?_) (fun c_ => absurd (show lg_cmp _ _ = 0 from by rw [← h4]; exact z_cmp0 _) c_)
  refine lv_goto (pc := 1735) (tgt := 1905) hx hb dL_law_1735 (by decide) ?_
  refine W.widen (k := kc + 20) (n := ks + 200) (by omega) (by omega) ?_
  exact kk H locs ls hP hD hS (lv_sub hl [2, 3, 4, 5, 6] rfl)
set_option maxHeartbeats 4000000 in
set_option maxRecDepth 100000 in
theorem lc_minutesUntilServed_t2 {p : Program} {l : Launch} {e : Env} {s : State} {m : MethodId} {below : List Frame} {meth : Method} {c : Code} {X : z_X} {b L : Nat} {xs : Nat → Int32} (C : z_LC p l s m meth c X b L xs) {a : Nat} {d d2 : Nat → Nat} {B : z_B} {o : Nat} {g : Nat → Int64} {dm : Nat → Nat} {M : z_M} {H : Heap} {locs : List Loc} {ls : Array Slot} {Q : State → Prop} {u : Int32} (kc ks : Nat) (hk : kc + 20 ≤ room_1.cells ∧ ks + 200 ≤ room_1.slots) (i : Nat) (hu : u = nI i) (hi : i + 3 < L) (hP : va_P X.1 vwCl (z_wLw X a d d2 B o g dm M) H) (hD : va_D (fun q : Nat => s.heap.size ≤ q) (z_wLw X a d d2 B o g dm M)) (hS : va_S (fun q : Nat => s.heap.size ≤ q) s.heap H locs) (hl : lv_has ls 9 [(0, .ref b), (1, .ref a), (2, .ref (dm 0)), (3, .ref o), (4, .int u)]) (hf1 : x_X4_minutesUntilServed B (xs (i + 1)) = some 2) {R2 : (Int32 × z_M)} (hf2 : f_X5_minutesUntilServed M (xs (i + 1)) = some R2) (h3 : R2.2.1 0 = 1) (kk : ∀ (H : Heap) (locs : List Loc) (ls : Array Slot), va_P X.1 vwCl (z_wLw X a d d2 B o g dm R2.2) H → va_D (fun q : Nat => s.heap.size ≤ q) (z_wLw X a d d2 B o g dm R2.2) → va_S (fun q : Nat => s.heap.size ≤ q) s.heap H locs → lv_has ls 9 [(0, .ref b), (1, .ref a), (2, .ref (dm 0)), (3, .ref o), (4, .int u)] → W p l e room_1 s m #[Value.ref b] below meth c H locs (kc + 20) (ks + 200) Q (F0 m 1905 ls [])) : W p l e room_1 s m #[Value.ref b] below meth c H locs kc ks Q (F0 m 1682 ls []) := by
  obtain ⟨hx, hb, hml, hown, hts, hK, hN, hX, hbl, hT0, hl0, hL⟩ := C
  have hA : ∀ q : Nat, s.heap.size ≤ q → (fun q : Nat => s.heap.size ≤ q) q := fun _ h => h
  have hbA : ¬ (fun q : Nat => s.heap.size ≤ q) b := Nat.not_le.mpr hbl
  have S : CallFix p m c cL_law 9 s #[Value.ref b] wsL_law RL := ⟨hx, hb, hml, hown, hts⟩
  refine lv_aload_n (pc := 1682) hx hb dL_law_1682 rfl (lv_at hl 1 rfl) ?_
  refine lv_aload_n (pc := 1683) hx hb dL_law_1683 rfl (lv_at hl 0 rfl) ?_
  refine lv_iload (pc := 1684) hx hb dL_law_1684 (lv_at hl 4 rfl) ?_
  refine lv_iconst (v := 1) (pc := 1686) hx hb dL_law_1686 (by decide) ?_
  refine lv_iadd (pc := 1687) hx hb dL_law_1687 ?_
  refine z_sld (pc := 1688) hx hb hX hbl hbA hS hL (i + 1) (z_oi i 1 hu 1 rfl) (by omega) dL_law_1688 ?_
  refine lv_aload_n (pc := 1689) hx hb dL_law_1689 rfl (lv_at hl 3 rfl) ?_
  have hT : z_T z_no s H := (hT0.kept (fun q h1 h2 => hS.2.1 q h1 h2)).narrow (fun q h => h.elim)
  refine z_cweI (pc := 1690) S (wt_minutesUntilServed_2 l hl0 X a d d2 B o g (xs (i + 1)) hf1) (vx_cwSW 3 hts gL_law_L_minutesUntilServed rfl rfl rfl hdL_minutesUntilServed ⟨Nat.le_of_ble_eq_true rfl, Nat.le_of_ble_eq_true rfl⟩) hP hK hN hT hD hS hA (s_W_BO X a d d2 B o g dm M) (f_W_BO X a d d2 B o g dm M B g) (show kc + 1 ≤ room_1.cells ∧ ks + 6 ≤ room_1.slots from ⟨by omega, by omega⟩) rfl hl.1 rfl (Nat.le_of_ble_eq_true rfl) dL_law_1690 (fun H locs hP hD hS => ?_)
  refine lv_istore (pc := 1693) (lv' := [(5, .int 1), (0, .ref b), (1, .ref a), (2, .ref (dm 0)), (3, .ref o), (4, .int u)]) hx hb dL_law_1693 hl (by decide) rfl (fun ls hl => ?_)
  refine lv_aload_n (pc := 1695) hx hb dL_law_1695 rfl (lv_at hl 3 rfl) ?_
  refine lv_aload_n (pc := 1696) hx hb dL_law_1696 rfl (lv_at hl 1 rfl) ?_
  refine lv_iload (pc := 1697) hx hb dL_law_1697 (lv_at hl 5 rfl) ?_
  refine lv_iconst (v := 1) (pc := 1699) hx hb dL_law_1699 (by decide) ?_
  refine lv_iadd (pc := 1700) hx hb dL_law_1700 ?_
  refine z_sld (pc := 1701) hx hb hX hbl hbA hS hL (i + 1) (z_oi i 1 hu 1 rfl) (by omega) dL_law_1701 ?_
  refine z_cmI (pc := 1702) (W1 := (z_wLw X a d d2 B o g dm R2.2)) S (m_X5_minutesUntilServed l X dm M (xs (i + 1)) hf2) (cwV 1 hts gL_law_X5_minutesUntilServed rfl rfl rfl hdX5_minutesUntilServed ⟨Nat.le_of_ble_eq_true rfl, Nat.le_of_ble_eq_true rfl⟩) hP hK hN hD hS hA (s_W_M X a d d2 B o g dm M) (f_W_M X a d d2 B o g dm M R2.2) (ci := 5) rfl rfl rfl (show (kc + 1) ≤ room_1.cells ∧ (ks + 6) ≤ room_1.slots from ⟨by omega, by omega⟩) rfl hl.1 rfl (Nat.le_of_ble_eq_true rfl) dL_law_1702 (fun H locs hP hD hS => ?_)
  refine lv_istore (pc := 1705) (lv' := [(6, .int R2.1), (5, .int 1), (0, .ref b), (1, .ref a), (2, .ref (dm 0)), (3, .ref o), (4, .int u)]) hx hb dL_law_1705 hl (by decide) rfl (fun ls hl => ?_)
  refine lv_aload_n (pc := 1707) hx hb dL_law_1707 rfl (lv_at hl 4 rfl) ?_
  refine z_cpI (pc := 1708) S (m_X5_thrown l X dm R2.2 rfl) (cwV 0 hts gL_law_X5_thrown rfl rfl rfl hdX5_thrown ⟨Nat.le_of_ble_eq_true rfl, Nat.le_of_ble_eq_true rfl⟩) hP hK hN (s_W_M X a d d2 B o g dm R2.2) (ci := 5) rfl rfl rfl (show (kc + 1) ≤ room_1.cells ∧ (ks + 6) ≤ room_1.slots from ⟨by omega, by omega⟩) rfl hl.1 rfl (Nat.le_of_ble_eq_true rfl) dL_law_1708 ?_
  refine lv_iload (pc := 1711) hx hb dL_law_1711 (lv_at hl 1 rfl) ?_
  refine lv_icmp_eq (pc := 1713) (tgt := 1718) hx hb dL_law_1713 (by decide) (fun _ => ?_) (fun c_ => absurd h3 c_)
  refine lv_iload (pc := 1718) hx hb dL_law_1718 (lv_at hl 1 rfl) ?_
  refine lv_if_ne (pc := 1720) (tgt := 1735) hx hb dL_law_1720 (by decide) (fun _ => ?_) (fun c_ => absurd c_ (by decide))
  refine lv_goto (pc := 1735) (tgt := 1905) hx hb dL_law_1735 (by decide) ?_
  refine W.widen (k := kc + 20) (n := ks + 200) (by omega) (by omega) ?_
  exact kk H locs ls hP hD hS (lv_sub hl [2, 3, 4, 5, 6] rfl)
set_option maxHeartbeats 4000000 in
set_option maxRecDepth 100000 in
theorem lc_servedIn {p : Program} {l : Launch} {e : Env} {s : State} {m : MethodId} {below : List Frame} {meth : Method} {c : Code} {X : z_X} {b L : Nat} {xs : Nat → Int32} (C : z_LC p l s m meth c X b L xs) {a : Nat} {d d2 : Nat → Nat} {B : z_B} {o : Nat} {g : Nat → Int64} {dm : Nat → Nat} {M : z_M} {H : Heap} {locs : List Loc} {ls : Array Slot} {Q : State → Prop} {u : Int32} (kc ks : Nat) (hk : kc + 20 ≤ room_1.cells ∧ ks + 200 ≤ room_1.slots) (i : Nat) (hu : u = nI i) (hi : i + 3 < L) (hP : va_P X.1 vwCl (z_wLw X a d d2 B o g dm M) H) (hD : va_D (fun q : Nat => s.heap.size ≤ q) (z_wLw X a d d2 B o g dm M)) (hS : va_S (fun q : Nat => s.heap.size ≤ q) s.heap H locs) (hl : lv_has ls 9 [(0, .ref b), (1, .ref a), (2, .ref (dm 0)), (3, .ref o), (4, .int u)]) {R1 : (Int32 × z_B)} (hf1 : f_X4_servedIn B (xs (i + 1)) = some R1) {R2 : (Int32 × z_M)} (hf2 : f_X5_servedIn M (xs (i + 1)) = some R2) (h3 : R2.2.1 0 = 0) (h4 : R1.1 = R2.1) (kk : ∀ (H : Heap) (locs : List Loc) (ls : Array Slot), va_P X.1 vwCl (z_wLw X a d d2 R1.2 o (vp_updL g 0 (R1.1).toInt64) dm R2.2) H → va_D (fun q : Nat => s.heap.size ≤ q) (z_wLw X a d d2 R1.2 o (vp_updL g 0 (R1.1).toInt64) dm R2.2) → va_S (fun q : Nat => s.heap.size ≤ q) s.heap H locs → lv_has ls 9 [(0, .ref b), (1, .ref a), (2, .ref (dm 0)), (3, .ref o), (4, .int u)] → W p l e room_1 s m #[Value.ref b] below meth c H locs (kc + 20) (ks + 200) Q (F0 m 1905 ls [])) : W p l e room_1 s m #[Value.ref b] below meth c H locs kc ks Q (F0 m 1738 ls []) := by
  obtain ⟨hx, hb, hml, hown, hts, hK, hN, hX, hbl, hT0, hl0, hL⟩ := C
  have hA : ∀ q : Nat, s.heap.size ≤ q → (fun q : Nat => s.heap.size ≤ q) q := fun _ h => h
  have hbA : ¬ (fun q : Nat => s.heap.size ≤ q) b := Nat.not_le.mpr hbl
  have S : CallFix p m c cL_law 9 s #[Value.ref b] wsL_law RL := ⟨hx, hb, hml, hown, hts⟩
  refine lv_aload_n (pc := 1738) hx hb dL_law_1738 rfl (lv_at hl 1 rfl) ?_
  refine lv_aload_n (pc := 1739) hx hb dL_law_1739 rfl (lv_at hl 0 rfl) ?_
  refine lv_iload (pc := 1740) hx hb dL_law_1740 (lv_at hl 4 rfl) ?_
  refine lv_iconst (v := 1) (pc := 1742) hx hb dL_law_1742 (by decide) ?_
  refine lv_iadd (pc := 1743) hx hb dL_law_1743 ?_
  refine z_sld (pc := 1744) hx hb hX hbl hbA hS hL (i + 1) (z_oi i 1 hu 1 rfl) (by omega) dL_law_1744 ?_
  refine lv_aload_n (pc := 1745) hx hb dL_law_1745 rfl (lv_at hl 3 rfl) ?_
  refine z_cwsI (pc := 1746) (W1 := (z_wLw X a d d2 R1.2 o (vp_updL g 0 (R1.1).toInt64) dm M)) S (wn_servedIn l X a d d2 B o g (xs (i + 1)) hf1) (vx_cwSW 3 hts gL_law_L_servedIn rfl rfl rfl hdL_servedIn ⟨Nat.le_of_ble_eq_true rfl, Nat.le_of_ble_eq_true rfl⟩) hP hK hN hD hS hA (s_W_BO X a d d2 B o g dm M) (f_W_BO X a d d2 B o g dm M R1.2 (vp_updL g 0 (R1.1).toInt64)) (show kc ≤ room_1.cells ∧ ks ≤ room_1.slots from ⟨by omega, by omega⟩) rfl hl.1 rfl (Nat.le_of_ble_eq_true rfl) dL_law_1746 (fun H locs hP hD hS => ?_)
  refine lv_istore (pc := 1749) (lv' := [(5, .int 0), (0, .ref b), (1, .ref a), (2, .ref (dm 0)), (3, .ref o), (4, .int u)]) hx hb dL_law_1749 hl (by decide) rfl (fun ls hl => ?_)
  refine lv_aload_n (pc := 1751) hx hb dL_law_1751 rfl (lv_at hl 3 rfl) ?_
  refine lv_aload_n (pc := 1752) hx hb dL_law_1752 rfl (lv_at hl 1 rfl) ?_
  refine lv_iload (pc := 1753) hx hb dL_law_1753 (lv_at hl 5 rfl) ?_
  refine lv_iconst (v := 1) (pc := 1755) hx hb dL_law_1755 (by decide) ?_
  refine lv_iadd (pc := 1756) hx hb dL_law_1756 ?_
  refine z_sld (pc := 1757) hx hb hX hbl hbA hS hL (i + 1) (z_oi i 1 hu 1 rfl) (by omega) dL_law_1757 ?_
  refine z_cmI (pc := 1758) (W1 := (z_wLw X a d d2 R1.2 o (vp_updL g 0 (R1.1).toInt64) dm R2.2)) S (m_X5_servedIn l X dm M (xs (i + 1)) hf2) (cwV 1 hts gL_law_X5_servedIn rfl rfl rfl hdX5_servedIn ⟨Nat.le_of_ble_eq_true rfl, Nat.le_of_ble_eq_true rfl⟩) hP hK hN hD hS hA (s_W_M X a d d2 R1.2 o (vp_updL g 0 (R1.1).toInt64) dm M) (f_W_M X a d d2 R1.2 o (vp_updL g 0 (R1.1).toInt64) dm M R2.2) (ci := 5) rfl rfl rfl (show kc ≤ room_1.cells ∧ ks ≤ room_1.slots from ⟨by omega, by omega⟩) rfl hl.1 rfl (Nat.le_of_ble_eq_true rfl) dL_law_1758 (fun H locs hP hD hS => ?_)
  refine lv_istore (pc := 1761) (lv' := [(6, .int R2.1), (5, .int 0), (0, .ref b), (1, .ref a), (2, .ref (dm 0)), (3, .ref o), (4, .int u)]) hx hb dL_law_1761 hl (by decide) rfl (fun ls hl => ?_)
  refine lv_aload_n (pc := 1763) hx hb dL_law_1763 rfl (lv_at hl 4 rfl) ?_
  refine z_cpI (pc := 1764) S (m_X5_thrown l X dm R2.2 rfl) (cwV 0 hts gL_law_X5_thrown rfl rfl rfl hdX5_thrown ⟨Nat.le_of_ble_eq_true rfl, Nat.le_of_ble_eq_true rfl⟩) hP hK hN (s_W_M X a d d2 R1.2 o (vp_updL g 0 (R1.1).toInt64) dm R2.2) (ci := 5) rfl rfl rfl (show kc ≤ room_1.cells ∧ ks ≤ room_1.slots from ⟨by omega, by omega⟩) rfl hl.1 rfl (Nat.le_of_ble_eq_true rfl) dL_law_1764 ?_
  refine lv_iload (pc := 1767) hx hb dL_law_1767 (lv_at hl 1 rfl) ?_
  refine lv_icmp_eq (pc := 1769) (tgt := 1774) hx hb dL_law_1769 (by decide) (fun _ => ?_) (fun c_ => absurd h3 c_)
  refine lv_iload (pc := 1774) hx hb dL_law_1774 (lv_at hl 1 rfl) ?_
  refine lv_if_ne (pc := 1776) (tgt := 1791) hx hb dL_law_1776 (by decide) (fun c_ => absurd rfl c_) (fun _ => ?_)
  refine lv_aload_n (pc := 1779) hx hb dL_law_1779 rfl (lv_at hl 5 rfl) ?_
  refine lv_iconst (v := 0) (pc := 1780) hx hb dL_law_1780 (by decide) ?_
  refine va_lald (pc := 1781) hx hb hK hP 53 2 rfl rfl z_in01 dL_law_1781 ?_
  refine lv_iload (pc := 1782) hx hb dL_law_1782 (lv_at hl 0 rfl) ?_
  refine lv_i2l (v := (R2.1).toInt64) (pc := 1784) hx hb dL_law_1784 rfl ?_
  refine W.lcmp (pc := 1785) hx hb dL_law_1785 ?_
  refine lv_if_eq (pc := 1786) (tgt := 1791) hx hb dL_law_1786 (by decide) (fun _ => ?_) (fun c_ => absurd (show lg_cmp _ _ = 0 from by rw [← h4]; exact z_cmp0 _) c_)
  refine lv_goto (pc := 1791) (tgt := 1905) hx hb dL_law_1791 (by decide) ?_
  refine W.widen (k := kc + 20) (n := ks + 200) (by omega) (by omega) ?_
  exact kk H locs ls hP hD hS (lv_sub hl [2, 3, 4, 5, 6] rfl)
set_option maxHeartbeats 4000000 in
set_option maxRecDepth 100000 in
theorem lc_servedIn_t0 {p : Program} {l : Launch} {e : Env} {s : State} {m : MethodId} {below : List Frame} {meth : Method} {c : Code} {X : z_X} {b L : Nat} {xs : Nat → Int32} (C : z_LC p l s m meth c X b L xs) {a : Nat} {d d2 : Nat → Nat} {B : z_B} {o : Nat} {g : Nat → Int64} {dm : Nat → Nat} {M : z_M} {H : Heap} {locs : List Loc} {ls : Array Slot} {Q : State → Prop} {u : Int32} (kc ks : Nat) (hk : kc + 20 ≤ room_1.cells ∧ ks + 200 ≤ room_1.slots) (i : Nat) (hu : u = nI i) (hi : i + 3 < L) (hP : va_P X.1 vwCl (z_wLw X a d d2 B o g dm M) H) (hD : va_D (fun q : Nat => s.heap.size ≤ q) (z_wLw X a d d2 B o g dm M)) (hS : va_S (fun q : Nat => s.heap.size ≤ q) s.heap H locs) (hl : lv_has ls 9 [(0, .ref b), (1, .ref a), (2, .ref (dm 0)), (3, .ref o), (4, .int u)]) (hf1 : x_X4_servedIn B (xs (i + 1)) = some 0) {R2 : (Int32 × z_M)} (hf2 : f_X5_servedIn M (xs (i + 1)) = some R2) (h3 : R2.2.1 0 = 1) (kk : ∀ (H : Heap) (locs : List Loc) (ls : Array Slot), va_P X.1 vwCl (z_wLw X a d d2 B o g dm R2.2) H → va_D (fun q : Nat => s.heap.size ≤ q) (z_wLw X a d d2 B o g dm R2.2) → va_S (fun q : Nat => s.heap.size ≤ q) s.heap H locs → lv_has ls 9 [(0, .ref b), (1, .ref a), (2, .ref (dm 0)), (3, .ref o), (4, .int u)] → W p l e room_1 s m #[Value.ref b] below meth c H locs (kc + 20) (ks + 200) Q (F0 m 1905 ls [])) : W p l e room_1 s m #[Value.ref b] below meth c H locs kc ks Q (F0 m 1738 ls []) := by
  obtain ⟨hx, hb, hml, hown, hts, hK, hN, hX, hbl, hT0, hl0, hL⟩ := C
  have hA : ∀ q : Nat, s.heap.size ≤ q → (fun q : Nat => s.heap.size ≤ q) q := fun _ h => h
  have hbA : ¬ (fun q : Nat => s.heap.size ≤ q) b := Nat.not_le.mpr hbl
  have S : CallFix p m c cL_law 9 s #[Value.ref b] wsL_law RL := ⟨hx, hb, hml, hown, hts⟩
  refine lv_aload_n (pc := 1738) hx hb dL_law_1738 rfl (lv_at hl 1 rfl) ?_
  refine lv_aload_n (pc := 1739) hx hb dL_law_1739 rfl (lv_at hl 0 rfl) ?_
  refine lv_iload (pc := 1740) hx hb dL_law_1740 (lv_at hl 4 rfl) ?_
  refine lv_iconst (v := 1) (pc := 1742) hx hb dL_law_1742 (by decide) ?_
  refine lv_iadd (pc := 1743) hx hb dL_law_1743 ?_
  refine z_sld (pc := 1744) hx hb hX hbl hbA hS hL (i + 1) (z_oi i 1 hu 1 rfl) (by omega) dL_law_1744 ?_
  refine lv_aload_n (pc := 1745) hx hb dL_law_1745 rfl (lv_at hl 3 rfl) ?_
  have hT : z_T z_no s H := (hT0.kept (fun q h1 h2 => hS.2.1 q h1 h2)).narrow (fun q h => h.elim)
  refine z_cweI (pc := 1746) S (wt_servedIn_0 l hl0 X a d d2 B o g (xs (i + 1)) hf1) (vx_cwSW 3 hts gL_law_L_servedIn rfl rfl rfl hdL_servedIn ⟨Nat.le_of_ble_eq_true rfl, Nat.le_of_ble_eq_true rfl⟩) hP hK hN hT hD hS hA (s_W_BO X a d d2 B o g dm M) (f_W_BO X a d d2 B o g dm M B g) (show kc + 1 ≤ room_1.cells ∧ ks + 6 ≤ room_1.slots from ⟨by omega, by omega⟩) rfl hl.1 rfl (Nat.le_of_ble_eq_true rfl) dL_law_1746 (fun H locs hP hD hS => ?_)
  refine lv_istore (pc := 1749) (lv' := [(5, .int 1), (0, .ref b), (1, .ref a), (2, .ref (dm 0)), (3, .ref o), (4, .int u)]) hx hb dL_law_1749 hl (by decide) rfl (fun ls hl => ?_)
  refine lv_aload_n (pc := 1751) hx hb dL_law_1751 rfl (lv_at hl 3 rfl) ?_
  refine lv_aload_n (pc := 1752) hx hb dL_law_1752 rfl (lv_at hl 1 rfl) ?_
  refine lv_iload (pc := 1753) hx hb dL_law_1753 (lv_at hl 5 rfl) ?_
  refine lv_iconst (v := 1) (pc := 1755) hx hb dL_law_1755 (by decide) ?_
  refine lv_iadd (pc := 1756) hx hb dL_law_1756 ?_
  refine z_sld (pc := 1757) hx hb hX hbl hbA hS hL (i + 1) (z_oi i 1 hu 1 rfl) (by omega) dL_law_1757 ?_
  refine z_cmI (pc := 1758) (W1 := (z_wLw X a d d2 B o g dm R2.2)) S (m_X5_servedIn l X dm M (xs (i + 1)) hf2) (cwV 1 hts gL_law_X5_servedIn rfl rfl rfl hdX5_servedIn ⟨Nat.le_of_ble_eq_true rfl, Nat.le_of_ble_eq_true rfl⟩) hP hK hN hD hS hA (s_W_M X a d d2 B o g dm M) (f_W_M X a d d2 B o g dm M R2.2) (ci := 5) rfl rfl rfl (show (kc + 1) ≤ room_1.cells ∧ (ks + 6) ≤ room_1.slots from ⟨by omega, by omega⟩) rfl hl.1 rfl (Nat.le_of_ble_eq_true rfl) dL_law_1758 (fun H locs hP hD hS => ?_)
  refine lv_istore (pc := 1761) (lv' := [(6, .int R2.1), (5, .int 1), (0, .ref b), (1, .ref a), (2, .ref (dm 0)), (3, .ref o), (4, .int u)]) hx hb dL_law_1761 hl (by decide) rfl (fun ls hl => ?_)
  refine lv_aload_n (pc := 1763) hx hb dL_law_1763 rfl (lv_at hl 4 rfl) ?_
  refine z_cpI (pc := 1764) S (m_X5_thrown l X dm R2.2 rfl) (cwV 0 hts gL_law_X5_thrown rfl rfl rfl hdX5_thrown ⟨Nat.le_of_ble_eq_true rfl, Nat.le_of_ble_eq_true rfl⟩) hP hK hN (s_W_M X a d d2 B o g dm R2.2) (ci := 5) rfl rfl rfl (show (kc + 1) ≤ room_1.cells ∧ (ks + 6) ≤ room_1.slots from ⟨by omega, by omega⟩) rfl hl.1 rfl (Nat.le_of_ble_eq_true rfl) dL_law_1764 ?_
  refine lv_iload (pc := 1767) hx hb dL_law_1767 (lv_at hl 1 rfl) ?_
  refine lv_icmp_eq (pc := 1769) (tgt := 1774) hx hb dL_law_1769 (by decide) (fun _ => ?_) (fun c_ => absurd h3 c_)
  refine lv_iload (pc := 1774) hx hb dL_law_1774 (lv_at hl 1 rfl) ?_
  refine lv_if_ne (pc := 1776) (tgt := 1791) hx hb dL_law_1776 (by decide) (fun _ => ?_) (fun c_ => absurd c_ (by decide))
  refine lv_goto (pc := 1791) (tgt := 1905) hx hb dL_law_1791 (by decide) ?_
  refine W.widen (k := kc + 20) (n := ks + 200) (by omega) (by omega) ?_
  exact kk H locs ls hP hD hS (lv_sub hl [2, 3, 4, 5, 6] rfl)
set_option maxHeartbeats 4000000 in
set_option maxRecDepth 100000 in
theorem lc_bestToCross {p : Program} {l : Launch} {e : Env} {s : State} {m : MethodId} {below : List Frame} {meth : Method} {c : Code} {X : z_X} {b L : Nat} {xs : Nat → Int32} (C : z_LC p l s m meth c X b L xs) {a : Nat} {d d2 : Nat → Nat} {B : z_B} {o : Nat} {g : Nat → Int64} {dm : Nat → Nat} {M : z_M} {H : Heap} {locs : List Loc} {ls : Array Slot} {Q : State → Prop} {u : Int32} (kc ks : Nat) (hk : kc + 20 ≤ room_1.cells ∧ ks + 200 ≤ room_1.slots) (i : Nat) (hu : u = nI i) (hi : i + 3 < L) (hP : va_P X.1 vwCl (z_wLw X a d d2 B o g dm M) H) (hD : va_D (fun q : Nat => s.heap.size ≤ q) (z_wLw X a d d2 B o g dm M)) (hS : va_S (fun q : Nat => s.heap.size ≤ q) s.heap H locs) (hl : lv_has ls 9 [(0, .ref b), (1, .ref a), (2, .ref (dm 0)), (3, .ref o), (4, .int u)]) {R1 : (Int32 × z_B)} (hf1 : f_X4_bestToCross B (xs (i + 1)) = some R1) {R2 : (Int32 × z_M)} (hf2 : f_X5_bestToCross M (xs (i + 1)) = some R2) (h3 : R2.2.1 0 = 0) (h4 : R1.1 = R2.1) (kk : ∀ (H : Heap) (locs : List Loc) (ls : Array Slot), va_P X.1 vwCl (z_wLw X a d d2 R1.2 o (vp_updL g 0 (R1.1).toInt64) dm R2.2) H → va_D (fun q : Nat => s.heap.size ≤ q) (z_wLw X a d d2 R1.2 o (vp_updL g 0 (R1.1).toInt64) dm R2.2) → va_S (fun q : Nat => s.heap.size ≤ q) s.heap H locs → lv_has ls 9 [(0, .ref b), (1, .ref a), (2, .ref (dm 0)), (3, .ref o), (4, .int u)] → W p l e room_1 s m #[Value.ref b] below meth c H locs (kc + 20) (ks + 200) Q (F0 m 1905 ls [])) : W p l e room_1 s m #[Value.ref b] below meth c H locs kc ks Q (F0 m 1794 ls []) := by
  obtain ⟨hx, hb, hml, hown, hts, hK, hN, hX, hbl, hT0, hl0, hL⟩ := C
  have hA : ∀ q : Nat, s.heap.size ≤ q → (fun q : Nat => s.heap.size ≤ q) q := fun _ h => h
  have hbA : ¬ (fun q : Nat => s.heap.size ≤ q) b := Nat.not_le.mpr hbl
  have S : CallFix p m c cL_law 9 s #[Value.ref b] wsL_law RL := ⟨hx, hb, hml, hown, hts⟩
  refine lv_aload_n (pc := 1794) hx hb dL_law_1794 rfl (lv_at hl 1 rfl) ?_
  refine lv_aload_n (pc := 1795) hx hb dL_law_1795 rfl (lv_at hl 0 rfl) ?_
  refine lv_iload (pc := 1796) hx hb dL_law_1796 (lv_at hl 4 rfl) ?_
  refine lv_iconst (v := 1) (pc := 1798) hx hb dL_law_1798 (by decide) ?_
  refine lv_iadd (pc := 1799) hx hb dL_law_1799 ?_
  refine z_sld (pc := 1800) hx hb hX hbl hbA hS hL (i + 1) (z_oi i 1 hu 1 rfl) (by omega) dL_law_1800 ?_
  refine lv_aload_n (pc := 1801) hx hb dL_law_1801 rfl (lv_at hl 3 rfl) ?_
  refine z_cwsI (pc := 1802) (W1 := (z_wLw X a d d2 R1.2 o (vp_updL g 0 (R1.1).toInt64) dm M)) S (wn_bestToCross l X a d d2 B o g (xs (i + 1)) hf1) (vx_cwSW 3 hts gL_law_L_bestToCross rfl rfl rfl hdL_bestToCross ⟨Nat.le_of_ble_eq_true rfl, Nat.le_of_ble_eq_true rfl⟩) hP hK hN hD hS hA (s_W_BO X a d d2 B o g dm M) (f_W_BO X a d d2 B o g dm M R1.2 (vp_updL g 0 (R1.1).toInt64)) (show kc ≤ room_1.cells ∧ ks ≤ room_1.slots from ⟨by omega, by omega⟩) rfl hl.1 rfl (Nat.le_of_ble_eq_true rfl) dL_law_1802 (fun H locs hP hD hS => ?_)
  refine lv_istore (pc := 1805) (lv' := [(5, .int 0), (0, .ref b), (1, .ref a), (2, .ref (dm 0)), (3, .ref o), (4, .int u)]) hx hb dL_law_1805 hl (by decide) rfl (fun ls hl => ?_)
  refine lv_aload_n (pc := 1807) hx hb dL_law_1807 rfl (lv_at hl 3 rfl) ?_
  refine lv_aload_n (pc := 1808) hx hb dL_law_1808 rfl (lv_at hl 1 rfl) ?_
  refine lv_iload (pc := 1809) hx hb dL_law_1809 (lv_at hl 5 rfl) ?_
  refine lv_iconst (v := 1) (pc := 1811) hx hb dL_law_1811 (by decide) ?_
  refine lv_iadd (pc := 1812) hx hb dL_law_1812 ?_
  refine z_sld (pc := 1813) hx hb hX hbl hbA hS hL (i + 1) (z_oi i 1 hu 1 rfl) (by omega) dL_law_1813 ?_
  refine z_cmI (pc := 1814) (W1 := (z_wLw X a d d2 R1.2 o (vp_updL g 0 (R1.1).toInt64) dm R2.2)) S (m_X5_bestToCross l X dm M (xs (i + 1)) hf2) (cwV 1 hts gL_law_X5_bestToCross rfl rfl rfl hdX5_bestToCross ⟨Nat.le_of_ble_eq_true rfl, Nat.le_of_ble_eq_true rfl⟩) hP hK hN hD hS hA (s_W_M X a d d2 R1.2 o (vp_updL g 0 (R1.1).toInt64) dm M) (f_W_M X a d d2 R1.2 o (vp_updL g 0 (R1.1).toInt64) dm M R2.2) (ci := 5) rfl rfl rfl (show kc ≤ room_1.cells ∧ ks ≤ room_1.slots from ⟨by omega, by omega⟩) rfl hl.1 rfl (Nat.le_of_ble_eq_true rfl) dL_law_1814 (fun H locs hP hD hS => ?_)
  refine lv_istore (pc := 1817) (lv' := [(6, .int R2.1), (5, .int 0), (0, .ref b), (1, .ref a), (2, .ref (dm 0)), (3, .ref o), (4, .int u)]) hx hb dL_law_1817 hl (by decide) rfl (fun ls hl => ?_)
  refine lv_aload_n (pc := 1819) hx hb dL_law_1819 rfl (lv_at hl 4 rfl) ?_
  refine z_cpI (pc := 1820) S (m_X5_thrown l X dm R2.2 rfl) (cwV 0 hts gL_law_X5_thrown rfl rfl rfl hdX5_thrown ⟨Nat.le_of_ble_eq_true rfl, Nat.le_of_ble_eq_true rfl⟩) hP hK hN (s_W_M X a d d2 R1.2 o (vp_updL g 0 (R1.1).toInt64) dm R2.2) (ci := 5) rfl rfl rfl (show kc ≤ room_1.cells ∧ ks ≤ room_1.slots from ⟨by omega, by omega⟩) rfl hl.1 rfl (Nat.le_of_ble_eq_true rfl) dL_law_1820 ?_
  refine lv_iload (pc := 1823) hx hb dL_law_1823 (lv_at hl 1 rfl) ?_
  refine lv_icmp_eq (pc := 1825) (tgt := 1830) hx hb dL_law_1825 (by decide) (fun _ => ?_) (fun c_ => absurd h3 c_)
  refine lv_iload (pc := 1830) hx hb dL_law_1830 (lv_at hl 1 rfl) ?_
  refine lv_if_ne (pc := 1832) (tgt := 1847) hx hb dL_law_1832 (by decide) (fun c_ => absurd rfl c_) (fun _ => ?_)
  refine lv_aload_n (pc := 1835) hx hb dL_law_1835 rfl (lv_at hl 5 rfl) ?_
  refine lv_iconst (v := 0) (pc := 1836) hx hb dL_law_1836 (by decide) ?_
  refine va_lald (pc := 1837) hx hb hK hP 53 2 rfl rfl z_in01 dL_law_1837 ?_
  refine lv_iload (pc := 1838) hx hb dL_law_1838 (lv_at hl 0 rfl) ?_
  refine lv_i2l (v := (R2.1).toInt64) (pc := 1840) hx hb dL_law_1840 rfl ?_
  refine W.lcmp (pc := 1841) hx hb dL_law_1841 ?_
  refine lv_if_eq (pc := 1842) (tgt := 1847) hx hb dL_law_1842 (by decide) (fun _ => ?_) (fun c_ => absurd (show lg_cmp _ _ = 0 from by rw [← h4]; exact z_cmp0 _) c_)
  refine lv_goto (pc := 1847) (tgt := 1905) hx hb dL_law_1847 (by decide) ?_
  refine W.widen (k := kc + 20) (n := ks + 200) (by omega) (by omega) ?_
  exact kk H locs ls hP hD hS (lv_sub hl [2, 3, 4, 5, 6] rfl)
set_option maxHeartbeats 4000000 in
set_option maxRecDepth 100000 in
theorem lc_bestToCross_t2 {p : Program} {l : Launch} {e : Env} {s : State} {m : MethodId} {below : List Frame} {meth : Method} {c : Code} {X : z_X} {b L : Nat} {xs : Nat → Int32} (C : z_LC p l s m meth c X b L xs) {a : Nat} {d d2 : Nat → Nat} {B : z_B} {o : Nat} {g : Nat → Int64} {dm : Nat → Nat} {M : z_M} {H : Heap} {locs : List Loc} {ls : Array Slot} {Q : State → Prop} {u : Int32} (kc ks : Nat) (hk : kc + 20 ≤ room_1.cells ∧ ks + 200 ≤ room_1.slots) (i : Nat) (hu : u = nI i) (hi : i + 3 < L) (hP : va_P X.1 vwCl (z_wLw X a d d2 B o g dm M) H) (hD : va_D (fun q : Nat => s.heap.size ≤ q) (z_wLw X a d d2 B o g dm M)) (hS : va_S (fun q : Nat => s.heap.size ≤ q) s.heap H locs) (hl : lv_has ls 9 [(0, .ref b), (1, .ref a), (2, .ref (dm 0)), (3, .ref o), (4, .int u)]) (hf1 : x_X4_bestToCross B (xs (i + 1)) = some 2) {R2 : (Int32 × z_M)} (hf2 : f_X5_bestToCross M (xs (i + 1)) = some R2) (h3 : R2.2.1 0 = 1) (kk : ∀ (H : Heap) (locs : List Loc) (ls : Array Slot), va_P X.1 vwCl (z_wLw X a d d2 B o g dm R2.2) H → va_D (fun q : Nat => s.heap.size ≤ q) (z_wLw X a d d2 B o g dm R2.2) → va_S (fun q : Nat => s.heap.size ≤ q) s.heap H locs → lv_has ls 9 [(0, .ref b), (1, .ref a), (2, .ref (dm 0)), (3, .ref o), (4, .int u)] → W p l e room_1 s m #[Value.ref b] below meth c H locs (kc + 20) (ks + 200) Q (F0 m 1905 ls [])) : W p l e room_1 s m #[Value.ref b] below meth c H locs kc ks Q (F0 m 1794 ls []) := by
  obtain ⟨hx, hb, hml, hown, hts, hK, hN, hX, hbl, hT0, hl0, hL⟩ := C
  have hA : ∀ q : Nat, s.heap.size ≤ q → (fun q : Nat => s.heap.size ≤ q) q := fun _ h => h
  have hbA : ¬ (fun q : Nat => s.heap.size ≤ q) b := Nat.not_le.mpr hbl
  have S : CallFix p m c cL_law 9 s #[Value.ref b] wsL_law RL := ⟨hx, hb, hml, hown, hts⟩
  refine lv_aload_n (pc := 1794) hx hb dL_law_1794 rfl (lv_at hl 1 rfl) ?_
  refine lv_aload_n (pc := 1795) hx hb dL_law_1795 rfl (lv_at hl 0 rfl) ?_
  refine lv_iload (pc := 1796) hx hb dL_law_1796 (lv_at hl 4 rfl) ?_
  refine lv_iconst (v := 1) (pc := 1798) hx hb dL_law_1798 (by decide) ?_
  refine lv_iadd (pc := 1799) hx hb dL_law_1799 ?_
  refine z_sld (pc := 1800) hx hb hX hbl hbA hS hL (i + 1) (z_oi i 1 hu 1 rfl) (by omega) dL_law_1800 ?_
  refine lv_aload_n (pc := 1801) hx hb dL_law_1801 rfl (lv_at hl 3 rfl) ?_
  have hT : z_T z_no s H := (hT0.kept (fun q h1 h2 => hS.2.1 q h1 h2)).narrow (fun q h => h.elim)
  refine z_cweI (pc := 1802) S (wt_bestToCross_2 l hl0 X a d d2 B o g (xs (i + 1)) hf1) (vx_cwSW 3 hts gL_law_L_bestToCross rfl rfl rfl hdL_bestToCross ⟨Nat.le_of_ble_eq_true rfl, Nat.le_of_ble_eq_true rfl⟩) hP hK hN hT hD hS hA (s_W_BO X a d d2 B o g dm M) (f_W_BO X a d d2 B o g dm M B g) (show kc + 1 ≤ room_1.cells ∧ ks + 6 ≤ room_1.slots from ⟨by omega, by omega⟩) rfl hl.1 rfl (Nat.le_of_ble_eq_true rfl) dL_law_1802 (fun H locs hP hD hS => ?_)
  refine lv_istore (pc := 1805) (lv' := [(5, .int 1), (0, .ref b), (1, .ref a), (2, .ref (dm 0)), (3, .ref o), (4, .int u)]) hx hb dL_law_1805 hl (by decide) rfl (fun ls hl => ?_)
  refine lv_aload_n (pc := 1807) hx hb dL_law_1807 rfl (lv_at hl 3 rfl) ?_
  refine lv_aload_n (pc := 1808) hx hb dL_law_1808 rfl (lv_at hl 1 rfl) ?_
  refine lv_iload (pc := 1809) hx hb dL_law_1809 (lv_at hl 5 rfl) ?_
  refine lv_iconst (v := 1) (pc := 1811) hx hb dL_law_1811 (by decide) ?_
  refine lv_iadd (pc := 1812) hx hb dL_law_1812 ?_
  refine z_sld (pc := 1813) hx hb hX hbl hbA hS hL (i + 1) (z_oi i 1 hu 1 rfl) (by omega) dL_law_1813 ?_
  refine z_cmI (pc := 1814) (W1 := (z_wLw X a d d2 B o g dm R2.2)) S (m_X5_bestToCross l X dm M (xs (i + 1)) hf2) (cwV 1 hts gL_law_X5_bestToCross rfl rfl rfl hdX5_bestToCross ⟨Nat.le_of_ble_eq_true rfl, Nat.le_of_ble_eq_true rfl⟩) hP hK hN hD hS hA (s_W_M X a d d2 B o g dm M) (f_W_M X a d d2 B o g dm M R2.2) (ci := 5) rfl rfl rfl (show (kc + 1) ≤ room_1.cells ∧ (ks + 6) ≤ room_1.slots from ⟨by omega, by omega⟩) rfl hl.1 rfl (Nat.le_of_ble_eq_true rfl) dL_law_1814 (fun H locs hP hD hS => ?_)
  refine lv_istore (pc := 1817) (lv' := [(6, .int R2.1), (5, .int 1), (0, .ref b), (1, .ref a), (2, .ref (dm 0)), (3, .ref o), (4, .int u)]) hx hb dL_law_1817 hl (by decide) rfl (fun ls hl => ?_)
  refine lv_aload_n (pc := 1819) hx hb dL_law_1819 rfl (lv_at hl 4 rfl) ?_
  refine z_cpI (pc := 1820) S (m_X5_thrown l X dm R2.2 rfl) (cwV 0 hts gL_law_X5_thrown rfl rfl rfl hdX5_thrown ⟨Nat.le_of_ble_eq_true rfl, Nat.le_of_ble_eq_true rfl⟩) hP hK hN (s_W_M X a d d2 B o g dm R2.2) (ci := 5) rfl rfl rfl (show (kc + 1) ≤ room_1.cells ∧ (ks + 6) ≤ room_1.slots from ⟨by omega, by omega⟩) rfl hl.1 rfl (Nat.le_of_ble_eq_true rfl) dL_law_1820 ?_
  refine lv_iload (pc := 1823) hx hb dL_law_1823 (lv_at hl 1 rfl) ?_
  refine lv_icmp_eq (pc := 1825) (tgt := 1830) hx hb dL_law_1825 (by decide) (fun _ => ?_) (fun c_ => absurd h3 c_)
  refine lv_iload (pc := 1830) hx hb dL_law_1830 (lv_at hl 1 rfl) ?_
  refine lv_if_ne (pc := 1832) (tgt := 1847) hx hb dL_law_1832 (by decide) (fun _ => ?_) (fun c_ => absurd c_ (by decide))
  refine lv_goto (pc := 1847) (tgt := 1905) hx hb dL_law_1847 (by decide) ?_
  refine W.widen (k := kc + 20) (n := ks + 200) (by omega) (by omega) ?_
  exact kk H locs ls hP hD hS (lv_sub hl [2, 3, 4, 5, 6] rfl)
set_option maxHeartbeats 4000000 in
set_option maxRecDepth 100000 in
theorem lc_meanWait {p : Program} {l : Launch} {e : Env} {s : State} {m : MethodId} {below : List Frame} {meth : Method} {c : Code} {X : z_X} {b L : Nat} {xs : Nat → Int32} (C : z_LC p l s m meth c X b L xs) {a : Nat} {d d2 : Nat → Nat} {B : z_B} {o : Nat} {g : Nat → Int64} {dm : Nat → Nat} {M : z_M} {H : Heap} {locs : List Loc} {ls : Array Slot} {Q : State → Prop} {u : Int32} (kc ks : Nat) (hk : kc + 20 ≤ room_1.cells ∧ ks + 200 ≤ room_1.slots) (i : Nat) (hu : u = nI i) (hi : i + 3 < L) (hP : va_P X.1 vwCl (z_wLw X a d d2 B o g dm M) H) (hD : va_D (fun q : Nat => s.heap.size ≤ q) (z_wLw X a d d2 B o g dm M)) (hS : va_S (fun q : Nat => s.heap.size ≤ q) s.heap H locs) (hl : lv_has ls 9 [(0, .ref b), (1, .ref a), (2, .ref (dm 0)), (3, .ref o), (4, .int u)]) {R1 : UInt64} (hf1 : f_X4_meanWait B = some R1) {R2 : (UInt64 × z_M)} (hf2 : f_X5_meanWait M = some R2) (h4 : R1 = R2.1) (h5 : Op.cmpValue (FP.dcmp R1 R1) .l = 0) (kk : ∀ (H : Heap) (locs : List Loc) (ls : Array Slot), va_P X.1 vwCl (z_wLw X a d d2 B o g dm R2.2) H → va_D (fun q : Nat => s.heap.size ≤ q) (z_wLw X a d d2 B o g dm R2.2) → va_S (fun q : Nat => s.heap.size ≤ q) s.heap H locs → lv_has ls 9 [(0, .ref b), (1, .ref a), (2, .ref (dm 0)), (3, .ref o), (4, .int u)] → W p l e room_1 s m #[Value.ref b] below meth c H locs (kc + 20) (ks + 200) Q (F0 m 1905 ls [])) : W p l e room_1 s m #[Value.ref b] below meth c H locs kc ks Q (F0 m 1850 ls []) := by
  obtain ⟨hx, hb, hml, hown, hts, hK, hN, hX, hbl, hT0, hl0, hL⟩ := C
  have hA : ∀ q : Nat, s.heap.size ≤ q → (fun q : Nat => s.heap.size ≤ q) q := fun _ h => h
  have hbA : ¬ (fun q : Nat => s.heap.size ≤ q) b := Nat.not_le.mpr hbl
  have S : CallFix p m c cL_law 9 s #[Value.ref b] wsL_law RL := ⟨hx, hb, hml, hown, hts⟩
  refine lv_aload_n (pc := 1850) hx hb dL_law_1850 rfl (lv_at hl 1 rfl) ?_
  refine z_cpD (pc := 1851) S (m_X4_meanWait l X a d d2 B hf1) (cwV 0 hts gL_law_X4_meanWait rfl rfl rfl hdX4_meanWait ⟨Nat.le_of_ble_eq_true rfl, Nat.le_of_ble_eq_true rfl⟩) hP hK hN (s_W_B X a d d2 B o g dm M) (ci := 4) rfl rfl rfl (show kc ≤ room_1.cells ∧ ks ≤ room_1.slots from ⟨by omega, by omega⟩) rfl hl.1 rfl (Nat.le_of_ble_eq_true rfl) dL_law_1851 ?_
  refine lv_dstore (pc := 1854) (lv' := [(5, .double R1), (0, .ref b), (1, .ref a), (2, .ref (dm 0)), (3, .ref o), (4, .int u)]) hx hb dL_law_1854 hl (by decide) rfl (fun ls hl => ?_)
  refine lv_aload_n (pc := 1856) hx hb dL_law_1856 rfl (lv_at hl 3 rfl) ?_
  refine z_cmD (pc := 1857) (W1 := (z_wLw X a d d2 B o g dm R2.2)) S (m_X5_meanWait l X dm M hf2) (cwV 0 hts gL_law_X5_meanWait rfl rfl rfl hdX5_meanWait ⟨Nat.le_of_ble_eq_true rfl, Nat.le_of_ble_eq_true rfl⟩) hP hK hN hD hS hA (s_W_M X a d d2 B o g dm M) (f_W_M X a d d2 B o g dm M R2.2) (ci := 5) rfl rfl rfl (show kc ≤ room_1.cells ∧ ks ≤ room_1.slots from ⟨by omega, by omega⟩) rfl hl.1 rfl (Nat.le_of_ble_eq_true rfl) dL_law_1857 (fun H locs hP hD hS => ?_)
  refine lv_dstore (pc := 1860) (lv' := [(7, .double R2.1), (5, .double R1), (0, .ref b), (1, .ref a), (2, .ref (dm 0)), (3, .ref o), (4, .int u)]) hx hb dL_law_1860 hl (by decide) rfl (fun ls hl => ?_)
  refine lv_dload (pc := 1862) hx hb dL_law_1862 (lv_at hl 1 rfl) ?_
  refine lv_dload (pc := 1864) hx hb dL_law_1864 (lv_at hl 0 rfl) ?_
  refine lv_dcmp (pc := 1866) hx hb dL_law_1866 ?_
  refine lv_if_eq (pc := 1867) (tgt := 1888) hx hb dL_law_1867 (by decide) (fun _ => ?_) (fun c_ => absurd (show Op.cmpValue (FP.dcmp _ _) _ = 0 from by rw [← h4]; exact h5) c_)
  refine lv_goto (pc := 1888) (tgt := 1905) hx hb dL_law_1888 (by decide) ?_
  refine W.widen (k := kc + 20) (n := ks + 200) (by omega) (by omega) ?_
  exact kk H locs ls hP hD hS (lv_sub hl [2, 3, 4, 5, 6] rfl)
set_option maxHeartbeats 4000000 in
set_option maxRecDepth 100000 in
theorem lc_digest {p : Program} {l : Launch} {e : Env} {s : State} {m : MethodId} {below : List Frame} {meth : Method} {c : Code} {X : z_X} {b L : Nat} {xs : Nat → Int32} (C : z_LC p l s m meth c X b L xs) {a : Nat} {d d2 : Nat → Nat} {B : z_B} {o : Nat} {g : Nat → Int64} {dm : Nat → Nat} {M : z_M} {H : Heap} {locs : List Loc} {ls : Array Slot} {Q : State → Prop} {u : Int32} (kc ks : Nat) (hk : kc + 20 ≤ room_1.cells ∧ ks + 200 ≤ room_1.slots) (i : Nat) (hu : u = nI i) (hi : i + 3 < L) (hP : va_P X.1 vwCl (z_wLw X a d d2 B o g dm M) H) (hD : va_D (fun q : Nat => s.heap.size ≤ q) (z_wLw X a d d2 B o g dm M)) (hS : va_S (fun q : Nat => s.heap.size ≤ q) s.heap H locs) (hl : lv_has ls 9 [(0, .ref b), (1, .ref a), (2, .ref (dm 0)), (3, .ref o), (4, .int u)]) {R1 : (Int64 × z_B)} (hf1 : f_X4_digest B = some R1) {R2 : (Int64 × z_M)} (hf2 : f_X5_digest M = some R2) (h4 : R1.1 = R2.1) (kk : ∀ (H : Heap) (locs : List Loc) (ls : Array Slot), va_P X.1 vwCl (z_wLw X a d d2 R1.2 o g dm R2.2) H → va_D (fun q : Nat => s.heap.size ≤ q) (z_wLw X a d d2 R1.2 o g dm R2.2) → va_S (fun q : Nat => s.heap.size ≤ q) s.heap H locs → lv_has ls 9 [(0, .ref b), (1, .ref a), (2, .ref (dm 0)), (3, .ref o), (4, .int u)] → W p l e room_1 s m #[Value.ref b] below meth c H locs (kc + 20) (ks + 200) Q (F0 m 1905 ls [])) : W p l e room_1 s m #[Value.ref b] below meth c H locs kc ks Q (F0 m 1891 ls []) := by
  obtain ⟨hx, hb, hml, hown, hts, hK, hN, hX, hbl, hT0, hl0, hL⟩ := C
  have hA : ∀ q : Nat, s.heap.size ≤ q → (fun q : Nat => s.heap.size ≤ q) q := fun _ h => h
  have hbA : ¬ (fun q : Nat => s.heap.size ≤ q) b := Nat.not_le.mpr hbl
  have S : CallFix p m c cL_law 9 s #[Value.ref b] wsL_law RL := ⟨hx, hb, hml, hown, hts⟩
  refine lv_aload_n (pc := 1891) hx hb dL_law_1891 rfl (lv_at hl 1 rfl) ?_
  refine z_cmL (pc := 1892) (W1 := (z_wLw X a d d2 R1.2 o g dm M)) S (m_X4_digest l X a d d2 B hf1) (cwV 0 hts gL_law_X4_digest rfl rfl rfl hdX4_digest ⟨Nat.le_of_ble_eq_true rfl, Nat.le_of_ble_eq_true rfl⟩) hP hK hN hD hS hA (s_W_B X a d d2 B o g dm M) (f_W_B X a d d2 B o g dm M R1.2) (ci := 4) rfl rfl rfl (show kc ≤ room_1.cells ∧ ks ≤ room_1.slots from ⟨by omega, by omega⟩) rfl hl.1 rfl (Nat.le_of_ble_eq_true rfl) dL_law_1892 (fun H locs hP hD hS => ?_)
  refine lv_aload_n (pc := 1895) hx hb dL_law_1895 rfl (lv_at hl 2 rfl) ?_
  refine z_caL (pc := 1896) (W1 := (z_wLw X a d d2 R1.2 o g dm R2.2)) S (m_X5_digest l X dm M hf2) (cwV 0 hts gL_law_X5_digest rfl rfl rfl hdX5_digest ⟨Nat.le_of_ble_eq_true rfl, Nat.le_of_ble_eq_true rfl⟩) hP hK hN hD hS hA (s_W_M X a d d2 R1.2 o g dm M) (f_W_M X a d d2 R1.2 o g dm M R2.2) (ci := 5) rfl rfl rfl (show kc + 14 ≤ room_1.cells ∧ ks + 131 ≤ room_1.slots from ⟨by omega, by omega⟩) rfl hl.1 rfl (Nat.le_of_ble_eq_true rfl) dL_law_1896 (fun H locs hP hD hS => ?_)
  refine W.lcmp (pc := 1899) hx hb dL_law_1899 ?_
  refine lv_if_eq (pc := 1900) (tgt := 1905) hx hb dL_law_1900 (by decide) (fun _ => ?_) (fun c_ => absurd (show lg_cmp _ _ = 0 from by rw [← h4]; exact z_cmp0 _) c_)
  refine W.widen (k := kc + 20) (n := ks + 200) (by omega) (by omega) ?_
  exact kk H locs ls hP hD hS (lv_sub hl [0, 1, 2, 3, 4] rfl)
