def z_F13 : Nat := 13
def z_aL (l : Launch) (y : MethodName) (ws : List Cond) (fr lo mc ms : Nat) (X : z_X) (av : List Value) (w : va_W) (r : Int64) (w' : va_W) : Prop := ∀ sz : Nat, Met l y ws { frames := fr, cells := mc, slots := ms, locals := lo } (va_Pc av (z_Pm X w sz)) (va_Ql (fun (z : Int64) (u : va_W) => z = r ∧ u = w') (z_Bm X (va_A w sz)) (va_A w sz)) mc ms (va_A w sz)
theorem s_ME_M (X : z_X) (d : Nat → Nat) (M : z_M) (q n : Nat) (g : Nat → Int32) : z_S (z_wM X d M ++ [(q, .inl (X.2.1, n, .inl g))]) (z_wM X d M) := ⟨[0, 1, 2, 3, 4, 5, 6, 7, 8], rfl, rfl⟩
theorem f_ME_M (X : z_X) (d : Nat → Nat) (M : z_M) (q n : Nat) (g : Nat → Int32) (M2 : z_M) : z_F (z_wM X d M ++ [(q, .inl (X.2.1, n, .inl g))]) (z_wM X d M) (z_wM X d M2 ++ [(q, .inl (X.2.1, n, .inl g))]) (z_wM X d M2) := ⟨[0, 1, 2, 3, 4, 5, 6, 7, 8], [9], [1, 2, 3, 4, 5, 6, 7, 8, 9, 0], [(q, .inl (X.2.1, n, .inl g))], rfl, rfl, rfl, by decide, rfl, rfl⟩
theorem hdX5_digest : yX5_digest.cls = RX5 ∧ yX5_digest.cls ≠ "java/lang/invoke/MethodHandle" ∧ yX5_digest.cls ≠ "java/lang/invoke/VarHandle" ∧ (parseMethodDescriptor yX5_digest.desc).map (fun d => d.parameters.length) = some 0 := by decide +kernel
def f_X5_digest_L148  (g : Nat → Int32) : Nat → Int64 → Int32 → Int32 → z_M → Option (Int64 × z_M)
  | 0, _, _, _, _ => none
  | n + 1, u2, u5, u6, M => (if u5 ≤ u6 then some (u2, M) else (z_at g u6 14).bind (fun x159 => f_X5_digest_L148 g n ((u2 * 31) + x159.toInt64) u5 (u6 + 1) M))
def f_X5_digest_L306  (g : Nat → Int32) : Nat → Int64 → Int32 → Int32 → Int32 → z_M → Option (Int64 × Int32 × z_M)
  | 0, _, _, _, _, _ => none
  | n + 1, u2, u4, u7, u8, M => (if u7 ≤ u8 then some (u2, u4, M) else (z_at g u8 9).bind (fun x317 => f_X5_digest_L306 g n ((u2 * 31) + x317.toInt64) u4 u7 (u8 + 1) M))
def f_X5_digest_L181  : Nat → Int64 → Int32 → z_M → Option (Int64 × z_M)
  | 0, _, _, _ => none
  | n + 1, u2, u4, M => (if (M.1 1) ≤ u4 then some (u2, M) else (z_at (M.2 3) u4 12).bind (fun x202 => (z_wr (fun _ => 0) 0 9 x202).bind (fun x203 => (f_X5_leads M u4).bind (fun x209 => (z_wr x203 1 9 x209).bind (fun x212 => (z_at (M.2 4) u4 12).bind (fun x221 => (if x221 = 0 then (z_wr x212 2 9 0).bind (fun x230 => (z_at (M.2 6) (7 + u4) 55).bind (fun x242 => (z_wr x230 3 9 x242).bind (fun x243 => (f_X5_inLine M u4).bind (fun x249 => (z_wr x243 4 9 x249).bind (fun x252 => (f_X5_left M u4).bind (fun x258 => (z_wr x252 5 9 x258).bind (fun x261 => (f_X5_nearest M u4).bind (fun x268 => (z_wr x261 6 9 x268).bind (fun x271 => (f_X5_untilServed M u4).bind (fun x278 => (z_wr x271 7 9 x278.1).bind (fun x281 => (f_X5_best x278.2 u4).bind (fun x288 => (z_wr x281 8 9 x288.1).bind (fun x291 => (f_X5_digest_L306 x291 z_FU u2 u4 9 0 x288.2).bind (fun x306 => f_X5_digest_L181 n x306.1 (x306.2.1 + 1) x306.2.2)))))))))))))) else (z_wr x212 2 9 1).bind (fun x230 => (z_at (M.2 6) (7 + u4) 55).bind (fun x242 => (z_wr x230 3 9 x242).bind (fun x243 => (f_X5_inLine M u4).bind (fun x249 => (z_wr x243 4 9 x249).bind (fun x252 => (f_X5_left M u4).bind (fun x258 => (z_wr x252 5 9 x258).bind (fun x261 => (f_X5_nearest M u4).bind (fun x268 => (z_wr x261 6 9 x268).bind (fun x271 => (f_X5_untilServed M u4).bind (fun x278 => (z_wr x271 7 9 x278.1).bind (fun x281 => (f_X5_best x278.2 u4).bind (fun x288 => (z_wr x281 8 9 x288.1).bind (fun x291 => (f_X5_digest_L306 x291 z_FU u2 u4 9 0 x288.2).bind (fun x306 => f_X5_digest_L181 n x306.1 (x306.2.1 + 1) x306.2.2)))))))))))))))))))))
def f_X5_digest_L345  : Nat → Int64 → Int32 → z_M → Option (Int64 × z_M)
  | 0, _, _, _ => none
  | n + 1, u2, u4, M => (if (M.1 2) ≤ u4 then some (u2, M) else (z_at (M.2 6) (31 + u4) 55).bind (fun x368 => (f_X5_whom M u4 1).bind (fun x379 => (f_X5_whom M u4 2).bind (fun x392 => (z_at (M.2 6) (49 + u4) 55).bind (fun x410 => f_X5_digest_L345 n ((((((((u2 * 31) + x368.toInt64) * 31) + x379.toInt64) * 31) + x392.toInt64) * 31) + x410.toInt64) (u4 + 1) M)))))
def f_X5_digest (M : z_M) : Option (Int64 × z_M) := (z_at (M.2 6) 0 55).bind (fun x16 => (z_wr (fun _ => 0) 0 14 x16).bind (fun x17 => (z_wr x17 1 14 (M.1 1)).bind (fun x24 => (z_wr x24 2 14 (M.1 2)).bind (fun x31 => (z_at (M.2 6) 1 55).bind (fun x39 => (z_wr x31 3 14 x39).bind (fun x40 => (z_at (M.2 6) 2 55).bind (fun x48 => (z_wr x40 4 14 x48).bind (fun x49 => (z_at (M.2 6) 3 55).bind (fun x57 => (z_wr x49 5 14 x57).bind (fun x58 => (z_at (M.2 6) 4 55).bind (fun x67 => (z_wr x58 6 14 x67).bind (fun x68 => (z_at (M.2 6) 5 55).bind (fun x77 => (z_wr x68 7 14 x77).bind (fun x78 => (f_X5_longest (z_mS M 0 0)).bind (fun x83 => (z_wr x78 8 14 x83).bind (fun x86 => (f_X5_manyCrossed (z_mS M 0 0)).bind (fun x91 => (z_wr x86 9 14 x91).bind (fun x94 => (f_X5_crossings (z_mS M 0 0)).bind (fun x99 => (z_wr x94 10 14 x99).bind (fun x102 => (z_at (M.2 6) 6 55).bind (fun x112 => (z_wr x102 11 14 x112).bind (fun x113 => (f_X5_head (z_mS M 0 0)).bind (fun x118 => (z_wr x113 12 14 x118).bind (fun x121 => (f_X5_soon (z_mS M 0 0) 20).bind (fun x128 => (z_wr x121 13 14 x128.1).bind (fun x131 => (f_X5_digest_L148 x131 z_FU 2377 14 0 x128.2).bind (fun x148 => (f_X5_digest_L181 z_F13 x148.1 0 x148.2).bind (fun x181 => (f_X5_digest_L345 z_FU x181.1 0 x181.2).bind (fun x345 => some (x345.1, x345.2))))))))))))))))))))))))))))))
set_option maxHeartbeats 4000000 in
set_option maxRecDepth 100000 in
theorem m_X5_digest (l : Launch) (X : z_X) (d : Nat → Nat) (M : z_M) {RR : (Int64 × z_M)} (hf : f_X5_digest M = some RR) : z_aL l yX5_digest wsX5_digest 8 182 14 131 X [.ref (d 0)] (z_wM X d M) RR.1 (z_wM X d RR.2) := by
  intro sz
  refine Met.ofW (cc := cX5_digest) (maxL := 10) (ret := (some .long)) (by decide) rfl ?_
  intro p e s m args below meth c s₁ Bd hml hv
  obtain ⟨rfl, hsz, hP, hK, hN, hD0⟩ := hv
  have hx := Bd.exec
  have hb := Bd.bytes
  have hr := Bd.returns
  have hts := atoms_spec (ws := wsX5_digest) Bd.pre
  have hown : s.vm.findClass RX5 = some m.cls := findClass_of_methodNamed Bd.named
  have hlocks := Bd.notSynchronized
  have S : CallFix p m c cX5_digest 10 s _ wsX5_digest RX5 := ⟨hx, hb, hml, hown, hts⟩
  have lk_fi35 := hts (.fieldLink RX5 35 "HouseBellsModel" "thrown" "I") (List.mem_of_getElem? (i := 1) rfl)
  have lk_fi29 := hts (.fieldLink RX5 29 "HouseBellsModel" "now" "[I") (List.mem_of_getElem? (i := 3) rfl)
  have lk_fi39 := hts (.fieldLink RX5 39 "HouseBellsModel" "rooms" "I") (List.mem_of_getElem? (i := 4) rfl)
  have lk_fi46 := hts (.fieldLink RX5 46 "HouseBellsModel" "servants" "I") (List.mem_of_getElem? (i := 5) rfl)
  have lk_co172 := hts (.constantLong RX5 172 (2377)) (List.mem_of_getElem? (i := 6) rfl)
  have lk_co174 := hts (.constantLong RX5 174 (31)) (List.mem_of_getElem? (i := 7) rfl)
  have lk_fi19 := hts (.fieldLink RX5 19 "HouseBellsModel" "drop" "[I") (List.mem_of_getElem? (i := 8) rfl)
  have lk_fi22 := hts (.fieldLink RX5 22 "HouseBellsModel" "isCut" "[Z") (List.mem_of_getElem? (i := 9) rfl)
  have in_X5 : ∀ w ∈ wsX50, w ∈ wsX5_digest := fun _ h => (List.mem_cons_of_mem _ (List.mem_append_right _ h))
  subst hsz
  have hD := hD0.self (sz := s.heap.size)
  generalize hAe : va_A (z_wM X d M) s.heap.size = A at hD ⊢
  have hA : ∀ q : Nat, s.heap.size ≤ q → A q := fun q h => by rw [← hAe]; exact Or.inr h
  have hS : va_S A s.heap s.heap [] := va_S.rf
  have hl := lv_entry ([.ref (d 0)]) (n := 10) (Nat.le_of_ble_eq_true rfl)
  rw [lg_entry_eq]
  generalize (lg_sl ([.ref (d 0)]) ++ List.replicate (10 - (lg_sl ([.ref (d 0)])).length) Slot.unset).toArray = ls at hl ⊢
  have hl : lv_has ls 10 [(0, .ref (d 0))] := hl
  have lp_148 : ∀ (n : Nat) (kc ks : Nat) (hk : kc ≤ 14 ∧ ks ≤ 131) (qe : Nat) (g : Nat → Int32) (u2 : Int64) (u5 : Int32) (u6 : Int32) (M : z_M) (T : (Int64 × z_M)) (H : Heap) (locs : List Loc), va_P X.1 vwCl (z_wM X d M ++ [(qe, .inl (X.2.1, 14, .inl g))]) H → va_D A (z_wM X d M ++ [(qe, .inl (X.2.1, 14, .inl g))]) → va_S A s.heap H locs → ∀ (ls : Array Slot), lv_has ls 10 [(0, .ref (d 0)), (2, .long u2), (4, .ref qe), (5, .int u5), (6, .int u6)] → f_X5_digest_L148 g n u2 u5 u6 M = some T → (∀ (H : Heap) (locs : List Loc), va_P X.1 vwCl (z_wM X d T.2 ++ [(qe, .inl (X.2.1, 14, .inl g))]) H → va_D A (z_wM X d T.2 ++ [(qe, .inl (X.2.1, 14, .inl g))]) → va_S A s.heap H locs → ∀ (ls : Array Slot), lv_has ls 10 [(0, .ref (d 0)), (2, .long T.1)] → W p l e (headSpec wsX5_digest ({ frames := 8, cells := 14, slots := 131, locals := 182 } : Room)).room s m ([.ref (d 0)] : List Value).toArray below meth c H locs kc ks (MQ below (va_Ql (fun (z : Int64) (u : va_W) => z = RR.1 ∧ u = (z_wM X d RR.2)) (z_Bm X A) A) ([.ref (d 0)] : List Value).toArray s 14 131 A) (F0 m 178 ls [])) → W p l e (headSpec wsX5_digest ({ frames := 8, cells := 14, slots := 131, locals := 182 } : Room)).room s m ([.ref (d 0)] : List Value).toArray below meth c H locs kc ks (MQ below (va_Ql (fun (z : Int64) (u : va_W) => z = RR.1 ∧ u = (z_wM X d RR.2)) (z_Bm X A) A) ([.ref (d 0)] : List Value).toArray s 14 131 A) (F0 m 148 ls []) := by
    intro n
    induction n with
    | zero =>
      intro kc ks hk qe g u2 u5 u6 M T H locs hP hD hS ls hl hf kk
      cases hf
    | succ n ih =>
      intro kc ks hk qe g u2 u5 u6 M T H locs hP hD hS ls hl hf kk
      rw [f_X5_digest_L148] at hf
      refine lv_iload (pc := 148) hx hb dX5_digest_148 (lv_at hl 4 rfl) ?_
      refine lv_iload (pc := 150) hx hb dX5_digest_150 (lv_at hl 3 rfl) ?_
      refine lv_icmp_ge (pc := 152) (tgt := 178) hx hb dX5_digest_152 (by decide) (fun c_152 => ?_) (fun c_152 => ?_)
      · replace hf := z_ip c_152 hf
        obtain rfl := Option.some.inj hf
        exact kk H locs hP hD hS ls (lv_sub hl [0, 1] rfl)
      · replace hf := z_in c_152 hf
        refine lv_aload (pc := 155) hx hb dX5_digest_155 (lv_at hl 2 rfl) ?_
        refine lv_iload (pc := 157) hx hb dX5_digest_157 (lv_at hl 4 rfl) ?_
        obtain ⟨x159, e159, hf⟩ := z_bd hf
        refine z_iald (pc := 159) hx hb hK hP 9 0 rfl rfl e159 dX5_digest_159 ?_
        refine lv_istore (pc := 160) (lv' := [(7, .int x159), (0, .ref (d 0)), (2, .long u2), (4, .ref qe), (5, .int u5), (6, .int u6)]) hx hb dX5_digest_160 hl (by decide) rfl (fun ls hl => ?_)
        refine lv_lload_n (pc := 162) hx hb dX5_digest_162 rfl (lv_at hl 2 rfl) ?_
        refine lv_ldc2 (v := 31) (pc := 163) hx hb hown lk_co174 dX5_digest_163 ?_
        refine lv_lmul (pc := 166) hx hb dX5_digest_166 ?_
        refine lv_iload (pc := 167) hx hb dX5_digest_167 (lv_at hl 0 rfl) ?_
        refine lv_i2l (v := x159.toInt64) (pc := 169) hx hb dX5_digest_169 rfl ?_
        refine lv_ladd (pc := 170) hx hb dX5_digest_170 ?_
        refine lv_lstore_n (pc := 171) (lv' := [(2, .long ((u2 * 31) + x159.toInt64)), (7, .int x159), (0, .ref (d 0)), (4, .ref qe), (5, .int u5), (6, .int u6)]) hx hb dX5_digest_171 rfl hl (by decide) rfl (fun ls hl => ?_)
        refine lv_iinc (pc := 172) (v := (u6 + 1)) (lv' := [(6, .int (u6 + 1)), (2, .long ((u2 * 31) + x159.toInt64)), (7, .int x159), (0, .ref (d 0)), (4, .ref qe), (5, .int u5)]) hx hb dX5_digest_172 hl (k := 5) rfl rfl (by decide) rfl (fun ls hl => ?_)
        refine lv_goto (pc := 175) (tgt := 148) hx hb dX5_digest_175 (by decide) ?_
        exact ih kc ks hk qe g ((u2 * 31) + x159.toInt64) u5 (u6 + 1) M T H locs hP hD hS ls (lv_sub hl [3, 1, 4, 5, 0] rfl) hf kk
  have lp_306 : ∀ (n : Nat) (kc ks : Nat) (hk : kc ≤ 14 ∧ ks ≤ 131) (qe : Nat) (g : Nat → Int32) (u2 : Int64) (u4 : Int32) (u7 : Int32) (u8 : Int32) (M : z_M) (T : (Int64 × Int32 × z_M)) (H : Heap) (locs : List Loc), va_P X.1 vwCl (z_wM X d M ++ [(qe, .inl (X.2.1, 9, .inl g))]) H → va_D A (z_wM X d M ++ [(qe, .inl (X.2.1, 9, .inl g))]) → va_S A s.heap H locs → ∀ (ls : Array Slot), lv_has ls 10 [(0, .ref (d 0)), (2, .long u2), (4, .int u4), (6, .ref qe), (7, .int u7), (8, .int u8)] → f_X5_digest_L306 g n u2 u4 u7 u8 M = some T → (∀ (H : Heap) (locs : List Loc), va_P X.1 vwCl (z_wM X d T.2.2 ++ [(qe, .inl (X.2.1, 9, .inl g))]) H → va_D A (z_wM X d T.2.2 ++ [(qe, .inl (X.2.1, 9, .inl g))]) → va_S A s.heap H locs → ∀ (ls : Array Slot), lv_has ls 10 [(0, .ref (d 0)), (2, .long T.1), (4, .int T.2.1)] → W p l e (headSpec wsX5_digest ({ frames := 8, cells := 14, slots := 131, locals := 182 } : Room)).room s m ([.ref (d 0)] : List Value).toArray below meth c H locs kc ks (MQ below (va_Ql (fun (z : Int64) (u : va_W) => z = RR.1 ∧ u = (z_wM X d RR.2)) (z_Bm X A) A) ([.ref (d 0)] : List Value).toArray s 14 131 A) (F0 m 336 ls [])) → W p l e (headSpec wsX5_digest ({ frames := 8, cells := 14, slots := 131, locals := 182 } : Room)).room s m ([.ref (d 0)] : List Value).toArray below meth c H locs kc ks (MQ below (va_Ql (fun (z : Int64) (u : va_W) => z = RR.1 ∧ u = (z_wM X d RR.2)) (z_Bm X A) A) ([.ref (d 0)] : List Value).toArray s 14 131 A) (F0 m 306 ls []) := by
    intro n
    induction n with
    | zero =>
      intro kc ks hk qe g u2 u4 u7 u8 M T H locs hP hD hS ls hl hf kk
      cases hf
    | succ n ih =>
      intro kc ks hk qe g u2 u4 u7 u8 M T H locs hP hD hS ls hl hf kk
      rw [f_X5_digest_L306] at hf
      refine lv_iload (pc := 306) hx hb dX5_digest_306 (lv_at hl 5 rfl) ?_
      refine lv_iload (pc := 308) hx hb dX5_digest_308 (lv_at hl 4 rfl) ?_
      refine lv_icmp_ge (pc := 310) (tgt := 336) hx hb dX5_digest_310 (by decide) (fun c_310 => ?_) (fun c_310 => ?_)
      · replace hf := z_ip c_310 hf
        obtain rfl := Option.some.inj hf
        exact kk H locs hP hD hS ls (lv_sub hl [0, 1, 2] rfl)
      · replace hf := z_in c_310 hf
        refine lv_aload (pc := 313) hx hb dX5_digest_313 (lv_at hl 3 rfl) ?_
        refine lv_iload (pc := 315) hx hb dX5_digest_315 (lv_at hl 5 rfl) ?_
        obtain ⟨x317, e317, hf⟩ := z_bd hf
        refine z_iald (pc := 317) hx hb hK hP 9 0 rfl rfl e317 dX5_digest_317 ?_
        refine lv_istore (pc := 318) (lv' := [(9, .int x317), (0, .ref (d 0)), (2, .long u2), (4, .int u4), (6, .ref qe), (7, .int u7), (8, .int u8)]) hx hb dX5_digest_318 hl (by decide) rfl (fun ls hl => ?_)
        refine lv_lload_n (pc := 320) hx hb dX5_digest_320 rfl (lv_at hl 2 rfl) ?_
        refine lv_ldc2 (v := 31) (pc := 321) hx hb hown lk_co174 dX5_digest_321 ?_
        refine lv_lmul (pc := 324) hx hb dX5_digest_324 ?_
        refine lv_iload (pc := 325) hx hb dX5_digest_325 (lv_at hl 0 rfl) ?_
        refine lv_i2l (v := x317.toInt64) (pc := 327) hx hb dX5_digest_327 rfl ?_
        refine lv_ladd (pc := 328) hx hb dX5_digest_328 ?_
        refine lv_lstore_n (pc := 329) (lv' := [(2, .long ((u2 * 31) + x317.toInt64)), (9, .int x317), (0, .ref (d 0)), (4, .int u4), (6, .ref qe), (7, .int u7), (8, .int u8)]) hx hb dX5_digest_329 rfl hl (by decide) rfl (fun ls hl => ?_)
        refine lv_iinc (pc := 330) (v := (u8 + 1)) (lv' := [(8, .int (u8 + 1)), (2, .long ((u2 * 31) + x317.toInt64)), (9, .int x317), (0, .ref (d 0)), (4, .int u4), (6, .ref qe), (7, .int u7)]) hx hb dX5_digest_330 hl (k := 6) rfl rfl (by decide) rfl (fun ls hl => ?_)
        refine lv_goto (pc := 333) (tgt := 306) hx hb dX5_digest_333 (by decide) ?_
        exact ih kc ks hk qe g ((u2 * 31) + x317.toInt64) u4 u7 (u8 + 1) M T H locs hP hD hS ls (lv_sub hl [3, 1, 4, 5, 6, 0] rfl) hf kk
  have lp_181 : ∀ (n : Nat) (kc ks : Nat) (hk : kc + n ≤ 14 ∧ ks + 9 * n ≤ 131) (u2 : Int64) (u4 : Int32) (M : z_M) (T : (Int64 × z_M)) (H : Heap) (locs : List Loc), va_P X.1 vwCl (z_wM X d M) H → va_D A (z_wM X d M) → va_S A s.heap H locs → ∀ (ls : Array Slot), lv_has ls 10 [(0, .ref (d 0)), (2, .long u2), (4, .int u4)] → f_X5_digest_L181 n u2 u4 M = some T → (∀ (kc ks : Nat) (_ : kc ≤ 14 ∧ ks ≤ 131) (H : Heap) (locs : List Loc), va_P X.1 vwCl (z_wM X d T.2) H → va_D A (z_wM X d T.2) → va_S A s.heap H locs → ∀ (ls : Array Slot), lv_has ls 10 [(0, .ref (d 0)), (2, .long T.1)] → W p l e (headSpec wsX5_digest ({ frames := 8, cells := 14, slots := 131, locals := 182 } : Room)).room s m ([.ref (d 0)] : List Value).toArray below meth c H locs kc ks (MQ below (va_Ql (fun (z : Int64) (u : va_W) => z = RR.1 ∧ u = (z_wM X d RR.2)) (z_Bm X A) A) ([.ref (d 0)] : List Value).toArray s 14 131 A) (F0 m 342 ls [])) → W p l e (headSpec wsX5_digest ({ frames := 8, cells := 14, slots := 131, locals := 182 } : Room)).room s m ([.ref (d 0)] : List Value).toArray below meth c H locs kc ks (MQ below (va_Ql (fun (z : Int64) (u : va_W) => z = RR.1 ∧ u = (z_wM X d RR.2)) (z_Bm X A) A) ([.ref (d 0)] : List Value).toArray s 14 131 A) (F0 m 181 ls []) := by
    intro n
    induction n with
    | zero =>
      intro kc ks hk u2 u4 M T H locs hP hD hS ls hl hf kk
      cases hf
    | succ n ih =>
      intro kc ks hk u2 u4 M T H locs hP hD hS ls hl hf kk
      rw [f_X5_digest_L181] at hf
      refine lv_iload (pc := 181) hx hb dX5_digest_181 (lv_at hl 2 rfl) ?_
      refine lv_aload_n (pc := 183) hx hb dX5_digest_183 rfl (lv_at hl 0 rfl) ?_
      refine va_get (pc := 184) (ci := 5) (C := RX5) (T := TX5) (N := 11) hx hb hts in_X5 hown hK hP 0 rfl rfl 1 (by decide) lk_fi39 (fun _ h9 => h9) rfl dX5_digest_184 ?_
      refine lv_icmp_ge (pc := 187) (tgt := 342) hx hb dX5_digest_187 (by decide) (fun c_187 => ?_) (fun c_187 => ?_)
      · replace hf := z_ip c_187 hf
        obtain rfl := Option.some.inj hf
        exact kk kc ks (by omega) H locs hP hD hS ls (lv_sub hl [0, 1] rfl)
      · replace hf := z_in c_187 hf
        refine lv_bipush (v := 9) (pc := 190) hx hb dX5_digest_190 (by decide) ?_
        refine z_newa (pc := 192) (atype := .int) (ty := .int) (N' := 9) (a0 := (9, .inl (fun _ => 0))) hx hb (hts (.arrayClass .int) (List.mem_of_getElem? (i := 2) rfl)) rfl hK hP hD hS hA 0 rfl (fun _ h => nomatch h) (fun _ => rfl) (by decide) rfl (by decide) (show kc + 1 ≤ 14 from by omega) (show ks + 9 ≤ 131 from by omega) dX5_digest_192 (fun q192 H hP hD hS => ?_)
        have hP : va_P X.1 vwCl (z_wM X d M ++ [(q192, .inl (X.2.1, 9, .inl (fun _ => 0)))]) H := hP
        have hD : va_D A (z_wM X d M ++ [(q192, .inl (X.2.1, 9, .inl (fun _ => 0)))]) := hD
        refine lv_dup (pc := 194) hx hb dX5_digest_194 rfl ?_
        refine lv_iconst (v := 0) (pc := 195) hx hb dX5_digest_195 (by decide) ?_
        refine lv_aload_n (pc := 196) hx hb dX5_digest_196 rfl (lv_at hl 0 rfl) ?_
        refine va_get (pc := 197) (ci := 5) (C := RX5) (T := TX5) (N := 11) hx hb hts in_X5 hown hK hP 0 rfl rfl 6 (by decide) lk_fi19 (fun _ h9 => h9) rfl dX5_digest_197 ?_
        refine lv_iload (pc := 200) hx hb dX5_digest_200 (lv_at hl 2 rfl) ?_
        obtain ⟨x202, e202, hf⟩ := z_bd hf
        refine z_iald (pc := 202) hx hb hK hP 4 0 rfl rfl e202 dX5_digest_202 ?_
        obtain ⟨x203, e203, hf⟩ := z_bd hf
        refine z_iast (pc := 203) (W1 := (z_wM X d M ++ [(q192, .inl (X.2.1, 9, .inl x203))])) hx hb hK hP hD hS 9 0 rfl rfl e203 rfl dX5_digest_203 (fun H locs hP hD hS => ?_)
        refine lv_dup (pc := 204) hx hb dX5_digest_204 rfl ?_
        refine lv_iconst (v := 1) (pc := 205) hx hb dX5_digest_205 (by decide) ?_
        refine lv_aload_n (pc := 206) hx hb dX5_digest_206 rfl (lv_at hl 0 rfl) ?_
        refine lv_iload (pc := 207) hx hb dX5_digest_207 (lv_at hl 2 rfl) ?_
        obtain ⟨x209, e209, hf⟩ := z_bd hf
        refine z_cpI (pc := 209) S (m_X5_leads l X d M u4 e209) (cwV 1 hts gX5_digest_X5_leads rfl rfl rfl hdX5_leads ⟨Nat.le_of_ble_eq_true rfl, Nat.le_of_ble_eq_true rfl⟩) hP hK hN (s_ME_M X d M q192 9 x203) (ci := 5) rfl rfl rfl (show (kc + 1) ≤ 14 ∧ (ks + 9) ≤ 131 from ⟨by omega, by omega⟩) rfl hl.1 rfl (Nat.le_of_ble_eq_true rfl) dX5_digest_209 ?_
        obtain ⟨x212, e212, hf⟩ := z_bd hf
        refine z_iast (pc := 212) (W1 := (z_wM X d M ++ [(q192, .inl (X.2.1, 9, .inl x212))])) hx hb hK hP hD hS 9 0 rfl rfl e212 rfl dX5_digest_212 (fun H locs hP hD hS => ?_)
        refine lv_dup (pc := 213) hx hb dX5_digest_213 rfl ?_
        refine lv_iconst (v := 2) (pc := 214) hx hb dX5_digest_214 (by decide) ?_
        refine lv_aload_n (pc := 215) hx hb dX5_digest_215 rfl (lv_at hl 0 rfl) ?_
        refine va_get (pc := 216) (ci := 5) (C := RX5) (T := TX5) (N := 11) hx hb hts in_X5 hown hK hP 0 rfl rfl 7 (by decide) lk_fi22 (fun _ h9 => h9) rfl dX5_digest_216 ?_
        refine lv_iload (pc := 219) hx hb dX5_digest_219 (lv_at hl 2 rfl) ?_
        obtain ⟨x221, e221, hf⟩ := z_bd hf
        refine z_zald (pc := 221) hx hb hK hP 5 1 rfl rfl e221 dX5_digest_221 ?_
        refine lv_if_eq (pc := 222) (tgt := 229) hx hb dX5_digest_222 (by decide) (fun c_222 => ?_) (fun c_222 => ?_)
        · replace hf := z_ip c_222 hf
          refine lv_iconst (v := 0) (pc := 229) hx hb dX5_digest_229 (by decide) ?_
          obtain ⟨x230, e230, hf⟩ := z_bd hf
          refine z_iast (pc := 230) (W1 := (z_wM X d M ++ [(q192, .inl (X.2.1, 9, .inl x230))])) hx hb hK hP hD hS 9 0 rfl rfl e230 rfl dX5_digest_230 (fun H locs hP hD hS => ?_)
          refine lv_dup (pc := 231) hx hb dX5_digest_231 rfl ?_
          refine lv_iconst (v := 3) (pc := 232) hx hb dX5_digest_232 (by decide) ?_
          refine lv_aload_n (pc := 233) hx hb dX5_digest_233 rfl (lv_at hl 0 rfl) ?_
          refine va_get (pc := 234) (ci := 5) (C := RX5) (T := TX5) (N := 11) hx hb hts in_X5 hown hK hP 0 rfl rfl 9 (by decide) lk_fi29 (fun _ h9 => h9) rfl dX5_digest_234 ?_
          refine lv_bipush (v := 7) (pc := 237) hx hb dX5_digest_237 (by decide) ?_
          refine lv_iload (pc := 239) hx hb dX5_digest_239 (lv_at hl 2 rfl) ?_
          refine lv_iadd (pc := 241) hx hb dX5_digest_241 ?_
          obtain ⟨x242, e242, hf⟩ := z_bd hf
          refine z_iald (pc := 242) hx hb hK hP 7 0 rfl rfl e242 dX5_digest_242 ?_
          obtain ⟨x243, e243, hf⟩ := z_bd hf
          refine z_iast (pc := 243) (W1 := (z_wM X d M ++ [(q192, .inl (X.2.1, 9, .inl x243))])) hx hb hK hP hD hS 9 0 rfl rfl e243 rfl dX5_digest_243 (fun H locs hP hD hS => ?_)
          refine lv_dup (pc := 244) hx hb dX5_digest_244 rfl ?_
          refine lv_iconst (v := 4) (pc := 245) hx hb dX5_digest_245 (by decide) ?_
          refine lv_aload_n (pc := 246) hx hb dX5_digest_246 rfl (lv_at hl 0 rfl) ?_
          refine lv_iload (pc := 247) hx hb dX5_digest_247 (lv_at hl 2 rfl) ?_
          obtain ⟨x249, e249, hf⟩ := z_bd hf
          refine z_cpI (pc := 249) S (m_X5_inLine l X d M u4 e249) (cwV 1 hts gX5_digest_X5_inLine rfl rfl rfl hdX5_inLine ⟨Nat.le_of_ble_eq_true rfl, Nat.le_of_ble_eq_true rfl⟩) hP hK hN (s_ME_M X d M q192 9 x243) (ci := 5) rfl rfl rfl (show (kc + 1) ≤ 14 ∧ (ks + 9) ≤ 131 from ⟨by omega, by omega⟩) rfl hl.1 rfl (Nat.le_of_ble_eq_true rfl) dX5_digest_249 ?_
          obtain ⟨x252, e252, hf⟩ := z_bd hf
          refine z_iast (pc := 252) (W1 := (z_wM X d M ++ [(q192, .inl (X.2.1, 9, .inl x252))])) hx hb hK hP hD hS 9 0 rfl rfl e252 rfl dX5_digest_252 (fun H locs hP hD hS => ?_)
          refine lv_dup (pc := 253) hx hb dX5_digest_253 rfl ?_
          refine lv_iconst (v := 5) (pc := 254) hx hb dX5_digest_254 (by decide) ?_
          refine lv_aload_n (pc := 255) hx hb dX5_digest_255 rfl (lv_at hl 0 rfl) ?_
          refine lv_iload (pc := 256) hx hb dX5_digest_256 (lv_at hl 2 rfl) ?_
          obtain ⟨x258, e258, hf⟩ := z_bd hf
          refine z_cpI (pc := 258) S (m_X5_left l X d M u4 e258) (cwV 1 hts gX5_digest_X5_left rfl rfl rfl hdX5_left ⟨Nat.le_of_ble_eq_true rfl, Nat.le_of_ble_eq_true rfl⟩) hP hK hN (s_ME_M X d M q192 9 x252) (ci := 5) rfl rfl rfl (show (kc + 1) ≤ 14 ∧ (ks + 9) ≤ 131 from ⟨by omega, by omega⟩) rfl hl.1 rfl (Nat.le_of_ble_eq_true rfl) dX5_digest_258 ?_
          obtain ⟨x261, e261, hf⟩ := z_bd hf
          refine z_iast (pc := 261) (W1 := (z_wM X d M ++ [(q192, .inl (X.2.1, 9, .inl x261))])) hx hb hK hP hD hS 9 0 rfl rfl e261 rfl dX5_digest_261 (fun H locs hP hD hS => ?_)
          refine lv_dup (pc := 262) hx hb dX5_digest_262 rfl ?_
          refine lv_bipush (v := 6) (pc := 263) hx hb dX5_digest_263 (by decide) ?_
          refine lv_aload_n (pc := 265) hx hb dX5_digest_265 rfl (lv_at hl 0 rfl) ?_
          refine lv_iload (pc := 266) hx hb dX5_digest_266 (lv_at hl 2 rfl) ?_
          obtain ⟨x268, e268, hf⟩ := z_bd hf
          refine z_cpI (pc := 268) S (m_X5_nearest l X d M u4 e268) (cwV 1 hts gX5_digest_X5_nearest rfl rfl rfl hdX5_nearest ⟨Nat.le_of_ble_eq_true rfl, Nat.le_of_ble_eq_true rfl⟩) hP hK hN (s_ME_M X d M q192 9 x261) (ci := 5) rfl rfl rfl (show (kc + 1) ≤ 14 ∧ (ks + 9) ≤ 131 from ⟨by omega, by omega⟩) rfl hl.1 rfl (Nat.le_of_ble_eq_true rfl) dX5_digest_268 ?_
          obtain ⟨x271, e271, hf⟩ := z_bd hf
          refine z_iast (pc := 271) (W1 := (z_wM X d M ++ [(q192, .inl (X.2.1, 9, .inl x271))])) hx hb hK hP hD hS 9 0 rfl rfl e271 rfl dX5_digest_271 (fun H locs hP hD hS => ?_)
          refine lv_dup (pc := 272) hx hb dX5_digest_272 rfl ?_
          refine lv_bipush (v := 7) (pc := 273) hx hb dX5_digest_273 (by decide) ?_
          refine lv_aload_n (pc := 275) hx hb dX5_digest_275 rfl (lv_at hl 0 rfl) ?_
          refine lv_iload (pc := 276) hx hb dX5_digest_276 (lv_at hl 2 rfl) ?_
          obtain ⟨x278, e278, hf⟩ := z_bd hf
          refine z_cmI (pc := 278) (W1 := (z_wM X d x278.2 ++ [(q192, .inl (X.2.1, 9, .inl x271))])) S (m_X5_untilServed l X d M u4 e278) (cwV 1 hts gX5_digest_X5_untilServed rfl rfl rfl hdX5_untilServed ⟨Nat.le_of_ble_eq_true rfl, Nat.le_of_ble_eq_true rfl⟩) hP hK hN hD hS hA (s_ME_M X d M q192 9 x271) (f_ME_M X d M q192 9 x271 x278.2) (ci := 5) rfl rfl rfl (show (kc + 1) ≤ 14 ∧ (ks + 9) ≤ 131 from ⟨by omega, by omega⟩) rfl hl.1 rfl (Nat.le_of_ble_eq_true rfl) dX5_digest_278 (fun H locs hP hD hS => ?_)
          obtain ⟨x281, e281, hf⟩ := z_bd hf
          refine z_iast (pc := 281) (W1 := (z_wM X d x278.2 ++ [(q192, .inl (X.2.1, 9, .inl x281))])) hx hb hK hP hD hS 9 0 rfl rfl e281 rfl dX5_digest_281 (fun H locs hP hD hS => ?_)
          refine lv_dup (pc := 282) hx hb dX5_digest_282 rfl ?_
          refine lv_bipush (v := 8) (pc := 283) hx hb dX5_digest_283 (by decide) ?_
          refine lv_aload_n (pc := 285) hx hb dX5_digest_285 rfl (lv_at hl 0 rfl) ?_
          refine lv_iload (pc := 286) hx hb dX5_digest_286 (lv_at hl 2 rfl) ?_
          obtain ⟨x288, e288, hf⟩ := z_bd hf
          refine z_cmI (pc := 288) (W1 := (z_wM X d x288.2 ++ [(q192, .inl (X.2.1, 9, .inl x281))])) S (m_X5_best l X d x278.2 u4 e288) (cwV 1 hts gX5_digest_X5_best rfl rfl rfl hdX5_best ⟨Nat.le_of_ble_eq_true rfl, Nat.le_of_ble_eq_true rfl⟩) hP hK hN hD hS hA (s_ME_M X d x278.2 q192 9 x281) (f_ME_M X d x278.2 q192 9 x281 x288.2) (ci := 5) rfl rfl rfl (show (kc + 1) ≤ 14 ∧ (ks + 9) ≤ 131 from ⟨by omega, by omega⟩) rfl hl.1 rfl (Nat.le_of_ble_eq_true rfl) dX5_digest_288 (fun H locs hP hD hS => ?_)
          obtain ⟨x291, e291, hf⟩ := z_bd hf
          refine z_iast (pc := 291) (W1 := (z_wM X d x288.2 ++ [(q192, .inl (X.2.1, 9, .inl x291))])) hx hb hK hP hD hS 9 0 rfl rfl e291 rfl dX5_digest_291 (fun H locs hP hD hS => ?_)
          refine lv_astore (pc := 292) (lv' := [(5, .ref q192), (0, .ref (d 0)), (2, .long u2), (4, .int u4)]) hx hb dX5_digest_292 hl (by decide) rfl (fun ls hl => ?_)
          refine lv_aload (pc := 294) hx hb dX5_digest_294 (lv_at hl 0 rfl) ?_
          refine lv_astore (pc := 296) (lv' := [(6, .ref q192), (5, .ref q192), (0, .ref (d 0)), (2, .long u2), (4, .int u4)]) hx hb dX5_digest_296 hl (by decide) rfl (fun ls hl => ?_)
          refine lv_aload (pc := 298) hx hb dX5_digest_298 (lv_at hl 0 rfl) ?_
          refine va_alen (v := 9) (pc := 300) hx hb hK hP 9 0 rfl rfl rfl dX5_digest_300 ?_
          refine lv_istore (pc := 301) (lv' := [(7, .int 9), (6, .ref q192), (5, .ref q192), (0, .ref (d 0)), (2, .long u2), (4, .int u4)]) hx hb dX5_digest_301 hl (by decide) rfl (fun ls hl => ?_)
          refine lv_iconst (v := 0) (pc := 303) hx hb dX5_digest_303 (by decide) ?_
          refine lv_istore (pc := 304) (lv' := [(8, .int 0), (7, .int 9), (6, .ref q192), (5, .ref q192), (0, .ref (d 0)), (2, .long u2), (4, .int u4)]) hx hb dX5_digest_304 hl (by decide) rfl (fun ls hl => ?_)
          obtain ⟨x306, e306, hf⟩ := z_bd hf
          refine lp_306 z_FU (kc + 1) (ks + 9) (by omega) q192 x291 u2 u4 9 0 x288.2 x306 H locs hP hD hS ls (lv_sub hl [4, 5, 6, 2, 1, 0] rfl) e306 (fun H locs hP hD hS ls hl => ?_)
          refine lv_iinc (pc := 336) (v := (x306.2.1 + 1)) (lv' := [(4, .int (x306.2.1 + 1)), (0, .ref (d 0)), (2, .long x306.1)]) hx hb dX5_digest_336 hl (k := 2) rfl rfl (by decide) rfl (fun ls hl => ?_)
          refine lv_goto (pc := 339) (tgt := 181) hx hb dX5_digest_339 (by decide) ?_
          have hP := z_subP (ws' := (z_wM X d x306.2.2)) hP [0, 1, 2, 3, 4, 5, 6, 7, 8] rfl
          have hD := hD.sub (ws' := (z_wM X d x306.2.2)) [0, 1, 2, 3, 4, 5, 6, 7, 8] rfl rfl
          exact ih (kc + 1) (ks + 9) (by omega) x306.1 (x306.2.1 + 1) x306.2.2 T H locs hP hD hS ls (lv_sub hl [1, 2, 0] rfl) hf kk
        · replace hf := z_in c_222 hf
          refine lv_iconst (v := 1) (pc := 225) hx hb dX5_digest_225 (by decide) ?_
          refine lv_goto (pc := 226) (tgt := 230) hx hb dX5_digest_226 (by decide) ?_
          obtain ⟨x230, e230, hf⟩ := z_bd hf
          refine z_iast (pc := 230) (W1 := (z_wM X d M ++ [(q192, .inl (X.2.1, 9, .inl x230))])) hx hb hK hP hD hS 9 0 rfl rfl e230 rfl dX5_digest_230 (fun H locs hP hD hS => ?_)
          refine lv_dup (pc := 231) hx hb dX5_digest_231 rfl ?_
          refine lv_iconst (v := 3) (pc := 232) hx hb dX5_digest_232 (by decide) ?_
          refine lv_aload_n (pc := 233) hx hb dX5_digest_233 rfl (lv_at hl 0 rfl) ?_
          refine va_get (pc := 234) (ci := 5) (C := RX5) (T := TX5) (N := 11) hx hb hts in_X5 hown hK hP 0 rfl rfl 9 (by decide) lk_fi29 (fun _ h9 => h9) rfl dX5_digest_234 ?_
          refine lv_bipush (v := 7) (pc := 237) hx hb dX5_digest_237 (by decide) ?_
          refine lv_iload (pc := 239) hx hb dX5_digest_239 (lv_at hl 2 rfl) ?_
          refine lv_iadd (pc := 241) hx hb dX5_digest_241 ?_
          obtain ⟨x242, e242, hf⟩ := z_bd hf
          refine z_iald (pc := 242) hx hb hK hP 7 0 rfl rfl e242 dX5_digest_242 ?_
          obtain ⟨x243, e243, hf⟩ := z_bd hf
          refine z_iast (pc := 243) (W1 := (z_wM X d M ++ [(q192, .inl (X.2.1, 9, .inl x243))])) hx hb hK hP hD hS 9 0 rfl rfl e243 rfl dX5_digest_243 (fun H locs hP hD hS => ?_)
          refine lv_dup (pc := 244) hx hb dX5_digest_244 rfl ?_
          refine lv_iconst (v := 4) (pc := 245) hx hb dX5_digest_245 (by decide) ?_
          refine lv_aload_n (pc := 246) hx hb dX5_digest_246 rfl (lv_at hl 0 rfl) ?_
          refine lv_iload (pc := 247) hx hb dX5_digest_247 (lv_at hl 2 rfl) ?_
          obtain ⟨x249, e249, hf⟩ := z_bd hf
          refine z_cpI (pc := 249) S (m_X5_inLine l X d M u4 e249) (cwV 1 hts gX5_digest_X5_inLine rfl rfl rfl hdX5_inLine ⟨Nat.le_of_ble_eq_true rfl, Nat.le_of_ble_eq_true rfl⟩) hP hK hN (s_ME_M X d M q192 9 x243) (ci := 5) rfl rfl rfl (show (kc + 1) ≤ 14 ∧ (ks + 9) ≤ 131 from ⟨by omega, by omega⟩) rfl hl.1 rfl (Nat.le_of_ble_eq_true rfl) dX5_digest_249 ?_
          obtain ⟨x252, e252, hf⟩ := z_bd hf
          refine z_iast (pc := 252) (W1 := (z_wM X d M ++ [(q192, .inl (X.2.1, 9, .inl x252))])) hx hb hK hP hD hS 9 0 rfl rfl e252 rfl dX5_digest_252 (fun H locs hP hD hS => ?_)
          refine lv_dup (pc := 253) hx hb dX5_digest_253 rfl ?_
          refine lv_iconst (v := 5) (pc := 254) hx hb dX5_digest_254 (by decide) ?_
          refine lv_aload_n (pc := 255) hx hb dX5_digest_255 rfl (lv_at hl 0 rfl) ?_
          refine lv_iload (pc := 256) hx hb dX5_digest_256 (lv_at hl 2 rfl) ?_
          obtain ⟨x258, e258, hf⟩ := z_bd hf
          refine z_cpI (pc := 258) S (m_X5_left l X d M u4 e258) (cwV 1 hts gX5_digest_X5_left rfl rfl rfl hdX5_left ⟨Nat.le_of_ble_eq_true rfl, Nat.le_of_ble_eq_true rfl⟩) hP hK hN (s_ME_M X d M q192 9 x252) (ci := 5) rfl rfl rfl (show (kc + 1) ≤ 14 ∧ (ks + 9) ≤ 131 from ⟨by omega, by omega⟩) rfl hl.1 rfl (Nat.le_of_ble_eq_true rfl) dX5_digest_258 ?_
          obtain ⟨x261, e261, hf⟩ := z_bd hf
          refine z_iast (pc := 261) (W1 := (z_wM X d M ++ [(q192, .inl (X.2.1, 9, .inl x261))])) hx hb hK hP hD hS 9 0 rfl rfl e261 rfl dX5_digest_261 (fun H locs hP hD hS => ?_)
          refine lv_dup (pc := 262) hx hb dX5_digest_262 rfl ?_
          refine lv_bipush (v := 6) (pc := 263) hx hb dX5_digest_263 (by decide) ?_
          refine lv_aload_n (pc := 265) hx hb dX5_digest_265 rfl (lv_at hl 0 rfl) ?_
          refine lv_iload (pc := 266) hx hb dX5_digest_266 (lv_at hl 2 rfl) ?_
          obtain ⟨x268, e268, hf⟩ := z_bd hf
          refine z_cpI (pc := 268) S (m_X5_nearest l X d M u4 e268) (cwV 1 hts gX5_digest_X5_nearest rfl rfl rfl hdX5_nearest ⟨Nat.le_of_ble_eq_true rfl, Nat.le_of_ble_eq_true rfl⟩) hP hK hN (s_ME_M X d M q192 9 x261) (ci := 5) rfl rfl rfl (show (kc + 1) ≤ 14 ∧ (ks + 9) ≤ 131 from ⟨by omega, by omega⟩) rfl hl.1 rfl (Nat.le_of_ble_eq_true rfl) dX5_digest_268 ?_
          obtain ⟨x271, e271, hf⟩ := z_bd hf
          refine z_iast (pc := 271) (W1 := (z_wM X d M ++ [(q192, .inl (X.2.1, 9, .inl x271))])) hx hb hK hP hD hS 9 0 rfl rfl e271 rfl dX5_digest_271 (fun H locs hP hD hS => ?_)
          refine lv_dup (pc := 272) hx hb dX5_digest_272 rfl ?_
          refine lv_bipush (v := 7) (pc := 273) hx hb dX5_digest_273 (by decide) ?_
          refine lv_aload_n (pc := 275) hx hb dX5_digest_275 rfl (lv_at hl 0 rfl) ?_
          refine lv_iload (pc := 276) hx hb dX5_digest_276 (lv_at hl 2 rfl) ?_
          obtain ⟨x278, e278, hf⟩ := z_bd hf
          refine z_cmI (pc := 278) (W1 := (z_wM X d x278.2 ++ [(q192, .inl (X.2.1, 9, .inl x271))])) S (m_X5_untilServed l X d M u4 e278) (cwV 1 hts gX5_digest_X5_untilServed rfl rfl rfl hdX5_untilServed ⟨Nat.le_of_ble_eq_true rfl, Nat.le_of_ble_eq_true rfl⟩) hP hK hN hD hS hA (s_ME_M X d M q192 9 x271) (f_ME_M X d M q192 9 x271 x278.2) (ci := 5) rfl rfl rfl (show (kc + 1) ≤ 14 ∧ (ks + 9) ≤ 131 from ⟨by omega, by omega⟩) rfl hl.1 rfl (Nat.le_of_ble_eq_true rfl) dX5_digest_278 (fun H locs hP hD hS => ?_)
          obtain ⟨x281, e281, hf⟩ := z_bd hf
          refine z_iast (pc := 281) (W1 := (z_wM X d x278.2 ++ [(q192, .inl (X.2.1, 9, .inl x281))])) hx hb hK hP hD hS 9 0 rfl rfl e281 rfl dX5_digest_281 (fun H locs hP hD hS => ?_)
          refine lv_dup (pc := 282) hx hb dX5_digest_282 rfl ?_
          refine lv_bipush (v := 8) (pc := 283) hx hb dX5_digest_283 (by decide) ?_
          refine lv_aload_n (pc := 285) hx hb dX5_digest_285 rfl (lv_at hl 0 rfl) ?_
          refine lv_iload (pc := 286) hx hb dX5_digest_286 (lv_at hl 2 rfl) ?_
          obtain ⟨x288, e288, hf⟩ := z_bd hf
          refine z_cmI (pc := 288) (W1 := (z_wM X d x288.2 ++ [(q192, .inl (X.2.1, 9, .inl x281))])) S (m_X5_best l X d x278.2 u4 e288) (cwV 1 hts gX5_digest_X5_best rfl rfl rfl hdX5_best ⟨Nat.le_of_ble_eq_true rfl, Nat.le_of_ble_eq_true rfl⟩) hP hK hN hD hS hA (s_ME_M X d x278.2 q192 9 x281) (f_ME_M X d x278.2 q192 9 x281 x288.2) (ci := 5) rfl rfl rfl (show (kc + 1) ≤ 14 ∧ (ks + 9) ≤ 131 from ⟨by omega, by omega⟩) rfl hl.1 rfl (Nat.le_of_ble_eq_true rfl) dX5_digest_288 (fun H locs hP hD hS => ?_)
          obtain ⟨x291, e291, hf⟩ := z_bd hf
          refine z_iast (pc := 291) (W1 := (z_wM X d x288.2 ++ [(q192, .inl (X.2.1, 9, .inl x291))])) hx hb hK hP hD hS 9 0 rfl rfl e291 rfl dX5_digest_291 (fun H locs hP hD hS => ?_)
          refine lv_astore (pc := 292) (lv' := [(5, .ref q192), (0, .ref (d 0)), (2, .long u2), (4, .int u4)]) hx hb dX5_digest_292 hl (by decide) rfl (fun ls hl => ?_)
          refine lv_aload (pc := 294) hx hb dX5_digest_294 (lv_at hl 0 rfl) ?_
          refine lv_astore (pc := 296) (lv' := [(6, .ref q192), (5, .ref q192), (0, .ref (d 0)), (2, .long u2), (4, .int u4)]) hx hb dX5_digest_296 hl (by decide) rfl (fun ls hl => ?_)
          refine lv_aload (pc := 298) hx hb dX5_digest_298 (lv_at hl 0 rfl) ?_
          refine va_alen (v := 9) (pc := 300) hx hb hK hP 9 0 rfl rfl rfl dX5_digest_300 ?_
          refine lv_istore (pc := 301) (lv' := [(7, .int 9), (6, .ref q192), (5, .ref q192), (0, .ref (d 0)), (2, .long u2), (4, .int u4)]) hx hb dX5_digest_301 hl (by decide) rfl (fun ls hl => ?_)
          refine lv_iconst (v := 0) (pc := 303) hx hb dX5_digest_303 (by decide) ?_
          refine lv_istore (pc := 304) (lv' := [(8, .int 0), (7, .int 9), (6, .ref q192), (5, .ref q192), (0, .ref (d 0)), (2, .long u2), (4, .int u4)]) hx hb dX5_digest_304 hl (by decide) rfl (fun ls hl => ?_)
          obtain ⟨x306, e306, hf⟩ := z_bd hf
          refine lp_306 z_FU (kc + 1) (ks + 9) (by omega) q192 x291 u2 u4 9 0 x288.2 x306 H locs hP hD hS ls (lv_sub hl [4, 5, 6, 2, 1, 0] rfl) e306 (fun H locs hP hD hS ls hl => ?_)
          refine lv_iinc (pc := 336) (v := (x306.2.1 + 1)) (lv' := [(4, .int (x306.2.1 + 1)), (0, .ref (d 0)), (2, .long x306.1)]) hx hb dX5_digest_336 hl (k := 2) rfl rfl (by decide) rfl (fun ls hl => ?_)
          refine lv_goto (pc := 339) (tgt := 181) hx hb dX5_digest_339 (by decide) ?_
          have hP := z_subP (ws' := (z_wM X d x306.2.2)) hP [0, 1, 2, 3, 4, 5, 6, 7, 8] rfl
          have hD := hD.sub (ws' := (z_wM X d x306.2.2)) [0, 1, 2, 3, 4, 5, 6, 7, 8] rfl rfl
          exact ih (kc + 1) (ks + 9) (by omega) x306.1 (x306.2.1 + 1) x306.2.2 T H locs hP hD hS ls (lv_sub hl [1, 2, 0] rfl) hf kk
  have lp_345 : ∀ (n : Nat) (kc ks : Nat) (hk : kc ≤ 14 ∧ ks ≤ 131) (u2 : Int64) (u4 : Int32) (M : z_M) (T : (Int64 × z_M)) (H : Heap) (locs : List Loc), va_P X.1 vwCl (z_wM X d M) H → va_D A (z_wM X d M) → va_S A s.heap H locs → ∀ (ls : Array Slot), lv_has ls 10 [(0, .ref (d 0)), (2, .long u2), (4, .int u4)] → f_X5_digest_L345 n u2 u4 M = some T → (∀ (H : Heap) (locs : List Loc), va_P X.1 vwCl (z_wM X d T.2) H → va_D A (z_wM X d T.2) → va_S A s.heap H locs → ∀ (ls : Array Slot), lv_has ls 10 [(2, .long T.1)] → W p l e (headSpec wsX5_digest ({ frames := 8, cells := 14, slots := 131, locals := 182 } : Room)).room s m ([.ref (d 0)] : List Value).toArray below meth c H locs kc ks (MQ below (va_Ql (fun (z : Int64) (u : va_W) => z = RR.1 ∧ u = (z_wM X d RR.2)) (z_Bm X A) A) ([.ref (d 0)] : List Value).toArray s 14 131 A) (F0 m 420 ls [])) → W p l e (headSpec wsX5_digest ({ frames := 8, cells := 14, slots := 131, locals := 182 } : Room)).room s m ([.ref (d 0)] : List Value).toArray below meth c H locs kc ks (MQ below (va_Ql (fun (z : Int64) (u : va_W) => z = RR.1 ∧ u = (z_wM X d RR.2)) (z_Bm X A) A) ([.ref (d 0)] : List Value).toArray s 14 131 A) (F0 m 345 ls []) := by
    intro n
    induction n with
    | zero =>
      intro kc ks hk u2 u4 M T H locs hP hD hS ls hl hf kk
      cases hf
    | succ n ih =>
      intro kc ks hk u2 u4 M T H locs hP hD hS ls hl hf kk
      rw [f_X5_digest_L345] at hf
      refine lv_iload (pc := 345) hx hb dX5_digest_345 (lv_at hl 2 rfl) ?_
      refine lv_aload_n (pc := 347) hx hb dX5_digest_347 rfl (lv_at hl 0 rfl) ?_
      refine va_get (pc := 348) (ci := 5) (C := RX5) (T := TX5) (N := 11) hx hb hts in_X5 hown hK hP 0 rfl rfl 2 (by decide) lk_fi46 (fun _ h9 => h9) rfl dX5_digest_348 ?_
      refine lv_icmp_ge (pc := 351) (tgt := 420) hx hb dX5_digest_351 (by decide) (fun c_351 => ?_) (fun c_351 => ?_)
      · replace hf := z_ip c_351 hf
        obtain rfl := Option.some.inj hf
        exact kk H locs hP hD hS ls (lv_sub hl [1] rfl)
      · replace hf := z_in c_351 hf
        refine lv_lload_n (pc := 354) hx hb dX5_digest_354 rfl (lv_at hl 1 rfl) ?_
        refine lv_ldc2 (v := 31) (pc := 355) hx hb hown lk_co174 dX5_digest_355 ?_
        refine lv_lmul (pc := 358) hx hb dX5_digest_358 ?_
        refine lv_aload_n (pc := 359) hx hb dX5_digest_359 rfl (lv_at hl 0 rfl) ?_
        refine va_get (pc := 360) (ci := 5) (C := RX5) (T := TX5) (N := 11) hx hb hts in_X5 hown hK hP 0 rfl rfl 9 (by decide) lk_fi29 (fun _ h9 => h9) rfl dX5_digest_360 ?_
        refine lv_bipush (v := 31) (pc := 363) hx hb dX5_digest_363 (by decide) ?_
        refine lv_iload (pc := 365) hx hb dX5_digest_365 (lv_at hl 2 rfl) ?_
        refine lv_iadd (pc := 367) hx hb dX5_digest_367 ?_
        obtain ⟨x368, e368, hf⟩ := z_bd hf
        refine z_iald (pc := 368) hx hb hK hP 7 0 rfl rfl e368 dX5_digest_368 ?_
        refine lv_i2l (v := x368.toInt64) (pc := 369) hx hb dX5_digest_369 rfl ?_
        refine lv_ladd (pc := 370) hx hb dX5_digest_370 ?_
        refine lv_ldc2 (v := 31) (pc := 371) hx hb hown lk_co174 dX5_digest_371 ?_
        refine lv_lmul (pc := 374) hx hb dX5_digest_374 ?_
        refine lv_aload_n (pc := 375) hx hb dX5_digest_375 rfl (lv_at hl 0 rfl) ?_
        refine lv_iload (pc := 376) hx hb dX5_digest_376 (lv_at hl 2 rfl) ?_
        refine lv_iconst (v := 1) (pc := 378) hx hb dX5_digest_378 (by decide) ?_
        obtain ⟨x379, e379, hf⟩ := z_bd hf
        refine z_cpI (pc := 379) S (m_X5_whom l X d M u4 1 e379) (cwV 2 hts gX5_digest_X5_whom rfl rfl rfl hdX5_whom ⟨Nat.le_of_ble_eq_true rfl, Nat.le_of_ble_eq_true rfl⟩) hP hK hN (s_M_M X d M) (ci := 5) rfl rfl rfl (show kc ≤ 14 ∧ ks ≤ 131 from ⟨by omega, by omega⟩) rfl hl.1 rfl (Nat.le_of_ble_eq_true rfl) dX5_digest_379 ?_
        refine lv_i2l (v := x379.toInt64) (pc := 382) hx hb dX5_digest_382 rfl ?_
        refine lv_ladd (pc := 383) hx hb dX5_digest_383 ?_
        refine lv_ldc2 (v := 31) (pc := 384) hx hb hown lk_co174 dX5_digest_384 ?_
        refine lv_lmul (pc := 387) hx hb dX5_digest_387 ?_
        refine lv_aload_n (pc := 388) hx hb dX5_digest_388 rfl (lv_at hl 0 rfl) ?_
        refine lv_iload (pc := 389) hx hb dX5_digest_389 (lv_at hl 2 rfl) ?_
        refine lv_iconst (v := 2) (pc := 391) hx hb dX5_digest_391 (by decide) ?_
        obtain ⟨x392, e392, hf⟩ := z_bd hf
        refine z_cpI (pc := 392) S (m_X5_whom l X d M u4 2 e392) (cwV 2 hts gX5_digest_X5_whom rfl rfl rfl hdX5_whom ⟨Nat.le_of_ble_eq_true rfl, Nat.le_of_ble_eq_true rfl⟩) hP hK hN (s_M_M X d M) (ci := 5) rfl rfl rfl (show kc ≤ 14 ∧ ks ≤ 131 from ⟨by omega, by omega⟩) rfl hl.1 rfl (Nat.le_of_ble_eq_true rfl) dX5_digest_392 ?_
        refine lv_i2l (v := x392.toInt64) (pc := 395) hx hb dX5_digest_395 rfl ?_
        refine lv_ladd (pc := 396) hx hb dX5_digest_396 ?_
        refine lv_ldc2 (v := 31) (pc := 397) hx hb hown lk_co174 dX5_digest_397 ?_
        refine lv_lmul (pc := 400) hx hb dX5_digest_400 ?_
        refine lv_aload_n (pc := 401) hx hb dX5_digest_401 rfl (lv_at hl 0 rfl) ?_
        refine va_get (pc := 402) (ci := 5) (C := RX5) (T := TX5) (N := 11) hx hb hts in_X5 hown hK hP 0 rfl rfl 9 (by decide) lk_fi29 (fun _ h9 => h9) rfl dX5_digest_402 ?_
        refine lv_bipush (v := 49) (pc := 405) hx hb dX5_digest_405 (by decide) ?_
        refine lv_iload (pc := 407) hx hb dX5_digest_407 (lv_at hl 2 rfl) ?_
        refine lv_iadd (pc := 409) hx hb dX5_digest_409 ?_
        obtain ⟨x410, e410, hf⟩ := z_bd hf
        refine z_iald (pc := 410) hx hb hK hP 7 0 rfl rfl e410 dX5_digest_410 ?_
        refine lv_i2l (v := x410.toInt64) (pc := 411) hx hb dX5_digest_411 rfl ?_
        refine lv_ladd (pc := 412) hx hb dX5_digest_412 ?_
        refine lv_lstore_n (pc := 413) (lv' := [(2, .long ((((((((u2 * 31) + x368.toInt64) * 31) + x379.toInt64) * 31) + x392.toInt64) * 31) + x410.toInt64)), (0, .ref (d 0)), (4, .int u4)]) hx hb dX5_digest_413 rfl hl (by decide) rfl (fun ls hl => ?_)
        refine lv_iinc (pc := 414) (v := (u4 + 1)) (lv' := [(4, .int (u4 + 1)), (2, .long ((((((((u2 * 31) + x368.toInt64) * 31) + x379.toInt64) * 31) + x392.toInt64) * 31) + x410.toInt64)), (0, .ref (d 0))]) hx hb dX5_digest_414 hl (k := 2) rfl rfl (by decide) rfl (fun ls hl => ?_)
        refine lv_goto (pc := 417) (tgt := 345) hx hb dX5_digest_417 (by decide) ?_
        exact ih kc ks hk ((((((((u2 * 31) + x368.toInt64) * 31) + x379.toInt64) * 31) + x392.toInt64) * 31) + x410.toInt64) (u4 + 1) M T H locs hP hD hS ls (lv_sub hl [2, 1, 0] rfl) hf kk
  suffices hgo : ∀ (H : Heap) (locs : List Loc), va_P X.1 vwCl (z_wM X d M) H → va_D A (z_wM X d M) → va_S A s.heap H locs → W p l e (headSpec wsX5_digest ({ frames := 8, cells := 14, slots := 131, locals := 182 } : Room)).room s m ([.ref (d 0)] : List Value).toArray below meth c H locs 0 0 (MQ below (va_Ql (fun (z : Int64) (u : va_W) => z = RR.1 ∧ u = (z_wM X d RR.2)) (z_Bm X A) A) ([.ref (d 0)] : List Value).toArray s 14 131 A) (F0 m 0 ls []) from hgo _ _ hP hD hS
  clear hP hD hS
  intro H locs hP hD hS
  unfold f_X5_digest at hf
  refine lv_aload_n (pc := 0) hx hb dX5_digest_0 rfl (lv_at hl 0 rfl) ?_
  refine lv_iconst (v := 0) (pc := 1) hx hb dX5_digest_1 (by decide) ?_
  refine z_put (pc := 2) (ci := 5) (C := RX5) (T := TX5) (N := 11) (W1 := (z_wM X d (z_mS M 0 0))) hx hb hts in_X5 tyX5 tyX5_ok nmX5 hown hK hP hD hS 0 rfl rfl 0 (by decide) lk_fi35 (fun _ h9 => h9) rfl (by decide +kernel) (Nat.le_of_ble_eq_true rfl) dX5_digest_2 rfl (fun H locs hP hD hS => ?_)
  refine lv_bipush (v := 14) (pc := 5) hx hb dX5_digest_5 (by decide) ?_
  refine z_newa (pc := 7) (atype := .int) (ty := .int) (N' := 14) (a0 := (14, .inl (fun _ => 0))) hx hb (hts (.arrayClass .int) (List.mem_of_getElem? (i := 2) rfl)) rfl hK hP hD hS hA 0 rfl (fun _ h => nomatch h) (fun _ => rfl) (by decide) rfl (by decide) (show 0 + 1 ≤ 14 from by omega) (show 0 + 14 ≤ 131 from by omega) dX5_digest_7 (fun q7 H hP hD hS => ?_)
  have hP : va_P X.1 vwCl (z_wM X d (z_mS M 0 0) ++ [(q7, .inl (X.2.1, 14, .inl (fun _ => 0)))]) H := hP
  have hD : va_D A (z_wM X d (z_mS M 0 0) ++ [(q7, .inl (X.2.1, 14, .inl (fun _ => 0)))]) := hD
  refine lv_dup (pc := 9) hx hb dX5_digest_9 rfl ?_
  refine lv_iconst (v := 0) (pc := 10) hx hb dX5_digest_10 (by decide) ?_
  refine lv_aload_n (pc := 11) hx hb dX5_digest_11 rfl (lv_at hl 0 rfl) ?_
  refine va_get (pc := 12) (ci := 5) (C := RX5) (T := TX5) (N := 11) hx hb hts in_X5 hown hK hP 0 rfl rfl 9 (by decide) lk_fi29 (fun _ h9 => h9) rfl dX5_digest_12 ?_
  refine lv_iconst (v := 0) (pc := 15) hx hb dX5_digest_15 (by decide) ?_
  obtain ⟨x16, e16, hf⟩ := z_bd hf
  refine z_iald (pc := 16) hx hb hK hP 7 0 rfl rfl e16 dX5_digest_16 ?_
  obtain ⟨x17, e17, hf⟩ := z_bd hf
  refine z_iast (pc := 17) (W1 := (z_wM X d (z_mS M 0 0) ++ [(q7, .inl (X.2.1, 14, .inl x17))])) hx hb hK hP hD hS 9 0 rfl rfl e17 rfl dX5_digest_17 (fun H locs hP hD hS => ?_)
  refine lv_dup (pc := 18) hx hb dX5_digest_18 rfl ?_
  refine lv_iconst (v := 1) (pc := 19) hx hb dX5_digest_19 (by decide) ?_
  refine lv_aload_n (pc := 20) hx hb dX5_digest_20 rfl (lv_at hl 0 rfl) ?_
  refine va_get (pc := 21) (ci := 5) (C := RX5) (T := TX5) (N := 11) hx hb hts in_X5 hown hK hP 0 rfl rfl 1 (by decide) lk_fi39 (fun _ h9 => h9) rfl dX5_digest_21 ?_
  obtain ⟨x24, e24, hf⟩ := z_bd hf
  refine z_iast (pc := 24) (W1 := (z_wM X d (z_mS M 0 0) ++ [(q7, .inl (X.2.1, 14, .inl x24))])) hx hb hK hP hD hS 9 0 rfl rfl e24 rfl dX5_digest_24 (fun H locs hP hD hS => ?_)
  refine lv_dup (pc := 25) hx hb dX5_digest_25 rfl ?_
  refine lv_iconst (v := 2) (pc := 26) hx hb dX5_digest_26 (by decide) ?_
  refine lv_aload_n (pc := 27) hx hb dX5_digest_27 rfl (lv_at hl 0 rfl) ?_
  refine va_get (pc := 28) (ci := 5) (C := RX5) (T := TX5) (N := 11) hx hb hts in_X5 hown hK hP 0 rfl rfl 2 (by decide) lk_fi46 (fun _ h9 => h9) rfl dX5_digest_28 ?_
  obtain ⟨x31, e31, hf⟩ := z_bd hf
  refine z_iast (pc := 31) (W1 := (z_wM X d (z_mS M 0 0) ++ [(q7, .inl (X.2.1, 14, .inl x31))])) hx hb hK hP hD hS 9 0 rfl rfl e31 rfl dX5_digest_31 (fun H locs hP hD hS => ?_)
  refine lv_dup (pc := 32) hx hb dX5_digest_32 rfl ?_
  refine lv_iconst (v := 3) (pc := 33) hx hb dX5_digest_33 (by decide) ?_
  refine lv_aload_n (pc := 34) hx hb dX5_digest_34 rfl (lv_at hl 0 rfl) ?_
  refine va_get (pc := 35) (ci := 5) (C := RX5) (T := TX5) (N := 11) hx hb hts in_X5 hown hK hP 0 rfl rfl 9 (by decide) lk_fi29 (fun _ h9 => h9) rfl dX5_digest_35 ?_
  refine lv_iconst (v := 1) (pc := 38) hx hb dX5_digest_38 (by decide) ?_
  obtain ⟨x39, e39, hf⟩ := z_bd hf
  refine z_iald (pc := 39) hx hb hK hP 7 0 rfl rfl e39 dX5_digest_39 ?_
  obtain ⟨x40, e40, hf⟩ := z_bd hf
  refine z_iast (pc := 40) (W1 := (z_wM X d (z_mS M 0 0) ++ [(q7, .inl (X.2.1, 14, .inl x40))])) hx hb hK hP hD hS 9 0 rfl rfl e40 rfl dX5_digest_40 (fun H locs hP hD hS => ?_)
  refine lv_dup (pc := 41) hx hb dX5_digest_41 rfl ?_
  refine lv_iconst (v := 4) (pc := 42) hx hb dX5_digest_42 (by decide) ?_
  refine lv_aload_n (pc := 43) hx hb dX5_digest_43 rfl (lv_at hl 0 rfl) ?_
  refine va_get (pc := 44) (ci := 5) (C := RX5) (T := TX5) (N := 11) hx hb hts in_X5 hown hK hP 0 rfl rfl 9 (by decide) lk_fi29 (fun _ h9 => h9) rfl dX5_digest_44 ?_
  refine lv_iconst (v := 2) (pc := 47) hx hb dX5_digest_47 (by decide) ?_
  obtain ⟨x48, e48, hf⟩ := z_bd hf
  refine z_iald (pc := 48) hx hb hK hP 7 0 rfl rfl e48 dX5_digest_48 ?_
  obtain ⟨x49, e49, hf⟩ := z_bd hf
  refine z_iast (pc := 49) (W1 := (z_wM X d (z_mS M 0 0) ++ [(q7, .inl (X.2.1, 14, .inl x49))])) hx hb hK hP hD hS 9 0 rfl rfl e49 rfl dX5_digest_49 (fun H locs hP hD hS => ?_)
  refine lv_dup (pc := 50) hx hb dX5_digest_50 rfl ?_
  refine lv_iconst (v := 5) (pc := 51) hx hb dX5_digest_51 (by decide) ?_
  refine lv_aload_n (pc := 52) hx hb dX5_digest_52 rfl (lv_at hl 0 rfl) ?_
  refine va_get (pc := 53) (ci := 5) (C := RX5) (T := TX5) (N := 11) hx hb hts in_X5 hown hK hP 0 rfl rfl 9 (by decide) lk_fi29 (fun _ h9 => h9) rfl dX5_digest_53 ?_
  refine lv_iconst (v := 3) (pc := 56) hx hb dX5_digest_56 (by decide) ?_
  obtain ⟨x57, e57, hf⟩ := z_bd hf
  refine z_iald (pc := 57) hx hb hK hP 7 0 rfl rfl e57 dX5_digest_57 ?_
  obtain ⟨x58, e58, hf⟩ := z_bd hf
  refine z_iast (pc := 58) (W1 := (z_wM X d (z_mS M 0 0) ++ [(q7, .inl (X.2.1, 14, .inl x58))])) hx hb hK hP hD hS 9 0 rfl rfl e58 rfl dX5_digest_58 (fun H locs hP hD hS => ?_)
  refine lv_dup (pc := 59) hx hb dX5_digest_59 rfl ?_
  refine lv_bipush (v := 6) (pc := 60) hx hb dX5_digest_60 (by decide) ?_
  refine lv_aload_n (pc := 62) hx hb dX5_digest_62 rfl (lv_at hl 0 rfl) ?_
  refine va_get (pc := 63) (ci := 5) (C := RX5) (T := TX5) (N := 11) hx hb hts in_X5 hown hK hP 0 rfl rfl 9 (by decide) lk_fi29 (fun _ h9 => h9) rfl dX5_digest_63 ?_
  refine lv_iconst (v := 4) (pc := 66) hx hb dX5_digest_66 (by decide) ?_
  obtain ⟨x67, e67, hf⟩ := z_bd hf
  refine z_iald (pc := 67) hx hb hK hP 7 0 rfl rfl e67 dX5_digest_67 ?_
  obtain ⟨x68, e68, hf⟩ := z_bd hf
  refine z_iast (pc := 68) (W1 := (z_wM X d (z_mS M 0 0) ++ [(q7, .inl (X.2.1, 14, .inl x68))])) hx hb hK hP hD hS 9 0 rfl rfl e68 rfl dX5_digest_68 (fun H locs hP hD hS => ?_)
  refine lv_dup (pc := 69) hx hb dX5_digest_69 rfl ?_
  refine lv_bipush (v := 7) (pc := 70) hx hb dX5_digest_70 (by decide) ?_
  refine lv_aload_n (pc := 72) hx hb dX5_digest_72 rfl (lv_at hl 0 rfl) ?_
  refine va_get (pc := 73) (ci := 5) (C := RX5) (T := TX5) (N := 11) hx hb hts in_X5 hown hK hP 0 rfl rfl 9 (by decide) lk_fi29 (fun _ h9 => h9) rfl dX5_digest_73 ?_
  refine lv_iconst (v := 5) (pc := 76) hx hb dX5_digest_76 (by decide) ?_
  obtain ⟨x77, e77, hf⟩ := z_bd hf
  refine z_iald (pc := 77) hx hb hK hP 7 0 rfl rfl e77 dX5_digest_77 ?_
  obtain ⟨x78, e78, hf⟩ := z_bd hf
  refine z_iast (pc := 78) (W1 := (z_wM X d (z_mS M 0 0) ++ [(q7, .inl (X.2.1, 14, .inl x78))])) hx hb hK hP hD hS 9 0 rfl rfl e78 rfl dX5_digest_78 (fun H locs hP hD hS => ?_)
  refine lv_dup (pc := 79) hx hb dX5_digest_79 rfl ?_
  refine lv_bipush (v := 8) (pc := 80) hx hb dX5_digest_80 (by decide) ?_
  refine lv_aload_n (pc := 82) hx hb dX5_digest_82 rfl (lv_at hl 0 rfl) ?_
  obtain ⟨x83, e83, hf⟩ := z_bd hf
  refine z_cpI (pc := 83) S (m_X5_longest l X d (z_mS M 0 0) e83) (cwV 0 hts gX5_digest_X5_longest rfl rfl rfl hdX5_longest ⟨Nat.le_of_ble_eq_true rfl, Nat.le_of_ble_eq_true rfl⟩) hP hK hN (s_ME_M X d (z_mS M 0 0) q7 14 x78) (ci := 5) rfl rfl rfl (show (0 + 1) ≤ 14 ∧ (0 + 14) ≤ 131 from ⟨by omega, by omega⟩) rfl hl.1 rfl (Nat.le_of_ble_eq_true rfl) dX5_digest_83 ?_
  obtain ⟨x86, e86, hf⟩ := z_bd hf
  refine z_iast (pc := 86) (W1 := (z_wM X d (z_mS M 0 0) ++ [(q7, .inl (X.2.1, 14, .inl x86))])) hx hb hK hP hD hS 9 0 rfl rfl e86 rfl dX5_digest_86 (fun H locs hP hD hS => ?_)
  refine lv_dup (pc := 87) hx hb dX5_digest_87 rfl ?_
  refine lv_bipush (v := 9) (pc := 88) hx hb dX5_digest_88 (by decide) ?_
  refine lv_aload_n (pc := 90) hx hb dX5_digest_90 rfl (lv_at hl 0 rfl) ?_
  obtain ⟨x91, e91, hf⟩ := z_bd hf
  refine z_cpI (pc := 91) S (m_X5_manyCrossed l X d (z_mS M 0 0) e91) (cwV 0 hts gX5_digest_X5_manyCrossed rfl rfl rfl hdX5_manyCrossed ⟨Nat.le_of_ble_eq_true rfl, Nat.le_of_ble_eq_true rfl⟩) hP hK hN (s_ME_M X d (z_mS M 0 0) q7 14 x86) (ci := 5) rfl rfl rfl (show (0 + 1) ≤ 14 ∧ (0 + 14) ≤ 131 from ⟨by omega, by omega⟩) rfl hl.1 rfl (Nat.le_of_ble_eq_true rfl) dX5_digest_91 ?_
  obtain ⟨x94, e94, hf⟩ := z_bd hf
  refine z_iast (pc := 94) (W1 := (z_wM X d (z_mS M 0 0) ++ [(q7, .inl (X.2.1, 14, .inl x94))])) hx hb hK hP hD hS 9 0 rfl rfl e94 rfl dX5_digest_94 (fun H locs hP hD hS => ?_)
  refine lv_dup (pc := 95) hx hb dX5_digest_95 rfl ?_
  refine lv_bipush (v := 10) (pc := 96) hx hb dX5_digest_96 (by decide) ?_
  refine lv_aload_n (pc := 98) hx hb dX5_digest_98 rfl (lv_at hl 0 rfl) ?_
  obtain ⟨x99, e99, hf⟩ := z_bd hf
  refine z_cpI (pc := 99) S (m_X5_crossings l X d (z_mS M 0 0) e99) (cwV 0 hts gX5_digest_X5_crossings rfl rfl rfl hdX5_crossings ⟨Nat.le_of_ble_eq_true rfl, Nat.le_of_ble_eq_true rfl⟩) hP hK hN (s_ME_M X d (z_mS M 0 0) q7 14 x94) (ci := 5) rfl rfl rfl (show (0 + 1) ≤ 14 ∧ (0 + 14) ≤ 131 from ⟨by omega, by omega⟩) rfl hl.1 rfl (Nat.le_of_ble_eq_true rfl) dX5_digest_99 ?_
  obtain ⟨x102, e102, hf⟩ := z_bd hf
  refine z_iast (pc := 102) (W1 := (z_wM X d (z_mS M 0 0) ++ [(q7, .inl (X.2.1, 14, .inl x102))])) hx hb hK hP hD hS 9 0 rfl rfl e102 rfl dX5_digest_102 (fun H locs hP hD hS => ?_)
  refine lv_dup (pc := 103) hx hb dX5_digest_103 rfl ?_
  refine lv_bipush (v := 11) (pc := 104) hx hb dX5_digest_104 (by decide) ?_
  refine lv_aload_n (pc := 106) hx hb dX5_digest_106 rfl (lv_at hl 0 rfl) ?_
  refine va_get (pc := 107) (ci := 5) (C := RX5) (T := TX5) (N := 11) hx hb hts in_X5 hown hK hP 0 rfl rfl 9 (by decide) lk_fi29 (fun _ h9 => h9) rfl dX5_digest_107 ?_
  refine lv_bipush (v := 6) (pc := 110) hx hb dX5_digest_110 (by decide) ?_
  obtain ⟨x112, e112, hf⟩ := z_bd hf
  refine z_iald (pc := 112) hx hb hK hP 7 0 rfl rfl e112 dX5_digest_112 ?_
  obtain ⟨x113, e113, hf⟩ := z_bd hf
  refine z_iast (pc := 113) (W1 := (z_wM X d (z_mS M 0 0) ++ [(q7, .inl (X.2.1, 14, .inl x113))])) hx hb hK hP hD hS 9 0 rfl rfl e113 rfl dX5_digest_113 (fun H locs hP hD hS => ?_)
  refine lv_dup (pc := 114) hx hb dX5_digest_114 rfl ?_
  refine lv_bipush (v := 12) (pc := 115) hx hb dX5_digest_115 (by decide) ?_
  refine lv_aload_n (pc := 117) hx hb dX5_digest_117 rfl (lv_at hl 0 rfl) ?_
  obtain ⟨x118, e118, hf⟩ := z_bd hf
  refine z_cpI (pc := 118) S (m_X5_head l X d (z_mS M 0 0) e118) (cwV 0 hts gX5_digest_X5_head rfl rfl rfl hdX5_head ⟨Nat.le_of_ble_eq_true rfl, Nat.le_of_ble_eq_true rfl⟩) hP hK hN (s_ME_M X d (z_mS M 0 0) q7 14 x113) (ci := 5) rfl rfl rfl (show (0 + 1) ≤ 14 ∧ (0 + 14) ≤ 131 from ⟨by omega, by omega⟩) rfl hl.1 rfl (Nat.le_of_ble_eq_true rfl) dX5_digest_118 ?_
  obtain ⟨x121, e121, hf⟩ := z_bd hf
  refine z_iast (pc := 121) (W1 := (z_wM X d (z_mS M 0 0) ++ [(q7, .inl (X.2.1, 14, .inl x121))])) hx hb hK hP hD hS 9 0 rfl rfl e121 rfl dX5_digest_121 (fun H locs hP hD hS => ?_)
  refine lv_dup (pc := 122) hx hb dX5_digest_122 rfl ?_
  refine lv_bipush (v := 13) (pc := 123) hx hb dX5_digest_123 (by decide) ?_
  refine lv_aload_n (pc := 125) hx hb dX5_digest_125 rfl (lv_at hl 0 rfl) ?_
  refine lv_bipush (v := 20) (pc := 126) hx hb dX5_digest_126 (by decide) ?_
  obtain ⟨x128, e128, hf⟩ := z_bd hf
  refine z_cmI (pc := 128) (W1 := (z_wM X d x128.2 ++ [(q7, .inl (X.2.1, 14, .inl x121))])) S (m_X5_soon l X d (z_mS M 0 0) 20 e128) (cwV 1 hts gX5_digest_X5_soon rfl rfl rfl hdX5_soon ⟨Nat.le_of_ble_eq_true rfl, Nat.le_of_ble_eq_true rfl⟩) hP hK hN hD hS hA (s_ME_M X d (z_mS M 0 0) q7 14 x121) (f_ME_M X d (z_mS M 0 0) q7 14 x121 x128.2) (ci := 5) rfl rfl rfl (show (0 + 1) ≤ 14 ∧ (0 + 14) ≤ 131 from ⟨by omega, by omega⟩) rfl hl.1 rfl (Nat.le_of_ble_eq_true rfl) dX5_digest_128 (fun H locs hP hD hS => ?_)
  obtain ⟨x131, e131, hf⟩ := z_bd hf
  refine z_iast (pc := 131) (W1 := (z_wM X d x128.2 ++ [(q7, .inl (X.2.1, 14, .inl x131))])) hx hb hK hP hD hS 9 0 rfl rfl e131 rfl dX5_digest_131 (fun H locs hP hD hS => ?_)
  refine lv_astore_n (pc := 132) (lv' := [(1, .ref q7), (0, .ref (d 0))]) hx hb dX5_digest_132 rfl hl (by decide) rfl (fun ls hl => ?_)
  refine lv_ldc2 (v := 2377) (pc := 133) hx hb hown lk_co172 dX5_digest_133 ?_
  refine lv_lstore_n (pc := 136) (lv' := [(2, .long 2377), (1, .ref q7), (0, .ref (d 0))]) hx hb dX5_digest_136 rfl hl (by decide) rfl (fun ls hl => ?_)
  refine lv_aload_n (pc := 137) hx hb dX5_digest_137 rfl (lv_at hl 1 rfl) ?_
  refine lv_astore (pc := 138) (lv' := [(4, .ref q7), (2, .long 2377), (1, .ref q7), (0, .ref (d 0))]) hx hb dX5_digest_138 hl (by decide) rfl (fun ls hl => ?_)
  refine lv_aload (pc := 140) hx hb dX5_digest_140 (lv_at hl 0 rfl) ?_
  refine va_alen (v := 14) (pc := 142) hx hb hK hP 9 0 rfl rfl rfl dX5_digest_142 ?_
  refine lv_istore (pc := 143) (lv' := [(5, .int 14), (4, .ref q7), (2, .long 2377), (1, .ref q7), (0, .ref (d 0))]) hx hb dX5_digest_143 hl (by decide) rfl (fun ls hl => ?_)
  refine lv_iconst (v := 0) (pc := 145) hx hb dX5_digest_145 (by decide) ?_
  refine lv_istore (pc := 146) (lv' := [(6, .int 0), (5, .int 14), (4, .ref q7), (2, .long 2377), (1, .ref q7), (0, .ref (d 0))]) hx hb dX5_digest_146 hl (by decide) rfl (fun ls hl => ?_)
  obtain ⟨x148, e148, hf⟩ := z_bd hf
  refine lp_148 z_FU (0 + 1) (0 + 14) (by omega) q7 x131 2377 14 0 x128.2 x148 H locs hP hD hS ls (lv_sub hl [5, 3, 2, 1, 0] rfl) e148 (fun H locs hP hD hS ls hl => ?_)
  refine lv_iconst (v := 0) (pc := 178) hx hb dX5_digest_178 (by decide) ?_
  refine lv_istore (pc := 179) (lv' := [(4, .int 0), (0, .ref (d 0)), (2, .long x148.1)]) hx hb dX5_digest_179 hl (by decide) rfl (fun ls hl => ?_)
  have hP := z_subP (ws' := (z_wM X d x148.2)) hP [0, 1, 2, 3, 4, 5, 6, 7, 8] rfl
  have hD := hD.sub (ws' := (z_wM X d x148.2)) [0, 1, 2, 3, 4, 5, 6, 7, 8] rfl rfl
  obtain ⟨x181, e181, hf⟩ := z_bd hf
  refine lp_181 z_F13 (0 + 1) (0 + 14) (by decide) x148.1 0 x148.2 x181 H locs hP hD hS ls (lv_sub hl [1, 2, 0] rfl) e181 (fun kc ks hk H locs hP hD hS ls hl => ?_)
  refine lv_iconst (v := 0) (pc := 342) hx hb dX5_digest_342 (by decide) ?_
  refine lv_istore (pc := 343) (lv' := [(4, .int 0), (0, .ref (d 0)), (2, .long x181.1)]) hx hb dX5_digest_343 hl (by decide) rfl (fun ls hl => ?_)
  obtain ⟨x345, e345, hf⟩ := z_bd hf
  refine lp_345 z_FU kc ks (by omega) x181.1 0 x181.2 x345 H locs hP hD hS ls (lv_sub hl [1, 2, 0] rfl) e345 (fun H locs hP hD hS ls hl => ?_)
  refine lv_lload_n (pc := 420) hx hb dX5_digest_420 rfl (lv_at hl 0 rfl) ?_
  refine W.widen (k := 14) (n := 131) (by omega) (by omega) ?_
  exact W.lret (pc := 421) (v := x345.1) hx hb hr (fun t ht hW => ⟨⟨_, (z_wM X d x345.2), rfl, ⟨z_e1 hf, congrArg (fun z => (z_wM X d z)) (z_e2 hf)⟩, by rw [ht]; exact hP, hD⟩, hS.F ht⟩) hS.2.2 dX5_digest_421
