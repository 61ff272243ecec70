def f_X4_digest_L134  : Nat → Int64 → Int32 → z_B → Option (Int64 × z_B)
  | 0, _, _, _ => none
  | n + 1, u1, u3, B => (if (B.1.1 1) ≤ u3 then some (u1, B) else (f_X4_dropOf B u3).bind (fun x148 => (f_X4_roomOf B u3).bind (fun x158 => (f_X4_isCut B u3).bind (fun x168 => (if x168 = 0 then (f_X4_waitedFor B u3).bind (fun x186 => (f_X4_placeInLine B u3).bind (fun x196 => (f_X4_ringsLeft B u3).bind (fun x206 => (f_X4_nearestIdle B u3).bind (fun x216 => (f_X4_minutesUntilServed B u3).bind (fun x226 => (f_X4_bestToCross x226.2 u3).bind (fun x236 => f_X4_digest_L134 n (f_X4_mix (f_X4_mix (f_X4_mix (f_X4_mix (f_X4_mix (f_X4_mix (f_X4_mix (f_X4_mix (f_X4_mix u1 x148) x158) 0) x186) x196) x206) x216) x226.1) x236.1) (u3 + 1) x236.2)))))) else (f_X4_waitedFor B u3).bind (fun x186 => (f_X4_placeInLine B u3).bind (fun x196 => (f_X4_ringsLeft B u3).bind (fun x206 => (f_X4_nearestIdle B u3).bind (fun x216 => (f_X4_minutesUntilServed B u3).bind (fun x226 => (f_X4_bestToCross x226.2 u3).bind (fun x236 => f_X4_digest_L134 n (f_X4_mix (f_X4_mix (f_X4_mix (f_X4_mix (f_X4_mix (f_X4_mix (f_X4_mix (f_X4_mix (f_X4_mix u1 x148) x158) 1) x186) x196) x206) x216) x226.1) x236.1) (u3 + 1) x236.2)))))))))))
def f_X4_digest_L251  : Nat → Int64 → Int32 → z_B → Option (Int64 × z_B)
  | 0, _, _, _ => none
  | n + 1, u1, u3, B => (if B.1.2.2.2.1 ≤ u3 then some (u1, B) else (f_X4_floorOf B u3).bind (fun x268 => (f_X4_goesTo B u3).bind (fun x278 => (f_X4_serves B u3).bind (fun x288 => (f_X4_minutesLeft B u3).bind (fun x298 => f_X4_digest_L251 n (f_X4_mix (f_X4_mix (f_X4_mix (f_X4_mix u1 x268) x278) x288) x298) (u3 + 1) B)))))
def f_X4_digest (B : z_B) : Option (Int64 × z_B) := (f_X4_longestWaiting B).bind (fun x78 => (f_X4_crossed B).bind (fun x87 => (f_X4_crossingsNeeded B).bind (fun x96 => (f_X4_nextDrop B).bind (fun x114 => (f_X4_servedIn B 20).bind (fun x125 => (f_X4_digest_L134 z_FU (f_X4_mix (f_X4_mix (f_X4_mix (f_X4_mix (f_X4_mix (f_X4_mix (f_X4_mix (f_X4_mix (f_X4_mix (f_X4_mix (f_X4_mix (f_X4_mix (f_X4_mix (f_X4_mix 2377 (f_X4_minute B)) (f_X4_rooms B)) (f_X4_servants B)) (f_X4_charge B)) (f_X4_served B)) (f_X4_inVain B)) (f_X4_gaveUp B)) (f_X4_unheard B)) x78) x87) x96) (f_X4_fallen B)) x114) x125.1) 0 x125.2).bind (fun x134 => (f_X4_digest_L251 z_FU x134.1 0 x134.2).bind (fun x251 => some (x251.1, x251.2))))))))
set_option maxHeartbeats 4000000 in
set_option maxRecDepth 100000 in
theorem m_X4_digest (l : Launch) (X : z_X) (a : Nat) (d d2 : Nat → Nat) (B : z_B) {RR : (Int64 × z_B)} (hf : f_X4_digest B = some RR) : z_mL l yX4_digest wsX4_digest 6 142 X [.ref a] (z_wB X a d d2 B) RR.1 (z_wB X a d d2 RR.2) := by
  intro sz
  refine Met.ofW (cc := cX4_digest) (maxL := 4) (ret := (some .long)) (by decide) rfl ?_
  intro p e s m args below meth c s₁ Bd hml hv
  obtain ⟨rfl, hsz, hP, hK, hN, hD0⟩ := hv
  have hx := Bd.exec
  have hb := Bd.bytes
  have hr := Bd.returns
  have hts := atoms_spec (ws := wsX4_digest) Bd.pre
  have hown : s.vm.findClass RX4 = some m.cls := findClass_of_methodNamed Bd.named
  have hlocks := Bd.notSynchronized
  have S : CallFix p m c cX4_digest 4 s _ wsX4_digest RX4 := ⟨hx, hb, hml, hown, hts⟩
  have lk_co192 := hts (.constantLong RX4 192 (2377)) (List.mem_of_getElem? (i := 1) rfl)
  have lk_fi10 := hts (.fieldLink RX4 10 "HouseBells" "house" "LHouseBells$House;") (List.mem_of_getElem? (i := 2) rfl)
  have in_X0 : ∀ w ∈ wsX00, w ∈ wsX4_digest := fun _ h => (List.mem_cons_of_mem _ (List.mem_append_left _ (List.mem_append_left _ (List.mem_append_left _ (List.mem_append_left _ (List.mem_append_left _ (List.mem_append_right _ h)))))))
  have in_X3 : ∀ w ∈ wsX30, w ∈ wsX4_digest := fun _ h => (List.mem_cons_of_mem _ (List.mem_append_left _ (List.mem_append_left _ (List.mem_append_left _ (List.mem_append_left _ (List.mem_append_right _ h))))))
  have in_X4 : ∀ w ∈ wsX40, w ∈ wsX4_digest := fun _ h => (List.mem_cons_of_mem _ (List.mem_append_left _ (List.mem_append_left _ (List.mem_append_left _ (List.mem_append_left _ (List.mem_append_left _ (List.mem_append_left _ (List.mem_append_right _ h))))))))
  subst hsz
  have hD := hD0.self (sz := s.heap.size)
  generalize hAe : va_A (z_wB X a d d2 B) s.heap.size = A at hD ⊢
  have hA : ∀ q : Nat, s.heap.size ≤ q → A q := fun q h => by rw [← hAe]; exact Or.inr h
  have hS : va_S A s.heap s.heap [] := va_S.rf
  have hl := lv_entry ([.ref a]) (n := 4) (Nat.le_of_ble_eq_true rfl)
  rw [lg_entry_eq]
  generalize (lg_sl ([.ref a]) ++ List.replicate (4 - (lg_sl ([.ref a])).length) Slot.unset).toArray = ls at hl ⊢
  have hl : lv_has ls 4 [(0, .ref a)] := hl
  have lp_134 : ∀ (n : Nat) (u1 : Int64) (u3 : Int32) (B : z_B) (T : (Int64 × z_B)) (H : Heap) (locs : List Loc), va_P X.1 vwCl (z_wB X a d d2 B) H → va_D A (z_wB X a d d2 B) → va_S A s.heap H locs → ∀ (ls : Array Slot), lv_has ls 4 [(0, .ref a), (1, .long u1), (3, .int u3)] → f_X4_digest_L134 n u1 u3 B = some T → (∀ (H : Heap) (locs : List Loc), va_P X.1 vwCl (z_wB X a d d2 T.2) H → va_D A (z_wB X a d d2 T.2) → va_S A s.heap H locs → ∀ (ls : Array Slot), lv_has ls 4 [(0, .ref a), (1, .long T.1)] → W p l e (headSpec wsX4_digest (z_R 6 142)).room s m ([.ref a] : List Value).toArray below meth c H locs 0 0 (MQ below (va_Ql (fun (z : Int64) (u : va_W) => z = RR.1 ∧ u = (z_wB X a d d2 RR.2)) (z_Bm X A) A) ([.ref a] : List Value).toArray s 0 0 A) (F0 m 249 ls [])) → W p l e (headSpec wsX4_digest (z_R 6 142)).room s m ([.ref a] : List Value).toArray below meth c H locs 0 0 (MQ below (va_Ql (fun (z : Int64) (u : va_W) => z = RR.1 ∧ u = (z_wB X a d d2 RR.2)) (z_Bm X A) A) ([.ref a] : List Value).toArray s 0 0 A) (F0 m 134 ls []) := by
    intro n
    induction n with
    | zero =>
      intro u1 u3 B T H locs hP hD hS ls hl hf kk
      cases hf
    | succ n ih =>
      intro u1 u3 B T H locs hP hD hS ls hl hf kk
      rw [f_X4_digest_L134] at hf
      refine lv_iload_n (pc := 134) hx hb dX4_digest_134 rfl (lv_at hl 2 rfl) ?_
      refine lv_aload_n (pc := 135) hx hb dX4_digest_135 rfl (lv_at hl 0 rfl) ?_
      refine va_get (pc := 136) (ci := 4) (C := RX4) (T := TX4) (N := 2) hx hb hts in_X4 hown hK hP 0 rfl rfl 0 (by decide) lk_fi10 (fun _ h9 => h9) rfl dX4_digest_136 ?_
      refine va_getN (pc := 139) (ci := 0) (C := RX0) (T := TX0) (N := 15) hx hb hts in_X0 hown hK hP 1 rfl rfl 1 (by decide) (z_n13 hN) (fun _ h9 => h9) rfl dX4_digest_139 ?_
      refine lv_icmp_ge (pc := 142) (tgt := 249) hx hb dX4_digest_142 (by decide) (fun c_142 => ?_) (fun c_142 => ?_)
      · replace hf := z_ip c_142 hf
        obtain rfl := Option.some.inj hf
        exact kk H locs hP hD hS ls (lv_sub hl [0, 1] rfl)
      · replace hf := z_in c_142 hf
        refine lv_lload_n (pc := 145) hx hb dX4_digest_145 rfl (lv_at hl 1 rfl) ?_
        refine lv_aload_n (pc := 146) hx hb dX4_digest_146 rfl (lv_at hl 0 rfl) ?_
        refine lv_iload_n (pc := 147) hx hb dX4_digest_147 rfl (lv_at hl 2 rfl) ?_
        obtain ⟨x148, e148, hf⟩ := z_bd hf
        refine z_cpI (pc := 148) S (m_X4_dropOf l X a d d2 B u3 e148) (cwV 1 hts gX4_digest_X4_dropOf rfl rfl rfl hdX4_dropOf ⟨Nat.le_of_ble_eq_true rfl, Nat.le_of_ble_eq_true rfl⟩) hP hK hN (s_B_B X a d d2 B) (ci := 4) rfl rfl rfl ⟨Nat.le_of_ble_eq_true rfl, Nat.le_of_ble_eq_true rfl⟩ rfl hl.1 rfl (Nat.le_of_ble_eq_true rfl) dX4_digest_148 ?_
        refine z_csL (pc := 151) S (m_X4_mix l X u1 x148 rfl) (va_cwS 2 hts gX4_digest_X4_mix rfl rfl rfl hdX4_mix ⟨Nat.le_of_ble_eq_true rfl, Nat.le_of_ble_eq_true rfl⟩) hP hK hN (s_nil _) ⟨Nat.le_of_ble_eq_true rfl, Nat.le_of_ble_eq_true rfl⟩ rfl hl.1 rfl (Nat.le_of_ble_eq_true rfl) dX4_digest_151 ?_
        refine lv_lstore_n (pc := 154) (lv' := [(1, .long (f_X4_mix u1 x148)), (0, .ref a), (3, .int u3)]) hx hb dX4_digest_154 rfl hl (by decide) rfl (fun ls hl => ?_)
        refine lv_lload_n (pc := 155) hx hb dX4_digest_155 rfl (lv_at hl 0 rfl) ?_
        refine lv_aload_n (pc := 156) hx hb dX4_digest_156 rfl (lv_at hl 1 rfl) ?_
        refine lv_iload_n (pc := 157) hx hb dX4_digest_157 rfl (lv_at hl 2 rfl) ?_
        obtain ⟨x158, e158, hf⟩ := z_bd hf
        refine z_cpI (pc := 158) S (m_X4_roomOf l X a d d2 B u3 e158) (cwV 1 hts gX4_digest_X4_roomOf rfl rfl rfl hdX4_roomOf ⟨Nat.le_of_ble_eq_true rfl, Nat.le_of_ble_eq_true rfl⟩) hP hK hN (s_B_B X a d d2 B) (ci := 4) rfl rfl rfl ⟨Nat.le_of_ble_eq_true rfl, Nat.le_of_ble_eq_true rfl⟩ rfl hl.1 rfl (Nat.le_of_ble_eq_true rfl) dX4_digest_158 ?_
        refine z_csL (pc := 161) S (m_X4_mix l X (f_X4_mix u1 x148) x158 rfl) (va_cwS 2 hts gX4_digest_X4_mix rfl rfl rfl hdX4_mix ⟨Nat.le_of_ble_eq_true rfl, Nat.le_of_ble_eq_true rfl⟩) hP hK hN (s_nil _) ⟨Nat.le_of_ble_eq_true rfl, Nat.le_of_ble_eq_true rfl⟩ rfl hl.1 rfl (Nat.le_of_ble_eq_true rfl) dX4_digest_161 ?_
        refine lv_lstore_n (pc := 164) (lv' := [(1, .long (f_X4_mix (f_X4_mix u1 x148) x158)), (0, .ref a), (3, .int u3)]) hx hb dX4_digest_164 rfl hl (by decide) rfl (fun ls hl => ?_)
        refine lv_lload_n (pc := 165) hx hb dX4_digest_165 rfl (lv_at hl 0 rfl) ?_
        refine lv_aload_n (pc := 166) hx hb dX4_digest_166 rfl (lv_at hl 1 rfl) ?_
        refine lv_iload_n (pc := 167) hx hb dX4_digest_167 rfl (lv_at hl 2 rfl) ?_
        obtain ⟨x168, e168, hf⟩ := z_bd hf
        refine z_cpI (pc := 168) S (m_X4_isCut l X a d d2 B u3 e168) (cwV 1 hts gX4_digest_X4_isCut rfl rfl rfl hdX4_isCut ⟨Nat.le_of_ble_eq_true rfl, Nat.le_of_ble_eq_true rfl⟩) hP hK hN (s_B_B X a d d2 B) (ci := 4) rfl rfl rfl ⟨Nat.le_of_ble_eq_true rfl, Nat.le_of_ble_eq_true rfl⟩ rfl hl.1 rfl (Nat.le_of_ble_eq_true rfl) dX4_digest_168 ?_
        refine lv_if_eq (pc := 171) (tgt := 178) hx hb dX4_digest_171 (by decide) (fun c_171 => ?_) (fun c_171 => ?_)
        · replace hf := z_ip c_171 hf
          refine lv_iconst (v := 0) (pc := 178) hx hb dX4_digest_178 (by decide) ?_
          refine z_csL (pc := 179) S (m_X4_mix l X (f_X4_mix (f_X4_mix u1 x148) x158) 0 rfl) (va_cwS 2 hts gX4_digest_X4_mix rfl rfl rfl hdX4_mix ⟨Nat.le_of_ble_eq_true rfl, Nat.le_of_ble_eq_true rfl⟩) hP hK hN (s_nil _) ⟨Nat.le_of_ble_eq_true rfl, Nat.le_of_ble_eq_true rfl⟩ rfl hl.1 rfl (Nat.le_of_ble_eq_true rfl) dX4_digest_179 ?_
          refine lv_lstore_n (pc := 182) (lv' := [(1, .long (f_X4_mix (f_X4_mix (f_X4_mix u1 x148) x158) 0)), (0, .ref a), (3, .int u3)]) hx hb dX4_digest_182 rfl hl (by decide) rfl (fun ls hl => ?_)
          refine lv_lload_n (pc := 183) hx hb dX4_digest_183 rfl (lv_at hl 0 rfl) ?_
          refine lv_aload_n (pc := 184) hx hb dX4_digest_184 rfl (lv_at hl 1 rfl) ?_
          refine lv_iload_n (pc := 185) hx hb dX4_digest_185 rfl (lv_at hl 2 rfl) ?_
          obtain ⟨x186, e186, hf⟩ := z_bd hf
          refine z_cpI (pc := 186) S (m_X4_waitedFor l X a d d2 B u3 e186) (cwV 1 hts gX4_digest_X4_waitedFor rfl rfl rfl hdX4_waitedFor ⟨Nat.le_of_ble_eq_true rfl, Nat.le_of_ble_eq_true rfl⟩) hP hK hN (s_B_B X a d d2 B) (ci := 4) rfl rfl rfl ⟨Nat.le_of_ble_eq_true rfl, Nat.le_of_ble_eq_true rfl⟩ rfl hl.1 rfl (Nat.le_of_ble_eq_true rfl) dX4_digest_186 ?_
          refine z_csL (pc := 189) S (m_X4_mix l X (f_X4_mix (f_X4_mix (f_X4_mix u1 x148) x158) 0) x186 rfl) (va_cwS 2 hts gX4_digest_X4_mix rfl rfl rfl hdX4_mix ⟨Nat.le_of_ble_eq_true rfl, Nat.le_of_ble_eq_true rfl⟩) hP hK hN (s_nil _) ⟨Nat.le_of_ble_eq_true rfl, Nat.le_of_ble_eq_true rfl⟩ rfl hl.1 rfl (Nat.le_of_ble_eq_true rfl) dX4_digest_189 ?_
          refine lv_lstore_n (pc := 192) (lv' := [(1, .long (f_X4_mix (f_X4_mix (f_X4_mix (f_X4_mix u1 x148) x158) 0) x186)), (0, .ref a), (3, .int u3)]) hx hb dX4_digest_192 rfl hl (by decide) rfl (fun ls hl => ?_)
          refine lv_lload_n (pc := 193) hx hb dX4_digest_193 rfl (lv_at hl 0 rfl) ?_
          refine lv_aload_n (pc := 194) hx hb dX4_digest_194 rfl (lv_at hl 1 rfl) ?_
          refine lv_iload_n (pc := 195) hx hb dX4_digest_195 rfl (lv_at hl 2 rfl) ?_
          obtain ⟨x196, e196, hf⟩ := z_bd hf
          refine z_cpI (pc := 196) S (m_X4_placeInLine l X a d d2 B u3 e196) (cwV 1 hts gX4_digest_X4_placeInLine rfl rfl rfl hdX4_placeInLine ⟨Nat.le_of_ble_eq_true rfl, Nat.le_of_ble_eq_true rfl⟩) hP hK hN (s_B_B X a d d2 B) (ci := 4) rfl rfl rfl ⟨Nat.le_of_ble_eq_true rfl, Nat.le_of_ble_eq_true rfl⟩ rfl hl.1 rfl (Nat.le_of_ble_eq_true rfl) dX4_digest_196 ?_
          refine z_csL (pc := 199) S (m_X4_mix l X (f_X4_mix (f_X4_mix (f_X4_mix (f_X4_mix u1 x148) x158) 0) x186) x196 rfl) (va_cwS 2 hts gX4_digest_X4_mix rfl rfl rfl hdX4_mix ⟨Nat.le_of_ble_eq_true rfl, Nat.le_of_ble_eq_true rfl⟩) hP hK hN (s_nil _) ⟨Nat.le_of_ble_eq_true rfl, Nat.le_of_ble_eq_true rfl⟩ rfl hl.1 rfl (Nat.le_of_ble_eq_true rfl) dX4_digest_199 ?_
          refine lv_lstore_n (pc := 202) (lv' := [(1, .long (f_X4_mix (f_X4_mix (f_X4_mix (f_X4_mix (f_X4_mix u1 x148) x158) 0) x186) x196)), (0, .ref a), (3, .int u3)]) hx hb dX4_digest_202 rfl hl (by decide) rfl (fun ls hl => ?_)
          refine lv_lload_n (pc := 203) hx hb dX4_digest_203 rfl (lv_at hl 0 rfl) ?_
          refine lv_aload_n (pc := 204) hx hb dX4_digest_204 rfl (lv_at hl 1 rfl) ?_
          refine lv_iload_n (pc := 205) hx hb dX4_digest_205 rfl (lv_at hl 2 rfl) ?_
          obtain ⟨x206, e206, hf⟩ := z_bd hf
          refine z_cpI (pc := 206) S (m_X4_ringsLeft l X a d d2 B u3 e206) (cwV 1 hts gX4_digest_X4_ringsLeft rfl rfl rfl hdX4_ringsLeft ⟨Nat.le_of_ble_eq_true rfl, Nat.le_of_ble_eq_true rfl⟩) hP hK hN (s_B_B X a d d2 B) (ci := 4) rfl rfl rfl ⟨Nat.le_of_ble_eq_true rfl, Nat.le_of_ble_eq_true rfl⟩ rfl hl.1 rfl (Nat.le_of_ble_eq_true rfl) dX4_digest_206 ?_
          refine z_csL (pc := 209) S (m_X4_mix l X (f_X4_mix (f_X4_mix (f_X4_mix (f_X4_mix (f_X4_mix u1 x148) x158) 0) x186) x196) x206 rfl) (va_cwS 2 hts gX4_digest_X4_mix rfl rfl rfl hdX4_mix ⟨Nat.le_of_ble_eq_true rfl, Nat.le_of_ble_eq_true rfl⟩) hP hK hN (s_nil _) ⟨Nat.le_of_ble_eq_true rfl, Nat.le_of_ble_eq_true rfl⟩ rfl hl.1 rfl (Nat.le_of_ble_eq_true rfl) dX4_digest_209 ?_
          refine lv_lstore_n (pc := 212) (lv' := [(1, .long (f_X4_mix (f_X4_mix (f_X4_mix (f_X4_mix (f_X4_mix (f_X4_mix u1 x148) x158) 0) x186) x196) x206)), (0, .ref a), (3, .int u3)]) hx hb dX4_digest_212 rfl hl (by decide) rfl (fun ls hl => ?_)
          refine lv_lload_n (pc := 213) hx hb dX4_digest_213 rfl (lv_at hl 0 rfl) ?_
          refine lv_aload_n (pc := 214) hx hb dX4_digest_214 rfl (lv_at hl 1 rfl) ?_
          refine lv_iload_n (pc := 215) hx hb dX4_digest_215 rfl (lv_at hl 2 rfl) ?_
          obtain ⟨x216, e216, hf⟩ := z_bd hf
          refine z_cpI (pc := 216) S (m_X4_nearestIdle l X a d d2 B u3 e216) (cwV 1 hts gX4_digest_X4_nearestIdle rfl rfl rfl hdX4_nearestIdle ⟨Nat.le_of_ble_eq_true rfl, Nat.le_of_ble_eq_true rfl⟩) hP hK hN (s_B_B X a d d2 B) (ci := 4) rfl rfl rfl ⟨Nat.le_of_ble_eq_true rfl, Nat.le_of_ble_eq_true rfl⟩ rfl hl.1 rfl (Nat.le_of_ble_eq_true rfl) dX4_digest_216 ?_
          refine z_csL (pc := 219) S (m_X4_mix l X (f_X4_mix (f_X4_mix (f_X4_mix (f_X4_mix (f_X4_mix (f_X4_mix u1 x148) x158) 0) x186) x196) x206) x216 rfl) (va_cwS 2 hts gX4_digest_X4_mix rfl rfl rfl hdX4_mix ⟨Nat.le_of_ble_eq_true rfl, Nat.le_of_ble_eq_true rfl⟩) hP hK hN (s_nil _) ⟨Nat.le_of_ble_eq_true rfl, Nat.le_of_ble_eq_true rfl⟩ rfl hl.1 rfl (Nat.le_of_ble_eq_true rfl) dX4_digest_219 ?_
          refine lv_lstore_n (pc := 222) (lv' := [(1, .long (f_X4_mix (f_X4_mix (f_X4_mix (f_X4_mix (f_X4_mix (f_X4_mix (f_X4_mix u1 x148) x158) 0) x186) x196) x206) x216)), (0, .ref a), (3, .int u3)]) hx hb dX4_digest_222 rfl hl (by decide) rfl (fun ls hl => ?_)
          refine lv_lload_n (pc := 223) hx hb dX4_digest_223 rfl (lv_at hl 0 rfl) ?_
          refine lv_aload_n (pc := 224) hx hb dX4_digest_224 rfl (lv_at hl 1 rfl) ?_
          refine lv_iload_n (pc := 225) hx hb dX4_digest_225 rfl (lv_at hl 2 rfl) ?_
          obtain ⟨x226, e226, hf⟩ := z_bd hf
          refine z_cmI (pc := 226) (W1 := (z_wB X a d d2 x226.2)) S (m_X4_minutesUntilServed l X a d d2 B u3 e226) (cwV 1 hts gX4_digest_X4_minutesUntilServed rfl rfl rfl hdX4_minutesUntilServed ⟨Nat.le_of_ble_eq_true rfl, Nat.le_of_ble_eq_true rfl⟩) hP hK hN hD hS hA (s_B_B X a d d2 B) (f_B_B X a d d2 B x226.2) (ci := 4) rfl rfl rfl ⟨Nat.le_of_ble_eq_true rfl, Nat.le_of_ble_eq_true rfl⟩ rfl hl.1 rfl (Nat.le_of_ble_eq_true rfl) dX4_digest_226 (fun H locs hP hD hS => ?_)
          refine z_csL (pc := 229) S (m_X4_mix l X (f_X4_mix (f_X4_mix (f_X4_mix (f_X4_mix (f_X4_mix (f_X4_mix (f_X4_mix u1 x148) x158) 0) x186) x196) x206) x216) x226.1 rfl) (va_cwS 2 hts gX4_digest_X4_mix rfl rfl rfl hdX4_mix ⟨Nat.le_of_ble_eq_true rfl, Nat.le_of_ble_eq_true rfl⟩) hP hK hN (s_nil _) ⟨Nat.le_of_ble_eq_true rfl, Nat.le_of_ble_eq_true rfl⟩ rfl hl.1 rfl (Nat.le_of_ble_eq_true rfl) dX4_digest_229 ?_
          refine lv_lstore_n (pc := 232) (lv' := [(1, .long (f_X4_mix (f_X4_mix (f_X4_mix (f_X4_mix (f_X4_mix (f_X4_mix (f_X4_mix (f_X4_mix u1 x148) x158) 0) x186) x196) x206) x216) x226.1)), (0, .ref a), (3, .int u3)]) hx hb dX4_digest_232 rfl hl (by decide) rfl (fun ls hl => ?_)
          refine lv_lload_n (pc := 233) hx hb dX4_digest_233 rfl (lv_at hl 0 rfl) ?_
          refine lv_aload_n (pc := 234) hx hb dX4_digest_234 rfl (lv_at hl 1 rfl) ?_
          refine lv_iload_n (pc := 235) hx hb dX4_digest_235 rfl (lv_at hl 2 rfl) ?_
          obtain ⟨x236, e236, hf⟩ := z_bd hf
          refine z_cmI (pc := 236) (W1 := (z_wB X a d d2 x236.2)) S (m_X4_bestToCross l X a d d2 x226.2 u3 e236) (cwV 1 hts gX4_digest_X4_bestToCross rfl rfl rfl hdX4_bestToCross ⟨Nat.le_of_ble_eq_true rfl, Nat.le_of_ble_eq_true rfl⟩) hP hK hN hD hS hA (s_B_B X a d d2 x226.2) (f_B_B X a d d2 x226.2 x236.2) (ci := 4) rfl rfl rfl ⟨Nat.le_of_ble_eq_true rfl, Nat.le_of_ble_eq_true rfl⟩ rfl hl.1 rfl (Nat.le_of_ble_eq_true rfl) dX4_digest_236 (fun H locs hP hD hS => ?_)
          refine z_csL (pc := 239) S (m_X4_mix l X (f_X4_mix (f_X4_mix (f_X4_mix (f_X4_mix (f_X4_mix (f_X4_mix (f_X4_mix (f_X4_mix u1 x148) x158) 0) x186) x196) x206) x216) x226.1) x236.1 rfl) (va_cwS 2 hts gX4_digest_X4_mix rfl rfl rfl hdX4_mix ⟨Nat.le_of_ble_eq_true rfl, Nat.le_of_ble_eq_true rfl⟩) hP hK hN (s_nil _) ⟨Nat.le_of_ble_eq_true rfl, Nat.le_of_ble_eq_true rfl⟩ rfl hl.1 rfl (Nat.le_of_ble_eq_true rfl) dX4_digest_239 ?_
          refine lv_lstore_n (pc := 242) (lv' := [(1, .long (f_X4_mix (f_X4_mix (f_X4_mix (f_X4_mix (f_X4_mix (f_X4_mix (f_X4_mix (f_X4_mix (f_X4_mix u1 x148) x158) 0) x186) x196) x206) x216) x226.1) x236.1)), (0, .ref a), (3, .int u3)]) hx hb dX4_digest_242 rfl hl (by decide) rfl (fun ls hl => ?_)
          refine lv_iinc (pc := 243) (v := (u3 + 1)) (lv' := [(3, .int (u3 + 1)), (1, .long (f_X4_mix (f_X4_mix (f_X4_mix (f_X4_mix (f_X4_mix (f_X4_mix (f_X4_mix (f_X4_mix (f_X4_mix u1 x148) x158) 0) x186) x196) x206) x216) x226.1) x236.1)), (0, .ref a)]) hx hb dX4_digest_243 hl (k := 2) rfl rfl (by decide) rfl (fun ls hl => ?_)
          refine lv_goto (pc := 246) (tgt := 134) hx hb dX4_digest_246 (by decide) ?_
          exact ih (f_X4_mix (f_X4_mix (f_X4_mix (f_X4_mix (f_X4_mix (f_X4_mix (f_X4_mix (f_X4_mix (f_X4_mix u1 x148) x158) 0) x186) x196) x206) x216) x226.1) x236.1) (u3 + 1) x236.2 T H locs hP hD hS ls (lv_sub hl [2, 1, 0] rfl) hf kk
        · replace hf := z_in c_171 hf
          refine lv_iconst (v := 1) (pc := 174) hx hb dX4_digest_174 (by decide) ?_
          refine lv_goto (pc := 175) (tgt := 179) hx hb dX4_digest_175 (by decide) ?_
          refine z_csL (pc := 179) S (m_X4_mix l X (f_X4_mix (f_X4_mix u1 x148) x158) 1 rfl) (va_cwS 2 hts gX4_digest_X4_mix rfl rfl rfl hdX4_mix ⟨Nat.le_of_ble_eq_true rfl, Nat.le_of_ble_eq_true rfl⟩) hP hK hN (s_nil _) ⟨Nat.le_of_ble_eq_true rfl, Nat.le_of_ble_eq_true rfl⟩ rfl hl.1 rfl (Nat.le_of_ble_eq_true rfl) dX4_digest_179 ?_
          refine lv_lstore_n (pc := 182) (lv' := [(1, .long (f_X4_mix (f_X4_mix (f_X4_mix u1 x148) x158) 1)), (0, .ref a), (3, .int u3)]) hx hb dX4_digest_182 rfl hl (by decide) rfl (fun ls hl => ?_)
          refine lv_lload_n (pc := 183) hx hb dX4_digest_183 rfl (lv_at hl 0 rfl) ?_
          refine lv_aload_n (pc := 184) hx hb dX4_digest_184 rfl (lv_at hl 1 rfl) ?_
          refine lv_iload_n (pc := 185) hx hb dX4_digest_185 rfl (lv_at hl 2 rfl) ?_
          obtain ⟨x186, e186, hf⟩ := z_bd hf
          refine z_cpI (pc := 186) S (m_X4_waitedFor l X a d d2 B u3 e186) (cwV 1 hts gX4_digest_X4_waitedFor rfl rfl rfl hdX4_waitedFor ⟨Nat.le_of_ble_eq_true rfl, Nat.le_of_ble_eq_true rfl⟩) hP hK hN (s_B_B X a d d2 B) (ci := 4) rfl rfl rfl ⟨Nat.le_of_ble_eq_true rfl, Nat.le_of_ble_eq_true rfl⟩ rfl hl.1 rfl (Nat.le_of_ble_eq_true rfl) dX4_digest_186 ?_
          refine z_csL (pc := 189) S (m_X4_mix l X (f_X4_mix (f_X4_mix (f_X4_mix u1 x148) x158) 1) x186 rfl) (va_cwS 2 hts gX4_digest_X4_mix rfl rfl rfl hdX4_mix ⟨Nat.le_of_ble_eq_true rfl, Nat.le_of_ble_eq_true rfl⟩) hP hK hN (s_nil _) ⟨Nat.le_of_ble_eq_true rfl, Nat.le_of_ble_eq_true rfl⟩ rfl hl.1 rfl (Nat.le_of_ble_eq_true rfl) dX4_digest_189 ?_
          refine lv_lstore_n (pc := 192) (lv' := [(1, .long (f_X4_mix (f_X4_mix (f_X4_mix (f_X4_mix u1 x148) x158) 1) x186)), (0, .ref a), (3, .int u3)]) hx hb dX4_digest_192 rfl hl (by decide) rfl (fun ls hl => ?_)
          refine lv_lload_n (pc := 193) hx hb dX4_digest_193 rfl (lv_at hl 0 rfl) ?_
          refine lv_aload_n (pc := 194) hx hb dX4_digest_194 rfl (lv_at hl 1 rfl) ?_
          refine lv_iload_n (pc := 195) hx hb dX4_digest_195 rfl (lv_at hl 2 rfl) ?_
          obtain ⟨x196, e196, hf⟩ := z_bd hf
          refine z_cpI (pc := 196) S (m_X4_placeInLine l X a d d2 B u3 e196) (cwV 1 hts gX4_digest_X4_placeInLine rfl rfl rfl hdX4_placeInLine ⟨Nat.le_of_ble_eq_true rfl, Nat.le_of_ble_eq_true rfl⟩) hP hK hN (s_B_B X a d d2 B) (ci := 4) rfl rfl rfl ⟨Nat.le_of_ble_eq_true rfl, Nat.le_of_ble_eq_true rfl⟩ rfl hl.1 rfl (Nat.le_of_ble_eq_true rfl) dX4_digest_196 ?_
          refine z_csL (pc := 199) S (m_X4_mix l X (f_X4_mix (f_X4_mix (f_X4_mix (f_X4_mix u1 x148) x158) 1) x186) x196 rfl) (va_cwS 2 hts gX4_digest_X4_mix rfl rfl rfl hdX4_mix ⟨Nat.le_of_ble_eq_true rfl, Nat.le_of_ble_eq_true rfl⟩) hP hK hN (s_nil _) ⟨Nat.le_of_ble_eq_true rfl, Nat.le_of_ble_eq_true rfl⟩ rfl hl.1 rfl (Nat.le_of_ble_eq_true rfl) dX4_digest_199 ?_
          refine lv_lstore_n (pc := 202) (lv' := [(1, .long (f_X4_mix (f_X4_mix (f_X4_mix (f_X4_mix (f_X4_mix u1 x148) x158) 1) x186) x196)), (0, .ref a), (3, .int u3)]) hx hb dX4_digest_202 rfl hl (by decide) rfl (fun ls hl => ?_)
          refine lv_lload_n (pc := 203) hx hb dX4_digest_203 rfl (lv_at hl 0 rfl) ?_
          refine lv_aload_n (pc := 204) hx hb dX4_digest_204 rfl (lv_at hl 1 rfl) ?_
          refine lv_iload_n (pc := 205) hx hb dX4_digest_205 rfl (lv_at hl 2 rfl) ?_
          obtain ⟨x206, e206, hf⟩ := z_bd hf
          refine z_cpI (pc := 206) S (m_X4_ringsLeft l X a d d2 B u3 e206) (cwV 1 hts gX4_digest_X4_ringsLeft rfl rfl rfl hdX4_ringsLeft ⟨Nat.le_of_ble_eq_true rfl, Nat.le_of_ble_eq_true rfl⟩) hP hK hN (s_B_B X a d d2 B) (ci := 4) rfl rfl rfl ⟨Nat.le_of_ble_eq_true rfl, Nat.le_of_ble_eq_true rfl⟩ rfl hl.1 rfl (Nat.le_of_ble_eq_true rfl) dX4_digest_206 ?_
          refine z_csL (pc := 209) S (m_X4_mix l X (f_X4_mix (f_X4_mix (f_X4_mix (f_X4_mix (f_X4_mix u1 x148) x158) 1) x186) x196) x206 rfl) (va_cwS 2 hts gX4_digest_X4_mix rfl rfl rfl hdX4_mix ⟨Nat.le_of_ble_eq_true rfl, Nat.le_of_ble_eq_true rfl⟩) hP hK hN (s_nil _) ⟨Nat.le_of_ble_eq_true rfl, Nat.le_of_ble_eq_true rfl⟩ rfl hl.1 rfl (Nat.le_of_ble_eq_true rfl) dX4_digest_209 ?_
          refine lv_lstore_n (pc := 212) (lv' := [(1, .long (f_X4_mix (f_X4_mix (f_X4_mix (f_X4_mix (f_X4_mix (f_X4_mix u1 x148) x158) 1) x186) x196) x206)), (0, .ref a), (3, .int u3)]) hx hb dX4_digest_212 rfl hl (by decide) rfl (fun ls hl => ?_)
          refine lv_lload_n (pc := 213) hx hb dX4_digest_213 rfl (lv_at hl 0 rfl) ?_
          refine lv_aload_n (pc := 214) hx hb dX4_digest_214 rfl (lv_at hl 1 rfl) ?_
          refine lv_iload_n (pc := 215) hx hb dX4_digest_215 rfl (lv_at hl 2 rfl) ?_
          obtain ⟨x216, e216, hf⟩ := z_bd hf
          refine z_cpI (pc := 216) S (m_X4_nearestIdle l X a d d2 B u3 e216) (cwV 1 hts gX4_digest_X4_nearestIdle rfl rfl rfl hdX4_nearestIdle ⟨Nat.le_of_ble_eq_true rfl, Nat.le_of_ble_eq_true rfl⟩) hP hK hN (s_B_B X a d d2 B) (ci := 4) rfl rfl rfl ⟨Nat.le_of_ble_eq_true rfl, Nat.le_of_ble_eq_true rfl⟩ rfl hl.1 rfl (Nat.le_of_ble_eq_true rfl) dX4_digest_216 ?_
          refine z_csL (pc := 219) S (m_X4_mix l X (f_X4_mix (f_X4_mix (f_X4_mix (f_X4_mix (f_X4_mix (f_X4_mix u1 x148) x158) 1) x186) x196) x206) x216 rfl) (va_cwS 2 hts gX4_digest_X4_mix rfl rfl rfl hdX4_mix ⟨Nat.le_of_ble_eq_true rfl, Nat.le_of_ble_eq_true rfl⟩) hP hK hN (s_nil _) ⟨Nat.le_of_ble_eq_true rfl, Nat.le_of_ble_eq_true rfl⟩ rfl hl.1 rfl (Nat.le_of_ble_eq_true rfl) dX4_digest_219 ?_
          refine lv_lstore_n (pc := 222) (lv' := [(1, .long (f_X4_mix (f_X4_mix (f_X4_mix (f_X4_mix (f_X4_mix (f_X4_mix (f_X4_mix u1 x148) x158) 1) x186) x196) x206) x216)), (0, .ref a), (3, .int u3)]) hx hb dX4_digest_222 rfl hl (by decide) rfl (fun ls hl => ?_)
          refine lv_lload_n (pc := 223) hx hb dX4_digest_223 rfl (lv_at hl 0 rfl) ?_
          refine lv_aload_n (pc := 224) hx hb dX4_digest_224 rfl (lv_at hl 1 rfl) ?_
          refine lv_iload_n (pc := 225) hx hb dX4_digest_225 rfl (lv_at hl 2 rfl) ?_
          obtain ⟨x226, e226, hf⟩ := z_bd hf
          refine z_cmI (pc := 226) (W1 := (z_wB X a d d2 x226.2)) S (m_X4_minutesUntilServed l X a d d2 B u3 e226) (cwV 1 hts gX4_digest_X4_minutesUntilServed rfl rfl rfl hdX4_minutesUntilServed ⟨Nat.le_of_ble_eq_true rfl, Nat.le_of_ble_eq_true rfl⟩) hP hK hN hD hS hA (s_B_B X a d d2 B) (f_B_B X a d d2 B x226.2) (ci := 4) rfl rfl rfl ⟨Nat.le_of_ble_eq_true rfl, Nat.le_of_ble_eq_true rfl⟩ rfl hl.1 rfl (Nat.le_of_ble_eq_true rfl) dX4_digest_226 (fun H locs hP hD hS => ?_)
          refine z_csL (pc := 229) S (m_X4_mix l X (f_X4_mix (f_X4_mix (f_X4_mix (f_X4_mix (f_X4_mix (f_X4_mix (f_X4_mix u1 x148) x158) 1) x186) x196) x206) x216) x226.1 rfl) (va_cwS 2 hts gX4_digest_X4_mix rfl rfl rfl hdX4_mix ⟨Nat.le_of_ble_eq_true rfl, Nat.le_of_ble_eq_true rfl⟩) hP hK hN (s_nil _) ⟨Nat.le_of_ble_eq_true rfl, Nat.le_of_ble_eq_true rfl⟩ rfl hl.1 rfl (Nat.le_of_ble_eq_true rfl) dX4_digest_229 ?_
          refine lv_lstore_n (pc := 232) (lv' := [(1, .long (f_X4_mix (f_X4_mix (f_X4_mix (f_X4_mix (f_X4_mix (f_X4_mix (f_X4_mix (f_X4_mix u1 x148) x158) 1) x186) x196) x206) x216) x226.1)), (0, .ref a), (3, .int u3)]) hx hb dX4_digest_232 rfl hl (by decide) rfl (fun ls hl => ?_)
          refine lv_lload_n (pc := 233) hx hb dX4_digest_233 rfl (lv_at hl 0 rfl) ?_
          refine lv_aload_n (pc := 234) hx hb dX4_digest_234 rfl (lv_at hl 1 rfl) ?_
          refine lv_iload_n (pc := 235) hx hb dX4_digest_235 rfl (lv_at hl 2 rfl) ?_
          obtain ⟨x236, e236, hf⟩ := z_bd hf
          refine z_cmI (pc := 236) (W1 := (z_wB X a d d2 x236.2)) S (m_X4_bestToCross l X a d d2 x226.2 u3 e236) (cwV 1 hts gX4_digest_X4_bestToCross rfl rfl rfl hdX4_bestToCross ⟨Nat.le_of_ble_eq_true rfl, Nat.le_of_ble_eq_true rfl⟩) hP hK hN hD hS hA (s_B_B X a d d2 x226.2) (f_B_B X a d d2 x226.2 x236.2) (ci := 4) rfl rfl rfl ⟨Nat.le_of_ble_eq_true rfl, Nat.le_of_ble_eq_true rfl⟩ rfl hl.1 rfl (Nat.le_of_ble_eq_true rfl) dX4_digest_236 (fun H locs hP hD hS => ?_)
          refine z_csL (pc := 239) S (m_X4_mix l X (f_X4_mix (f_X4_mix (f_X4_mix (f_X4_mix (f_X4_mix (f_X4_mix (f_X4_mix (f_X4_mix u1 x148) x158) 1) x186) x196) x206) x216) x226.1) x236.1 rfl) (va_cwS 2 hts gX4_digest_X4_mix rfl rfl rfl hdX4_mix ⟨Nat.le_of_ble_eq_true rfl, Nat.le_of_ble_eq_true rfl⟩) hP hK hN (s_nil _) ⟨Nat.le_of_ble_eq_true rfl, Nat.le_of_ble_eq_true rfl⟩ rfl hl.1 rfl (Nat.le_of_ble_eq_true rfl) dX4_digest_239 ?_
          refine lv_lstore_n (pc := 242) (lv' := [(1, .long (f_X4_mix (f_X4_mix (f_X4_mix (f_X4_mix (f_X4_mix (f_X4_mix (f_X4_mix (f_X4_mix (f_X4_mix u1 x148) x158) 1) x186) x196) x206) x216) x226.1) x236.1)), (0, .ref a), (3, .int u3)]) hx hb dX4_digest_242 rfl hl (by decide) rfl (fun ls hl => ?_)
          refine lv_iinc (pc := 243) (v := (u3 + 1)) (lv' := [(3, .int (u3 + 1)), (1, .long (f_X4_mix (f_X4_mix (f_X4_mix (f_X4_mix (f_X4_mix (f_X4_mix (f_X4_mix (f_X4_mix (f_X4_mix u1 x148) x158) 1) x186) x196) x206) x216) x226.1) x236.1)), (0, .ref a)]) hx hb dX4_digest_243 hl (k := 2) rfl rfl (by decide) rfl (fun ls hl => ?_)
          refine lv_goto (pc := 246) (tgt := 134) hx hb dX4_digest_246 (by decide) ?_
          exact ih (f_X4_mix (f_X4_mix (f_X4_mix (f_X4_mix (f_X4_mix (f_X4_mix (f_X4_mix (f_X4_mix (f_X4_mix u1 x148) x158) 1) x186) x196) x206) x216) x226.1) x236.1) (u3 + 1) x236.2 T H locs hP hD hS ls (lv_sub hl [2, 1, 0] rfl) hf kk
  have lp_251 : ∀ (n : Nat) (u1 : Int64) (u3 : Int32) (B : z_B) (T : (Int64 × z_B)) (H : Heap) (locs : List Loc), va_P X.1 vwCl (z_wB X a d d2 B) H → va_D A (z_wB X a d d2 B) → va_S A s.heap H locs → ∀ (ls : Array Slot), lv_has ls 4 [(0, .ref a), (1, .long u1), (3, .int u3)] → f_X4_digest_L251 n u1 u3 B = some T → (∀ (H : Heap) (locs : List Loc), va_P X.1 vwCl (z_wB X a d d2 T.2) H → va_D A (z_wB X a d d2 T.2) → va_S A s.heap H locs → ∀ (ls : Array Slot), lv_has ls 4 [(1, .long T.1)] → W p l e (headSpec wsX4_digest (z_R 6 142)).room s m ([.ref a] : List Value).toArray below meth c H locs 0 0 (MQ below (va_Ql (fun (z : Int64) (u : va_W) => z = RR.1 ∧ u = (z_wB X a d d2 RR.2)) (z_Bm X A) A) ([.ref a] : List Value).toArray s 0 0 A) (F0 m 311 ls [])) → W p l e (headSpec wsX4_digest (z_R 6 142)).room s m ([.ref a] : List Value).toArray below meth c H locs 0 0 (MQ below (va_Ql (fun (z : Int64) (u : va_W) => z = RR.1 ∧ u = (z_wB X a d d2 RR.2)) (z_Bm X A) A) ([.ref a] : List Value).toArray s 0 0 A) (F0 m 251 ls []) := by
    intro n
    induction n with
    | zero =>
      intro u1 u3 B T H locs hP hD hS ls hl hf kk
      cases hf
    | succ n ih =>
      intro u1 u3 B T H locs hP hD hS ls hl hf kk
      rw [f_X4_digest_L251] at hf
      refine lv_iload_n (pc := 251) hx hb dX4_digest_251 rfl (lv_at hl 2 rfl) ?_
      refine lv_aload_n (pc := 252) hx hb dX4_digest_252 rfl (lv_at hl 0 rfl) ?_
      refine va_get (pc := 253) (ci := 4) (C := RX4) (T := TX4) (N := 2) hx hb hts in_X4 hown hK hP 0 rfl rfl 0 (by decide) lk_fi10 (fun _ h9 => h9) rfl dX4_digest_253 ?_
      refine va_getN (pc := 256) (ci := 0) (C := RX0) (T := TX0) (N := 15) hx hb hts in_X0 hown hK hP 1 rfl rfl 14 (by decide) (z_n24 hN) (fun _ h9 => h9) rfl dX4_digest_256 ?_
      refine va_getN (pc := 259) (ci := 3) (C := RX3) (T := TX3) (N := 6) hx hb hts in_X3 hown hK hP 16 rfl rfl 0 (by decide) (z_n2 hN) (fun _ h9 => h9) rfl dX4_digest_259 ?_
      refine lv_icmp_ge (pc := 262) (tgt := 311) hx hb dX4_digest_262 (by decide) (fun c_262 => ?_) (fun c_262 => ?_)
      · replace hf := z_ip c_262 hf
        obtain rfl := Option.some.inj hf
        exact kk H locs hP hD hS ls (lv_sub hl [1] rfl)
      · replace hf := z_in c_262 hf
        refine lv_lload_n (pc := 265) hx hb dX4_digest_265 rfl (lv_at hl 1 rfl) ?_
        refine lv_aload_n (pc := 266) hx hb dX4_digest_266 rfl (lv_at hl 0 rfl) ?_
        refine lv_iload_n (pc := 267) hx hb dX4_digest_267 rfl (lv_at hl 2 rfl) ?_
        obtain ⟨x268, e268, hf⟩ := z_bd hf
        refine z_cpI (pc := 268) S (m_X4_floorOf l X a d d2 B u3 e268) (cwV 1 hts gX4_digest_X4_floorOf rfl rfl rfl hdX4_floorOf ⟨Nat.le_of_ble_eq_true rfl, Nat.le_of_ble_eq_true rfl⟩) hP hK hN (s_B_B X a d d2 B) (ci := 4) rfl rfl rfl ⟨Nat.le_of_ble_eq_true rfl, Nat.le_of_ble_eq_true rfl⟩ rfl hl.1 rfl (Nat.le_of_ble_eq_true rfl) dX4_digest_268 ?_
        refine z_csL (pc := 271) S (m_X4_mix l X u1 x268 rfl) (va_cwS 2 hts gX4_digest_X4_mix rfl rfl rfl hdX4_mix ⟨Nat.le_of_ble_eq_true rfl, Nat.le_of_ble_eq_true rfl⟩) hP hK hN (s_nil _) ⟨Nat.le_of_ble_eq_true rfl, Nat.le_of_ble_eq_true rfl⟩ rfl hl.1 rfl (Nat.le_of_ble_eq_true rfl) dX4_digest_271 ?_
        refine lv_lstore_n (pc := 274) (lv' := [(1, .long (f_X4_mix u1 x268)), (0, .ref a), (3, .int u3)]) hx hb dX4_digest_274 rfl hl (by decide) rfl (fun ls hl => ?_)
        refine lv_lload_n (pc := 275) hx hb dX4_digest_275 rfl (lv_at hl 0 rfl) ?_
        refine lv_aload_n (pc := 276) hx hb dX4_digest_276 rfl (lv_at hl 1 rfl) ?_
        refine lv_iload_n (pc := 277) hx hb dX4_digest_277 rfl (lv_at hl 2 rfl) ?_
        obtain ⟨x278, e278, hf⟩ := z_bd hf
        refine z_cpI (pc := 278) S (m_X4_goesTo l X a d d2 B u3 e278) (cwV 1 hts gX4_digest_X4_goesTo rfl rfl rfl hdX4_goesTo ⟨Nat.le_of_ble_eq_true rfl, Nat.le_of_ble_eq_true rfl⟩) hP hK hN (s_B_B X a d d2 B) (ci := 4) rfl rfl rfl ⟨Nat.le_of_ble_eq_true rfl, Nat.le_of_ble_eq_true rfl⟩ rfl hl.1 rfl (Nat.le_of_ble_eq_true rfl) dX4_digest_278 ?_
        refine z_csL (pc := 281) S (m_X4_mix l X (f_X4_mix u1 x268) x278 rfl) (va_cwS 2 hts gX4_digest_X4_mix rfl rfl rfl hdX4_mix ⟨Nat.le_of_ble_eq_true rfl, Nat.le_of_ble_eq_true rfl⟩) hP hK hN (s_nil _) ⟨Nat.le_of_ble_eq_true rfl, Nat.le_of_ble_eq_true rfl⟩ rfl hl.1 rfl (Nat.le_of_ble_eq_true rfl) dX4_digest_281 ?_
        refine lv_lstore_n (pc := 284) (lv' := [(1, .long (f_X4_mix (f_X4_mix u1 x268) x278)), (0, .ref a), (3, .int u3)]) hx hb dX4_digest_284 rfl hl (by decide) rfl (fun ls hl => ?_)
        refine lv_lload_n (pc := 285) hx hb dX4_digest_285 rfl (lv_at hl 0 rfl) ?_
        refine lv_aload_n (pc := 286) hx hb dX4_digest_286 rfl (lv_at hl 1 rfl) ?_
        refine lv_iload_n (pc := 287) hx hb dX4_digest_287 rfl (lv_at hl 2 rfl) ?_
        obtain ⟨x288, e288, hf⟩ := z_bd hf
        refine z_cpI (pc := 288) S (m_X4_serves l X a d d2 B u3 e288) (cwV 1 hts gX4_digest_X4_serves rfl rfl rfl hdX4_serves ⟨Nat.le_of_ble_eq_true rfl, Nat.le_of_ble_eq_true rfl⟩) hP hK hN (s_B_B X a d d2 B) (ci := 4) rfl rfl rfl ⟨Nat.le_of_ble_eq_true rfl, Nat.le_of_ble_eq_true rfl⟩ rfl hl.1 rfl (Nat.le_of_ble_eq_true rfl) dX4_digest_288 ?_
        refine z_csL (pc := 291) S (m_X4_mix l X (f_X4_mix (f_X4_mix u1 x268) x278) x288 rfl) (va_cwS 2 hts gX4_digest_X4_mix rfl rfl rfl hdX4_mix ⟨Nat.le_of_ble_eq_true rfl, Nat.le_of_ble_eq_true rfl⟩) hP hK hN (s_nil _) ⟨Nat.le_of_ble_eq_true rfl, Nat.le_of_ble_eq_true rfl⟩ rfl hl.1 rfl (Nat.le_of_ble_eq_true rfl) dX4_digest_291 ?_
        refine lv_lstore_n (pc := 294) (lv' := [(1, .long (f_X4_mix (f_X4_mix (f_X4_mix u1 x268) x278) x288)), (0, .ref a), (3, .int u3)]) hx hb dX4_digest_294 rfl hl (by decide) rfl (fun ls hl => ?_)
        refine lv_lload_n (pc := 295) hx hb dX4_digest_295 rfl (lv_at hl 0 rfl) ?_
        refine lv_aload_n (pc := 296) hx hb dX4_digest_296 rfl (lv_at hl 1 rfl) ?_
        refine lv_iload_n (pc := 297) hx hb dX4_digest_297 rfl (lv_at hl 2 rfl) ?_
        obtain ⟨x298, e298, hf⟩ := z_bd hf
        refine z_cpI (pc := 298) S (m_X4_minutesLeft l X a d d2 B u3 e298) (cwV 1 hts gX4_digest_X4_minutesLeft rfl rfl rfl hdX4_minutesLeft ⟨Nat.le_of_ble_eq_true rfl, Nat.le_of_ble_eq_true rfl⟩) hP hK hN (s_B_B X a d d2 B) (ci := 4) rfl rfl rfl ⟨Nat.le_of_ble_eq_true rfl, Nat.le_of_ble_eq_true rfl⟩ rfl hl.1 rfl (Nat.le_of_ble_eq_true rfl) dX4_digest_298 ?_
        refine z_csL (pc := 301) S (m_X4_mix l X (f_X4_mix (f_X4_mix (f_X4_mix u1 x268) x278) x288) x298 rfl) (va_cwS 2 hts gX4_digest_X4_mix rfl rfl rfl hdX4_mix ⟨Nat.le_of_ble_eq_true rfl, Nat.le_of_ble_eq_true rfl⟩) hP hK hN (s_nil _) ⟨Nat.le_of_ble_eq_true rfl, Nat.le_of_ble_eq_true rfl⟩ rfl hl.1 rfl (Nat.le_of_ble_eq_true rfl) dX4_digest_301 ?_
        refine lv_lstore_n (pc := 304) (lv' := [(1, .long (f_X4_mix (f_X4_mix (f_X4_mix (f_X4_mix u1 x268) x278) x288) x298)), (0, .ref a), (3, .int u3)]) hx hb dX4_digest_304 rfl hl (by decide) rfl (fun ls hl => ?_)
        refine lv_iinc (pc := 305) (v := (u3 + 1)) (lv' := [(3, .int (u3 + 1)), (1, .long (f_X4_mix (f_X4_mix (f_X4_mix (f_X4_mix u1 x268) x278) x288) x298)), (0, .ref a)]) hx hb dX4_digest_305 hl (k := 2) rfl rfl (by decide) rfl (fun ls hl => ?_)
        refine lv_goto (pc := 308) (tgt := 251) hx hb dX4_digest_308 (by decide) ?_
        exact ih (f_X4_mix (f_X4_mix (f_X4_mix (f_X4_mix u1 x268) x278) x288) x298) (u3 + 1) B T H locs hP hD hS ls (lv_sub hl [2, 1, 0] rfl) hf kk
  suffices hgo : ∀ (H : Heap) (locs : List Loc), va_P X.1 vwCl (z_wB X a d d2 B) H → va_D A (z_wB X a d d2 B) → va_S A s.heap H locs → W p l e (headSpec wsX4_digest (z_R 6 142)).room s m ([.ref a] : List Value).toArray below meth c H locs 0 0 (MQ below (va_Ql (fun (z : Int64) (u : va_W) => z = RR.1 ∧ u = (z_wB X a d d2 RR.2)) (z_Bm X A) A) ([.ref a] : List Value).toArray s 0 0 A) (F0 m 0 ls []) from hgo _ _ hP hD hS
  clear hP hD hS
  intro H locs hP hD hS
  unfold f_X4_digest at hf
  refine lv_ldc2 (v := 2377) (pc := 0) hx hb hown lk_co192 dX4_digest_0 ?_
  refine lv_lstore_n (pc := 3) (lv' := [(1, .long 2377), (0, .ref a)]) hx hb dX4_digest_3 rfl hl (by decide) rfl (fun ls hl => ?_)
  refine lv_lload_n (pc := 4) hx hb dX4_digest_4 rfl (lv_at hl 0 rfl) ?_
  refine lv_aload_n (pc := 5) hx hb dX4_digest_5 rfl (lv_at hl 1 rfl) ?_
  refine z_cpI (pc := 6) S (m_X4_minute l X a d d2 B rfl) (cwV 0 hts gX4_digest_X4_minute rfl rfl rfl hdX4_minute ⟨Nat.le_of_ble_eq_true rfl, Nat.le_of_ble_eq_true rfl⟩) hP hK hN (s_B_B X a d d2 B) (ci := 4) rfl rfl rfl ⟨Nat.le_of_ble_eq_true rfl, Nat.le_of_ble_eq_true rfl⟩ rfl hl.1 rfl (Nat.le_of_ble_eq_true rfl) dX4_digest_6 ?_
  refine z_csL (pc := 9) S (m_X4_mix l X 2377 (f_X4_minute B) rfl) (va_cwS 2 hts gX4_digest_X4_mix rfl rfl rfl hdX4_mix ⟨Nat.le_of_ble_eq_true rfl, Nat.le_of_ble_eq_true rfl⟩) hP hK hN (s_nil _) ⟨Nat.le_of_ble_eq_true rfl, Nat.le_of_ble_eq_true rfl⟩ rfl hl.1 rfl (Nat.le_of_ble_eq_true rfl) dX4_digest_9 ?_
  refine lv_lstore_n (pc := 12) (lv' := [(1, .long (f_X4_mix 2377 (f_X4_minute B))), (0, .ref a)]) hx hb dX4_digest_12 rfl hl (by decide) rfl (fun ls hl => ?_)
  refine lv_lload_n (pc := 13) hx hb dX4_digest_13 rfl (lv_at hl 0 rfl) ?_
  refine lv_aload_n (pc := 14) hx hb dX4_digest_14 rfl (lv_at hl 1 rfl) ?_
  refine z_cpI (pc := 15) S (m_X4_rooms l X a d d2 B rfl) (cwV 0 hts gX4_digest_X4_rooms rfl rfl rfl hdX4_rooms ⟨Nat.le_of_ble_eq_true rfl, Nat.le_of_ble_eq_true rfl⟩) hP hK hN (s_B_B X a d d2 B) (ci := 4) rfl rfl rfl ⟨Nat.le_of_ble_eq_true rfl, Nat.le_of_ble_eq_true rfl⟩ rfl hl.1 rfl (Nat.le_of_ble_eq_true rfl) dX4_digest_15 ?_
  refine z_csL (pc := 18) S (m_X4_mix l X (f_X4_mix 2377 (f_X4_minute B)) (f_X4_rooms B) rfl) (va_cwS 2 hts gX4_digest_X4_mix rfl rfl rfl hdX4_mix ⟨Nat.le_of_ble_eq_true rfl, Nat.le_of_ble_eq_true rfl⟩) hP hK hN (s_nil _) ⟨Nat.le_of_ble_eq_true rfl, Nat.le_of_ble_eq_true rfl⟩ rfl hl.1 rfl (Nat.le_of_ble_eq_true rfl) dX4_digest_18 ?_
  refine lv_lstore_n (pc := 21) (lv' := [(1, .long (f_X4_mix (f_X4_mix 2377 (f_X4_minute B)) (f_X4_rooms B))), (0, .ref a)]) hx hb dX4_digest_21 rfl hl (by decide) rfl (fun ls hl => ?_)
  refine lv_lload_n (pc := 22) hx hb dX4_digest_22 rfl (lv_at hl 0 rfl) ?_
  refine lv_aload_n (pc := 23) hx hb dX4_digest_23 rfl (lv_at hl 1 rfl) ?_
  refine z_cpI (pc := 24) S (m_X4_servants l X a d d2 B rfl) (cwV 0 hts gX4_digest_X4_servants rfl rfl rfl hdX4_servants ⟨Nat.le_of_ble_eq_true rfl, Nat.le_of_ble_eq_true rfl⟩) hP hK hN (s_B_B X a d d2 B) (ci := 4) rfl rfl rfl ⟨Nat.le_of_ble_eq_true rfl, Nat.le_of_ble_eq_true rfl⟩ rfl hl.1 rfl (Nat.le_of_ble_eq_true rfl) dX4_digest_24 ?_
  refine z_csL (pc := 27) S (m_X4_mix l X (f_X4_mix (f_X4_mix 2377 (f_X4_minute B)) (f_X4_rooms B)) (f_X4_servants B) rfl) (va_cwS 2 hts gX4_digest_X4_mix rfl rfl rfl hdX4_mix ⟨Nat.le_of_ble_eq_true rfl, Nat.le_of_ble_eq_true rfl⟩) hP hK hN (s_nil _) ⟨Nat.le_of_ble_eq_true rfl, Nat.le_of_ble_eq_true rfl⟩ rfl hl.1 rfl (Nat.le_of_ble_eq_true rfl) dX4_digest_27 ?_
  refine lv_lstore_n (pc := 30) (lv' := [(1, .long (f_X4_mix (f_X4_mix (f_X4_mix 2377 (f_X4_minute B)) (f_X4_rooms B)) (f_X4_servants B))), (0, .ref a)]) hx hb dX4_digest_30 rfl hl (by decide) rfl (fun ls hl => ?_)
  refine lv_lload_n (pc := 31) hx hb dX4_digest_31 rfl (lv_at hl 0 rfl) ?_
  refine lv_aload_n (pc := 32) hx hb dX4_digest_32 rfl (lv_at hl 1 rfl) ?_
  refine z_cpI (pc := 33) S (m_X4_charge l X a d d2 B rfl) (cwV 0 hts gX4_digest_X4_charge rfl rfl rfl hdX4_charge ⟨Nat.le_of_ble_eq_true rfl, Nat.le_of_ble_eq_true rfl⟩) hP hK hN (s_B_B X a d d2 B) (ci := 4) rfl rfl rfl ⟨Nat.le_of_ble_eq_true rfl, Nat.le_of_ble_eq_true rfl⟩ rfl hl.1 rfl (Nat.le_of_ble_eq_true rfl) dX4_digest_33 ?_
  refine z_csL (pc := 36) S (m_X4_mix l X (f_X4_mix (f_X4_mix (f_X4_mix 2377 (f_X4_minute B)) (f_X4_rooms B)) (f_X4_servants B)) (f_X4_charge B) rfl) (va_cwS 2 hts gX4_digest_X4_mix rfl rfl rfl hdX4_mix ⟨Nat.le_of_ble_eq_true rfl, Nat.le_of_ble_eq_true rfl⟩) hP hK hN (s_nil _) ⟨Nat.le_of_ble_eq_true rfl, Nat.le_of_ble_eq_true rfl⟩ rfl hl.1 rfl (Nat.le_of_ble_eq_true rfl) dX4_digest_36 ?_
  refine lv_lstore_n (pc := 39) (lv' := [(1, .long (f_X4_mix (f_X4_mix (f_X4_mix (f_X4_mix 2377 (f_X4_minute B)) (f_X4_rooms B)) (f_X4_servants B)) (f_X4_charge B))), (0, .ref a)]) hx hb dX4_digest_39 rfl hl (by decide) rfl (fun ls hl => ?_)
  refine lv_lload_n (pc := 40) hx hb dX4_digest_40 rfl (lv_at hl 0 rfl) ?_
  refine lv_aload_n (pc := 41) hx hb dX4_digest_41 rfl (lv_at hl 1 rfl) ?_
  refine z_cpI (pc := 42) S (m_X4_served l X a d d2 B rfl) (cwV 0 hts gX4_digest_X4_served rfl rfl rfl hdX4_served ⟨Nat.le_of_ble_eq_true rfl, Nat.le_of_ble_eq_true rfl⟩) hP hK hN (s_B_B X a d d2 B) (ci := 4) rfl rfl rfl ⟨Nat.le_of_ble_eq_true rfl, Nat.le_of_ble_eq_true rfl⟩ rfl hl.1 rfl (Nat.le_of_ble_eq_true rfl) dX4_digest_42 ?_
  refine z_csL (pc := 45) S (m_X4_mix l X (f_X4_mix (f_X4_mix (f_X4_mix (f_X4_mix 2377 (f_X4_minute B)) (f_X4_rooms B)) (f_X4_servants B)) (f_X4_charge B)) (f_X4_served B) rfl) (va_cwS 2 hts gX4_digest_X4_mix rfl rfl rfl hdX4_mix ⟨Nat.le_of_ble_eq_true rfl, Nat.le_of_ble_eq_true rfl⟩) hP hK hN (s_nil _) ⟨Nat.le_of_ble_eq_true rfl, Nat.le_of_ble_eq_true rfl⟩ rfl hl.1 rfl (Nat.le_of_ble_eq_true rfl) dX4_digest_45 ?_
  refine lv_lstore_n (pc := 48) (lv' := [(1, .long (f_X4_mix (f_X4_mix (f_X4_mix (f_X4_mix (f_X4_mix 2377 (f_X4_minute B)) (f_X4_rooms B)) (f_X4_servants B)) (f_X4_charge B)) (f_X4_served B))), (0, .ref a)]) hx hb dX4_digest_48 rfl hl (by decide) rfl (fun ls hl => ?_)
  refine lv_lload_n (pc := 49) hx hb dX4_digest_49 rfl (lv_at hl 0 rfl) ?_
  refine lv_aload_n (pc := 50) hx hb dX4_digest_50 rfl (lv_at hl 1 rfl) ?_
  refine z_cpI (pc := 51) S (m_X4_inVain l X a d d2 B rfl) (cwV 0 hts gX4_digest_X4_inVain rfl rfl rfl hdX4_inVain ⟨Nat.le_of_ble_eq_true rfl, Nat.le_of_ble_eq_true rfl⟩) hP hK hN (s_B_B X a d d2 B) (ci := 4) rfl rfl rfl ⟨Nat.le_of_ble_eq_true rfl, Nat.le_of_ble_eq_true rfl⟩ rfl hl.1 rfl (Nat.le_of_ble_eq_true rfl) dX4_digest_51 ?_
  refine z_csL (pc := 54) S (m_X4_mix l X (f_X4_mix (f_X4_mix (f_X4_mix (f_X4_mix (f_X4_mix 2377 (f_X4_minute B)) (f_X4_rooms B)) (f_X4_servants B)) (f_X4_charge B)) (f_X4_served B)) (f_X4_inVain B) rfl) (va_cwS 2 hts gX4_digest_X4_mix rfl rfl rfl hdX4_mix ⟨Nat.le_of_ble_eq_true rfl, Nat.le_of_ble_eq_true rfl⟩) hP hK hN (s_nil _) ⟨Nat.le_of_ble_eq_true rfl, Nat.le_of_ble_eq_true rfl⟩ rfl hl.1 rfl (Nat.le_of_ble_eq_true rfl) dX4_digest_54 ?_
  refine lv_lstore_n (pc := 57) (lv' := [(1, .long (f_X4_mix (f_X4_mix (f_X4_mix (f_X4_mix (f_X4_mix (f_X4_mix 2377 (f_X4_minute B)) (f_X4_rooms B)) (f_X4_servants B)) (f_X4_charge B)) (f_X4_served B)) (f_X4_inVain B))), (0, .ref a)]) hx hb dX4_digest_57 rfl hl (by decide) rfl (fun ls hl => ?_)
  refine lv_lload_n (pc := 58) hx hb dX4_digest_58 rfl (lv_at hl 0 rfl) ?_
  refine lv_aload_n (pc := 59) hx hb dX4_digest_59 rfl (lv_at hl 1 rfl) ?_
  refine z_cpI (pc := 60) S (m_X4_gaveUp l X a d d2 B rfl) (cwV 0 hts gX4_digest_X4_gaveUp rfl rfl rfl hdX4_gaveUp ⟨Nat.le_of_ble_eq_true rfl, Nat.le_of_ble_eq_true rfl⟩) hP hK hN (s_B_B X a d d2 B) (ci := 4) rfl rfl rfl ⟨Nat.le_of_ble_eq_true rfl, Nat.le_of_ble_eq_true rfl⟩ rfl hl.1 rfl (Nat.le_of_ble_eq_true rfl) dX4_digest_60 ?_
  refine z_csL (pc := 63) S (m_X4_mix l X (f_X4_mix (f_X4_mix (f_X4_mix (f_X4_mix (f_X4_mix (f_X4_mix 2377 (f_X4_minute B)) (f_X4_rooms B)) (f_X4_servants B)) (f_X4_charge B)) (f_X4_served B)) (f_X4_inVain B)) (f_X4_gaveUp B) rfl) (va_cwS 2 hts gX4_digest_X4_mix rfl rfl rfl hdX4_mix ⟨Nat.le_of_ble_eq_true rfl, Nat.le_of_ble_eq_true rfl⟩) hP hK hN (s_nil _) ⟨Nat.le_of_ble_eq_true rfl, Nat.le_of_ble_eq_true rfl⟩ rfl hl.1 rfl (Nat.le_of_ble_eq_true rfl) dX4_digest_63 ?_
  refine lv_lstore_n (pc := 66) (lv' := [(1, .long (f_X4_mix (f_X4_mix (f_X4_mix (f_X4_mix (f_X4_mix (f_X4_mix (f_X4_mix 2377 (f_X4_minute B)) (f_X4_rooms B)) (f_X4_servants B)) (f_X4_charge B)) (f_X4_served B)) (f_X4_inVain B)) (f_X4_gaveUp B))), (0, .ref a)]) hx hb dX4_digest_66 rfl hl (by decide) rfl (fun ls hl => ?_)
  refine lv_lload_n (pc := 67) hx hb dX4_digest_67 rfl (lv_at hl 0 rfl) ?_
  refine lv_aload_n (pc := 68) hx hb dX4_digest_68 rfl (lv_at hl 1 rfl) ?_
  refine z_cpI (pc := 69) S (m_X4_unheard l X a d d2 B rfl) (cwV 0 hts gX4_digest_X4_unheard rfl rfl rfl hdX4_unheard ⟨Nat.le_of_ble_eq_true rfl, Nat.le_of_ble_eq_true rfl⟩) hP hK hN (s_B_B X a d d2 B) (ci := 4) rfl rfl rfl ⟨Nat.le_of_ble_eq_true rfl, Nat.le_of_ble_eq_true rfl⟩ rfl hl.1 rfl (Nat.le_of_ble_eq_true rfl) dX4_digest_69 ?_
  refine z_csL (pc := 72) S (m_X4_mix l X (f_X4_mix (f_X4_mix (f_X4_mix (f_X4_mix (f_X4_mix (f_X4_mix (f_X4_mix 2377 (f_X4_minute B)) (f_X4_rooms B)) (f_X4_servants B)) (f_X4_charge B)) (f_X4_served B)) (f_X4_inVain B)) (f_X4_gaveUp B)) (f_X4_unheard B) rfl) (va_cwS 2 hts gX4_digest_X4_mix rfl rfl rfl hdX4_mix ⟨Nat.le_of_ble_eq_true rfl, Nat.le_of_ble_eq_true rfl⟩) hP hK hN (s_nil _) ⟨Nat.le_of_ble_eq_true rfl, Nat.le_of_ble_eq_true rfl⟩ rfl hl.1 rfl (Nat.le_of_ble_eq_true rfl) dX4_digest_72 ?_
  refine lv_lstore_n (pc := 75) (lv' := [(1, .long (f_X4_mix (f_X4_mix (f_X4_mix (f_X4_mix (f_X4_mix (f_X4_mix (f_X4_mix (f_X4_mix 2377 (f_X4_minute B)) (f_X4_rooms B)) (f_X4_servants B)) (f_X4_charge B)) (f_X4_served B)) (f_X4_inVain B)) (f_X4_gaveUp B)) (f_X4_unheard B))), (0, .ref a)]) hx hb dX4_digest_75 rfl hl (by decide) rfl (fun ls hl => ?_)
  refine lv_lload_n (pc := 76) hx hb dX4_digest_76 rfl (lv_at hl 0 rfl) ?_
  refine lv_aload_n (pc := 77) hx hb dX4_digest_77 rfl (lv_at hl 1 rfl) ?_
  obtain ⟨x78, e78, hf⟩ := z_bd hf
  refine z_cpI (pc := 78) S (m_X4_longestWaiting l X a d d2 B e78) (cwV 0 hts gX4_digest_X4_longestWaiting rfl rfl rfl hdX4_longestWaiting ⟨Nat.le_of_ble_eq_true rfl, Nat.le_of_ble_eq_true rfl⟩) hP hK hN (s_B_B X a d d2 B) (ci := 4) rfl rfl rfl ⟨Nat.le_of_ble_eq_true rfl, Nat.le_of_ble_eq_true rfl⟩ rfl hl.1 rfl (Nat.le_of_ble_eq_true rfl) dX4_digest_78 ?_
  refine z_csL (pc := 81) S (m_X4_mix l X (f_X4_mix (f_X4_mix (f_X4_mix (f_X4_mix (f_X4_mix (f_X4_mix (f_X4_mix (f_X4_mix 2377 (f_X4_minute B)) (f_X4_rooms B)) (f_X4_servants B)) (f_X4_charge B)) (f_X4_served B)) (f_X4_inVain B)) (f_X4_gaveUp B)) (f_X4_unheard B)) x78 rfl) (va_cwS 2 hts gX4_digest_X4_mix rfl rfl rfl hdX4_mix ⟨Nat.le_of_ble_eq_true rfl, Nat.le_of_ble_eq_true rfl⟩) hP hK hN (s_nil _) ⟨Nat.le_of_ble_eq_true rfl, Nat.le_of_ble_eq_true rfl⟩ rfl hl.1 rfl (Nat.le_of_ble_eq_true rfl) dX4_digest_81 ?_
  refine lv_lstore_n (pc := 84) (lv' := [(1, .long (f_X4_mix (f_X4_mix (f_X4_mix (f_X4_mix (f_X4_mix (f_X4_mix (f_X4_mix (f_X4_mix (f_X4_mix 2377 (f_X4_minute B)) (f_X4_rooms B)) (f_X4_servants B)) (f_X4_charge B)) (f_X4_served B)) (f_X4_inVain B)) (f_X4_gaveUp B)) (f_X4_unheard B)) x78)), (0, .ref a)]) hx hb dX4_digest_84 rfl hl (by decide) rfl (fun ls hl => ?_)
  refine lv_lload_n (pc := 85) hx hb dX4_digest_85 rfl (lv_at hl 0 rfl) ?_
  refine lv_aload_n (pc := 86) hx hb dX4_digest_86 rfl (lv_at hl 1 rfl) ?_
  obtain ⟨x87, e87, hf⟩ := z_bd hf
  refine z_cpI (pc := 87) S (m_X4_crossed l X a d d2 B e87) (cwV 0 hts gX4_digest_X4_crossed rfl rfl rfl hdX4_crossed ⟨Nat.le_of_ble_eq_true rfl, Nat.le_of_ble_eq_true rfl⟩) hP hK hN (s_B_B X a d d2 B) (ci := 4) rfl rfl rfl ⟨Nat.le_of_ble_eq_true rfl, Nat.le_of_ble_eq_true rfl⟩ rfl hl.1 rfl (Nat.le_of_ble_eq_true rfl) dX4_digest_87 ?_
  refine z_csL (pc := 90) S (m_X4_mix l X (f_X4_mix (f_X4_mix (f_X4_mix (f_X4_mix (f_X4_mix (f_X4_mix (f_X4_mix (f_X4_mix (f_X4_mix 2377 (f_X4_minute B)) (f_X4_rooms B)) (f_X4_servants B)) (f_X4_charge B)) (f_X4_served B)) (f_X4_inVain B)) (f_X4_gaveUp B)) (f_X4_unheard B)) x78) x87 rfl) (va_cwS 2 hts gX4_digest_X4_mix rfl rfl rfl hdX4_mix ⟨Nat.le_of_ble_eq_true rfl, Nat.le_of_ble_eq_true rfl⟩) hP hK hN (s_nil _) ⟨Nat.le_of_ble_eq_true rfl, Nat.le_of_ble_eq_true rfl⟩ rfl hl.1 rfl (Nat.le_of_ble_eq_true rfl) dX4_digest_90 ?_
  refine lv_lstore_n (pc := 93) (lv' := [(1, .long (f_X4_mix (f_X4_mix (f_X4_mix (f_X4_mix (f_X4_mix (f_X4_mix (f_X4_mix (f_X4_mix (f_X4_mix (f_X4_mix 2377 (f_X4_minute B)) (f_X4_rooms B)) (f_X4_servants B)) (f_X4_charge B)) (f_X4_served B)) (f_X4_inVain B)) (f_X4_gaveUp B)) (f_X4_unheard B)) x78) x87)), (0, .ref a)]) hx hb dX4_digest_93 rfl hl (by decide) rfl (fun ls hl => ?_)
  refine lv_lload_n (pc := 94) hx hb dX4_digest_94 rfl (lv_at hl 0 rfl) ?_
  refine lv_aload_n (pc := 95) hx hb dX4_digest_95 rfl (lv_at hl 1 rfl) ?_
  obtain ⟨x96, e96, hf⟩ := z_bd hf
  refine z_cpI (pc := 96) S (m_X4_crossingsNeeded l X a d d2 B e96) (cwV 0 hts gX4_digest_X4_crossingsNeeded rfl rfl rfl hdX4_crossingsNeeded ⟨Nat.le_of_ble_eq_true rfl, Nat.le_of_ble_eq_true rfl⟩) hP hK hN (s_B_B X a d d2 B) (ci := 4) rfl rfl rfl ⟨Nat.le_of_ble_eq_true rfl, Nat.le_of_ble_eq_true rfl⟩ rfl hl.1 rfl (Nat.le_of_ble_eq_true rfl) dX4_digest_96 ?_
  refine z_csL (pc := 99) S (m_X4_mix l X (f_X4_mix (f_X4_mix (f_X4_mix (f_X4_mix (f_X4_mix (f_X4_mix (f_X4_mix (f_X4_mix (f_X4_mix (f_X4_mix 2377 (f_X4_minute B)) (f_X4_rooms B)) (f_X4_servants B)) (f_X4_charge B)) (f_X4_served B)) (f_X4_inVain B)) (f_X4_gaveUp B)) (f_X4_unheard B)) x78) x87) x96 rfl) (va_cwS 2 hts gX4_digest_X4_mix rfl rfl rfl hdX4_mix ⟨Nat.le_of_ble_eq_true rfl, Nat.le_of_ble_eq_true rfl⟩) hP hK hN (s_nil _) ⟨Nat.le_of_ble_eq_true rfl, Nat.le_of_ble_eq_true rfl⟩ rfl hl.1 rfl (Nat.le_of_ble_eq_true rfl) dX4_digest_99 ?_
  refine lv_lstore_n (pc := 102) (lv' := [(1, .long (f_X4_mix (f_X4_mix (f_X4_mix (f_X4_mix (f_X4_mix (f_X4_mix (f_X4_mix (f_X4_mix (f_X4_mix (f_X4_mix (f_X4_mix 2377 (f_X4_minute B)) (f_X4_rooms B)) (f_X4_servants B)) (f_X4_charge B)) (f_X4_served B)) (f_X4_inVain B)) (f_X4_gaveUp B)) (f_X4_unheard B)) x78) x87) x96)), (0, .ref a)]) hx hb dX4_digest_102 rfl hl (by decide) rfl (fun ls hl => ?_)
  refine lv_lload_n (pc := 103) hx hb dX4_digest_103 rfl (lv_at hl 0 rfl) ?_
  refine lv_aload_n (pc := 104) hx hb dX4_digest_104 rfl (lv_at hl 1 rfl) ?_
  refine z_cpI (pc := 105) S (m_X4_fallen l X a d d2 B rfl) (cwV 0 hts gX4_digest_X4_fallen rfl rfl rfl hdX4_fallen ⟨Nat.le_of_ble_eq_true rfl, Nat.le_of_ble_eq_true rfl⟩) hP hK hN (s_B_B X a d d2 B) (ci := 4) rfl rfl rfl ⟨Nat.le_of_ble_eq_true rfl, Nat.le_of_ble_eq_true rfl⟩ rfl hl.1 rfl (Nat.le_of_ble_eq_true rfl) dX4_digest_105 ?_
  refine z_csL (pc := 108) S (m_X4_mix l X (f_X4_mix (f_X4_mix (f_X4_mix (f_X4_mix (f_X4_mix (f_X4_mix (f_X4_mix (f_X4_mix (f_X4_mix (f_X4_mix (f_X4_mix 2377 (f_X4_minute B)) (f_X4_rooms B)) (f_X4_servants B)) (f_X4_charge B)) (f_X4_served B)) (f_X4_inVain B)) (f_X4_gaveUp B)) (f_X4_unheard B)) x78) x87) x96) (f_X4_fallen B) rfl) (va_cwS 2 hts gX4_digest_X4_mix rfl rfl rfl hdX4_mix ⟨Nat.le_of_ble_eq_true rfl, Nat.le_of_ble_eq_true rfl⟩) hP hK hN (s_nil _) ⟨Nat.le_of_ble_eq_true rfl, Nat.le_of_ble_eq_true rfl⟩ rfl hl.1 rfl (Nat.le_of_ble_eq_true rfl) dX4_digest_108 ?_
  refine lv_lstore_n (pc := 111) (lv' := [(1, .long (f_X4_mix (f_X4_mix (f_X4_mix (f_X4_mix (f_X4_mix (f_X4_mix (f_X4_mix (f_X4_mix (f_X4_mix (f_X4_mix (f_X4_mix (f_X4_mix 2377 (f_X4_minute B)) (f_X4_rooms B)) (f_X4_servants B)) (f_X4_charge B)) (f_X4_served B)) (f_X4_inVain B)) (f_X4_gaveUp B)) (f_X4_unheard B)) x78) x87) x96) (f_X4_fallen B))), (0, .ref a)]) hx hb dX4_digest_111 rfl hl (by decide) rfl (fun ls hl => ?_)
  refine lv_lload_n (pc := 112) hx hb dX4_digest_112 rfl (lv_at hl 0 rfl) ?_
  refine lv_aload_n (pc := 113) hx hb dX4_digest_113 rfl (lv_at hl 1 rfl) ?_
  obtain ⟨x114, e114, hf⟩ := z_bd hf
  refine z_cpI (pc := 114) S (m_X4_nextDrop l X a d d2 B e114) (cwV 0 hts gX4_digest_X4_nextDrop rfl rfl rfl hdX4_nextDrop ⟨Nat.le_of_ble_eq_true rfl, Nat.le_of_ble_eq_true rfl⟩) hP hK hN (s_B_B X a d d2 B) (ci := 4) rfl rfl rfl ⟨Nat.le_of_ble_eq_true rfl, Nat.le_of_ble_eq_true rfl⟩ rfl hl.1 rfl (Nat.le_of_ble_eq_true rfl) dX4_digest_114 ?_
  refine z_csL (pc := 117) S (m_X4_mix l X (f_X4_mix (f_X4_mix (f_X4_mix (f_X4_mix (f_X4_mix (f_X4_mix (f_X4_mix (f_X4_mix (f_X4_mix (f_X4_mix (f_X4_mix (f_X4_mix 2377 (f_X4_minute B)) (f_X4_rooms B)) (f_X4_servants B)) (f_X4_charge B)) (f_X4_served B)) (f_X4_inVain B)) (f_X4_gaveUp B)) (f_X4_unheard B)) x78) x87) x96) (f_X4_fallen B)) x114 rfl) (va_cwS 2 hts gX4_digest_X4_mix rfl rfl rfl hdX4_mix ⟨Nat.le_of_ble_eq_true rfl, Nat.le_of_ble_eq_true rfl⟩) hP hK hN (s_nil _) ⟨Nat.le_of_ble_eq_true rfl, Nat.le_of_ble_eq_true rfl⟩ rfl hl.1 rfl (Nat.le_of_ble_eq_true rfl) dX4_digest_117 ?_
  refine lv_lstore_n (pc := 120) (lv' := [(1, .long (f_X4_mix (f_X4_mix (f_X4_mix (f_X4_mix (f_X4_mix (f_X4_mix (f_X4_mix (f_X4_mix (f_X4_mix (f_X4_mix (f_X4_mix (f_X4_mix (f_X4_mix 2377 (f_X4_minute B)) (f_X4_rooms B)) (f_X4_servants B)) (f_X4_charge B)) (f_X4_served B)) (f_X4_inVain B)) (f_X4_gaveUp B)) (f_X4_unheard B)) x78) x87) x96) (f_X4_fallen B)) x114)), (0, .ref a)]) hx hb dX4_digest_120 rfl hl (by decide) rfl (fun ls hl => ?_)
  refine lv_lload_n (pc := 121) hx hb dX4_digest_121 rfl (lv_at hl 0 rfl) ?_
  refine lv_aload_n (pc := 122) hx hb dX4_digest_122 rfl (lv_at hl 1 rfl) ?_
  refine lv_bipush (v := 20) (pc := 123) hx hb dX4_digest_123 (by decide) ?_
  obtain ⟨x125, e125, hf⟩ := z_bd hf
  refine z_cmI (pc := 125) (W1 := (z_wB X a d d2 x125.2)) S (m_X4_servedIn l X a d d2 B 20 e125) (cwV 1 hts gX4_digest_X4_servedIn rfl rfl rfl hdX4_servedIn ⟨Nat.le_of_ble_eq_true rfl, Nat.le_of_ble_eq_true rfl⟩) hP hK hN hD hS hA (s_B_B X a d d2 B) (f_B_B X a d d2 B x125.2) (ci := 4) rfl rfl rfl ⟨Nat.le_of_ble_eq_true rfl, Nat.le_of_ble_eq_true rfl⟩ rfl hl.1 rfl (Nat.le_of_ble_eq_true rfl) dX4_digest_125 (fun H locs hP hD hS => ?_)
  refine z_csL (pc := 128) S (m_X4_mix l X (f_X4_mix (f_X4_mix (f_X4_mix (f_X4_mix (f_X4_mix (f_X4_mix (f_X4_mix (f_X4_mix (f_X4_mix (f_X4_mix (f_X4_mix (f_X4_mix (f_X4_mix 2377 (f_X4_minute B)) (f_X4_rooms B)) (f_X4_servants B)) (f_X4_charge B)) (f_X4_served B)) (f_X4_inVain B)) (f_X4_gaveUp B)) (f_X4_unheard B)) x78) x87) x96) (f_X4_fallen B)) x114) x125.1 rfl) (va_cwS 2 hts gX4_digest_X4_mix rfl rfl rfl hdX4_mix ⟨Nat.le_of_ble_eq_true rfl, Nat.le_of_ble_eq_true rfl⟩) hP hK hN (s_nil _) ⟨Nat.le_of_ble_eq_true rfl, Nat.le_of_ble_eq_true rfl⟩ rfl hl.1 rfl (Nat.le_of_ble_eq_true rfl) dX4_digest_128 ?_
  refine lv_lstore_n (pc := 131) (lv' := [(1, .long (f_X4_mix (f_X4_mix (f_X4_mix (f_X4_mix (f_X4_mix (f_X4_mix (f_X4_mix (f_X4_mix (f_X4_mix (f_X4_mix (f_X4_mix (f_X4_mix (f_X4_mix (f_X4_mix 2377 (f_X4_minute B)) (f_X4_rooms B)) (f_X4_servants B)) (f_X4_charge B)) (f_X4_served B)) (f_X4_inVain B)) (f_X4_gaveUp B)) (f_X4_unheard B)) x78) x87) x96) (f_X4_fallen B)) x114) x125.1)), (0, .ref a)]) hx hb dX4_digest_131 rfl hl (by decide) rfl (fun ls hl => ?_)
  refine lv_iconst (v := 0) (pc := 132) hx hb dX4_digest_132 (by decide) ?_
  refine lv_istore_n (pc := 133) (lv' := [(3, .int 0), (1, .long (f_X4_mix (f_X4_mix (f_X4_mix (f_X4_mix (f_X4_mix (f_X4_mix (f_X4_mix (f_X4_mix (f_X4_mix (f_X4_mix (f_X4_mix (f_X4_mix (f_X4_mix (f_X4_mix 2377 (f_X4_minute B)) (f_X4_rooms B)) (f_X4_servants B)) (f_X4_charge B)) (f_X4_served B)) (f_X4_inVain B)) (f_X4_gaveUp B)) (f_X4_unheard B)) x78) x87) x96) (f_X4_fallen B)) x114) x125.1)), (0, .ref a)]) hx hb dX4_digest_133 rfl hl (by decide) rfl (fun ls hl => ?_)
  obtain ⟨x134, e134, hf⟩ := z_bd hf
  refine lp_134 z_FU (f_X4_mix (f_X4_mix (f_X4_mix (f_X4_mix (f_X4_mix (f_X4_mix (f_X4_mix (f_X4_mix (f_X4_mix (f_X4_mix (f_X4_mix (f_X4_mix (f_X4_mix (f_X4_mix 2377 (f_X4_minute B)) (f_X4_rooms B)) (f_X4_servants B)) (f_X4_charge B)) (f_X4_served B)) (f_X4_inVain B)) (f_X4_gaveUp B)) (f_X4_unheard B)) x78) x87) x96) (f_X4_fallen B)) x114) x125.1) 0 x125.2 x134 H locs hP hD hS ls (lv_sub hl [2, 1, 0] rfl) e134 (fun H locs hP hD hS ls hl => ?_)
  refine lv_iconst (v := 0) (pc := 249) hx hb dX4_digest_249 (by decide) ?_
  refine lv_istore_n (pc := 250) (lv' := [(3, .int 0), (0, .ref a), (1, .long x134.1)]) hx hb dX4_digest_250 rfl hl (by decide) rfl (fun ls hl => ?_)
  obtain ⟨x251, e251, hf⟩ := z_bd hf
  refine lp_251 z_FU x134.1 0 x134.2 x251 H locs hP hD hS ls (lv_sub hl [1, 2, 0] rfl) e251 (fun H locs hP hD hS ls hl => ?_)
  refine lv_lload_n (pc := 311) hx hb dX4_digest_311 rfl (lv_at hl 0 rfl) ?_
  exact W.lret (pc := 312) (v := x251.1) hx hb hr (fun t ht hW => ⟨⟨_, (z_wB X a d d2 x251.2), rfl, ⟨z_e1 hf, congrArg (fun z => (z_wB X a d d2 z)) (z_e2 hf)⟩, by rw [ht]; exact hP, hD⟩, hS.F ht⟩) hS.2.2 dX4_digest_312
