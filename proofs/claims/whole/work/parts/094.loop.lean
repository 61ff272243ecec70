set_option maxHeartbeats 4000000 in
theorem ld_addRoom {p : Program} {l : Launch} {e : Env} {s : State} {m : MethodId} {below : List Frame} {meth : Method} {c : Code} {X : z_X} {b L : Nat} {xs : Nat → Int32} (C : z_LC p l s m meth c X b L xs) {a : Nat} {d d2 : Nat → Nat} {B : z_B} {o : Nat} {g : Nat → Int64} {dm : Nat → Nat} {M : z_M} {H : Heap} {locs : List Loc} {ls : Array Slot} {Q : State → Prop} {u : Int32} (kc ks : Nat) (hk : kc + 20 ≤ room_1.cells ∧ ks + 200 ≤ room_1.slots) (i : Nat) (hu : u = nI i) (hi : i + 3 < L) (hP : va_P X.1 vwCl (z_wLw X a d d2 B o g dm M) H) (hD : va_D (fun q : Nat => s.heap.size ≤ q) (z_wLw X a d d2 B o g dm M)) (hS : va_S (fun q : Nat => s.heap.size ≤ q) s.heap H locs) (hl : lv_has ls 9 [(0, .ref b), (1, .ref a), (2, .ref (dm 0)), (3, .ref o), (4, .int u)]) (Rl : z_B → z_M → Prop) (hsm : sm_addRoom Rl) (hR : Rl B M) (kk : ∀ (B2 : z_B) (g2 : Nat → Int64) (M2 : z_M) (H : Heap) (locs : List Loc) (ls : Array Slot), Rl B2 M2 → va_P X.1 vwCl (z_wLw X a d d2 B2 o g2 dm M2) H → va_D (fun q : Nat => s.heap.size ≤ q) (z_wLw X a d d2 B2 o g2 dm M2) → va_S (fun q : Nat => s.heap.size ≤ q) s.heap H locs → lv_has ls 9 [(0, .ref b), (1, .ref a), (2, .ref (dm 0)), (3, .ref o), (4, .int u)] → W p l e room_1 s m #[Value.ref b] below meth c H locs (kc + 20) (ks + 200) Q (F0 m 1905 ls [])) : W p l e room_1 s m #[Value.ref b] below meth c H locs kc ks Q (F0 m 212 ls []) := by
  rcases hsm B M (xs (i + 1)) (xs (i + 2)) (xs (i + 3)) hR with ⟨R1, R2, hf1, hf2, h3, h4, hr⟩ | ⟨R2, hf1, hf2, h3, hr⟩ | ⟨R2, hf1, hf2, h3, hr⟩
  · exact lc_addRoom C kc ks hk i hu hi hP hD hS hl hf1 hf2 h3 h4 (fun H locs ls a1 a2 a3 a4 => kk _ _ _ H locs ls hr a1 a2 a3 a4)
  · exact lc_addRoom_t0 C kc ks hk i hu hi hP hD hS hl hf1 hf2 h3 (fun H locs ls a1 a2 a3 a4 => kk _ _ _ H locs ls hr a1 a2 a3 a4)
  · exact lc_addRoom_t1 C kc ks hk i hu hi hP hD hS hl hf1 hf2 h3 (fun H locs ls a1 a2 a3 a4 => kk _ _ _ H locs ls hr a1 a2 a3 a4)
set_option maxHeartbeats 4000000 in
theorem ld_addServant {p : Program} {l : Launch} {e : Env} {s : State} {m : MethodId} {below : List Frame} {meth : Method} {c : Code} {X : z_X} {b L : Nat} {xs : Nat → Int32} (C : z_LC p l s m meth c X b L xs) {a : Nat} {d d2 : Nat → Nat} {B : z_B} {o : Nat} {g : Nat → Int64} {dm : Nat → Nat} {M : z_M} {H : Heap} {locs : List Loc} {ls : Array Slot} {Q : State → Prop} {u : Int32} (kc ks : Nat) (hk : kc + 20 ≤ room_1.cells ∧ ks + 200 ≤ room_1.slots) (i : Nat) (hu : u = nI i) (hi : i + 3 < L) (hP : va_P X.1 vwCl (z_wLw X a d d2 B o g dm M) H) (hD : va_D (fun q : Nat => s.heap.size ≤ q) (z_wLw X a d d2 B o g dm M)) (hS : va_S (fun q : Nat => s.heap.size ≤ q) s.heap H locs) (hl : lv_has ls 9 [(0, .ref b), (1, .ref a), (2, .ref (dm 0)), (3, .ref o), (4, .int u)]) (Rl : z_B → z_M → Prop) (hsm : sm_addServant Rl) (hR : Rl B M) (kk : ∀ (B2 : z_B) (g2 : Nat → Int64) (M2 : z_M) (H : Heap) (locs : List Loc) (ls : Array Slot), Rl B2 M2 → va_P X.1 vwCl (z_wLw X a d d2 B2 o g2 dm M2) H → va_D (fun q : Nat => s.heap.size ≤ q) (z_wLw X a d d2 B2 o g2 dm M2) → va_S (fun q : Nat => s.heap.size ≤ q) s.heap H locs → lv_has ls 9 [(0, .ref b), (1, .ref a), (2, .ref (dm 0)), (3, .ref o), (4, .int u)] → W p l e room_1 s m #[Value.ref b] below meth c H locs (kc + 20) (ks + 200) Q (F0 m 1905 ls [])) : W p l e room_1 s m #[Value.ref b] below meth c H locs kc ks Q (F0 m 292 ls []) := by
  rcases hsm B M (xs (i + 1)) hR with ⟨R1, R2, hf1, hf2, h3, h4, hr⟩ | ⟨R2, hf1, hf2, h3, hr⟩ | ⟨R2, hf1, hf2, h3, hr⟩
  · exact lc_addServant C kc ks hk i hu hi hP hD hS hl hf1 hf2 h3 h4 (fun H locs ls a1 a2 a3 a4 => kk _ _ _ H locs ls hr a1 a2 a3 a4)
  · exact lc_addServant_t0 C kc ks hk i hu hi hP hD hS hl hf1 hf2 h3 (fun H locs ls a1 a2 a3 a4 => kk _ _ _ H locs ls hr a1 a2 a3 a4)
  · exact lc_addServant_t1 C kc ks hk i hu hi hP hD hS hl hf1 hf2 h3 (fun H locs ls a1 a2 a3 a4 => kk _ _ _ H locs ls hr a1 a2 a3 a4)
set_option maxHeartbeats 4000000 in
theorem ld_ring {p : Program} {l : Launch} {e : Env} {s : State} {m : MethodId} {below : List Frame} {meth : Method} {c : Code} {X : z_X} {b L : Nat} {xs : Nat → Int32} (C : z_LC p l s m meth c X b L xs) {a : Nat} {d d2 : Nat → Nat} {B : z_B} {o : Nat} {g : Nat → Int64} {dm : Nat → Nat} {M : z_M} {H : Heap} {locs : List Loc} {ls : Array Slot} {Q : State → Prop} {u : Int32} (kc ks : Nat) (hk : kc + 20 ≤ room_1.cells ∧ ks + 200 ≤ room_1.slots) (i : Nat) (hu : u = nI i) (hi : i + 3 < L) (hP : va_P X.1 vwCl (z_wLw X a d d2 B o g dm M) H) (hD : va_D (fun q : Nat => s.heap.size ≤ q) (z_wLw X a d d2 B o g dm M)) (hS : va_S (fun q : Nat => s.heap.size ≤ q) s.heap H locs) (hl : lv_has ls 9 [(0, .ref b), (1, .ref a), (2, .ref (dm 0)), (3, .ref o), (4, .int u)]) (Rl : z_B → z_M → Prop) (hsm : sm_ring Rl) (hR : Rl B M) (kk : ∀ (B2 : z_B) (g2 : Nat → Int64) (M2 : z_M) (H : Heap) (locs : List Loc) (ls : Array Slot), Rl B2 M2 → va_P X.1 vwCl (z_wLw X a d d2 B2 o g2 dm M2) H → va_D (fun q : Nat => s.heap.size ≤ q) (z_wLw X a d d2 B2 o g2 dm M2) → va_S (fun q : Nat => s.heap.size ≤ q) s.heap H locs → lv_has ls 9 [(0, .ref b), (1, .ref a), (2, .ref (dm 0)), (3, .ref o), (4, .int u)] → W p l e room_1 s m #[Value.ref b] below meth c H locs (kc + 20) (ks + 200) Q (F0 m 1905 ls [])) : W p l e room_1 s m #[Value.ref b] below meth c H locs kc ks Q (F0 m 348 ls []) := by
  rcases hsm B M (xs (i + 1)) hR with ⟨R1, R2, hf1, hf2, h3, h4, hr⟩ | ⟨R2, hf1, hf2, h3, hr⟩
  · exact lc_ring C kc ks hk i hu hi hP hD hS hl hf1 hf2 h3 h4 (fun H locs ls a1 a2 a3 a4 => kk _ _ _ H locs ls hr a1 a2 a3 a4)
  · exact lc_ring_t2 C kc ks hk i hu hi hP hD hS hl hf1 hf2 h3 (fun H locs ls a1 a2 a3 a4 => kk _ _ _ H locs ls hr a1 a2 a3 a4)
set_option maxHeartbeats 4000000 in
theorem ld_cross {p : Program} {l : Launch} {e : Env} {s : State} {m : MethodId} {below : List Frame} {meth : Method} {c : Code} {X : z_X} {b L : Nat} {xs : Nat → Int32} (C : z_LC p l s m meth c X b L xs) {a : Nat} {d d2 : Nat → Nat} {B : z_B} {o : Nat} {g : Nat → Int64} {dm : Nat → Nat} {M : z_M} {H : Heap} {locs : List Loc} {ls : Array Slot} {Q : State → Prop} {u : Int32} (kc ks : Nat) (hk : kc + 20 ≤ room_1.cells ∧ ks + 200 ≤ room_1.slots) (i : Nat) (hu : u = nI i) (hi : i + 3 < L) (hP : va_P X.1 vwCl (z_wLw X a d d2 B o g dm M) H) (hD : va_D (fun q : Nat => s.heap.size ≤ q) (z_wLw X a d d2 B o g dm M)) (hS : va_S (fun q : Nat => s.heap.size ≤ q) s.heap H locs) (hl : lv_has ls 9 [(0, .ref b), (1, .ref a), (2, .ref (dm 0)), (3, .ref o), (4, .int u)]) (Rl : z_B → z_M → Prop) (hsm : sm_cross Rl) (hR : Rl B M) (kk : ∀ (B2 : z_B) (g2 : Nat → Int64) (M2 : z_M) (H : Heap) (locs : List Loc) (ls : Array Slot), Rl B2 M2 → va_P X.1 vwCl (z_wLw X a d d2 B2 o g2 dm M2) H → va_D (fun q : Nat => s.heap.size ≤ q) (z_wLw X a d d2 B2 o g2 dm M2) → va_S (fun q : Nat => s.heap.size ≤ q) s.heap H locs → lv_has ls 9 [(0, .ref b), (1, .ref a), (2, .ref (dm 0)), (3, .ref o), (4, .int u)] → W p l e room_1 s m #[Value.ref b] below meth c H locs (kc + 20) (ks + 200) Q (F0 m 1905 ls [])) : W p l e room_1 s m #[Value.ref b] below meth c H locs kc ks Q (F0 m 411 ls []) := by
  rcases hsm B M (xs (i + 1)) (xs (i + 2)) hR with ⟨R1, R2, hf1, hf2, h3, h4, hr⟩ | ⟨R2, hf1, hf2, h3, hr⟩ | ⟨R2, hf1, hf2, h3, hr⟩
  · exact lc_cross C kc ks hk i hu hi hP hD hS hl hf1 hf2 h3 h4 (fun H locs ls a1 a2 a3 a4 => kk _ _ _ H locs ls hr a1 a2 a3 a4)
  · exact lc_cross_t2 C kc ks hk i hu hi hP hD hS hl hf1 hf2 h3 (fun H locs ls a1 a2 a3 a4 => kk _ _ _ H locs ls hr a1 a2 a3 a4)
  · exact lc_cross_t0 C kc ks hk i hu hi hP hD hS hl hf1 hf2 h3 (fun H locs ls a1 a2 a3 a4 => kk _ _ _ H locs ls hr a1 a2 a3 a4)
set_option maxHeartbeats 4000000 in
theorem ld_cut {p : Program} {l : Launch} {e : Env} {s : State} {m : MethodId} {below : List Frame} {meth : Method} {c : Code} {X : z_X} {b L : Nat} {xs : Nat → Int32} (C : z_LC p l s m meth c X b L xs) {a : Nat} {d d2 : Nat → Nat} {B : z_B} {o : Nat} {g : Nat → Int64} {dm : Nat → Nat} {M : z_M} {H : Heap} {locs : List Loc} {ls : Array Slot} {Q : State → Prop} {u : Int32} (kc ks : Nat) (hk : kc + 20 ≤ room_1.cells ∧ ks + 200 ≤ room_1.slots) (i : Nat) (hu : u = nI i) (hi : i + 3 < L) (hP : va_P X.1 vwCl (z_wLw X a d d2 B o g dm M) H) (hD : va_D (fun q : Nat => s.heap.size ≤ q) (z_wLw X a d d2 B o g dm M)) (hS : va_S (fun q : Nat => s.heap.size ≤ q) s.heap H locs) (hl : lv_has ls 9 [(0, .ref b), (1, .ref a), (2, .ref (dm 0)), (3, .ref o), (4, .int u)]) (Rl : z_B → z_M → Prop) (hsm : sm_cut Rl) (hR : Rl B M) (kk : ∀ (B2 : z_B) (g2 : Nat → Int64) (M2 : z_M) (H : Heap) (locs : List Loc) (ls : Array Slot), Rl B2 M2 → va_P X.1 vwCl (z_wLw X a d d2 B2 o g2 dm M2) H → va_D (fun q : Nat => s.heap.size ≤ q) (z_wLw X a d d2 B2 o g2 dm M2) → va_S (fun q : Nat => s.heap.size ≤ q) s.heap H locs → lv_has ls 9 [(0, .ref b), (1, .ref a), (2, .ref (dm 0)), (3, .ref o), (4, .int u)] → W p l e room_1 s m #[Value.ref b] below meth c H locs (kc + 20) (ks + 200) Q (F0 m 1905 ls [])) : W p l e room_1 s m #[Value.ref b] below meth c H locs kc ks Q (F0 m 479 ls []) := by
  rcases hsm B M (xs (i + 1)) hR with ⟨R1, R2, hf1, hf2, h3, h4, hr⟩ | ⟨R2, hf1, hf2, h3, hr⟩ | ⟨R2, hf1, hf2, h3, hr⟩
  · exact lc_cut C kc ks hk i hu hi hP hD hS hl hf1 hf2 h3 h4 (fun H locs ls a1 a2 a3 a4 => kk _ _ _ H locs ls hr a1 a2 a3 a4)
  · exact lc_cut_t2 C kc ks hk i hu hi hP hD hS hl hf1 hf2 h3 (fun H locs ls a1 a2 a3 a4 => kk _ _ _ H locs ls hr a1 a2 a3 a4)
  · exact lc_cut_t1 C kc ks hk i hu hi hP hD hS hl hf1 hf2 h3 (fun H locs ls a1 a2 a3 a4 => kk _ _ _ H locs ls hr a1 a2 a3 a4)
set_option maxHeartbeats 4000000 in
theorem ld_mend {p : Program} {l : Launch} {e : Env} {s : State} {m : MethodId} {below : List Frame} {meth : Method} {c : Code} {X : z_X} {b L : Nat} {xs : Nat → Int32} (C : z_LC p l s m meth c X b L xs) {a : Nat} {d d2 : Nat → Nat} {B : z_B} {o : Nat} {g : Nat → Int64} {dm : Nat → Nat} {M : z_M} {H : Heap} {locs : List Loc} {ls : Array Slot} {Q : State → Prop} {u : Int32} (kc ks : Nat) (hk : kc + 20 ≤ room_1.cells ∧ ks + 200 ≤ room_1.slots) (i : Nat) (hu : u = nI i) (hi : i + 3 < L) (hP : va_P X.1 vwCl (z_wLw X a d d2 B o g dm M) H) (hD : va_D (fun q : Nat => s.heap.size ≤ q) (z_wLw X a d d2 B o g dm M)) (hS : va_S (fun q : Nat => s.heap.size ≤ q) s.heap H locs) (hl : lv_has ls 9 [(0, .ref b), (1, .ref a), (2, .ref (dm 0)), (3, .ref o), (4, .int u)]) (Rl : z_B → z_M → Prop) (hsm : sm_mend Rl) (hR : Rl B M) (kk : ∀ (B2 : z_B) (g2 : Nat → Int64) (M2 : z_M) (H : Heap) (locs : List Loc) (ls : Array Slot), Rl B2 M2 → va_P X.1 vwCl (z_wLw X a d d2 B2 o g2 dm M2) H → va_D (fun q : Nat => s.heap.size ≤ q) (z_wLw X a d d2 B2 o g2 dm M2) → va_S (fun q : Nat => s.heap.size ≤ q) s.heap H locs → lv_has ls 9 [(0, .ref b), (1, .ref a), (2, .ref (dm 0)), (3, .ref o), (4, .int u)] → W p l e room_1 s m #[Value.ref b] below meth c H locs (kc + 20) (ks + 200) Q (F0 m 1905 ls [])) : W p l e room_1 s m #[Value.ref b] below meth c H locs kc ks Q (F0 m 535 ls []) := by
  rcases hsm B M (xs (i + 1)) hR with ⟨R1, R2, hf1, hf2, h3, h4, hr⟩ | ⟨R2, hf1, hf2, h3, hr⟩ | ⟨R2, hf1, hf2, h3, hr⟩
  · exact lc_mend C kc ks hk i hu hi hP hD hS hl hf1 hf2 h3 h4 (fun H locs ls a1 a2 a3 a4 => kk _ _ _ H locs ls hr a1 a2 a3 a4)
  · exact lc_mend_t2 C kc ks hk i hu hi hP hD hS hl hf1 hf2 h3 (fun H locs ls a1 a2 a3 a4 => kk _ _ _ H locs ls hr a1 a2 a3 a4)
  · exact lc_mend_t1 C kc ks hk i hu hi hP hD hS hl hf1 hf2 h3 (fun H locs ls a1 a2 a3 a4 => kk _ _ _ H locs ls hr a1 a2 a3 a4)
set_option maxHeartbeats 4000000 in
theorem ld_recharge {p : Program} {l : Launch} {e : Env} {s : State} {m : MethodId} {below : List Frame} {meth : Method} {c : Code} {X : z_X} {b L : Nat} {xs : Nat → Int32} (C : z_LC p l s m meth c X b L xs) {a : Nat} {d d2 : Nat → Nat} {B : z_B} {o : Nat} {g : Nat → Int64} {dm : Nat → Nat} {M : z_M} {H : Heap} {locs : List Loc} {ls : Array Slot} {Q : State → Prop} {u : Int32} (kc ks : Nat) (hk : kc + 20 ≤ room_1.cells ∧ ks + 200 ≤ room_1.slots) (i : Nat) (hu : u = nI i) (hi : i + 3 < L) (hP : va_P X.1 vwCl (z_wLw X a d d2 B o g dm M) H) (hD : va_D (fun q : Nat => s.heap.size ≤ q) (z_wLw X a d d2 B o g dm M)) (hS : va_S (fun q : Nat => s.heap.size ≤ q) s.heap H locs) (hl : lv_has ls 9 [(0, .ref b), (1, .ref a), (2, .ref (dm 0)), (3, .ref o), (4, .int u)]) (Rl : z_B → z_M → Prop) (hsm : sm_recharge Rl) (hR : Rl B M) (kk : ∀ (B2 : z_B) (g2 : Nat → Int64) (M2 : z_M) (H : Heap) (locs : List Loc) (ls : Array Slot), Rl B2 M2 → va_P X.1 vwCl (z_wLw X a d d2 B2 o g2 dm M2) H → va_D (fun q : Nat => s.heap.size ≤ q) (z_wLw X a d d2 B2 o g2 dm M2) → va_S (fun q : Nat => s.heap.size ≤ q) s.heap H locs → lv_has ls 9 [(0, .ref b), (1, .ref a), (2, .ref (dm 0)), (3, .ref o), (4, .int u)] → W p l e room_1 s m #[Value.ref b] below meth c H locs (kc + 20) (ks + 200) Q (F0 m 1905 ls [])) : W p l e room_1 s m #[Value.ref b] below meth c H locs kc ks Q (F0 m 591 ls []) := by
  rcases hsm B M (xs (i + 1)) hR with ⟨R1, R2, hf1, hf2, h3, h4, hr⟩ | ⟨R2, hf1, hf2, h3, hr⟩
  · exact lc_recharge C kc ks hk i hu hi hP hD hS hl hf1 hf2 h3 h4 (fun H locs ls a1 a2 a3 a4 => kk _ _ _ H locs ls hr a1 a2 a3 a4)
  · exact lc_recharge_t0 C kc ks hk i hu hi hP hD hS hl hf1 hf2 h3 (fun H locs ls a1 a2 a3 a4 => kk _ _ _ H locs ls hr a1 a2 a3 a4)
set_option maxHeartbeats 4000000 in
theorem ld_putUp {p : Program} {l : Launch} {e : Env} {s : State} {m : MethodId} {below : List Frame} {meth : Method} {c : Code} {X : z_X} {b L : Nat} {xs : Nat → Int32} (C : z_LC p l s m meth c X b L xs) {a : Nat} {d d2 : Nat → Nat} {B : z_B} {o : Nat} {g : Nat → Int64} {dm : Nat → Nat} {M : z_M} {H : Heap} {locs : List Loc} {ls : Array Slot} {Q : State → Prop} {u : Int32} (kc ks : Nat) (hk : kc + 20 ≤ room_1.cells ∧ ks + 200 ≤ room_1.slots) (i : Nat) (hu : u = nI i) (hi : i + 3 < L) (hP : va_P X.1 vwCl (z_wLw X a d d2 B o g dm M) H) (hD : va_D (fun q : Nat => s.heap.size ≤ q) (z_wLw X a d d2 B o g dm M)) (hS : va_S (fun q : Nat => s.heap.size ≤ q) s.heap H locs) (hl : lv_has ls 9 [(0, .ref b), (1, .ref a), (2, .ref (dm 0)), (3, .ref o), (4, .int u)]) (Rl : z_B → z_M → Prop) (hsm : sm_putUp Rl) (hR : Rl B M) (kk : ∀ (B2 : z_B) (g2 : Nat → Int64) (M2 : z_M) (H : Heap) (locs : List Loc) (ls : Array Slot), Rl B2 M2 → va_P X.1 vwCl (z_wLw X a d d2 B2 o g2 dm M2) H → va_D (fun q : Nat => s.heap.size ≤ q) (z_wLw X a d d2 B2 o g2 dm M2) → va_S (fun q : Nat => s.heap.size ≤ q) s.heap H locs → lv_has ls 9 [(0, .ref b), (1, .ref a), (2, .ref (dm 0)), (3, .ref o), (4, .int u)] → W p l e room_1 s m #[Value.ref b] below meth c H locs (kc + 20) (ks + 200) Q (F0 m 1905 ls [])) : W p l e room_1 s m #[Value.ref b] below meth c H locs kc ks Q (F0 m 647 ls []) := by
  rcases hsm B M (xs (i + 1)) hR with ⟨R1, R2, hf1, hf2, h3, h4, hr⟩ | ⟨R2, hf1, hf2, h3, hr⟩ | ⟨R2, hf1, hf2, h3, hr⟩
  · exact lc_putUp C kc ks hk i hu hi hP hD hS hl hf1 hf2 h3 h4 (fun H locs ls a1 a2 a3 a4 => kk _ _ _ H locs ls hr a1 a2 a3 a4)
  · exact lc_putUp_t2 C kc ks hk i hu hi hP hD hS hl hf1 hf2 h3 (fun H locs ls a1 a2 a3 a4 => kk _ _ _ H locs ls hr a1 a2 a3 a4)
  · exact lc_putUp_t1 C kc ks hk i hu hi hP hD hS hl hf1 hf2 h3 (fun H locs ls a1 a2 a3 a4 => kk _ _ _ H locs ls hr a1 a2 a3 a4)
set_option maxHeartbeats 4000000 in
theorem ld_pass {p : Program} {l : Launch} {e : Env} {s : State} {m : MethodId} {below : List Frame} {meth : Method} {c : Code} {X : z_X} {b L : Nat} {xs : Nat → Int32} (C : z_LC p l s m meth c X b L xs) {a : Nat} {d d2 : Nat → Nat} {B : z_B} {o : Nat} {g : Nat → Int64} {dm : Nat → Nat} {M : z_M} {H : Heap} {locs : List Loc} {ls : Array Slot} {Q : State → Prop} {u : Int32} (kc ks : Nat) (hk : kc + 20 ≤ room_1.cells ∧ ks + 200 ≤ room_1.slots) (i : Nat) (hu : u = nI i) (hi : i + 3 < L) (hP : va_P X.1 vwCl (z_wLw X a d d2 B o g dm M) H) (hD : va_D (fun q : Nat => s.heap.size ≤ q) (z_wLw X a d d2 B o g dm M)) (hS : va_S (fun q : Nat => s.heap.size ≤ q) s.heap H locs) (hl : lv_has ls 9 [(0, .ref b), (1, .ref a), (2, .ref (dm 0)), (3, .ref o), (4, .int u)]) (Rl : z_B → z_M → Prop) (hsm : sm_pass Rl) (hR : Rl B M) (kk : ∀ (B2 : z_B) (g2 : Nat → Int64) (M2 : z_M) (H : Heap) (locs : List Loc) (ls : Array Slot), Rl B2 M2 → va_P X.1 vwCl (z_wLw X a d d2 B2 o g2 dm M2) H → va_D (fun q : Nat => s.heap.size ≤ q) (z_wLw X a d d2 B2 o g2 dm M2) → va_S (fun q : Nat => s.heap.size ≤ q) s.heap H locs → lv_has ls 9 [(0, .ref b), (1, .ref a), (2, .ref (dm 0)), (3, .ref o), (4, .int u)] → W p l e room_1 s m #[Value.ref b] below meth c H locs (kc + 20) (ks + 200) Q (F0 m 1905 ls [])) : W p l e room_1 s m #[Value.ref b] below meth c H locs kc ks Q (F0 m 703 ls []) := by
  rcases hsm B M (xs (i + 1)) hR with ⟨R1, R2, hf1, hf2, h3, h4, hr⟩ | ⟨R2, hf1, hf2, h3, hr⟩
  · exact lc_pass C kc ks hk i hu hi hP hD hS hl hf1 hf2 h3 h4 (fun H locs ls a1 a2 a3 a4 => kk _ _ _ H locs ls hr a1 a2 a3 a4)
  · exact lc_pass_t0 C kc ks hk i hu hi hP hD hS hl hf1 hf2 h3 (fun H locs ls a1 a2 a3 a4 => kk _ _ _ H locs ls hr a1 a2 a3 a4)
set_option maxHeartbeats 4000000 in
theorem ld_minute {p : Program} {l : Launch} {e : Env} {s : State} {m : MethodId} {below : List Frame} {meth : Method} {c : Code} {X : z_X} {b L : Nat} {xs : Nat → Int32} (C : z_LC p l s m meth c X b L xs) {a : Nat} {d d2 : Nat → Nat} {B : z_B} {o : Nat} {g : Nat → Int64} {dm : Nat → Nat} {M : z_M} {H : Heap} {locs : List Loc} {ls : Array Slot} {Q : State → Prop} {u : Int32} (kc ks : Nat) (hk : kc + 20 ≤ room_1.cells ∧ ks + 200 ≤ room_1.slots) (i : Nat) (hu : u = nI i) (hi : i + 3 < L) (hP : va_P X.1 vwCl (z_wLw X a d d2 B o g dm M) H) (hD : va_D (fun q : Nat => s.heap.size ≤ q) (z_wLw X a d d2 B o g dm M)) (hS : va_S (fun q : Nat => s.heap.size ≤ q) s.heap H locs) (hl : lv_has ls 9 [(0, .ref b), (1, .ref a), (2, .ref (dm 0)), (3, .ref o), (4, .int u)]) (Rl : z_B → z_M → Prop) (hsm : sm_minute Rl) (hR : Rl B M) (kk : ∀ (B2 : z_B) (g2 : Nat → Int64) (M2 : z_M) (H : Heap) (locs : List Loc) (ls : Array Slot), Rl B2 M2 → va_P X.1 vwCl (z_wLw X a d d2 B2 o g2 dm M2) H → va_D (fun q : Nat => s.heap.size ≤ q) (z_wLw X a d d2 B2 o g2 dm M2) → va_S (fun q : Nat => s.heap.size ≤ q) s.heap H locs → lv_has ls 9 [(0, .ref b), (1, .ref a), (2, .ref (dm 0)), (3, .ref o), (4, .int u)] → W p l e room_1 s m #[Value.ref b] below meth c H locs (kc + 20) (ks + 200) Q (F0 m 1905 ls [])) : W p l e room_1 s m #[Value.ref b] below meth c H locs kc ks Q (F0 m 759 ls []) := by
  rcases hsm B M hR with ⟨R2, hf2, h4, hr⟩
  · exact lc_minute C kc ks hk i hu hi hP hD hS hl hf2 h4 (fun H locs ls a1 a2 a3 a4 => kk _ _ _ H locs ls hr a1 a2 a3 a4)
set_option maxHeartbeats 4000000 in
theorem ld_rooms {p : Program} {l : Launch} {e : Env} {s : State} {m : MethodId} {below : List Frame} {meth : Method} {c : Code} {X : z_X} {b L : Nat} {xs : Nat → Int32} (C : z_LC p l s m meth c X b L xs) {a : Nat} {d d2 : Nat → Nat} {B : z_B} {o : Nat} {g : Nat → Int64} {dm : Nat → Nat} {M : z_M} {H : Heap} {locs : List Loc} {ls : Array Slot} {Q : State → Prop} {u : Int32} (kc ks : Nat) (hk : kc + 20 ≤ room_1.cells ∧ ks + 200 ≤ room_1.slots) (i : Nat) (hu : u = nI i) (hi : i + 3 < L) (hP : va_P X.1 vwCl (z_wLw X a d d2 B o g dm M) H) (hD : va_D (fun q : Nat => s.heap.size ≤ q) (z_wLw X a d d2 B o g dm M)) (hS : va_S (fun q : Nat => s.heap.size ≤ q) s.heap H locs) (hl : lv_has ls 9 [(0, .ref b), (1, .ref a), (2, .ref (dm 0)), (3, .ref o), (4, .int u)]) (Rl : z_B → z_M → Prop) (hsm : sm_rooms Rl) (hR : Rl B M) (kk : ∀ (B2 : z_B) (g2 : Nat → Int64) (M2 : z_M) (H : Heap) (locs : List Loc) (ls : Array Slot), Rl B2 M2 → va_P X.1 vwCl (z_wLw X a d d2 B2 o g2 dm M2) H → va_D (fun q : Nat => s.heap.size ≤ q) (z_wLw X a d d2 B2 o g2 dm M2) → va_S (fun q : Nat => s.heap.size ≤ q) s.heap H locs → lv_has ls 9 [(0, .ref b), (1, .ref a), (2, .ref (dm 0)), (3, .ref o), (4, .int u)] → W p l e room_1 s m #[Value.ref b] below meth c H locs (kc + 20) (ks + 200) Q (F0 m 1905 ls [])) : W p l e room_1 s m #[Value.ref b] below meth c H locs kc ks Q (F0 m 772 ls []) := by
  rcases hsm B M hR with ⟨h4, hr⟩
  · exact lc_rooms C kc ks hk i hu hi hP hD hS hl h4 (fun H locs ls a1 a2 a3 a4 => kk _ _ _ H locs ls hr a1 a2 a3 a4)
set_option maxHeartbeats 4000000 in
theorem ld_servants {p : Program} {l : Launch} {e : Env} {s : State} {m : MethodId} {below : List Frame} {meth : Method} {c : Code} {X : z_X} {b L : Nat} {xs : Nat → Int32} (C : z_LC p l s m meth c X b L xs) {a : Nat} {d d2 : Nat → Nat} {B : z_B} {o : Nat} {g : Nat → Int64} {dm : Nat → Nat} {M : z_M} {H : Heap} {locs : List Loc} {ls : Array Slot} {Q : State → Prop} {u : Int32} (kc ks : Nat) (hk : kc + 20 ≤ room_1.cells ∧ ks + 200 ≤ room_1.slots) (i : Nat) (hu : u = nI i) (hi : i + 3 < L) (hP : va_P X.1 vwCl (z_wLw X a d d2 B o g dm M) H) (hD : va_D (fun q : Nat => s.heap.size ≤ q) (z_wLw X a d d2 B o g dm M)) (hS : va_S (fun q : Nat => s.heap.size ≤ q) s.heap H locs) (hl : lv_has ls 9 [(0, .ref b), (1, .ref a), (2, .ref (dm 0)), (3, .ref o), (4, .int u)]) (Rl : z_B → z_M → Prop) (hsm : sm_servants Rl) (hR : Rl B M) (kk : ∀ (B2 : z_B) (g2 : Nat → Int64) (M2 : z_M) (H : Heap) (locs : List Loc) (ls : Array Slot), Rl B2 M2 → va_P X.1 vwCl (z_wLw X a d d2 B2 o g2 dm M2) H → va_D (fun q : Nat => s.heap.size ≤ q) (z_wLw X a d d2 B2 o g2 dm M2) → va_S (fun q : Nat => s.heap.size ≤ q) s.heap H locs → lv_has ls 9 [(0, .ref b), (1, .ref a), (2, .ref (dm 0)), (3, .ref o), (4, .int u)] → W p l e room_1 s m #[Value.ref b] below meth c H locs (kc + 20) (ks + 200) Q (F0 m 1905 ls [])) : W p l e room_1 s m #[Value.ref b] below meth c H locs kc ks Q (F0 m 785 ls []) := by
  rcases hsm B M hR with ⟨h4, hr⟩
  · exact lc_servants C kc ks hk i hu hi hP hD hS hl h4 (fun H locs ls a1 a2 a3 a4 => kk _ _ _ H locs ls hr a1 a2 a3 a4)
set_option maxHeartbeats 4000000 in
theorem ld_charge {p : Program} {l : Launch} {e : Env} {s : State} {m : MethodId} {below : List Frame} {meth : Method} {c : Code} {X : z_X} {b L : Nat} {xs : Nat → Int32} (C : z_LC p l s m meth c X b L xs) {a : Nat} {d d2 : Nat → Nat} {B : z_B} {o : Nat} {g : Nat → Int64} {dm : Nat → Nat} {M : z_M} {H : Heap} {locs : List Loc} {ls : Array Slot} {Q : State → Prop} {u : Int32} (kc ks : Nat) (hk : kc + 20 ≤ room_1.cells ∧ ks + 200 ≤ room_1.slots) (i : Nat) (hu : u = nI i) (hi : i + 3 < L) (hP : va_P X.1 vwCl (z_wLw X a d d2 B o g dm M) H) (hD : va_D (fun q : Nat => s.heap.size ≤ q) (z_wLw X a d d2 B o g dm M)) (hS : va_S (fun q : Nat => s.heap.size ≤ q) s.heap H locs) (hl : lv_has ls 9 [(0, .ref b), (1, .ref a), (2, .ref (dm 0)), (3, .ref o), (4, .int u)]) (Rl : z_B → z_M → Prop) (hsm : sm_charge Rl) (hR : Rl B M) (kk : ∀ (B2 : z_B) (g2 : Nat → Int64) (M2 : z_M) (H : Heap) (locs : List Loc) (ls : Array Slot), Rl B2 M2 → va_P X.1 vwCl (z_wLw X a d d2 B2 o g2 dm M2) H → va_D (fun q : Nat => s.heap.size ≤ q) (z_wLw X a d d2 B2 o g2 dm M2) → va_S (fun q : Nat => s.heap.size ≤ q) s.heap H locs → lv_has ls 9 [(0, .ref b), (1, .ref a), (2, .ref (dm 0)), (3, .ref o), (4, .int u)] → W p l e room_1 s m #[Value.ref b] below meth c H locs (kc + 20) (ks + 200) Q (F0 m 1905 ls [])) : W p l e room_1 s m #[Value.ref b] below meth c H locs kc ks Q (F0 m 798 ls []) := by
  rcases hsm B M hR with ⟨R2, hf2, h4, hr⟩
  · exact lc_charge C kc ks hk i hu hi hP hD hS hl hf2 h4 (fun H locs ls a1 a2 a3 a4 => kk _ _ _ H locs ls hr a1 a2 a3 a4)
set_option maxHeartbeats 4000000 in
theorem ld_served {p : Program} {l : Launch} {e : Env} {s : State} {m : MethodId} {below : List Frame} {meth : Method} {c : Code} {X : z_X} {b L : Nat} {xs : Nat → Int32} (C : z_LC p l s m meth c X b L xs) {a : Nat} {d d2 : Nat → Nat} {B : z_B} {o : Nat} {g : Nat → Int64} {dm : Nat → Nat} {M : z_M} {H : Heap} {locs : List Loc} {ls : Array Slot} {Q : State → Prop} {u : Int32} (kc ks : Nat) (hk : kc + 20 ≤ room_1.cells ∧ ks + 200 ≤ room_1.slots) (i : Nat) (hu : u = nI i) (hi : i + 3 < L) (hP : va_P X.1 vwCl (z_wLw X a d d2 B o g dm M) H) (hD : va_D (fun q : Nat => s.heap.size ≤ q) (z_wLw X a d d2 B o g dm M)) (hS : va_S (fun q : Nat => s.heap.size ≤ q) s.heap H locs) (hl : lv_has ls 9 [(0, .ref b), (1, .ref a), (2, .ref (dm 0)), (3, .ref o), (4, .int u)]) (Rl : z_B → z_M → Prop) (hsm : sm_served Rl) (hR : Rl B M) (kk : ∀ (B2 : z_B) (g2 : Nat → Int64) (M2 : z_M) (H : Heap) (locs : List Loc) (ls : Array Slot), Rl B2 M2 → va_P X.1 vwCl (z_wLw X a d d2 B2 o g2 dm M2) H → va_D (fun q : Nat => s.heap.size ≤ q) (z_wLw X a d d2 B2 o g2 dm M2) → va_S (fun q : Nat => s.heap.size ≤ q) s.heap H locs → lv_has ls 9 [(0, .ref b), (1, .ref a), (2, .ref (dm 0)), (3, .ref o), (4, .int u)] → W p l e room_1 s m #[Value.ref b] below meth c H locs (kc + 20) (ks + 200) Q (F0 m 1905 ls [])) : W p l e room_1 s m #[Value.ref b] below meth c H locs kc ks Q (F0 m 811 ls []) := by
  rcases hsm B M hR with ⟨R2, hf2, h4, hr⟩
  · exact lc_served C kc ks hk i hu hi hP hD hS hl hf2 h4 (fun H locs ls a1 a2 a3 a4 => kk _ _ _ H locs ls hr a1 a2 a3 a4)
set_option maxHeartbeats 4000000 in
theorem ld_inVain {p : Program} {l : Launch} {e : Env} {s : State} {m : MethodId} {below : List Frame} {meth : Method} {c : Code} {X : z_X} {b L : Nat} {xs : Nat → Int32} (C : z_LC p l s m meth c X b L xs) {a : Nat} {d d2 : Nat → Nat} {B : z_B} {o : Nat} {g : Nat → Int64} {dm : Nat → Nat} {M : z_M} {H : Heap} {locs : List Loc} {ls : Array Slot} {Q : State → Prop} {u : Int32} (kc ks : Nat) (hk : kc + 20 ≤ room_1.cells ∧ ks + 200 ≤ room_1.slots) (i : Nat) (hu : u = nI i) (hi : i + 3 < L) (hP : va_P X.1 vwCl (z_wLw X a d d2 B o g dm M) H) (hD : va_D (fun q : Nat => s.heap.size ≤ q) (z_wLw X a d d2 B o g dm M)) (hS : va_S (fun q : Nat => s.heap.size ≤ q) s.heap H locs) (hl : lv_has ls 9 [(0, .ref b), (1, .ref a), (2, .ref (dm 0)), (3, .ref o), (4, .int u)]) (Rl : z_B → z_M → Prop) (hsm : sm_inVain Rl) (hR : Rl B M) (kk : ∀ (B2 : z_B) (g2 : Nat → Int64) (M2 : z_M) (H : Heap) (locs : List Loc) (ls : Array Slot), Rl B2 M2 → va_P X.1 vwCl (z_wLw X a d d2 B2 o g2 dm M2) H → va_D (fun q : Nat => s.heap.size ≤ q) (z_wLw X a d d2 B2 o g2 dm M2) → va_S (fun q : Nat => s.heap.size ≤ q) s.heap H locs → lv_has ls 9 [(0, .ref b), (1, .ref a), (2, .ref (dm 0)), (3, .ref o), (4, .int u)] → W p l e room_1 s m #[Value.ref b] below meth c H locs (kc + 20) (ks + 200) Q (F0 m 1905 ls [])) : W p l e room_1 s m #[Value.ref b] below meth c H locs kc ks Q (F0 m 824 ls []) := by
  rcases hsm B M hR with ⟨R2, hf2, h4, hr⟩
  · exact lc_inVain C kc ks hk i hu hi hP hD hS hl hf2 h4 (fun H locs ls a1 a2 a3 a4 => kk _ _ _ H locs ls hr a1 a2 a3 a4)
set_option maxHeartbeats 4000000 in
theorem ld_gaveUp {p : Program} {l : Launch} {e : Env} {s : State} {m : MethodId} {below : List Frame} {meth : Method} {c : Code} {X : z_X} {b L : Nat} {xs : Nat → Int32} (C : z_LC p l s m meth c X b L xs) {a : Nat} {d d2 : Nat → Nat} {B : z_B} {o : Nat} {g : Nat → Int64} {dm : Nat → Nat} {M : z_M} {H : Heap} {locs : List Loc} {ls : Array Slot} {Q : State → Prop} {u : Int32} (kc ks : Nat) (hk : kc + 20 ≤ room_1.cells ∧ ks + 200 ≤ room_1.slots) (i : Nat) (hu : u = nI i) (hi : i + 3 < L) (hP : va_P X.1 vwCl (z_wLw X a d d2 B o g dm M) H) (hD : va_D (fun q : Nat => s.heap.size ≤ q) (z_wLw X a d d2 B o g dm M)) (hS : va_S (fun q : Nat => s.heap.size ≤ q) s.heap H locs) (hl : lv_has ls 9 [(0, .ref b), (1, .ref a), (2, .ref (dm 0)), (3, .ref o), (4, .int u)]) (Rl : z_B → z_M → Prop) (hsm : sm_gaveUp Rl) (hR : Rl B M) (kk : ∀ (B2 : z_B) (g2 : Nat → Int64) (M2 : z_M) (H : Heap) (locs : List Loc) (ls : Array Slot), Rl B2 M2 → va_P X.1 vwCl (z_wLw X a d d2 B2 o g2 dm M2) H → va_D (fun q : Nat => s.heap.size ≤ q) (z_wLw X a d d2 B2 o g2 dm M2) → va_S (fun q : Nat => s.heap.size ≤ q) s.heap H locs → lv_has ls 9 [(0, .ref b), (1, .ref a), (2, .ref (dm 0)), (3, .ref o), (4, .int u)] → W p l e room_1 s m #[Value.ref b] below meth c H locs (kc + 20) (ks + 200) Q (F0 m 1905 ls [])) : W p l e room_1 s m #[Value.ref b] below meth c H locs kc ks Q (F0 m 837 ls []) := by
  rcases hsm B M hR with ⟨R2, hf2, h4, hr⟩
  · exact lc_gaveUp C kc ks hk i hu hi hP hD hS hl hf2 h4 (fun H locs ls a1 a2 a3 a4 => kk _ _ _ H locs ls hr a1 a2 a3 a4)
set_option maxHeartbeats 4000000 in
theorem ld_unheard {p : Program} {l : Launch} {e : Env} {s : State} {m : MethodId} {below : List Frame} {meth : Method} {c : Code} {X : z_X} {b L : Nat} {xs : Nat → Int32} (C : z_LC p l s m meth c X b L xs) {a : Nat} {d d2 : Nat → Nat} {B : z_B} {o : Nat} {g : Nat → Int64} {dm : Nat → Nat} {M : z_M} {H : Heap} {locs : List Loc} {ls : Array Slot} {Q : State → Prop} {u : Int32} (kc ks : Nat) (hk : kc + 20 ≤ room_1.cells ∧ ks + 200 ≤ room_1.slots) (i : Nat) (hu : u = nI i) (hi : i + 3 < L) (hP : va_P X.1 vwCl (z_wLw X a d d2 B o g dm M) H) (hD : va_D (fun q : Nat => s.heap.size ≤ q) (z_wLw X a d d2 B o g dm M)) (hS : va_S (fun q : Nat => s.heap.size ≤ q) s.heap H locs) (hl : lv_has ls 9 [(0, .ref b), (1, .ref a), (2, .ref (dm 0)), (3, .ref o), (4, .int u)]) (Rl : z_B → z_M → Prop) (hsm : sm_unheard Rl) (hR : Rl B M) (kk : ∀ (B2 : z_B) (g2 : Nat → Int64) (M2 : z_M) (H : Heap) (locs : List Loc) (ls : Array Slot), Rl B2 M2 → va_P X.1 vwCl (z_wLw X a d d2 B2 o g2 dm M2) H → va_D (fun q : Nat => s.heap.size ≤ q) (z_wLw X a d d2 B2 o g2 dm M2) → va_S (fun q : Nat => s.heap.size ≤ q) s.heap H locs → lv_has ls 9 [(0, .ref b), (1, .ref a), (2, .ref (dm 0)), (3, .ref o), (4, .int u)] → W p l e room_1 s m #[Value.ref b] below meth c H locs (kc + 20) (ks + 200) Q (F0 m 1905 ls [])) : W p l e room_1 s m #[Value.ref b] below meth c H locs kc ks Q (F0 m 850 ls []) := by
  rcases hsm B M hR with ⟨R2, hf2, h4, hr⟩
  · exact lc_unheard C kc ks hk i hu hi hP hD hS hl hf2 h4 (fun H locs ls a1 a2 a3 a4 => kk _ _ _ H locs ls hr a1 a2 a3 a4)
set_option maxHeartbeats 4000000 in
theorem ld_dropOf {p : Program} {l : Launch} {e : Env} {s : State} {m : MethodId} {below : List Frame} {meth : Method} {c : Code} {X : z_X} {b L : Nat} {xs : Nat → Int32} (C : z_LC p l s m meth c X b L xs) {a : Nat} {d d2 : Nat → Nat} {B : z_B} {o : Nat} {g : Nat → Int64} {dm : Nat → Nat} {M : z_M} {H : Heap} {locs : List Loc} {ls : Array Slot} {Q : State → Prop} {u : Int32} (kc ks : Nat) (hk : kc + 20 ≤ room_1.cells ∧ ks + 200 ≤ room_1.slots) (i : Nat) (hu : u = nI i) (hi : i + 3 < L) (hP : va_P X.1 vwCl (z_wLw X a d d2 B o g dm M) H) (hD : va_D (fun q : Nat => s.heap.size ≤ q) (z_wLw X a d d2 B o g dm M)) (hS : va_S (fun q : Nat => s.heap.size ≤ q) s.heap H locs) (hl : lv_has ls 9 [(0, .ref b), (1, .ref a), (2, .ref (dm 0)), (3, .ref o), (4, .int u)]) (Rl : z_B → z_M → Prop) (hsm : sm_dropOf Rl) (hR : Rl B M) (kk : ∀ (B2 : z_B) (g2 : Nat → Int64) (M2 : z_M) (H : Heap) (locs : List Loc) (ls : Array Slot), Rl B2 M2 → va_P X.1 vwCl (z_wLw X a d d2 B2 o g2 dm M2) H → va_D (fun q : Nat => s.heap.size ≤ q) (z_wLw X a d d2 B2 o g2 dm M2) → va_S (fun q : Nat => s.heap.size ≤ q) s.heap H locs → lv_has ls 9 [(0, .ref b), (1, .ref a), (2, .ref (dm 0)), (3, .ref o), (4, .int u)] → W p l e room_1 s m #[Value.ref b] below meth c H locs (kc + 20) (ks + 200) Q (F0 m 1905 ls [])) : W p l e room_1 s m #[Value.ref b] below meth c H locs kc ks Q (F0 m 863 ls []) := by
  rcases hsm B M (xs (i + 1)) hR with ⟨R1, R2, hf1, hf2, h3, h4, hr⟩ | ⟨R2, hf1, hf2, h3, hr⟩
  · exact lc_dropOf C kc ks hk i hu hi hP hD hS hl hf1 hf2 h3 h4 (fun H locs ls a1 a2 a3 a4 => kk _ _ _ H locs ls hr a1 a2 a3 a4)
  · exact lc_dropOf_t2 C kc ks hk i hu hi hP hD hS hl hf1 hf2 h3 (fun H locs ls a1 a2 a3 a4 => kk _ _ _ H locs ls hr a1 a2 a3 a4)
set_option maxHeartbeats 4000000 in
theorem ld_roomOf {p : Program} {l : Launch} {e : Env} {s : State} {m : MethodId} {below : List Frame} {meth : Method} {c : Code} {X : z_X} {b L : Nat} {xs : Nat → Int32} (C : z_LC p l s m meth c X b L xs) {a : Nat} {d d2 : Nat → Nat} {B : z_B} {o : Nat} {g : Nat → Int64} {dm : Nat → Nat} {M : z_M} {H : Heap} {locs : List Loc} {ls : Array Slot} {Q : State → Prop} {u : Int32} (kc ks : Nat) (hk : kc + 20 ≤ room_1.cells ∧ ks + 200 ≤ room_1.slots) (i : Nat) (hu : u = nI i) (hi : i + 3 < L) (hP : va_P X.1 vwCl (z_wLw X a d d2 B o g dm M) H) (hD : va_D (fun q : Nat => s.heap.size ≤ q) (z_wLw X a d d2 B o g dm M)) (hS : va_S (fun q : Nat => s.heap.size ≤ q) s.heap H locs) (hl : lv_has ls 9 [(0, .ref b), (1, .ref a), (2, .ref (dm 0)), (3, .ref o), (4, .int u)]) (Rl : z_B → z_M → Prop) (hsm : sm_roomOf Rl) (hR : Rl B M) (kk : ∀ (B2 : z_B) (g2 : Nat → Int64) (M2 : z_M) (H : Heap) (locs : List Loc) (ls : Array Slot), Rl B2 M2 → va_P X.1 vwCl (z_wLw X a d d2 B2 o g2 dm M2) H → va_D (fun q : Nat => s.heap.size ≤ q) (z_wLw X a d d2 B2 o g2 dm M2) → va_S (fun q : Nat => s.heap.size ≤ q) s.heap H locs → lv_has ls 9 [(0, .ref b), (1, .ref a), (2, .ref (dm 0)), (3, .ref o), (4, .int u)] → W p l e room_1 s m #[Value.ref b] below meth c H locs (kc + 20) (ks + 200) Q (F0 m 1905 ls [])) : W p l e room_1 s m #[Value.ref b] below meth c H locs kc ks Q (F0 m 919 ls []) := by
  rcases hsm B M (xs (i + 1)) hR with ⟨R1, R2, hf1, hf2, h3, h4, hr⟩ | ⟨R2, hf1, hf2, h3, hr⟩
  · exact lc_roomOf C kc ks hk i hu hi hP hD hS hl hf1 hf2 h3 h4 (fun H locs ls a1 a2 a3 a4 => kk _ _ _ H locs ls hr a1 a2 a3 a4)
  · exact lc_roomOf_t2 C kc ks hk i hu hi hP hD hS hl hf1 hf2 h3 (fun H locs ls a1 a2 a3 a4 => kk _ _ _ H locs ls hr a1 a2 a3 a4)
set_option maxHeartbeats 4000000 in
theorem ld_isCut {p : Program} {l : Launch} {e : Env} {s : State} {m : MethodId} {below : List Frame} {meth : Method} {c : Code} {X : z_X} {b L : Nat} {xs : Nat → Int32} (C : z_LC p l s m meth c X b L xs) {a : Nat} {d d2 : Nat → Nat} {B : z_B} {o : Nat} {g : Nat → Int64} {dm : Nat → Nat} {M : z_M} {H : Heap} {locs : List Loc} {ls : Array Slot} {Q : State → Prop} {u : Int32} (kc ks : Nat) (hk : kc + 20 ≤ room_1.cells ∧ ks + 200 ≤ room_1.slots) (i : Nat) (hu : u = nI i) (hi : i + 3 < L) (hP : va_P X.1 vwCl (z_wLw X a d d2 B o g dm M) H) (hD : va_D (fun q : Nat => s.heap.size ≤ q) (z_wLw X a d d2 B o g dm M)) (hS : va_S (fun q : Nat => s.heap.size ≤ q) s.heap H locs) (hl : lv_has ls 9 [(0, .ref b), (1, .ref a), (2, .ref (dm 0)), (3, .ref o), (4, .int u)]) (Rl : z_B → z_M → Prop) (hsm : sm_isCut Rl) (hR : Rl B M) (kk : ∀ (B2 : z_B) (g2 : Nat → Int64) (M2 : z_M) (H : Heap) (locs : List Loc) (ls : Array Slot), Rl B2 M2 → va_P X.1 vwCl (z_wLw X a d d2 B2 o g2 dm M2) H → va_D (fun q : Nat => s.heap.size ≤ q) (z_wLw X a d d2 B2 o g2 dm M2) → va_S (fun q : Nat => s.heap.size ≤ q) s.heap H locs → lv_has ls 9 [(0, .ref b), (1, .ref a), (2, .ref (dm 0)), (3, .ref o), (4, .int u)] → W p l e room_1 s m #[Value.ref b] below meth c H locs (kc + 20) (ks + 200) Q (F0 m 1905 ls [])) : W p l e room_1 s m #[Value.ref b] below meth c H locs kc ks Q (F0 m 975 ls []) := by
  rcases hsm B M (xs (i + 1)) hR with ⟨R1, R2, hf1, hf2, h3, h4, hr⟩ | ⟨R2, hf1, hf2, h3, hr⟩
  · exact lc_isCut C kc ks hk i hu hi hP hD hS hl hf1 hf2 h3 h4 (fun H locs ls a1 a2 a3 a4 => kk _ _ _ H locs ls hr a1 a2 a3 a4)
  · exact lc_isCut_t2 C kc ks hk i hu hi hP hD hS hl hf1 hf2 h3 (fun H locs ls a1 a2 a3 a4 => kk _ _ _ H locs ls hr a1 a2 a3 a4)
set_option maxHeartbeats 4000000 in
theorem ld_waitedFor {p : Program} {l : Launch} {e : Env} {s : State} {m : MethodId} {below : List Frame} {meth : Method} {c : Code} {X : z_X} {b L : Nat} {xs : Nat → Int32} (C : z_LC p l s m meth c X b L xs) {a : Nat} {d d2 : Nat → Nat} {B : z_B} {o : Nat} {g : Nat → Int64} {dm : Nat → Nat} {M : z_M} {H : Heap} {locs : List Loc} {ls : Array Slot} {Q : State → Prop} {u : Int32} (kc ks : Nat) (hk : kc + 20 ≤ room_1.cells ∧ ks + 200 ≤ room_1.slots) (i : Nat) (hu : u = nI i) (hi : i + 3 < L) (hP : va_P X.1 vwCl (z_wLw X a d d2 B o g dm M) H) (hD : va_D (fun q : Nat => s.heap.size ≤ q) (z_wLw X a d d2 B o g dm M)) (hS : va_S (fun q : Nat => s.heap.size ≤ q) s.heap H locs) (hl : lv_has ls 9 [(0, .ref b), (1, .ref a), (2, .ref (dm 0)), (3, .ref o), (4, .int u)]) (Rl : z_B → z_M → Prop) (hsm : sm_waitedFor Rl) (hR : Rl B M) (kk : ∀ (B2 : z_B) (g2 : Nat → Int64) (M2 : z_M) (H : Heap) (locs : List Loc) (ls : Array Slot), Rl B2 M2 → va_P X.1 vwCl (z_wLw X a d d2 B2 o g2 dm M2) H → va_D (fun q : Nat => s.heap.size ≤ q) (z_wLw X a d d2 B2 o g2 dm M2) → va_S (fun q : Nat => s.heap.size ≤ q) s.heap H locs → lv_has ls 9 [(0, .ref b), (1, .ref a), (2, .ref (dm 0)), (3, .ref o), (4, .int u)] → W p l e room_1 s m #[Value.ref b] below meth c H locs (kc + 20) (ks + 200) Q (F0 m 1905 ls [])) : W p l e room_1 s m #[Value.ref b] below meth c H locs kc ks Q (F0 m 1038 ls []) := by
  rcases hsm B M (xs (i + 1)) hR with ⟨R1, R2, hf1, hf2, h3, h4, hr⟩ | ⟨R2, hf1, hf2, h3, hr⟩
  · exact lc_waitedFor C kc ks hk i hu hi hP hD hS hl hf1 hf2 h3 h4 (fun H locs ls a1 a2 a3 a4 => kk _ _ _ H locs ls hr a1 a2 a3 a4)
  · exact lc_waitedFor_t2 C kc ks hk i hu hi hP hD hS hl hf1 hf2 h3 (fun H locs ls a1 a2 a3 a4 => kk _ _ _ H locs ls hr a1 a2 a3 a4)
set_option maxHeartbeats 4000000 in
theorem ld_longestWaiting {p : Program} {l : Launch} {e : Env} {s : State} {m : MethodId} {below : List Frame} {meth : Method} {c : Code} {X : z_X} {b L : Nat} {xs : Nat → Int32} (C : z_LC p l s m meth c X b L xs) {a : Nat} {d d2 : Nat → Nat} {B : z_B} {o : Nat} {g : Nat → Int64} {dm : Nat → Nat} {M : z_M} {H : Heap} {locs : List Loc} {ls : Array Slot} {Q : State → Prop} {u : Int32} (kc ks : Nat) (hk : kc + 20 ≤ room_1.cells ∧ ks + 200 ≤ room_1.slots) (i : Nat) (hu : u = nI i) (hi : i + 3 < L) (hP : va_P X.1 vwCl (z_wLw X a d d2 B o g dm M) H) (hD : va_D (fun q : Nat => s.heap.size ≤ q) (z_wLw X a d d2 B o g dm M)) (hS : va_S (fun q : Nat => s.heap.size ≤ q) s.heap H locs) (hl : lv_has ls 9 [(0, .ref b), (1, .ref a), (2, .ref (dm 0)), (3, .ref o), (4, .int u)]) (Rl : z_B → z_M → Prop) (hsm : sm_longestWaiting Rl) (hR : Rl B M) (kk : ∀ (B2 : z_B) (g2 : Nat → Int64) (M2 : z_M) (H : Heap) (locs : List Loc) (ls : Array Slot), Rl B2 M2 → va_P X.1 vwCl (z_wLw X a d d2 B2 o g2 dm M2) H → va_D (fun q : Nat => s.heap.size ≤ q) (z_wLw X a d d2 B2 o g2 dm M2) → va_S (fun q : Nat => s.heap.size ≤ q) s.heap H locs → lv_has ls 9 [(0, .ref b), (1, .ref a), (2, .ref (dm 0)), (3, .ref o), (4, .int u)] → W p l e room_1 s m #[Value.ref b] below meth c H locs (kc + 20) (ks + 200) Q (F0 m 1905 ls [])) : W p l e room_1 s m #[Value.ref b] below meth c H locs kc ks Q (F0 m 1094 ls []) := by
  rcases hsm B M hR with ⟨R1, R2, hf1, hf2, h4, hr⟩
  · exact lc_longestWaiting C kc ks hk i hu hi hP hD hS hl hf1 hf2 h4 (fun H locs ls a1 a2 a3 a4 => kk _ _ _ H locs ls hr a1 a2 a3 a4)
set_option maxHeartbeats 4000000 in
theorem ld_crossed {p : Program} {l : Launch} {e : Env} {s : State} {m : MethodId} {below : List Frame} {meth : Method} {c : Code} {X : z_X} {b L : Nat} {xs : Nat → Int32} (C : z_LC p l s m meth c X b L xs) {a : Nat} {d d2 : Nat → Nat} {B : z_B} {o : Nat} {g : Nat → Int64} {dm : Nat → Nat} {M : z_M} {H : Heap} {locs : List Loc} {ls : Array Slot} {Q : State → Prop} {u : Int32} (kc ks : Nat) (hk : kc + 20 ≤ room_1.cells ∧ ks + 200 ≤ room_1.slots) (i : Nat) (hu : u = nI i) (hi : i + 3 < L) (hP : va_P X.1 vwCl (z_wLw X a d d2 B o g dm M) H) (hD : va_D (fun q : Nat => s.heap.size ≤ q) (z_wLw X a d d2 B o g dm M)) (hS : va_S (fun q : Nat => s.heap.size ≤ q) s.heap H locs) (hl : lv_has ls 9 [(0, .ref b), (1, .ref a), (2, .ref (dm 0)), (3, .ref o), (4, .int u)]) (Rl : z_B → z_M → Prop) (hsm : sm_crossed Rl) (hR : Rl B M) (kk : ∀ (B2 : z_B) (g2 : Nat → Int64) (M2 : z_M) (H : Heap) (locs : List Loc) (ls : Array Slot), Rl B2 M2 → va_P X.1 vwCl (z_wLw X a d d2 B2 o g2 dm M2) H → va_D (fun q : Nat => s.heap.size ≤ q) (z_wLw X a d d2 B2 o g2 dm M2) → va_S (fun q : Nat => s.heap.size ≤ q) s.heap H locs → lv_has ls 9 [(0, .ref b), (1, .ref a), (2, .ref (dm 0)), (3, .ref o), (4, .int u)] → W p l e room_1 s m #[Value.ref b] below meth c H locs (kc + 20) (ks + 200) Q (F0 m 1905 ls [])) : W p l e room_1 s m #[Value.ref b] below meth c H locs kc ks Q (F0 m 1107 ls []) := by
  rcases hsm B M hR with ⟨R1, R2, hf1, hf2, h4, hr⟩
  · exact lc_crossed C kc ks hk i hu hi hP hD hS hl hf1 hf2 h4 (fun H locs ls a1 a2 a3 a4 => kk _ _ _ H locs ls hr a1 a2 a3 a4)
set_option maxHeartbeats 4000000 in
theorem ld_crossingsNeeded {p : Program} {l : Launch} {e : Env} {s : State} {m : MethodId} {below : List Frame} {meth : Method} {c : Code} {X : z_X} {b L : Nat} {xs : Nat → Int32} (C : z_LC p l s m meth c X b L xs) {a : Nat} {d d2 : Nat → Nat} {B : z_B} {o : Nat} {g : Nat → Int64} {dm : Nat → Nat} {M : z_M} {H : Heap} {locs : List Loc} {ls : Array Slot} {Q : State → Prop} {u : Int32} (kc ks : Nat) (hk : kc + 20 ≤ room_1.cells ∧ ks + 200 ≤ room_1.slots) (i : Nat) (hu : u = nI i) (hi : i + 3 < L) (hP : va_P X.1 vwCl (z_wLw X a d d2 B o g dm M) H) (hD : va_D (fun q : Nat => s.heap.size ≤ q) (z_wLw X a d d2 B o g dm M)) (hS : va_S (fun q : Nat => s.heap.size ≤ q) s.heap H locs) (hl : lv_has ls 9 [(0, .ref b), (1, .ref a), (2, .ref (dm 0)), (3, .ref o), (4, .int u)]) (Rl : z_B → z_M → Prop) (hsm : sm_crossingsNeeded Rl) (hR : Rl B M) (kk : ∀ (B2 : z_B) (g2 : Nat → Int64) (M2 : z_M) (H : Heap) (locs : List Loc) (ls : Array Slot), Rl B2 M2 → va_P X.1 vwCl (z_wLw X a d d2 B2 o g2 dm M2) H → va_D (fun q : Nat => s.heap.size ≤ q) (z_wLw X a d d2 B2 o g2 dm M2) → va_S (fun q : Nat => s.heap.size ≤ q) s.heap H locs → lv_has ls 9 [(0, .ref b), (1, .ref a), (2, .ref (dm 0)), (3, .ref o), (4, .int u)] → W p l e room_1 s m #[Value.ref b] below meth c H locs (kc + 20) (ks + 200) Q (F0 m 1905 ls [])) : W p l e room_1 s m #[Value.ref b] below meth c H locs kc ks Q (F0 m 1120 ls []) := by
  rcases hsm B M hR with ⟨R1, R2, hf1, hf2, h4, hr⟩
  · exact lc_crossingsNeeded C kc ks hk i hu hi hP hD hS hl hf1 hf2 h4 (fun H locs ls a1 a2 a3 a4 => kk _ _ _ H locs ls hr a1 a2 a3 a4)
set_option maxHeartbeats 4000000 in
theorem ld_fallen {p : Program} {l : Launch} {e : Env} {s : State} {m : MethodId} {below : List Frame} {meth : Method} {c : Code} {X : z_X} {b L : Nat} {xs : Nat → Int32} (C : z_LC p l s m meth c X b L xs) {a : Nat} {d d2 : Nat → Nat} {B : z_B} {o : Nat} {g : Nat → Int64} {dm : Nat → Nat} {M : z_M} {H : Heap} {locs : List Loc} {ls : Array Slot} {Q : State → Prop} {u : Int32} (kc ks : Nat) (hk : kc + 20 ≤ room_1.cells ∧ ks + 200 ≤ room_1.slots) (i : Nat) (hu : u = nI i) (hi : i + 3 < L) (hP : va_P X.1 vwCl (z_wLw X a d d2 B o g dm M) H) (hD : va_D (fun q : Nat => s.heap.size ≤ q) (z_wLw X a d d2 B o g dm M)) (hS : va_S (fun q : Nat => s.heap.size ≤ q) s.heap H locs) (hl : lv_has ls 9 [(0, .ref b), (1, .ref a), (2, .ref (dm 0)), (3, .ref o), (4, .int u)]) (Rl : z_B → z_M → Prop) (hsm : sm_fallen Rl) (hR : Rl B M) (kk : ∀ (B2 : z_B) (g2 : Nat → Int64) (M2 : z_M) (H : Heap) (locs : List Loc) (ls : Array Slot), Rl B2 M2 → va_P X.1 vwCl (z_wLw X a d d2 B2 o g2 dm M2) H → va_D (fun q : Nat => s.heap.size ≤ q) (z_wLw X a d d2 B2 o g2 dm M2) → va_S (fun q : Nat => s.heap.size ≤ q) s.heap H locs → lv_has ls 9 [(0, .ref b), (1, .ref a), (2, .ref (dm 0)), (3, .ref o), (4, .int u)] → W p l e room_1 s m #[Value.ref b] below meth c H locs (kc + 20) (ks + 200) Q (F0 m 1905 ls [])) : W p l e room_1 s m #[Value.ref b] below meth c H locs kc ks Q (F0 m 1133 ls []) := by
  rcases hsm B M hR with ⟨R2, hf2, h4, hr⟩
  · exact lc_fallen C kc ks hk i hu hi hP hD hS hl hf2 h4 (fun H locs ls a1 a2 a3 a4 => kk _ _ _ H locs ls hr a1 a2 a3 a4)
set_option maxHeartbeats 4000000 in
theorem ld_hasFallen {p : Program} {l : Launch} {e : Env} {s : State} {m : MethodId} {below : List Frame} {meth : Method} {c : Code} {X : z_X} {b L : Nat} {xs : Nat → Int32} (C : z_LC p l s m meth c X b L xs) {a : Nat} {d d2 : Nat → Nat} {B : z_B} {o : Nat} {g : Nat → Int64} {dm : Nat → Nat} {M : z_M} {H : Heap} {locs : List Loc} {ls : Array Slot} {Q : State → Prop} {u : Int32} (kc ks : Nat) (hk : kc + 20 ≤ room_1.cells ∧ ks + 200 ≤ room_1.slots) (i : Nat) (hu : u = nI i) (hi : i + 3 < L) (hP : va_P X.1 vwCl (z_wLw X a d d2 B o g dm M) H) (hD : va_D (fun q : Nat => s.heap.size ≤ q) (z_wLw X a d d2 B o g dm M)) (hS : va_S (fun q : Nat => s.heap.size ≤ q) s.heap H locs) (hl : lv_has ls 9 [(0, .ref b), (1, .ref a), (2, .ref (dm 0)), (3, .ref o), (4, .int u)]) (Rl : z_B → z_M → Prop) (hsm : sm_hasFallen Rl) (hR : Rl B M) (kk : ∀ (B2 : z_B) (g2 : Nat → Int64) (M2 : z_M) (H : Heap) (locs : List Loc) (ls : Array Slot), Rl B2 M2 → va_P X.1 vwCl (z_wLw X a d d2 B2 o g2 dm M2) H → va_D (fun q : Nat => s.heap.size ≤ q) (z_wLw X a d d2 B2 o g2 dm M2) → va_S (fun q : Nat => s.heap.size ≤ q) s.heap H locs → lv_has ls 9 [(0, .ref b), (1, .ref a), (2, .ref (dm 0)), (3, .ref o), (4, .int u)] → W p l e room_1 s m #[Value.ref b] below meth c H locs (kc + 20) (ks + 200) Q (F0 m 1905 ls [])) : W p l e room_1 s m #[Value.ref b] below meth c H locs kc ks Q (F0 m 1146 ls []) := by
  rcases hsm B M (xs (i + 1)) hR with ⟨R1, R2, hf1, hf2, h3, h4, hr⟩ | ⟨R2, hf1, hf2, h3, hr⟩
  · exact lc_hasFallen C kc ks hk i hu hi hP hD hS hl hf1 hf2 h3 h4 (fun H locs ls a1 a2 a3 a4 => kk _ _ _ H locs ls hr a1 a2 a3 a4)
  · exact lc_hasFallen_t2 C kc ks hk i hu hi hP hD hS hl hf1 hf2 h3 (fun H locs ls a1 a2 a3 a4 => kk _ _ _ H locs ls hr a1 a2 a3 a4)
set_option maxHeartbeats 4000000 in
theorem ld_placeInLine {p : Program} {l : Launch} {e : Env} {s : State} {m : MethodId} {below : List Frame} {meth : Method} {c : Code} {X : z_X} {b L : Nat} {xs : Nat → Int32} (C : z_LC p l s m meth c X b L xs) {a : Nat} {d d2 : Nat → Nat} {B : z_B} {o : Nat} {g : Nat → Int64} {dm : Nat → Nat} {M : z_M} {H : Heap} {locs : List Loc} {ls : Array Slot} {Q : State → Prop} {u : Int32} (kc ks : Nat) (hk : kc + 20 ≤ room_1.cells ∧ ks + 200 ≤ room_1.slots) (i : Nat) (hu : u = nI i) (hi : i + 3 < L) (hP : va_P X.1 vwCl (z_wLw X a d d2 B o g dm M) H) (hD : va_D (fun q : Nat => s.heap.size ≤ q) (z_wLw X a d d2 B o g dm M)) (hS : va_S (fun q : Nat => s.heap.size ≤ q) s.heap H locs) (hl : lv_has ls 9 [(0, .ref b), (1, .ref a), (2, .ref (dm 0)), (3, .ref o), (4, .int u)]) (Rl : z_B → z_M → Prop) (hsm : sm_placeInLine Rl) (hR : Rl B M) (kk : ∀ (B2 : z_B) (g2 : Nat → Int64) (M2 : z_M) (H : Heap) (locs : List Loc) (ls : Array Slot), Rl B2 M2 → va_P X.1 vwCl (z_wLw X a d d2 B2 o g2 dm M2) H → va_D (fun q : Nat => s.heap.size ≤ q) (z_wLw X a d d2 B2 o g2 dm M2) → va_S (fun q : Nat => s.heap.size ≤ q) s.heap H locs → lv_has ls 9 [(0, .ref b), (1, .ref a), (2, .ref (dm 0)), (3, .ref o), (4, .int u)] → W p l e room_1 s m #[Value.ref b] below meth c H locs (kc + 20) (ks + 200) Q (F0 m 1905 ls [])) : W p l e room_1 s m #[Value.ref b] below meth c H locs kc ks Q (F0 m 1209 ls []) := by
  rcases hsm B M (xs (i + 1)) hR with ⟨R1, R2, hf1, hf2, h3, h4, hr⟩ | ⟨R2, hf1, hf2, h3, hr⟩
  · exact lc_placeInLine C kc ks hk i hu hi hP hD hS hl hf1 hf2 h3 h4 (fun H locs ls a1 a2 a3 a4 => kk _ _ _ H locs ls hr a1 a2 a3 a4)
  · exact lc_placeInLine_t2 C kc ks hk i hu hi hP hD hS hl hf1 hf2 h3 (fun H locs ls a1 a2 a3 a4 => kk _ _ _ H locs ls hr a1 a2 a3 a4)
set_option maxHeartbeats 4000000 in
theorem ld_nextDrop {p : Program} {l : Launch} {e : Env} {s : State} {m : MethodId} {below : List Frame} {meth : Method} {c : Code} {X : z_X} {b L : Nat} {xs : Nat → Int32} (C : z_LC p l s m meth c X b L xs) {a : Nat} {d d2 : Nat → Nat} {B : z_B} {o : Nat} {g : Nat → Int64} {dm : Nat → Nat} {M : z_M} {H : Heap} {locs : List Loc} {ls : Array Slot} {Q : State → Prop} {u : Int32} (kc ks : Nat) (hk : kc + 20 ≤ room_1.cells ∧ ks + 200 ≤ room_1.slots) (i : Nat) (hu : u = nI i) (hi : i + 3 < L) (hP : va_P X.1 vwCl (z_wLw X a d d2 B o g dm M) H) (hD : va_D (fun q : Nat => s.heap.size ≤ q) (z_wLw X a d d2 B o g dm M)) (hS : va_S (fun q : Nat => s.heap.size ≤ q) s.heap H locs) (hl : lv_has ls 9 [(0, .ref b), (1, .ref a), (2, .ref (dm 0)), (3, .ref o), (4, .int u)]) (Rl : z_B → z_M → Prop) (hsm : sm_nextDrop Rl) (hR : Rl B M) (kk : ∀ (B2 : z_B) (g2 : Nat → Int64) (M2 : z_M) (H : Heap) (locs : List Loc) (ls : Array Slot), Rl B2 M2 → va_P X.1 vwCl (z_wLw X a d d2 B2 o g2 dm M2) H → va_D (fun q : Nat => s.heap.size ≤ q) (z_wLw X a d d2 B2 o g2 dm M2) → va_S (fun q : Nat => s.heap.size ≤ q) s.heap H locs → lv_has ls 9 [(0, .ref b), (1, .ref a), (2, .ref (dm 0)), (3, .ref o), (4, .int u)] → W p l e room_1 s m #[Value.ref b] below meth c H locs (kc + 20) (ks + 200) Q (F0 m 1905 ls [])) : W p l e room_1 s m #[Value.ref b] below meth c H locs kc ks Q (F0 m 1265 ls []) := by
  rcases hsm B M hR with ⟨R1, R2, hf1, hf2, h4, hr⟩
  · exact lc_nextDrop C kc ks hk i hu hi hP hD hS hl hf1 hf2 h4 (fun H locs ls a1 a2 a3 a4 => kk _ _ _ H locs ls hr a1 a2 a3 a4)
set_option maxHeartbeats 4000000 in
theorem ld_ringsLeft {p : Program} {l : Launch} {e : Env} {s : State} {m : MethodId} {below : List Frame} {meth : Method} {c : Code} {X : z_X} {b L : Nat} {xs : Nat → Int32} (C : z_LC p l s m meth c X b L xs) {a : Nat} {d d2 : Nat → Nat} {B : z_B} {o : Nat} {g : Nat → Int64} {dm : Nat → Nat} {M : z_M} {H : Heap} {locs : List Loc} {ls : Array Slot} {Q : State → Prop} {u : Int32} (kc ks : Nat) (hk : kc + 20 ≤ room_1.cells ∧ ks + 200 ≤ room_1.slots) (i : Nat) (hu : u = nI i) (hi : i + 3 < L) (hP : va_P X.1 vwCl (z_wLw X a d d2 B o g dm M) H) (hD : va_D (fun q : Nat => s.heap.size ≤ q) (z_wLw X a d d2 B o g dm M)) (hS : va_S (fun q : Nat => s.heap.size ≤ q) s.heap H locs) (hl : lv_has ls 9 [(0, .ref b), (1, .ref a), (2, .ref (dm 0)), (3, .ref o), (4, .int u)]) (Rl : z_B → z_M → Prop) (hsm : sm_ringsLeft Rl) (hR : Rl B M) (kk : ∀ (B2 : z_B) (g2 : Nat → Int64) (M2 : z_M) (H : Heap) (locs : List Loc) (ls : Array Slot), Rl B2 M2 → va_P X.1 vwCl (z_wLw X a d d2 B2 o g2 dm M2) H → va_D (fun q : Nat => s.heap.size ≤ q) (z_wLw X a d d2 B2 o g2 dm M2) → va_S (fun q : Nat => s.heap.size ≤ q) s.heap H locs → lv_has ls 9 [(0, .ref b), (1, .ref a), (2, .ref (dm 0)), (3, .ref o), (4, .int u)] → W p l e room_1 s m #[Value.ref b] below meth c H locs (kc + 20) (ks + 200) Q (F0 m 1905 ls [])) : W p l e room_1 s m #[Value.ref b] below meth c H locs kc ks Q (F0 m 1278 ls []) := by
  rcases hsm B M (xs (i + 1)) hR with ⟨R1, R2, hf1, hf2, h3, h4, hr⟩ | ⟨R2, hf1, hf2, h3, hr⟩
  · exact lc_ringsLeft C kc ks hk i hu hi hP hD hS hl hf1 hf2 h3 h4 (fun H locs ls a1 a2 a3 a4 => kk _ _ _ H locs ls hr a1 a2 a3 a4)
  · exact lc_ringsLeft_t2 C kc ks hk i hu hi hP hD hS hl hf1 hf2 h3 (fun H locs ls a1 a2 a3 a4 => kk _ _ _ H locs ls hr a1 a2 a3 a4)
set_option maxHeartbeats 4000000 in
theorem ld_floorOf {p : Program} {l : Launch} {e : Env} {s : State} {m : MethodId} {below : List Frame} {meth : Method} {c : Code} {X : z_X} {b L : Nat} {xs : Nat → Int32} (C : z_LC p l s m meth c X b L xs) {a : Nat} {d d2 : Nat → Nat} {B : z_B} {o : Nat} {g : Nat → Int64} {dm : Nat → Nat} {M : z_M} {H : Heap} {locs : List Loc} {ls : Array Slot} {Q : State → Prop} {u : Int32} (kc ks : Nat) (hk : kc + 20 ≤ room_1.cells ∧ ks + 200 ≤ room_1.slots) (i : Nat) (hu : u = nI i) (hi : i + 3 < L) (hP : va_P X.1 vwCl (z_wLw X a d d2 B o g dm M) H) (hD : va_D (fun q : Nat => s.heap.size ≤ q) (z_wLw X a d d2 B o g dm M)) (hS : va_S (fun q : Nat => s.heap.size ≤ q) s.heap H locs) (hl : lv_has ls 9 [(0, .ref b), (1, .ref a), (2, .ref (dm 0)), (3, .ref o), (4, .int u)]) (Rl : z_B → z_M → Prop) (hsm : sm_floorOf Rl) (hR : Rl B M) (kk : ∀ (B2 : z_B) (g2 : Nat → Int64) (M2 : z_M) (H : Heap) (locs : List Loc) (ls : Array Slot), Rl B2 M2 → va_P X.1 vwCl (z_wLw X a d d2 B2 o g2 dm M2) H → va_D (fun q : Nat => s.heap.size ≤ q) (z_wLw X a d d2 B2 o g2 dm M2) → va_S (fun q : Nat => s.heap.size ≤ q) s.heap H locs → lv_has ls 9 [(0, .ref b), (1, .ref a), (2, .ref (dm 0)), (3, .ref o), (4, .int u)] → W p l e room_1 s m #[Value.ref b] below meth c H locs (kc + 20) (ks + 200) Q (F0 m 1905 ls [])) : W p l e room_1 s m #[Value.ref b] below meth c H locs kc ks Q (F0 m 1334 ls []) := by
  rcases hsm B M (xs (i + 1)) hR with ⟨R1, R2, hf1, hf2, h3, h4, hr⟩ | ⟨R2, hf1, hf2, h3, hr⟩
  · exact lc_floorOf C kc ks hk i hu hi hP hD hS hl hf1 hf2 h3 h4 (fun H locs ls a1 a2 a3 a4 => kk _ _ _ H locs ls hr a1 a2 a3 a4)
  · exact lc_floorOf_t2 C kc ks hk i hu hi hP hD hS hl hf1 hf2 h3 (fun H locs ls a1 a2 a3 a4 => kk _ _ _ H locs ls hr a1 a2 a3 a4)
set_option maxHeartbeats 4000000 in
theorem ld_goesTo {p : Program} {l : Launch} {e : Env} {s : State} {m : MethodId} {below : List Frame} {meth : Method} {c : Code} {X : z_X} {b L : Nat} {xs : Nat → Int32} (C : z_LC p l s m meth c X b L xs) {a : Nat} {d d2 : Nat → Nat} {B : z_B} {o : Nat} {g : Nat → Int64} {dm : Nat → Nat} {M : z_M} {H : Heap} {locs : List Loc} {ls : Array Slot} {Q : State → Prop} {u : Int32} (kc ks : Nat) (hk : kc + 20 ≤ room_1.cells ∧ ks + 200 ≤ room_1.slots) (i : Nat) (hu : u = nI i) (hi : i + 3 < L) (hP : va_P X.1 vwCl (z_wLw X a d d2 B o g dm M) H) (hD : va_D (fun q : Nat => s.heap.size ≤ q) (z_wLw X a d d2 B o g dm M)) (hS : va_S (fun q : Nat => s.heap.size ≤ q) s.heap H locs) (hl : lv_has ls 9 [(0, .ref b), (1, .ref a), (2, .ref (dm 0)), (3, .ref o), (4, .int u)]) (Rl : z_B → z_M → Prop) (hsm : sm_goesTo Rl) (hR : Rl B M) (kk : ∀ (B2 : z_B) (g2 : Nat → Int64) (M2 : z_M) (H : Heap) (locs : List Loc) (ls : Array Slot), Rl B2 M2 → va_P X.1 vwCl (z_wLw X a d d2 B2 o g2 dm M2) H → va_D (fun q : Nat => s.heap.size ≤ q) (z_wLw X a d d2 B2 o g2 dm M2) → va_S (fun q : Nat => s.heap.size ≤ q) s.heap H locs → lv_has ls 9 [(0, .ref b), (1, .ref a), (2, .ref (dm 0)), (3, .ref o), (4, .int u)] → W p l e room_1 s m #[Value.ref b] below meth c H locs (kc + 20) (ks + 200) Q (F0 m 1905 ls [])) : W p l e room_1 s m #[Value.ref b] below meth c H locs kc ks Q (F0 m 1390 ls []) := by
  rcases hsm B M (xs (i + 1)) hR with ⟨R1, R2, hf1, hf2, h3, h4, hr⟩ | ⟨R2, hf1, hf2, h3, hr⟩
  · exact lc_goesTo C kc ks hk i hu hi hP hD hS hl hf1 hf2 h3 h4 (fun H locs ls a1 a2 a3 a4 => kk _ _ _ H locs ls hr a1 a2 a3 a4)
  · exact lc_goesTo_t2 C kc ks hk i hu hi hP hD hS hl hf1 hf2 h3 (fun H locs ls a1 a2 a3 a4 => kk _ _ _ H locs ls hr a1 a2 a3 a4)
set_option maxHeartbeats 4000000 in
theorem ld_serves {p : Program} {l : Launch} {e : Env} {s : State} {m : MethodId} {below : List Frame} {meth : Method} {c : Code} {X : z_X} {b L : Nat} {xs : Nat → Int32} (C : z_LC p l s m meth c X b L xs) {a : Nat} {d d2 : Nat → Nat} {B : z_B} {o : Nat} {g : Nat → Int64} {dm : Nat → Nat} {M : z_M} {H : Heap} {locs : List Loc} {ls : Array Slot} {Q : State → Prop} {u : Int32} (kc ks : Nat) (hk : kc + 20 ≤ room_1.cells ∧ ks + 200 ≤ room_1.slots) (i : Nat) (hu : u = nI i) (hi : i + 3 < L) (hP : va_P X.1 vwCl (z_wLw X a d d2 B o g dm M) H) (hD : va_D (fun q : Nat => s.heap.size ≤ q) (z_wLw X a d d2 B o g dm M)) (hS : va_S (fun q : Nat => s.heap.size ≤ q) s.heap H locs) (hl : lv_has ls 9 [(0, .ref b), (1, .ref a), (2, .ref (dm 0)), (3, .ref o), (4, .int u)]) (Rl : z_B → z_M → Prop) (hsm : sm_serves Rl) (hR : Rl B M) (kk : ∀ (B2 : z_B) (g2 : Nat → Int64) (M2 : z_M) (H : Heap) (locs : List Loc) (ls : Array Slot), Rl B2 M2 → va_P X.1 vwCl (z_wLw X a d d2 B2 o g2 dm M2) H → va_D (fun q : Nat => s.heap.size ≤ q) (z_wLw X a d d2 B2 o g2 dm M2) → va_S (fun q : Nat => s.heap.size ≤ q) s.heap H locs → lv_has ls 9 [(0, .ref b), (1, .ref a), (2, .ref (dm 0)), (3, .ref o), (4, .int u)] → W p l e room_1 s m #[Value.ref b] below meth c H locs (kc + 20) (ks + 200) Q (F0 m 1905 ls [])) : W p l e room_1 s m #[Value.ref b] below meth c H locs kc ks Q (F0 m 1446 ls []) := by
  rcases hsm B M (xs (i + 1)) hR with ⟨R1, R2, hf1, hf2, h3, h4, hr⟩ | ⟨R2, hf1, hf2, h3, hr⟩
  · exact lc_serves C kc ks hk i hu hi hP hD hS hl hf1 hf2 h3 h4 (fun H locs ls a1 a2 a3 a4 => kk _ _ _ H locs ls hr a1 a2 a3 a4)
  · exact lc_serves_t2 C kc ks hk i hu hi hP hD hS hl hf1 hf2 h3 (fun H locs ls a1 a2 a3 a4 => kk _ _ _ H locs ls hr a1 a2 a3 a4)
set_option maxHeartbeats 4000000 in
theorem ld_minutesLeft {p : Program} {l : Launch} {e : Env} {s : State} {m : MethodId} {below : List Frame} {meth : Method} {c : Code} {X : z_X} {b L : Nat} {xs : Nat → Int32} (C : z_LC p l s m meth c X b L xs) {a : Nat} {d d2 : Nat → Nat} {B : z_B} {o : Nat} {g : Nat → Int64} {dm : Nat → Nat} {M : z_M} {H : Heap} {locs : List Loc} {ls : Array Slot} {Q : State → Prop} {u : Int32} (kc ks : Nat) (hk : kc + 20 ≤ room_1.cells ∧ ks + 200 ≤ room_1.slots) (i : Nat) (hu : u = nI i) (hi : i + 3 < L) (hP : va_P X.1 vwCl (z_wLw X a d d2 B o g dm M) H) (hD : va_D (fun q : Nat => s.heap.size ≤ q) (z_wLw X a d d2 B o g dm M)) (hS : va_S (fun q : Nat => s.heap.size ≤ q) s.heap H locs) (hl : lv_has ls 9 [(0, .ref b), (1, .ref a), (2, .ref (dm 0)), (3, .ref o), (4, .int u)]) (Rl : z_B → z_M → Prop) (hsm : sm_minutesLeft Rl) (hR : Rl B M) (kk : ∀ (B2 : z_B) (g2 : Nat → Int64) (M2 : z_M) (H : Heap) (locs : List Loc) (ls : Array Slot), Rl B2 M2 → va_P X.1 vwCl (z_wLw X a d d2 B2 o g2 dm M2) H → va_D (fun q : Nat => s.heap.size ≤ q) (z_wLw X a d d2 B2 o g2 dm M2) → va_S (fun q : Nat => s.heap.size ≤ q) s.heap H locs → lv_has ls 9 [(0, .ref b), (1, .ref a), (2, .ref (dm 0)), (3, .ref o), (4, .int u)] → W p l e room_1 s m #[Value.ref b] below meth c H locs (kc + 20) (ks + 200) Q (F0 m 1905 ls [])) : W p l e room_1 s m #[Value.ref b] below meth c H locs kc ks Q (F0 m 1502 ls []) := by
  rcases hsm B M (xs (i + 1)) hR with ⟨R1, R2, hf1, hf2, h3, h4, hr⟩ | ⟨R2, hf1, hf2, h3, hr⟩
  · exact lc_minutesLeft C kc ks hk i hu hi hP hD hS hl hf1 hf2 h3 h4 (fun H locs ls a1 a2 a3 a4 => kk _ _ _ H locs ls hr a1 a2 a3 a4)
  · exact lc_minutesLeft_t2 C kc ks hk i hu hi hP hD hS hl hf1 hf2 h3 (fun H locs ls a1 a2 a3 a4 => kk _ _ _ H locs ls hr a1 a2 a3 a4)
set_option maxHeartbeats 4000000 in
theorem ld_wayTo {p : Program} {l : Launch} {e : Env} {s : State} {m : MethodId} {below : List Frame} {meth : Method} {c : Code} {X : z_X} {b L : Nat} {xs : Nat → Int32} (C : z_LC p l s m meth c X b L xs) {a : Nat} {d d2 : Nat → Nat} {B : z_B} {o : Nat} {g : Nat → Int64} {dm : Nat → Nat} {M : z_M} {H : Heap} {locs : List Loc} {ls : Array Slot} {Q : State → Prop} {u : Int32} (kc ks : Nat) (hk : kc + 20 ≤ room_1.cells ∧ ks + 200 ≤ room_1.slots) (i : Nat) (hu : u = nI i) (hi : i + 3 < L) (hP : va_P X.1 vwCl (z_wLw X a d d2 B o g dm M) H) (hD : va_D (fun q : Nat => s.heap.size ≤ q) (z_wLw X a d d2 B o g dm M)) (hS : va_S (fun q : Nat => s.heap.size ≤ q) s.heap H locs) (hl : lv_has ls 9 [(0, .ref b), (1, .ref a), (2, .ref (dm 0)), (3, .ref o), (4, .int u)]) (Rl : z_B → z_M → Prop) (hsm : sm_wayTo Rl) (hR : Rl B M) (kk : ∀ (B2 : z_B) (g2 : Nat → Int64) (M2 : z_M) (H : Heap) (locs : List Loc) (ls : Array Slot), Rl B2 M2 → va_P X.1 vwCl (z_wLw X a d d2 B2 o g2 dm M2) H → va_D (fun q : Nat => s.heap.size ≤ q) (z_wLw X a d d2 B2 o g2 dm M2) → va_S (fun q : Nat => s.heap.size ≤ q) s.heap H locs → lv_has ls 9 [(0, .ref b), (1, .ref a), (2, .ref (dm 0)), (3, .ref o), (4, .int u)] → W p l e room_1 s m #[Value.ref b] below meth c H locs (kc + 20) (ks + 200) Q (F0 m 1905 ls [])) : W p l e room_1 s m #[Value.ref b] below meth c H locs kc ks Q (F0 m 1558 ls []) := by
  rcases hsm B M (xs (i + 1)) (xs (i + 2)) hR with ⟨R1, R2, hf1, hf2, h3, h4, hr⟩ | ⟨R2, hf1, hf2, h3, hr⟩
  · exact lc_wayTo C kc ks hk i hu hi hP hD hS hl hf1 hf2 h3 h4 (fun H locs ls a1 a2 a3 a4 => kk _ _ _ H locs ls hr a1 a2 a3 a4)
  · exact lc_wayTo_t2 C kc ks hk i hu hi hP hD hS hl hf1 hf2 h3 (fun H locs ls a1 a2 a3 a4 => kk _ _ _ H locs ls hr a1 a2 a3 a4)
set_option maxHeartbeats 4000000 in
theorem ld_nearestIdle {p : Program} {l : Launch} {e : Env} {s : State} {m : MethodId} {below : List Frame} {meth : Method} {c : Code} {X : z_X} {b L : Nat} {xs : Nat → Int32} (C : z_LC p l s m meth c X b L xs) {a : Nat} {d d2 : Nat → Nat} {B : z_B} {o : Nat} {g : Nat → Int64} {dm : Nat → Nat} {M : z_M} {H : Heap} {locs : List Loc} {ls : Array Slot} {Q : State → Prop} {u : Int32} (kc ks : Nat) (hk : kc + 20 ≤ room_1.cells ∧ ks + 200 ≤ room_1.slots) (i : Nat) (hu : u = nI i) (hi : i + 3 < L) (hP : va_P X.1 vwCl (z_wLw X a d d2 B o g dm M) H) (hD : va_D (fun q : Nat => s.heap.size ≤ q) (z_wLw X a d d2 B o g dm M)) (hS : va_S (fun q : Nat => s.heap.size ≤ q) s.heap H locs) (hl : lv_has ls 9 [(0, .ref b), (1, .ref a), (2, .ref (dm 0)), (3, .ref o), (4, .int u)]) (Rl : z_B → z_M → Prop) (hsm : sm_nearestIdle Rl) (hR : Rl B M) (kk : ∀ (B2 : z_B) (g2 : Nat → Int64) (M2 : z_M) (H : Heap) (locs : List Loc) (ls : Array Slot), Rl B2 M2 → va_P X.1 vwCl (z_wLw X a d d2 B2 o g2 dm M2) H → va_D (fun q : Nat => s.heap.size ≤ q) (z_wLw X a d d2 B2 o g2 dm M2) → va_S (fun q : Nat => s.heap.size ≤ q) s.heap H locs → lv_has ls 9 [(0, .ref b), (1, .ref a), (2, .ref (dm 0)), (3, .ref o), (4, .int u)] → W p l e room_1 s m #[Value.ref b] below meth c H locs (kc + 20) (ks + 200) Q (F0 m 1905 ls [])) : W p l e room_1 s m #[Value.ref b] below meth c H locs kc ks Q (F0 m 1626 ls []) := by
  rcases hsm B M (xs (i + 1)) hR with ⟨R1, R2, hf1, hf2, h3, h4, hr⟩ | ⟨R2, hf1, hf2, h3, hr⟩
  · exact lc_nearestIdle C kc ks hk i hu hi hP hD hS hl hf1 hf2 h3 h4 (fun H locs ls a1 a2 a3 a4 => kk _ _ _ H locs ls hr a1 a2 a3 a4)
  · exact lc_nearestIdle_t2 C kc ks hk i hu hi hP hD hS hl hf1 hf2 h3 (fun H locs ls a1 a2 a3 a4 => kk _ _ _ H locs ls hr a1 a2 a3 a4)
set_option maxHeartbeats 4000000 in
theorem ld_minutesUntilServed {p : Program} {l : Launch} {e : Env} {s : State} {m : MethodId} {below : List Frame} {meth : Method} {c : Code} {X : z_X} {b L : Nat} {xs : Nat → Int32} (C : z_LC p l s m meth c X b L xs) {a : Nat} {d d2 : Nat → Nat} {B : z_B} {o : Nat} {g : Nat → Int64} {dm : Nat → Nat} {M : z_M} {H : Heap} {locs : List Loc} {ls : Array Slot} {Q : State → Prop} {u : Int32} (kc ks : Nat) (hk : kc + 20 ≤ room_1.cells ∧ ks + 200 ≤ room_1.slots) (i : Nat) (hu : u = nI i) (hi : i + 3 < L) (hP : va_P X.1 vwCl (z_wLw X a d d2 B o g dm M) H) (hD : va_D (fun q : Nat => s.heap.size ≤ q) (z_wLw X a d d2 B o g dm M)) (hS : va_S (fun q : Nat => s.heap.size ≤ q) s.heap H locs) (hl : lv_has ls 9 [(0, .ref b), (1, .ref a), (2, .ref (dm 0)), (3, .ref o), (4, .int u)]) (Rl : z_B → z_M → Prop) (hsm : sm_minutesUntilServed Rl) (hR : Rl B M) (kk : ∀ (B2 : z_B) (g2 : Nat → Int64) (M2 : z_M) (H : Heap) (locs : List Loc) (ls : Array Slot), Rl B2 M2 → va_P X.1 vwCl (z_wLw X a d d2 B2 o g2 dm M2) H → va_D (fun q : Nat => s.heap.size ≤ q) (z_wLw X a d d2 B2 o g2 dm M2) → va_S (fun q : Nat => s.heap.size ≤ q) s.heap H locs → lv_has ls 9 [(0, .ref b), (1, .ref a), (2, .ref (dm 0)), (3, .ref o), (4, .int u)] → W p l e room_1 s m #[Value.ref b] below meth c H locs (kc + 20) (ks + 200) Q (F0 m 1905 ls [])) : W p l e room_1 s m #[Value.ref b] below meth c H locs kc ks Q (F0 m 1682 ls []) := by
  rcases hsm B M (xs (i + 1)) hR with ⟨R1, R2, hf1, hf2, h3, h4, hr⟩ | ⟨R2, hf1, hf2, h3, hr⟩
  · exact lc_minutesUntilServed C kc ks hk i hu hi hP hD hS hl hf1 hf2 h3 h4 (fun H locs ls a1 a2 a3 a4 => kk _ _ _ H locs ls hr a1 a2 a3 a4)
  · exact lc_minutesUntilServed_t2 C kc ks hk i hu hi hP hD hS hl hf1 hf2 h3 (fun H locs ls a1 a2 a3 a4 => kk _ _ _ H locs ls hr a1 a2 a3 a4)
set_option maxHeartbeats 4000000 in
theorem ld_servedIn {p : Program} {l : Launch} {e : Env} {s : State} {m : MethodId} {below : List Frame} {meth : Method} {c : Code} {X : z_X} {b L : Nat} {xs : Nat → Int32} (C : z_LC p l s m meth c X b L xs) {a : Nat} {d d2 : Nat → Nat} {B : z_B} {o : Nat} {g : Nat → Int64} {dm : Nat → Nat} {M : z_M} {H : Heap} {locs : List Loc} {ls : Array Slot} {Q : State → Prop} {u : Int32} (kc ks : Nat) (hk : kc + 20 ≤ room_1.cells ∧ ks + 200 ≤ room_1.slots) (i : Nat) (hu : u = nI i) (hi : i + 3 < L) (hP : va_P X.1 vwCl (z_wLw X a d d2 B o g dm M) H) (hD : va_D (fun q : Nat => s.heap.size ≤ q) (z_wLw X a d d2 B o g dm M)) (hS : va_S (fun q : Nat => s.heap.size ≤ q) s.heap H locs) (hl : lv_has ls 9 [(0, .ref b), (1, .ref a), (2, .ref (dm 0)), (3, .ref o), (4, .int u)]) (Rl : z_B → z_M → Prop) (hsm : sm_servedIn Rl) (hR : Rl B M) (kk : ∀ (B2 : z_B) (g2 : Nat → Int64) (M2 : z_M) (H : Heap) (locs : List Loc) (ls : Array Slot), Rl B2 M2 → va_P X.1 vwCl (z_wLw X a d d2 B2 o g2 dm M2) H → va_D (fun q : Nat => s.heap.size ≤ q) (z_wLw X a d d2 B2 o g2 dm M2) → va_S (fun q : Nat => s.heap.size ≤ q) s.heap H locs → lv_has ls 9 [(0, .ref b), (1, .ref a), (2, .ref (dm 0)), (3, .ref o), (4, .int u)] → W p l e room_1 s m #[Value.ref b] below meth c H locs (kc + 20) (ks + 200) Q (F0 m 1905 ls [])) : W p l e room_1 s m #[Value.ref b] below meth c H locs kc ks Q (F0 m 1738 ls []) := by
  rcases hsm B M (xs (i + 1)) hR with ⟨R1, R2, hf1, hf2, h3, h4, hr⟩ | ⟨R2, hf1, hf2, h3, hr⟩
  · exact lc_servedIn C kc ks hk i hu hi hP hD hS hl hf1 hf2 h3 h4 (fun H locs ls a1 a2 a3 a4 => kk _ _ _ H locs ls hr a1 a2 a3 a4)
  · exact lc_servedIn_t0 C kc ks hk i hu hi hP hD hS hl hf1 hf2 h3 (fun H locs ls a1 a2 a3 a4 => kk _ _ _ H locs ls hr a1 a2 a3 a4)
set_option maxHeartbeats 4000000 in
theorem ld_bestToCross {p : Program} {l : Launch} {e : Env} {s : State} {m : MethodId} {below : List Frame} {meth : Method} {c : Code} {X : z_X} {b L : Nat} {xs : Nat → Int32} (C : z_LC p l s m meth c X b L xs) {a : Nat} {d d2 : Nat → Nat} {B : z_B} {o : Nat} {g : Nat → Int64} {dm : Nat → Nat} {M : z_M} {H : Heap} {locs : List Loc} {ls : Array Slot} {Q : State → Prop} {u : Int32} (kc ks : Nat) (hk : kc + 20 ≤ room_1.cells ∧ ks + 200 ≤ room_1.slots) (i : Nat) (hu : u = nI i) (hi : i + 3 < L) (hP : va_P X.1 vwCl (z_wLw X a d d2 B o g dm M) H) (hD : va_D (fun q : Nat => s.heap.size ≤ q) (z_wLw X a d d2 B o g dm M)) (hS : va_S (fun q : Nat => s.heap.size ≤ q) s.heap H locs) (hl : lv_has ls 9 [(0, .ref b), (1, .ref a), (2, .ref (dm 0)), (3, .ref o), (4, .int u)]) (Rl : z_B → z_M → Prop) (hsm : sm_bestToCross Rl) (hR : Rl B M) (kk : ∀ (B2 : z_B) (g2 : Nat → Int64) (M2 : z_M) (H : Heap) (locs : List Loc) (ls : Array Slot), Rl B2 M2 → va_P X.1 vwCl (z_wLw X a d d2 B2 o g2 dm M2) H → va_D (fun q : Nat => s.heap.size ≤ q) (z_wLw X a d d2 B2 o g2 dm M2) → va_S (fun q : Nat => s.heap.size ≤ q) s.heap H locs → lv_has ls 9 [(0, .ref b), (1, .ref a), (2, .ref (dm 0)), (3, .ref o), (4, .int u)] → W p l e room_1 s m #[Value.ref b] below meth c H locs (kc + 20) (ks + 200) Q (F0 m 1905 ls [])) : W p l e room_1 s m #[Value.ref b] below meth c H locs kc ks Q (F0 m 1794 ls []) := by
  rcases hsm B M (xs (i + 1)) hR with ⟨R1, R2, hf1, hf2, h3, h4, hr⟩ | ⟨R2, hf1, hf2, h3, hr⟩
  · exact lc_bestToCross C kc ks hk i hu hi hP hD hS hl hf1 hf2 h3 h4 (fun H locs ls a1 a2 a3 a4 => kk _ _ _ H locs ls hr a1 a2 a3 a4)
  · exact lc_bestToCross_t2 C kc ks hk i hu hi hP hD hS hl hf1 hf2 h3 (fun H locs ls a1 a2 a3 a4 => kk _ _ _ H locs ls hr a1 a2 a3 a4)
set_option maxHeartbeats 4000000 in
theorem ld_meanWait {p : Program} {l : Launch} {e : Env} {s : State} {m : MethodId} {below : List Frame} {meth : Method} {c : Code} {X : z_X} {b L : Nat} {xs : Nat → Int32} (C : z_LC p l s m meth c X b L xs) {a : Nat} {d d2 : Nat → Nat} {B : z_B} {o : Nat} {g : Nat → Int64} {dm : Nat → Nat} {M : z_M} {H : Heap} {locs : List Loc} {ls : Array Slot} {Q : State → Prop} {u : Int32} (kc ks : Nat) (hk : kc + 20 ≤ room_1.cells ∧ ks + 200 ≤ room_1.slots) (i : Nat) (hu : u = nI i) (hi : i + 3 < L) (hP : va_P X.1 vwCl (z_wLw X a d d2 B o g dm M) H) (hD : va_D (fun q : Nat => s.heap.size ≤ q) (z_wLw X a d d2 B o g dm M)) (hS : va_S (fun q : Nat => s.heap.size ≤ q) s.heap H locs) (hl : lv_has ls 9 [(0, .ref b), (1, .ref a), (2, .ref (dm 0)), (3, .ref o), (4, .int u)]) (Rl : z_B → z_M → Prop) (hsm : sm_meanWait Rl) (hR : Rl B M) (kk : ∀ (B2 : z_B) (g2 : Nat → Int64) (M2 : z_M) (H : Heap) (locs : List Loc) (ls : Array Slot), Rl B2 M2 → va_P X.1 vwCl (z_wLw X a d d2 B2 o g2 dm M2) H → va_D (fun q : Nat => s.heap.size ≤ q) (z_wLw X a d d2 B2 o g2 dm M2) → va_S (fun q : Nat => s.heap.size ≤ q) s.heap H locs → lv_has ls 9 [(0, .ref b), (1, .ref a), (2, .ref (dm 0)), (3, .ref o), (4, .int u)] → W p l e room_1 s m #[Value.ref b] below meth c H locs (kc + 20) (ks + 200) Q (F0 m 1905 ls [])) : W p l e room_1 s m #[Value.ref b] below meth c H locs kc ks Q (F0 m 1850 ls []) := by
  rcases hsm B M hR with ⟨R1, R2, hf1, hf2, h4, h5, hr⟩
  · exact lc_meanWait C kc ks hk i hu hi hP hD hS hl hf1 hf2 h4 h5 (fun H locs ls a1 a2 a3 a4 => kk _ _ _ H locs ls hr a1 a2 a3 a4)
set_option maxHeartbeats 4000000 in
theorem ld_digest {p : Program} {l : Launch} {e : Env} {s : State} {m : MethodId} {below : List Frame} {meth : Method} {c : Code} {X : z_X} {b L : Nat} {xs : Nat → Int32} (C : z_LC p l s m meth c X b L xs) {a : Nat} {d d2 : Nat → Nat} {B : z_B} {o : Nat} {g : Nat → Int64} {dm : Nat → Nat} {M : z_M} {H : Heap} {locs : List Loc} {ls : Array Slot} {Q : State → Prop} {u : Int32} (kc ks : Nat) (hk : kc + 20 ≤ room_1.cells ∧ ks + 200 ≤ room_1.slots) (i : Nat) (hu : u = nI i) (hi : i + 3 < L) (hP : va_P X.1 vwCl (z_wLw X a d d2 B o g dm M) H) (hD : va_D (fun q : Nat => s.heap.size ≤ q) (z_wLw X a d d2 B o g dm M)) (hS : va_S (fun q : Nat => s.heap.size ≤ q) s.heap H locs) (hl : lv_has ls 9 [(0, .ref b), (1, .ref a), (2, .ref (dm 0)), (3, .ref o), (4, .int u)]) (Rl : z_B → z_M → Prop) (hsm : sm_digest Rl) (hR : Rl B M) (kk : ∀ (B2 : z_B) (g2 : Nat → Int64) (M2 : z_M) (H : Heap) (locs : List Loc) (ls : Array Slot), Rl B2 M2 → va_P X.1 vwCl (z_wLw X a d d2 B2 o g2 dm M2) H → va_D (fun q : Nat => s.heap.size ≤ q) (z_wLw X a d d2 B2 o g2 dm M2) → va_S (fun q : Nat => s.heap.size ≤ q) s.heap H locs → lv_has ls 9 [(0, .ref b), (1, .ref a), (2, .ref (dm 0)), (3, .ref o), (4, .int u)] → W p l e room_1 s m #[Value.ref b] below meth c H locs (kc + 20) (ks + 200) Q (F0 m 1905 ls [])) : W p l e room_1 s m #[Value.ref b] below meth c H locs kc ks Q (F0 m 1891 ls []) := by
  rcases hsm B M hR with ⟨R1, R2, hf1, hf2, h4, hr⟩
  · exact lc_digest C kc ks hk i hu hi hP hD hS hl hf1 hf2 h4 (fun H locs ls a1 a2 a3 a4 => kk _ _ _ H locs ls hr a1 a2 a3 a4)
theorem z_tabN {x : Int32} (h : ∀ k : Nat, k < 40 → x ≠ nI k) : x.toInt < 0 ∨ 39 < x.toInt := by
  by_cases h0 : x.toInt < 0
  · exact Or.inl h0
  · refine Or.inr (Nat.lt_of_not_le (fun h1 => ?_) |> fun (z : 39 < x.toInt.toNat) => by omega)
    have e : x = nI x.toInt.toNat := by
      rw [← Int32.toInt_inj, nI_toInt (by omega)]
      omega
    exact h x.toInt.toNat (by omega) e
theorem z_gt4 {i L : Nat} (hL : L ≤ 2048) (hi : i ≤ L) : (Int32.ofNat L - 4 < nI i) ↔ L < i + 4 := by
  have e1 : (Int32.ofNat L - 4).toInt = (L : Int) - 4 := by
    have := pk_sub_toInt (a := L) (b := 4) (by omega) (by omega)
    exact this
  have e2 : (nI i).toInt = (i : Int) := nI_toInt (by omega)
  rw [Int32.lt_iff_toInt_lt, e1, e2]
  omega
set_option maxHeartbeats 8000000 in
set_option maxRecDepth 100000 in
theorem law_loop {p : Program} {l : Launch} {e : Env} {s : State} {m : MethodId} {below : List Frame} {meth : Method} {c : Code} {X : z_X} {b L : Nat} {xs : Nat → Int32} (C : z_LC p l s m meth c X b L xs) {a : Nat} {d d2 : Nat → Nat} {o : Nat} {dm : Nat → Nat} {Q : State → Prop} (Rl : z_B → z_M → Prop) (hsim : z_Sim Rl) (hend : ∀ (kc ks : Nat) (H : Heap) (locs : List Loc) (ls : Array Slot), kc ≤ room_1.cells → ks ≤ room_1.slots → va_S (fun q : Nat => s.heap.size ≤ q) s.heap H locs → W p l e room_1 s m #[Value.ref b] below meth c H locs kc ks Q (F0 m 1911 ls [])) : ∀ (n i : Nat) (kc ks : Nat) (B : z_B) (g : Nat → Int64) (M : z_M) (H : Heap) (locs : List Loc) (ls : Array Slot), i ≤ L → L < i + 4 * n → kc + 20 * n ≤ room_1.cells → ks + 200 * n ≤ room_1.slots → Rl B M → va_P X.1 vwCl (z_wLw X a d d2 B o g dm M) H → va_D (fun q : Nat => s.heap.size ≤ q) (z_wLw X a d d2 B o g dm M) → va_S (fun q : Nat => s.heap.size ≤ q) s.heap H locs → lv_has ls 9 [(0, .ref b), (1, .ref a), (2, .ref (dm 0)), (3, .ref o), (4, .int (nI i))] → W p l e room_1 s m #[Value.ref b] below meth c H locs kc ks Q (F0 m 23 ls []) := by
  obtain ⟨hx, hb, hml, hown, hts, hK, hN, hX, hbl, hT0, hl0, hL⟩ := id C
  have hA : ∀ q : Nat, s.heap.size ≤ q → (fun q : Nat => s.heap.size ≤ q) q := fun _ h => h
  have hbA : ¬ (fun q : Nat => s.heap.size ≤ q) b := Nat.not_le.mpr hbl
  have hbig : (2048 : Nat) < 2 ^ 31 := by decide
  intro n
  induction n with
  | zero =>
    intro i kc ks B g M H locs ls h1 h2
    exact absurd h2 (by omega)
  | succ n ih =>
    intro i kc ks B g M H locs ls h1 h2 h3 h4 hR hP hD hS hl
    refine lv_iload (pc := 23) hx hb dL_law_23 (lv_at hl 4 rfl) ?_
    refine lv_aload_n (pc := 25) hx hb dL_law_25 rfl (lv_at hl 0 rfl) ?_
    refine va_slen (pc := 26) hx hb hX hbl hbA hS dL_law_26 ?_
    refine lv_iconst (v := 4) (pc := 27) hx hb dL_law_27 (by decide) ?_
    refine lv_isub (pc := 28) hx hb dL_law_28 ?_
    refine lv_icmp_gt (pc := 29) (tgt := 1911) hx hb dL_law_29 (by decide) (fun c_ => ?_) (fun c_ => ?_)
    · exact hend kc ks H locs ls (by omega) (by omega) hS
    have hi4 : i + 3 < L := by
      rcases Nat.lt_or_ge (i + 3) L with h | h
      · exact h
      · exact absurd ((z_gt4 hL h1).mpr (by omega)) c_
    refine lv_aload_n (pc := 32) hx hb dL_law_32 rfl (lv_at hl 0 rfl) ?_
    refine lv_iload (pc := 33) hx hb dL_law_33 (lv_at hl 4 rfl) ?_
    refine z_sld (pc := 35) hx hb hX hbl hbA hS hL i rfl (by omega) dL_law_35 ?_
    refine lv_bipush (v := 63) (pc := 36) hx hb dL_law_36 (by decide) ?_
    refine lv_iand (pc := 38) hx hb dL_law_38 ?_
    refine lv_topi (fun sx esx => ?_)
    have latch : ∀ (B2 : z_B) (g2 : Nat → Int64) (M2 : z_M) (H : Heap) (locs : List Loc) (ls : Array Slot), Rl B2 M2 → va_P X.1 vwCl (z_wLw X a d d2 B2 o g2 dm M2) H → va_D (fun q : Nat => s.heap.size ≤ q) (z_wLw X a d d2 B2 o g2 dm M2) → va_S (fun q : Nat => s.heap.size ≤ q) s.heap H locs → lv_has ls 9 [(0, .ref b), (1, .ref a), (2, .ref (dm 0)), (3, .ref o), (4, .int (nI i))] → W p l e room_1 s m #[Value.ref b] below meth c H locs (kc + 20) (ks + 200) Q (F0 m 1905 ls []) := by
      intro B2 g2 M2 H locs ls hR hP hD hS hl
      refine lv_iinc (pc := 1905) (v := nI (i + 4)) (lv' := [(4, .int (nI (i + 4))), (0, .ref b), (1, .ref a), (2, .ref (dm 0)), (3, .ref o)]) hx hb dL_law_1905 hl (k := 4) rfl (z_oi i 4 rfl 4 rfl) (by decide) rfl (fun ls hl => ?_)
      refine lv_goto (pc := 1908) (tgt := 23) hx hb dL_law_1908 (by decide) ?_
      exact ih (i + 4) (kc + 20) (ks + 200) B2 g2 M2 H locs ls (by omega) (by omega) (by omega) (by omega) hR hP hD hS (lv_sub hl [1, 2, 3, 4, 0] rfl)
    have hk : kc + 20 ≤ room_1.cells ∧ ks + 200 ≤ room_1.slots := ⟨by omega, by omega⟩
    by_cases c0 : sx = nI 0
    · rw [c0]
      refine lv_tableIn (pc := 39) (off := 173) (tgt := 212) hx hb dL_law_39 (by decide) (by decide) (by decide) (by decide) ?_
      exact ld_addRoom C kc ks hk i rfl hi4 hP hD hS hl Rl hsim.s_addRoom hR latch
    by_cases c1 : sx = nI 1
    · rw [c1]
      refine lv_tableIn (pc := 39) (off := 253) (tgt := 292) hx hb dL_law_39 (by decide) (by decide) (by decide) (by decide) ?_
      exact ld_addServant C kc ks hk i rfl hi4 hP hD hS hl Rl hsim.s_addServant hR latch
    by_cases c2 : sx = nI 2
    · rw [c2]
      refine lv_tableIn (pc := 39) (off := 309) (tgt := 348) hx hb dL_law_39 (by decide) (by decide) (by decide) (by decide) ?_
      exact ld_ring C kc ks hk i rfl hi4 hP hD hS hl Rl hsim.s_ring hR latch
    by_cases c3 : sx = nI 3
    · rw [c3]
      refine lv_tableIn (pc := 39) (off := 372) (tgt := 411) hx hb dL_law_39 (by decide) (by decide) (by decide) (by decide) ?_
      exact ld_cross C kc ks hk i rfl hi4 hP hD hS hl Rl hsim.s_cross hR latch
    by_cases c4 : sx = nI 4
    · rw [c4]
      refine lv_tableIn (pc := 39) (off := 440) (tgt := 479) hx hb dL_law_39 (by decide) (by decide) (by decide) (by decide) ?_
      exact ld_cut C kc ks hk i rfl hi4 hP hD hS hl Rl hsim.s_cut hR latch
    by_cases c5 : sx = nI 5
    · rw [c5]
      refine lv_tableIn (pc := 39) (off := 496) (tgt := 535) hx hb dL_law_39 (by decide) (by decide) (by decide) (by decide) ?_
      exact ld_mend C kc ks hk i rfl hi4 hP hD hS hl Rl hsim.s_mend hR latch
    by_cases c6 : sx = nI 6
    · rw [c6]
      refine lv_tableIn (pc := 39) (off := 552) (tgt := 591) hx hb dL_law_39 (by decide) (by decide) (by decide) (by decide) ?_
      exact ld_recharge C kc ks hk i rfl hi4 hP hD hS hl Rl hsim.s_recharge hR latch
    by_cases c7 : sx = nI 7
    · rw [c7]
      refine lv_tableIn (pc := 39) (off := 608) (tgt := 647) hx hb dL_law_39 (by decide) (by decide) (by decide) (by decide) ?_
      exact ld_putUp C kc ks hk i rfl hi4 hP hD hS hl Rl hsim.s_putUp hR latch
    by_cases c8 : sx = nI 8
    · rw [c8]
      refine lv_tableIn (pc := 39) (off := 664) (tgt := 703) hx hb dL_law_39 (by decide) (by decide) (by decide) (by decide) ?_
      exact ld_pass C kc ks hk i rfl hi4 hP hD hS hl Rl hsim.s_pass hR latch
    by_cases c9 : sx = nI 9
    · rw [c9]
      refine lv_tableIn (pc := 39) (off := 720) (tgt := 759) hx hb dL_law_39 (by decide) (by decide) (by decide) (by decide) ?_
      exact ld_minute C kc ks hk i rfl hi4 hP hD hS hl Rl hsim.s_minute hR latch
    by_cases c10 : sx = nI 10
    · rw [c10]
      refine lv_tableIn (pc := 39) (off := 733) (tgt := 772) hx hb dL_law_39 (by decide) (by decide) (by decide) (by decide) ?_
      exact ld_rooms C kc ks hk i rfl hi4 hP hD hS hl Rl hsim.s_rooms hR latch
    by_cases c11 : sx = nI 11
    · rw [c11]
      refine lv_tableIn (pc := 39) (off := 746) (tgt := 785) hx hb dL_law_39 (by decide) (by decide) (by decide) (by decide) ?_
      exact ld_servants C kc ks hk i rfl hi4 hP hD hS hl Rl hsim.s_servants hR latch
    by_cases c12 : sx = nI 12
    · rw [c12]
      refine lv_tableIn (pc := 39) (off := 759) (tgt := 798) hx hb dL_law_39 (by decide) (by decide) (by decide) (by decide) ?_
      exact ld_charge C kc ks hk i rfl hi4 hP hD hS hl Rl hsim.s_charge hR latch
    by_cases c13 : sx = nI 13
    · rw [c13]
      refine lv_tableIn (pc := 39) (off := 772) (tgt := 811) hx hb dL_law_39 (by decide) (by decide) (by decide) (by decide) ?_
      exact ld_served C kc ks hk i rfl hi4 hP hD hS hl Rl hsim.s_served hR latch
    by_cases c14 : sx = nI 14
    · rw [c14]
      refine lv_tableIn (pc := 39) (off := 785) (tgt := 824) hx hb dL_law_39 (by decide) (by decide) (by decide) (by decide) ?_
      exact ld_inVain C kc ks hk i rfl hi4 hP hD hS hl Rl hsim.s_inVain hR latch
    by_cases c15 : sx = nI 15
    · rw [c15]
      refine lv_tableIn (pc := 39) (off := 798) (tgt := 837) hx hb dL_law_39 (by decide) (by decide) (by decide) (by decide) ?_
      exact ld_gaveUp C kc ks hk i rfl hi4 hP hD hS hl Rl hsim.s_gaveUp hR latch
    by_cases c16 : sx = nI 16
    · rw [c16]
      refine lv_tableIn (pc := 39) (off := 811) (tgt := 850) hx hb dL_law_39 (by decide) (by decide) (by decide) (by decide) ?_
      exact ld_unheard C kc ks hk i rfl hi4 hP hD hS hl Rl hsim.s_unheard hR latch
    by_cases c17 : sx = nI 17
    · rw [c17]
      refine lv_tableIn (pc := 39) (off := 824) (tgt := 863) hx hb dL_law_39 (by decide) (by decide) (by decide) (by decide) ?_
      exact ld_dropOf C kc ks hk i rfl hi4 hP hD hS hl Rl hsim.s_dropOf hR latch
    by_cases c18 : sx = nI 18
    · rw [c18]
      refine lv_tableIn (pc := 39) (off := 880) (tgt := 919) hx hb dL_law_39 (by decide) (by decide) (by decide) (by decide) ?_
      exact ld_roomOf C kc ks hk i rfl hi4 hP hD hS hl Rl hsim.s_roomOf hR latch
    by_cases c19 : sx = nI 19
    · rw [c19]
      refine lv_tableIn (pc := 39) (off := 936) (tgt := 975) hx hb dL_law_39 (by decide) (by decide) (by decide) (by decide) ?_
      exact ld_isCut C kc ks hk i rfl hi4 hP hD hS hl Rl hsim.s_isCut hR latch
    by_cases c20 : sx = nI 20
    · rw [c20]
      refine lv_tableIn (pc := 39) (off := 999) (tgt := 1038) hx hb dL_law_39 (by decide) (by decide) (by decide) (by decide) ?_
      exact ld_waitedFor C kc ks hk i rfl hi4 hP hD hS hl Rl hsim.s_waitedFor hR latch
    by_cases c21 : sx = nI 21
    · rw [c21]
      refine lv_tableIn (pc := 39) (off := 1055) (tgt := 1094) hx hb dL_law_39 (by decide) (by decide) (by decide) (by decide) ?_
      exact ld_longestWaiting C kc ks hk i rfl hi4 hP hD hS hl Rl hsim.s_longestWaiting hR latch
    by_cases c22 : sx = nI 22
    · rw [c22]
      refine lv_tableIn (pc := 39) (off := 1068) (tgt := 1107) hx hb dL_law_39 (by decide) (by decide) (by decide) (by decide) ?_
      exact ld_crossed C kc ks hk i rfl hi4 hP hD hS hl Rl hsim.s_crossed hR latch
    by_cases c23 : sx = nI 23
    · rw [c23]
      refine lv_tableIn (pc := 39) (off := 1081) (tgt := 1120) hx hb dL_law_39 (by decide) (by decide) (by decide) (by decide) ?_
      exact ld_crossingsNeeded C kc ks hk i rfl hi4 hP hD hS hl Rl hsim.s_crossingsNeeded hR latch
    by_cases c24 : sx = nI 24
    · rw [c24]
      refine lv_tableIn (pc := 39) (off := 1094) (tgt := 1133) hx hb dL_law_39 (by decide) (by decide) (by decide) (by decide) ?_
      exact ld_fallen C kc ks hk i rfl hi4 hP hD hS hl Rl hsim.s_fallen hR latch
    by_cases c25 : sx = nI 25
    · rw [c25]
      refine lv_tableIn (pc := 39) (off := 1107) (tgt := 1146) hx hb dL_law_39 (by decide) (by decide) (by decide) (by decide) ?_
      exact ld_hasFallen C kc ks hk i rfl hi4 hP hD hS hl Rl hsim.s_hasFallen hR latch
    by_cases c26 : sx = nI 26
    · rw [c26]
      refine lv_tableIn (pc := 39) (off := 1170) (tgt := 1209) hx hb dL_law_39 (by decide) (by decide) (by decide) (by decide) ?_
      exact ld_placeInLine C kc ks hk i rfl hi4 hP hD hS hl Rl hsim.s_placeInLine hR latch
    by_cases c27 : sx = nI 27
    · rw [c27]
      refine lv_tableIn (pc := 39) (off := 1226) (tgt := 1265) hx hb dL_law_39 (by decide) (by decide) (by decide) (by decide) ?_
      exact ld_nextDrop C kc ks hk i rfl hi4 hP hD hS hl Rl hsim.s_nextDrop hR latch
    by_cases c28 : sx = nI 28
    · rw [c28]
      refine lv_tableIn (pc := 39) (off := 1239) (tgt := 1278) hx hb dL_law_39 (by decide) (by decide) (by decide) (by decide) ?_
      exact ld_ringsLeft C kc ks hk i rfl hi4 hP hD hS hl Rl hsim.s_ringsLeft hR latch
    by_cases c29 : sx = nI 29
    · rw [c29]
      refine lv_tableIn (pc := 39) (off := 1295) (tgt := 1334) hx hb dL_law_39 (by decide) (by decide) (by decide) (by decide) ?_
      exact ld_floorOf C kc ks hk i rfl hi4 hP hD hS hl Rl hsim.s_floorOf hR latch
    by_cases c30 : sx = nI 30
    · rw [c30]
      refine lv_tableIn (pc := 39) (off := 1351) (tgt := 1390) hx hb dL_law_39 (by decide) (by decide) (by decide) (by decide) ?_
      exact ld_goesTo C kc ks hk i rfl hi4 hP hD hS hl Rl hsim.s_goesTo hR latch
    by_cases c31 : sx = nI 31
    · rw [c31]
      refine lv_tableIn (pc := 39) (off := 1407) (tgt := 1446) hx hb dL_law_39 (by decide) (by decide) (by decide) (by decide) ?_
      exact ld_serves C kc ks hk i rfl hi4 hP hD hS hl Rl hsim.s_serves hR latch
    by_cases c32 : sx = nI 32
    · rw [c32]
      refine lv_tableIn (pc := 39) (off := 1463) (tgt := 1502) hx hb dL_law_39 (by decide) (by decide) (by decide) (by decide) ?_
      exact ld_minutesLeft C kc ks hk i rfl hi4 hP hD hS hl Rl hsim.s_minutesLeft hR latch
    by_cases c33 : sx = nI 33
    · rw [c33]
      refine lv_tableIn (pc := 39) (off := 1519) (tgt := 1558) hx hb dL_law_39 (by decide) (by decide) (by decide) (by decide) ?_
      exact ld_wayTo C kc ks hk i rfl hi4 hP hD hS hl Rl hsim.s_wayTo hR latch
    by_cases c34 : sx = nI 34
    · rw [c34]
      refine lv_tableIn (pc := 39) (off := 1587) (tgt := 1626) hx hb dL_law_39 (by decide) (by decide) (by decide) (by decide) ?_
      exact ld_nearestIdle C kc ks hk i rfl hi4 hP hD hS hl Rl hsim.s_nearestIdle hR latch
    by_cases c35 : sx = nI 35
    · rw [c35]
      refine lv_tableIn (pc := 39) (off := 1643) (tgt := 1682) hx hb dL_law_39 (by decide) (by decide) (by decide) (by decide) ?_
      exact ld_minutesUntilServed C kc ks hk i rfl hi4 hP hD hS hl Rl hsim.s_minutesUntilServed hR latch
    by_cases c36 : sx = nI 36
    · rw [c36]
      refine lv_tableIn (pc := 39) (off := 1699) (tgt := 1738) hx hb dL_law_39 (by decide) (by decide) (by decide) (by decide) ?_
      exact ld_servedIn C kc ks hk i rfl hi4 hP hD hS hl Rl hsim.s_servedIn hR latch
    by_cases c37 : sx = nI 37
    · rw [c37]
      refine lv_tableIn (pc := 39) (off := 1755) (tgt := 1794) hx hb dL_law_39 (by decide) (by decide) (by decide) (by decide) ?_
      exact ld_bestToCross C kc ks hk i rfl hi4 hP hD hS hl Rl hsim.s_bestToCross hR latch
    by_cases c38 : sx = nI 38
    · rw [c38]
      refine lv_tableIn (pc := 39) (off := 1811) (tgt := 1850) hx hb dL_law_39 (by decide) (by decide) (by decide) (by decide) ?_
      exact ld_meanWait C kc ks hk i rfl hi4 hP hD hS hl Rl hsim.s_meanWait hR latch
    by_cases c39 : sx = nI 39
    · rw [c39]
      refine lv_tableIn (pc := 39) (off := 1852) (tgt := 1891) hx hb dL_law_39 (by decide) (by decide) (by decide) (by decide) ?_
      exact ld_digest C kc ks hk i rfl hi4 hP hD hS hl Rl hsim.s_digest hR latch
    have hno : ∀ k : Nat, k < 40 → sx ≠ nI k := by
      intro k hk h
      have : k = 0 ∨ k = 1 ∨ k = 2 ∨ k = 3 ∨ k = 4 ∨ k = 5 ∨ k = 6 ∨ k = 7 ∨ k = 8 ∨ k = 9 ∨ k = 10 ∨ k = 11 ∨ k = 12 ∨ k = 13 ∨ k = 14 ∨ k = 15 ∨ k = 16 ∨ k = 17 ∨ k = 18 ∨ k = 19 ∨ k = 20 ∨ k = 21 ∨ k = 22 ∨ k = 23 ∨ k = 24 ∨ k = 25 ∨ k = 26 ∨ k = 27 ∨ k = 28 ∨ k = 29 ∨ k = 30 ∨ k = 31 ∨ k = 32 ∨ k = 33 ∨ k = 34 ∨ k = 35 ∨ k = 36 ∨ k = 37 ∨ k = 38 ∨ k = 39 := by omega
      rcases this with rfl | rfl | rfl | rfl | rfl | rfl | rfl | rfl | rfl | rfl | rfl | rfl | rfl | rfl | rfl | rfl | rfl | rfl | rfl | rfl | rfl | rfl | rfl | rfl | rfl | rfl | rfl | rfl | rfl | rfl | rfl | rfl | rfl | rfl | rfl | rfl | rfl | rfl | rfl | rfl
      · exact c0 h
      · exact c1 h
      · exact c2 h
      · exact c3 h
      · exact c4 h
      · exact c5 h
      · exact c6 h
      · exact c7 h
      · exact c8 h
      · exact c9 h
      · exact c10 h
      · exact c11 h
      · exact c12 h
      · exact c13 h
      · exact c14 h
      · exact c15 h
      · exact c16 h
      · exact c17 h
      · exact c18 h
      · exact c19 h
      · exact c20 h
      · exact c21 h
      · exact c22 h
      · exact c23 h
      · exact c24 h
      · exact c25 h
      · exact c26 h
      · exact c27 h
      · exact c28 h
      · exact c29 h
      · exact c30 h
      · exact c31 h
      · exact c32 h
      · exact c33 h
      · exact c34 h
      · exact c35 h
      · exact c36 h
      · exact c37 h
      · exact c38 h
      · exact c39 h
    refine lv_tableOut (pc := 39) (tgt := 1905) hx hb dL_law_39 (z_tabN hno) (by decide) ?_
    refine W.widen (k := kc + 20) (n := ks + 200) (by omega) (by omega) ?_
    exact latch B g M H locs ls hR hP hD hS hl
