-- ===== the state of the system in words of my own; contracts; call rows =====
-- a line: how many, the drops; a staff: how many, rows pace floor goal guest left; a house: scalars minute roomCount charge served inVain gaveUp unheard, rows floor patience need wire cut waited, line, staff
abbrev z_L : Type := Int32 × (Nat → Int32)
abbrev z_G : Type := Int32 × (Nat → Nat → Int32)
abbrev z_H : Type := (Nat → Int32) × (Nat → Nat → Int32) × z_L × z_G
abbrev z_B : Type := z_H × z_H
abbrev z_M : Type := (Nat → Int32) × (Nat → Nat → Int32)
def z_ur (f : Nat → Nat → Int32) (k : Nat) (g : Nat → Int32) : Nat → Nat → Int32 := fun j => if j = k then g else f j
def z_gR (G : z_G) (k : Nat) (g : Nat → Int32) : z_G := (G.1, z_ur G.2 k g)
def z_gC (G : z_G) (v : Int32) : z_G := (v, G.2)
def z_lC (L : z_L) (v : Int32) : z_L := (v, L.2)
def z_lD (L : z_L) (g : Nat → Int32) : z_L := (L.1, g)
def z_hS (h : z_H) (k : Nat) (v : Int32) : z_H := (upd h.1 k v, h.2)
def z_hR (h : z_H) (k : Nat) (g : Nat → Int32) : z_H := (h.1, z_ur h.2.1 k g, h.2.2)
def z_hL (h : z_H) (L : z_L) : z_H := (h.1, h.2.1, L, h.2.2.2)
def z_hG (h : z_H) (G : z_G) : z_H := (h.1, h.2.1, h.2.2.1, G)
def z_mS (M : z_M) (k : Nat) (v : Int32) : z_M := (upd M.1 k v, M.2)
def z_mR (M : z_M) (k : Nat) (g : Nat → Int32) : z_M := (M.1, z_ur M.2 k g)
-- where things are: the classes, the array classes
abbrev z_X : Type := va_G × ClassId × ClassId × ClassId
def z_ty (X : z_X) : List (ClassId × FieldType) := [(X.2.1, .int), (X.2.2.1, .boolean), (X.2.2.2, .array .int)]
abbrev z_nl : List (String × Nat × String × String × String) := [("HouseBells", 125, "HouseBells$Line", "count", "I"), ("HouseBells$House", 136, "HouseBells$Line", "count", "I"), ("HouseBells", 49, "HouseBells$Staff", "count", "I"), ("HouseBells$House", 114, "HouseBells$Staff", "count", "I"), ("HouseBells$House", 132, "HouseBells$Staff", "floor", "LHouseBells$Row;"), ("HouseBells", 166, "HouseBells$Staff", "floor", "LHouseBells$Row;"), ("HouseBells$House", 123, "HouseBells$Staff", "goal", "LHouseBells$Row;"), ("HouseBells", 167, "HouseBells$Staff", "goal", "LHouseBells$Row;"), ("HouseBells$House", 133, "HouseBells$Staff", "guest", "LHouseBells$Row;"), ("HouseBells", 170, "HouseBells$Staff", "guest", "LHouseBells$Row;"), ("HouseBells$House", 120, "HouseBells$Staff", "left", "LHouseBells$Row;"), ("HouseBells", 173, "HouseBells$Staff", "left", "LHouseBells$Row;"), ("HouseBells", 132, "HouseBells$House", "minute", "I"), ("HouseBells", 30, "HouseBells$House", "roomCount", "I"), ("HouseBells", 108, "HouseBells$House", "charge", "I"), ("HouseBells", 135, "HouseBells$House", "served", "I"), ("HouseBells", 138, "HouseBells$House", "inVain", "I"), ("HouseBells", 141, "HouseBells$House", "gaveUp", "I"), ("HouseBells", 144, "HouseBells$House", "unheard", "I"), ("HouseBells", 153, "HouseBells$House", "floor", "LHouseBells$Row;"), ("HouseBells", 86, "HouseBells$House", "wire", "LHouseBells$Row;"), ("HouseBells", 97, "HouseBells$House", "cut", "LHouseBells$Row;"), ("HouseBells", 71, "HouseBells$House", "waited", "LHouseBells$Row;"), ("HouseBells", 111, "HouseBells$House", "line", "LHouseBells$Line;"), ("HouseBells", 45, "HouseBells$House", "staff", "LHouseBells$Staff;")]
def z_N (U : State) : Prop := ∀ q ∈ z_nl, va_Nw (.fieldLinkNest q.1 q.2.1 q.2.2.1 q.2.2.2.1 q.2.2.2.2 "HouseBells") U
theorem z_N.warm {s U : State} (hW : s.WarmedH U.vm) (h : z_N s) : z_N U := fun q hq => va_Nw.warmF hW (h q hq)
theorem z_N.same {u U : State} (e : u.vm = U.vm) (h : z_N u) : z_N U := fun q hq => va_Nw.same rfl e (h q hq)
theorem z_n0 {s : State} {args : Array Value} (h : z_N s) : (Cond.fieldLinkNest "HouseBells" 125 "HouseBells$Line" "count" "I" "HouseBells").before args s = true := va_Nw.use rfl (h ("HouseBells", 125, "HouseBells$Line", "count", "I") (List.mem_of_getElem? (i := 0) rfl))
theorem z_n1 {s : State} {args : Array Value} (h : z_N s) : (Cond.fieldLinkNest "HouseBells$House" 136 "HouseBells$Line" "count" "I" "HouseBells").before args s = true := va_Nw.use rfl (h ("HouseBells$House", 136, "HouseBells$Line", "count", "I") (List.mem_of_getElem? (i := 1) rfl))
theorem z_n2 {s : State} {args : Array Value} (h : z_N s) : (Cond.fieldLinkNest "HouseBells" 49 "HouseBells$Staff" "count" "I" "HouseBells").before args s = true := va_Nw.use rfl (h ("HouseBells", 49, "HouseBells$Staff", "count", "I") (List.mem_of_getElem? (i := 2) rfl))
theorem z_n3 {s : State} {args : Array Value} (h : z_N s) : (Cond.fieldLinkNest "HouseBells$House" 114 "HouseBells$Staff" "count" "I" "HouseBells").before args s = true := va_Nw.use rfl (h ("HouseBells$House", 114, "HouseBells$Staff", "count", "I") (List.mem_of_getElem? (i := 3) rfl))
theorem z_n4 {s : State} {args : Array Value} (h : z_N s) : (Cond.fieldLinkNest "HouseBells$House" 132 "HouseBells$Staff" "floor" "LHouseBells$Row;" "HouseBells").before args s = true := va_Nw.use rfl (h ("HouseBells$House", 132, "HouseBells$Staff", "floor", "LHouseBells$Row;") (List.mem_of_getElem? (i := 4) rfl))
theorem z_n5 {s : State} {args : Array Value} (h : z_N s) : (Cond.fieldLinkNest "HouseBells" 166 "HouseBells$Staff" "floor" "LHouseBells$Row;" "HouseBells").before args s = true := va_Nw.use rfl (h ("HouseBells", 166, "HouseBells$Staff", "floor", "LHouseBells$Row;") (List.mem_of_getElem? (i := 5) rfl))
theorem z_n6 {s : State} {args : Array Value} (h : z_N s) : (Cond.fieldLinkNest "HouseBells$House" 123 "HouseBells$Staff" "goal" "LHouseBells$Row;" "HouseBells").before args s = true := va_Nw.use rfl (h ("HouseBells$House", 123, "HouseBells$Staff", "goal", "LHouseBells$Row;") (List.mem_of_getElem? (i := 6) rfl))
theorem z_n7 {s : State} {args : Array Value} (h : z_N s) : (Cond.fieldLinkNest "HouseBells" 167 "HouseBells$Staff" "goal" "LHouseBells$Row;" "HouseBells").before args s = true := va_Nw.use rfl (h ("HouseBells", 167, "HouseBells$Staff", "goal", "LHouseBells$Row;") (List.mem_of_getElem? (i := 7) rfl))
theorem z_n8 {s : State} {args : Array Value} (h : z_N s) : (Cond.fieldLinkNest "HouseBells$House" 133 "HouseBells$Staff" "guest" "LHouseBells$Row;" "HouseBells").before args s = true := va_Nw.use rfl (h ("HouseBells$House", 133, "HouseBells$Staff", "guest", "LHouseBells$Row;") (List.mem_of_getElem? (i := 8) rfl))
theorem z_n9 {s : State} {args : Array Value} (h : z_N s) : (Cond.fieldLinkNest "HouseBells" 170 "HouseBells$Staff" "guest" "LHouseBells$Row;" "HouseBells").before args s = true := va_Nw.use rfl (h ("HouseBells", 170, "HouseBells$Staff", "guest", "LHouseBells$Row;") (List.mem_of_getElem? (i := 9) rfl))
theorem z_n10 {s : State} {args : Array Value} (h : z_N s) : (Cond.fieldLinkNest "HouseBells$House" 120 "HouseBells$Staff" "left" "LHouseBells$Row;" "HouseBells").before args s = true := va_Nw.use rfl (h ("HouseBells$House", 120, "HouseBells$Staff", "left", "LHouseBells$Row;") (List.mem_of_getElem? (i := 10) rfl))
theorem z_n11 {s : State} {args : Array Value} (h : z_N s) : (Cond.fieldLinkNest "HouseBells" 173 "HouseBells$Staff" "left" "LHouseBells$Row;" "HouseBells").before args s = true := va_Nw.use rfl (h ("HouseBells", 173, "HouseBells$Staff", "left", "LHouseBells$Row;") (List.mem_of_getElem? (i := 11) rfl))
theorem z_n12 {s : State} {args : Array Value} (h : z_N s) : (Cond.fieldLinkNest "HouseBells" 132 "HouseBells$House" "minute" "I" "HouseBells").before args s = true := va_Nw.use rfl (h ("HouseBells", 132, "HouseBells$House", "minute", "I") (List.mem_of_getElem? (i := 12) rfl))
theorem z_n13 {s : State} {args : Array Value} (h : z_N s) : (Cond.fieldLinkNest "HouseBells" 30 "HouseBells$House" "roomCount" "I" "HouseBells").before args s = true := va_Nw.use rfl (h ("HouseBells", 30, "HouseBells$House", "roomCount", "I") (List.mem_of_getElem? (i := 13) rfl))
theorem z_n14 {s : State} {args : Array Value} (h : z_N s) : (Cond.fieldLinkNest "HouseBells" 108 "HouseBells$House" "charge" "I" "HouseBells").before args s = true := va_Nw.use rfl (h ("HouseBells", 108, "HouseBells$House", "charge", "I") (List.mem_of_getElem? (i := 14) rfl))
theorem z_n15 {s : State} {args : Array Value} (h : z_N s) : (Cond.fieldLinkNest "HouseBells" 135 "HouseBells$House" "served" "I" "HouseBells").before args s = true := va_Nw.use rfl (h ("HouseBells", 135, "HouseBells$House", "served", "I") (List.mem_of_getElem? (i := 15) rfl))
theorem z_n16 {s : State} {args : Array Value} (h : z_N s) : (Cond.fieldLinkNest "HouseBells" 138 "HouseBells$House" "inVain" "I" "HouseBells").before args s = true := va_Nw.use rfl (h ("HouseBells", 138, "HouseBells$House", "inVain", "I") (List.mem_of_getElem? (i := 16) rfl))
theorem z_n17 {s : State} {args : Array Value} (h : z_N s) : (Cond.fieldLinkNest "HouseBells" 141 "HouseBells$House" "gaveUp" "I" "HouseBells").before args s = true := va_Nw.use rfl (h ("HouseBells", 141, "HouseBells$House", "gaveUp", "I") (List.mem_of_getElem? (i := 17) rfl))
theorem z_n18 {s : State} {args : Array Value} (h : z_N s) : (Cond.fieldLinkNest "HouseBells" 144 "HouseBells$House" "unheard" "I" "HouseBells").before args s = true := va_Nw.use rfl (h ("HouseBells", 144, "HouseBells$House", "unheard", "I") (List.mem_of_getElem? (i := 18) rfl))
theorem z_n19 {s : State} {args : Array Value} (h : z_N s) : (Cond.fieldLinkNest "HouseBells" 153 "HouseBells$House" "floor" "LHouseBells$Row;" "HouseBells").before args s = true := va_Nw.use rfl (h ("HouseBells", 153, "HouseBells$House", "floor", "LHouseBells$Row;") (List.mem_of_getElem? (i := 19) rfl))
theorem z_n20 {s : State} {args : Array Value} (h : z_N s) : (Cond.fieldLinkNest "HouseBells" 86 "HouseBells$House" "wire" "LHouseBells$Row;" "HouseBells").before args s = true := va_Nw.use rfl (h ("HouseBells", 86, "HouseBells$House", "wire", "LHouseBells$Row;") (List.mem_of_getElem? (i := 20) rfl))
theorem z_n21 {s : State} {args : Array Value} (h : z_N s) : (Cond.fieldLinkNest "HouseBells" 97 "HouseBells$House" "cut" "LHouseBells$Row;" "HouseBells").before args s = true := va_Nw.use rfl (h ("HouseBells", 97, "HouseBells$House", "cut", "LHouseBells$Row;") (List.mem_of_getElem? (i := 21) rfl))
theorem z_n22 {s : State} {args : Array Value} (h : z_N s) : (Cond.fieldLinkNest "HouseBells" 71 "HouseBells$House" "waited" "LHouseBells$Row;" "HouseBells").before args s = true := va_Nw.use rfl (h ("HouseBells", 71, "HouseBells$House", "waited", "LHouseBells$Row;") (List.mem_of_getElem? (i := 22) rfl))
theorem z_n23 {s : State} {args : Array Value} (h : z_N s) : (Cond.fieldLinkNest "HouseBells" 111 "HouseBells$House" "line" "LHouseBells$Line;" "HouseBells").before args s = true := va_Nw.use rfl (h ("HouseBells", 111, "HouseBells$House", "line", "LHouseBells$Line;") (List.mem_of_getElem? (i := 23) rfl))
theorem z_n24 {s : State} {args : Array Value} (h : z_N s) : (Cond.fieldLinkNest "HouseBells" 45 "HouseBells$House" "staff" "LHouseBells$Staff;" "HouseBells").before args s = true := va_Nw.use rfl (h ("HouseBells", 45, "HouseBells$House", "staff", "LHouseBells$Staff;") (List.mem_of_getElem? (i := 24) rfl))
-- the worlds
def z_wR (X : z_X) (a b : Nat) (f : Nat → Int32) : va_W := [(a, .inr (2, [.ref b])), (b, .inl (X.2.1, 12, .inl f))]
def z_wRR (X : z_X) (a b : Nat) (f : Nat → Int32) (a' b' : Nat) (f' : Nat → Int32) : va_W := [(a, .inr (2, [.ref b])), (b, .inl (X.2.1, 12, .inl f)), (a', .inr (2, [.ref b'])), (b', .inl (X.2.1, 12, .inl f'))]
def z_wL (X : z_X) (d : Nat → Nat) (L : z_L) : va_W := [(d 13, .inr (1, [.int L.1, .ref (d 14)])), (d 14, .inl (X.2.1, 12, .inl L.2))]
def z_wLL (X : z_X) (d : Nat → Nat) (L : z_L) (d' : Nat → Nat) (L' : z_L) : va_W := [(d 13, .inr (1, [.int L.1, .ref (d 14)])), (d 14, .inl (X.2.1, 12, .inl L.2)), (d' 13, .inr (1, [.int L'.1, .ref (d' 14)])), (d' 14, .inl (X.2.1, 12, .inl L'.2))]
def z_wG (X : z_X) (d : Nat → Nat) (G : z_G) : va_W := [(d 15, .inr (3, [.int G.1, .ref (d 16), .ref (d 18), .ref (d 20), .ref (d 22), .ref (d 24)])), (d 16, .inr (2, [.ref (d 17)])), (d 17, .inl (X.2.1, 12, .inl (G.2 0))), (d 18, .inr (2, [.ref (d 19)])), (d 19, .inl (X.2.1, 12, .inl (G.2 1))), (d 20, .inr (2, [.ref (d 21)])), (d 21, .inl (X.2.1, 12, .inl (G.2 2))), (d 22, .inr (2, [.ref (d 23)])), (d 23, .inl (X.2.1, 12, .inl (G.2 3))), (d 24, .inr (2, [.ref (d 25)])), (d 25, .inl (X.2.1, 12, .inl (G.2 4)))]
def z_wGG (X : z_X) (d : Nat → Nat) (G : z_G) (d' : Nat → Nat) (G' : z_G) : va_W := z_wG X d G ++ z_wG X d' G'
def z_wH (X : z_X) (d : Nat → Nat) (h : z_H) : va_W := [(d 0, .inr (0, [.int (h.1 0), .int (h.1 1), .int (h.1 2), .int (h.1 3), .int (h.1 4), .int (h.1 5), .int (h.1 6), .ref (d 1), .ref (d 3), .ref (d 5), .ref (d 7), .ref (d 9), .ref (d 11), .ref (d 13), .ref (d 15)])), (d 1, .inr (2, [.ref (d 2)])), (d 2, .inl (X.2.1, 12, .inl (h.2.1 0))), (d 3, .inr (2, [.ref (d 4)])), (d 4, .inl (X.2.1, 12, .inl (h.2.1 1))), (d 5, .inr (2, [.ref (d 6)])), (d 6, .inl (X.2.1, 12, .inl (h.2.1 2))), (d 7, .inr (2, [.ref (d 8)])), (d 8, .inl (X.2.1, 12, .inl (h.2.1 3))), (d 9, .inr (2, [.ref (d 10)])), (d 10, .inl (X.2.1, 12, .inl (h.2.1 4))), (d 11, .inr (2, [.ref (d 12)])), (d 12, .inl (X.2.1, 12, .inl (h.2.1 5))), (d 13, .inr (1, [.int h.2.2.1.1, .ref (d 14)])), (d 14, .inl (X.2.1, 12, .inl h.2.2.1.2)), (d 15, .inr (3, [.int h.2.2.2.1, .ref (d 16), .ref (d 18), .ref (d 20), .ref (d 22), .ref (d 24)])), (d 16, .inr (2, [.ref (d 17)])), (d 17, .inl (X.2.1, 12, .inl (h.2.2.2.2 0))), (d 18, .inr (2, [.ref (d 19)])), (d 19, .inl (X.2.1, 12, .inl (h.2.2.2.2 1))), (d 20, .inr (2, [.ref (d 21)])), (d 21, .inl (X.2.1, 12, .inl (h.2.2.2.2 2))), (d 22, .inr (2, [.ref (d 23)])), (d 23, .inl (X.2.1, 12, .inl (h.2.2.2.2 3))), (d 24, .inr (2, [.ref (d 25)])), (d 25, .inl (X.2.1, 12, .inl (h.2.2.2.2 4)))]
def z_wHH (X : z_X) (d : Nat → Nat) (h : z_H) (d' : Nat → Nat) (h' : z_H) : va_W := z_wH X d h ++ z_wH X d' h'
def z_wB (X : z_X) (a : Nat) (d d' : Nat → Nat) (B : z_B) : va_W := (a, .inr (4, [.ref (d 0), .ref (d' 0)])) :: (z_wH X d B.1 ++ z_wH X d' B.2)
-- contracts: a method that only reads; one that writes
def z_Pp (X : z_X) (w : va_W) : State → Prop := fun U => va_P X.1 vwCl w U.heap ∧ va_K X.1 vwCl (z_ty X) U ∧ z_N U
def z_Pm (X : z_X) (w : va_W) (sz : Nat) : State → Prop := fun U => U.heap.size = sz ∧ va_P X.1 vwCl w U.heap ∧ va_K X.1 vwCl (z_ty X) U ∧ z_N U ∧ va_D (fun _ => True) w
def z_Bm (X : z_X) (A : Nat → Prop) : va_W → State → Prop := fun u t => va_P X.1 vwCl u t.heap ∧ va_D A u
abbrev z_R (fr lo : Nat) : Room := { frames := fr, cells := 0, slots := 0, locals := lo }
def z_pI (l : Launch) (y : MethodName) (ws : List Cond) (fr lo : Nat) (X : z_X) (av : List Value) (w : va_W) (r : Int32) : Prop := Met l y ws (z_R fr lo) (va_Pc av (z_Pp X w)) (vp_Si (fun z => z = r)) 0 0 (fun _ => False)
def z_pL (l : Launch) (y : MethodName) (ws : List Cond) (fr lo : Nat) (X : z_X) (av : List Value) (w : va_W) (r : Int64) : Prop := Met l y ws (z_R fr lo) (va_Pc av (z_Pp X w)) (vp_Sl (fun z => z = r)) 0 0 (fun _ => False)
def z_pD (l : Launch) (y : MethodName) (ws : List Cond) (fr lo : Nat) (X : z_X) (av : List Value) (w : va_W) (r : UInt64) : Prop := Met l y ws (z_R fr lo) (va_Pc av (z_Pp X w)) (vp_Sd (fun z => z = r)) 0 0 (fun _ => False)
def z_pV (l : Launch) (y : MethodName) (ws : List Cond) (fr lo : Nat) (X : z_X) (av : List Value) (w : va_W) : Prop := Met l y ws (z_R fr lo) (va_Pc av (z_Pp X w)) (va_Sv (fun _ => True)) 0 0 (fun _ => False)
def z_mV (l : Launch) (y : MethodName) (ws : List Cond) (fr lo : Nat) (X : z_X) (av : List Value) (w w' : va_W) : Prop := ∀ sz : Nat, Met l y ws (z_R fr lo) (va_Pc av (z_Pm X w sz)) (va_Qv (fun u : va_W => u = w') (z_Bm X (va_A w sz)) (va_A w sz)) 0 0 (va_A w sz)
def z_mI (l : Launch) (y : MethodName) (ws : List Cond) (fr lo : Nat) (X : z_X) (av : List Value) (w : va_W) (r : Int32) (w' : va_W) : Prop := ∀ sz : Nat, Met l y ws (z_R fr lo) (va_Pc av (z_Pm X w sz)) (va_Qi (fun (z : Int32) (u : va_W) => z = r ∧ u = w') (z_Bm X (va_A w sz)) (va_A w sz)) 0 0 (va_A w sz)
def z_mL (l : Launch) (y : MethodName) (ws : List Cond) (fr lo : Nat) (X : z_X) (av : List Value) (w : va_W) (r : Int64) (w' : va_W) : Prop := ∀ sz : Nat, Met l y ws (z_R fr lo) (va_Pc av (z_Pm X w sz)) (va_Ql (fun (z : Int64) (u : va_W) => z = r ∧ u = w') (z_Bm X (va_A w sz)) (va_A w sz)) 0 0 (va_A w sz)
theorem z_bp (av : List Value) (X : z_X) (w : va_W) : FrameBlind (va_Pc av (z_Pp X w)) := fun a U g mk q => by
  obtain ⟨q0, qP, qK, qN⟩ := q
  exact ⟨q0, qP, va_K.moved (u := U) (U := U.calling g mk a) (Vm.Alike.refl U.vm) qK, z_N.same (U := U.calling g mk a) rfl qN⟩
theorem z_bm (av : List Value) (X : z_X) (w : va_W) (sz : Nat) : FrameBlind (va_Pc av (z_Pm X w sz)) := fun a U g mk q => by
  obtain ⟨q0, q1, qP, qK, qN, qD⟩ := q
  exact ⟨q0, q1, qP, va_K.moved (u := U) (U := U.calling g mk a) (Vm.Alike.refl U.vm) qK, z_N.same (U := U.calling g mk a) rfl qN, qD⟩
/-- a part wc of the world W0 becomes wc1, and W0 thereby W1 -/
def z_F (W0 wc W1 wc1 : va_W) : Prop := ∃ (isC isR pm : List Nat) (wr : va_W), isC.map (fun i => W0[i]?) = wc.map some ∧ isR.map (fun i => W0[i]?) = wr.map some ∧ va_nd isR = true ∧ (∀ i ∈ isR, i ∉ isC) ∧ pm.map (fun i => (wr ++ wc1)[i]?) = W1.map some ∧ va_nd pm = true
theorem z_F.part {W0 wc W1 wc1 : va_W} (h : z_F W0 wc W1 wc1) : ∃ isC : List Nat, isC.map (fun i => W0[i]?) = wc.map some := by
  obtain ⟨isC, _, _, _, h, _⟩ := h
  exact ⟨isC, h⟩
theorem z_subP {D : va_G} {cl : List vw_C} {ws ws' : va_W} {H : Heap} (h : va_P D cl ws H) (is : List Nat) (hs : is.map (fun i => ws[i]?) = ws'.map some) : va_P D cl ws' H := by
  intro k q hk
  have h1 : (is.map (fun i => ws[i]?))[k]? = some (some q) := by rw [hs, List.getElem?_map, hk]; rfl
  rw [List.getElem?_map] at h1
  cases hi : is[k]? with
  | none => rw [hi] at h1; cases h1
  | some i => rw [hi] at h1; exact h i q (Option.some.inj h1)
theorem z_subD {ws wc : va_W} (hD : va_D (fun _ => True) ws) (isC : List Nat) (hn : va_nd isC = true) (hC : isC.map (fun i => ws[i]?) = wc.map some) : va_D (fun _ => True) wc := hD.sub isC hn hC
theorem z_join {A0 : Nat → Prop} {D : va_G} {cl : List vw_C} {W0 wc W1 wc1 : va_W} {H H1 : Heap} (hF : z_F W0 wc W1 wc1) (hP : va_P D cl W0 H) (hD : va_D A0 W0) (hk : ∀ q : Nat, q < H.size → ¬ va_A wc H.size q → H1[q]? = H[q]?) (hf : ∀ q, va_A wc H.size q → A0 q) (hP1 : va_P D cl wc1 H1) (hD1 : va_D (va_A wc H.size) wc1) : va_P D cl W1 H1 ∧ va_D A0 W1 := by
  obtain ⟨isC, isR, pm, wr, h1, h2, h3, h4, h5, h6⟩ := hF
  obtain ⟨a, b⟩ := va_join hP hD isC isR h1 h2 h3 h4 hk hf hP1 hD1
  exact ⟨z_subP a pm h5, b.sub pm h6 h5⟩
/-- which part of a world a callee has: its places, all different -/
def z_S (W0 wc : va_W) : Prop := ∃ is : List Nat, is.map (fun i => W0[i]?) = wc.map some ∧ va_nd is = true
theorem z_S.free {A0 : Nat → Prop} {ws wc : va_W} {H0 H : Heap} {locs : List Loc} (h : z_S ws wc) (hD : va_D A0 ws) (hS : va_S A0 H0 H locs) (hA : ∀ q, H0.size ≤ q → A0 q) : ∀ q, va_A wc H.size q → A0 q := by
  obtain ⟨is, h1, -⟩ := h
  exact va_free hD hS hA is h1
theorem s_nil (W0 : va_W) : z_S W0 [] := ⟨[], rfl, rfl⟩
section ZC
variable {p : Program} {l : Launch} {e : Env} {R : Room} {s : State} {m : MethodId} {args : Array Value} {below : List Frame} {meth : Method} {c : Code} {H : Heap} {locs : List Loc} {cells slots : Nat} {Q : State → Prop}
variable {y : MethodName} {bytes cc : ByteArray} {maxL nL n index fr lo : Nat} {ret : Option FieldType} {ws : List Cond} {Ts : List Cond} {own C : String} {b : Addr} {As rest st0 : List Value} {ls : Array Slot} {pc : Nat} {X : z_X} {W0 wc : va_W} {A : Nat → Prop} {H0 : Heap}
theorem z_pre (hP : va_P X.1 vwCl W0 H) (hK : va_K X.1 vwCl (z_ty X) s) (hN : z_N s) (hs : z_S W0 wc) (av : List Value) : ∀ U : State, U.heap = H → s.WarmedH U.vm → va_Pc av (z_Pp X wc) av.toArray U := fun U hU hW => by
  obtain ⟨is, h1, -⟩ := hs
  exact ⟨rfl, by rw [hU]; exact z_subP hP is h1, va_K.moved hW.alike hK, hN.warm hW⟩
theorem z_prem (hP : va_P X.1 vwCl W0 H) (hK : va_K X.1 vwCl (z_ty X) s) (hN : z_N s) (hD : va_D A W0) (hs : z_S W0 wc) (av : List Value) : ∀ U : State, U.heap = H → s.WarmedH U.vm → va_Pc av (z_Pm X wc H.size) av.toArray U := fun U hU hW => by
  obtain ⟨is, h1, h2⟩ := hs
  exact ⟨rfl, by rw [hU], by rw [hU]; exact z_subP hP is h1, va_K.moved hW.alike hK, hN.warm hW, (hD.sub is h2 h1).weaken (fun _ _ _ _ => trivial)⟩
theorem z_recv (hP : va_P X.1 vwCl W0 H) (hK : va_K X.1 vwCl (z_ty X) s) (hN : z_N s) (hs : z_S W0 wc) {ci : Nat} {q : vw_C} {fs : List Value} (hc : vwCl[ci]? = some q) (hq : q.1 = C) (he : wc[0]? = some (b, .inr (ci, fs))) : ∃ cellB : Cell, H[b]? = some cellB ∧ cellB.vm.isStatics = false ∧ s.vm.findClass C = some cellB.cls := by
  obtain ⟨is, h1, -⟩ := hs
  rw [← hq]
  exact va_recv hK (z_subP hP is h1) hc he
theorem z_cpI {r : Int32} {ci : Nat} {q : vw_C} {fs : List Value} (S : CallFix p m c cc nL s args Ts own) (hM : z_pI l y ws fr lo X (.ref b :: As) wc r) (cw : CallW R s args own C index y bytes maxL ret ws (z_R fr lo) 0 0 n) (hP : va_P X.1 vwCl W0 H) (hK : va_K X.1 vwCl (z_ty X) s) (hN : z_N s) (hs : z_S W0 wc) (hc : vwCl[ci]? = some q) (hq : q.1 = C) (he : wc[0]? = some (b, .inr (ci, fs))) (hf : cells ≤ R.cells ∧ slots ≤ R.slots) (hn : As.length = n) (hsz : ls.size = nL) (hst : st0 = As.reverse ++ .ref b :: rest) (hW : (rest.map fun v => v.category).sum ≤ 8) (hdg : decode cc pc = .ok (.invokevirtual index, 3)) (kk : W p l e R s m args below meth c H locs cells slots Q (F0 m (pc + 3) ls (.int r :: rest))) : W p l e R s m args below meth c H locs cells slots Q (F0 m pc ls st0) := by
  refine vp_callSi (W.runV (rest := rest) S hM cw ⟨z_bp _ _ _, z_recv hP hK hN hs hc hq he, z_pre hP hK hN hs _⟩ rfl hn hsz hst (lv_room hW) hdg hf) (fun z hz => ?_)
  rw [hz]; exact kk
theorem z_cpD {r : UInt64} {ci : Nat} {q : vw_C} {fs : List Value} (S : CallFix p m c cc nL s args Ts own) (hM : z_pD l y ws fr lo X (.ref b :: As) wc r) (cw : CallW R s args own C index y bytes maxL ret ws (z_R fr lo) 0 0 n) (hP : va_P X.1 vwCl W0 H) (hK : va_K X.1 vwCl (z_ty X) s) (hN : z_N s) (hs : z_S W0 wc) (hc : vwCl[ci]? = some q) (hq : q.1 = C) (he : wc[0]? = some (b, .inr (ci, fs))) (hf : cells ≤ R.cells ∧ slots ≤ R.slots) (hn : As.length = n) (hsz : ls.size = nL) (hst : st0 = As.reverse ++ .ref b :: rest) (hW : (rest.map fun v => v.category).sum ≤ 8) (hdg : decode cc pc = .ok (.invokevirtual index, 3)) (kk : W p l e R s m args below meth c H locs cells slots Q (F0 m (pc + 3) ls (.double r :: rest))) : W p l e R s m args below meth c H locs cells slots Q (F0 m pc ls st0) := by
  refine vp_callSd (W.runV (rest := rest) S hM cw ⟨z_bp _ _ _, z_recv hP hK hN hs hc hq he, z_pre hP hK hN hs _⟩ rfl hn hsz hst (lv_room hW) hdg hf) (fun z hz => ?_)
  rw [hz]; exact kk
theorem z_cpV {ci : Nat} {q : vw_C} {fs : List Value} (S : CallFix p m c cc nL s args Ts own) (hM : z_pV l y ws fr lo X (.ref b :: As) wc) (cw : CallW R s args own C index y bytes maxL ret ws (z_R fr lo) 0 0 n) (hP : va_P X.1 vwCl W0 H) (hK : va_K X.1 vwCl (z_ty X) s) (hN : z_N s) (hs : z_S W0 wc) (hc : vwCl[ci]? = some q) (hq : q.1 = C) (he : wc[0]? = some (b, .inr (ci, fs))) (hf : cells ≤ R.cells ∧ slots ≤ R.slots) (hn : As.length = n) (hsz : ls.size = nL) (hst : st0 = As.reverse ++ .ref b :: rest) (hW : (rest.map fun v => v.category).sum ≤ 8) (hdg : decode cc pc = .ok (.invokevirtual index, 3)) (kk : W p l e R s m args below meth c H locs cells slots Q (F0 m (pc + 3) ls rest)) : W p l e R s m args below meth c H locs cells slots Q (F0 m pc ls st0) :=
  va_csv (W.runV (rest := rest) S hM cw ⟨z_bp _ _ _, z_recv hP hK hN hs hc hq he, z_pre hP hK hN hs _⟩ rfl hn hsz hst (lv_room hW) hdg hf) (fun _ => kk)
-- static, reading nothing
theorem z_csI {r : Int32} (S : CallFix p m c cc nL s args Ts own) (hM : z_pI l y ws fr lo X As wc r) (cw : CallB R s args own index y bytes maxL ret ws (z_R fr lo) 0 0 n ∧ (Cond.static y).before args s = true) (hP : va_P X.1 vwCl W0 H) (hK : va_K X.1 vwCl (z_ty X) s) (hN : z_N s) (hs : z_S W0 wc) (hf : cells ≤ R.cells ∧ slots ≤ R.slots) (hn : As.length = n) (hsz : ls.size = nL) (hst : st0 = As.reverse ++ rest) (hW : (rest.map fun v => v.category).sum ≤ 8) (hdg : decode cc pc = .ok (.invokestatic index, 3)) (kk : W p l e R s m args below meth c H locs cells slots Q (F0 m (pc + 3) ls (.int r :: rest))) : W p l e R s m args below meth c H locs cells slots Q (F0 m pc ls st0) := by
  refine vp_callSi (W.runS (rest := rest) S hM cw ⟨z_bp _ _ _, z_pre hP hK hN hs _⟩ rfl hn hsz hst (lv_room hW) hdg hf) (fun z hz => ?_)
  rw [hz]; exact kk
theorem z_csL {r : Int64} (S : CallFix p m c cc nL s args Ts own) (hM : z_pL l y ws fr lo X As wc r) (cw : CallB R s args own index y bytes maxL ret ws (z_R fr lo) 0 0 n ∧ (Cond.static y).before args s = true) (hP : va_P X.1 vwCl W0 H) (hK : va_K X.1 vwCl (z_ty X) s) (hN : z_N s) (hs : z_S W0 wc) (hf : cells ≤ R.cells ∧ slots ≤ R.slots) (hn : As.length = n) (hsz : ls.size = nL) (hst : st0 = As.reverse ++ rest) (hW : (rest.map fun v => v.category).sum ≤ 8) (hdg : decode cc pc = .ok (.invokestatic index, 3)) (kk : W p l e R s m args below meth c H locs cells slots Q (F0 m (pc + 3) ls (.long r :: rest))) : W p l e R s m args below meth c H locs cells slots Q (F0 m pc ls st0) := by
  refine vp_callSl (W.runS (rest := rest) S hM cw ⟨z_bp _ _ _, z_pre hP hK hN hs _⟩ rfl hn hsz hst (lv_room hW) hdg hf) (fun z hz => ?_)
  rw [hz]; exact kk
theorem z_csV (S : CallFix p m c cc nL s args Ts own) (hM : z_pV l y ws fr lo X As wc) (cw : CallB R s args own index y bytes maxL ret ws (z_R fr lo) 0 0 n ∧ (Cond.static y).before args s = true) (hP : va_P X.1 vwCl W0 H) (hK : va_K X.1 vwCl (z_ty X) s) (hN : z_N s) (hs : z_S W0 wc) (hf : cells ≤ R.cells ∧ slots ≤ R.slots) (hn : As.length = n) (hsz : ls.size = nL) (hst : st0 = As.reverse ++ rest) (hW : (rest.map fun v => v.category).sum ≤ 8) (hdg : decode cc pc = .ok (.invokestatic index, 3)) (kk : W p l e R s m args below meth c H locs cells slots Q (F0 m (pc + 3) ls rest)) : W p l e R s m args below meth c H locs cells slots Q (F0 m pc ls st0) :=
  va_csv (W.runS (rest := rest) S hM cw ⟨z_bp _ _ _, z_pre hP hK hN hs _⟩ rfl hn hsz hst (lv_room hW) hdg hf) (fun _ => kk)
-- writing
theorem z_cmV {W1 wc1 : va_W} {ci : Nat} {q : vw_C} {fs : List Value} (S : CallFix p m c cc nL s args Ts own) (hM : z_mV l y ws fr lo X (.ref b :: As) wc wc1) (cw : CallW R s args own C index y bytes maxL ret ws (z_R fr lo) 0 0 n) (hP : va_P X.1 vwCl W0 H) (hK : va_K X.1 vwCl (z_ty X) s) (hN : z_N s) (hD : va_D A W0) (hS : va_S A H0 H locs) (hA : ∀ q, H0.size ≤ q → A q) (hs : z_S W0 wc) (hF : z_F W0 wc W1 wc1) (hc : vwCl[ci]? = some q) (hq : q.1 = C) (he : wc[0]? = some (b, .inr (ci, fs))) (hf : cells ≤ R.cells ∧ slots ≤ R.slots) (hn : As.length = n) (hsz : ls.size = nL) (hst : st0 = As.reverse ++ .ref b :: rest) (hW : (rest.map fun v => v.category).sum ≤ 8) (hdg : decode cc pc = .ok (.invokevirtual index, 3)) (kk : ∀ (H1 : Heap) (locs1 : List Loc), va_P X.1 vwCl W1 H1 → va_D A W1 → va_S A H0 H1 locs1 → W p l e R s m args below meth c H1 locs1 cells slots Q (F0 m (pc + 3) ls rest)) : W p l e R s m args below meth c H locs cells slots Q (F0 m pc ls st0) := by
  have hfr := hs.free hD hS hA
  refine va_callv (va_runV (rest := rest) S (hM H.size) cw ⟨z_bm _ _ _ _, z_recv hP hK hN hs hc hq he, z_prem hP hK hN hD hs _⟩ rfl hn hsz hst (lv_room hW) hdg hf) hS (fun q _ h => hfr q h) hfr (fun u t H1 locs1 ht hvm hw hB hz1 hk1 hS1 => ?_)
  subst hw
  obtain ⟨hP1, hD1⟩ := hB
  rw [ht] at hP1
  obtain ⟨a, b⟩ := z_join hF hP hD hk1 hfr hP1 hD1
  exact kk H1 locs1 a b hS1
theorem z_cmI {r : Int32} {W1 wc1 : va_W} {ci : Nat} {q : vw_C} {fs : List Value} (S : CallFix p m c cc nL s args Ts own) (hM : z_mI l y ws fr lo X (.ref b :: As) wc r wc1) (cw : CallW R s args own C index y bytes maxL ret ws (z_R fr lo) 0 0 n) (hP : va_P X.1 vwCl W0 H) (hK : va_K X.1 vwCl (z_ty X) s) (hN : z_N s) (hD : va_D A W0) (hS : va_S A H0 H locs) (hA : ∀ q, H0.size ≤ q → A q) (hs : z_S W0 wc) (hF : z_F W0 wc W1 wc1) (hc : vwCl[ci]? = some q) (hq : q.1 = C) (he : wc[0]? = some (b, .inr (ci, fs))) (hf : cells ≤ R.cells ∧ slots ≤ R.slots) (hn : As.length = n) (hsz : ls.size = nL) (hst : st0 = As.reverse ++ .ref b :: rest) (hW : (rest.map fun v => v.category).sum ≤ 8) (hdg : decode cc pc = .ok (.invokevirtual index, 3)) (kk : ∀ (H1 : Heap) (locs1 : List Loc), va_P X.1 vwCl W1 H1 → va_D A W1 → va_S A H0 H1 locs1 → W p l e R s m args below meth c H1 locs1 cells slots Q (F0 m (pc + 3) ls (.int r :: rest))) : W p l e R s m args below meth c H locs cells slots Q (F0 m pc ls st0) := by
  have hfr := hs.free hD hS hA
  refine va_calli (va_runV (rest := rest) S (hM H.size) cw ⟨z_bm _ _ _ _, z_recv hP hK hN hs hc hq he, z_prem hP hK hN hD hs _⟩ rfl hn hsz hst (lv_room hW) hdg hf) hS (fun q _ h => hfr q h) hfr (fun z u t H1 locs1 ht hvm hw hB hz1 hk1 hS1 => ?_)
  obtain ⟨rfl, rfl⟩ := hw
  obtain ⟨hP1, hD1⟩ := hB
  rw [ht] at hP1
  obtain ⟨a, b⟩ := z_join hF hP hD hk1 hfr hP1 hD1
  exact kk H1 locs1 a b hS1
theorem z_cmL {r : Int64} {W1 wc1 : va_W} {ci : Nat} {q : vw_C} {fs : List Value} (S : CallFix p m c cc nL s args Ts own) (hM : z_mL l y ws fr lo X (.ref b :: As) wc r wc1) (cw : CallW R s args own C index y bytes maxL ret ws (z_R fr lo) 0 0 n) (hP : va_P X.1 vwCl W0 H) (hK : va_K X.1 vwCl (z_ty X) s) (hN : z_N s) (hD : va_D A W0) (hS : va_S A H0 H locs) (hA : ∀ q, H0.size ≤ q → A q) (hs : z_S W0 wc) (hF : z_F W0 wc W1 wc1) (hc : vwCl[ci]? = some q) (hq : q.1 = C) (he : wc[0]? = some (b, .inr (ci, fs))) (hf : cells ≤ R.cells ∧ slots ≤ R.slots) (hn : As.length = n) (hsz : ls.size = nL) (hst : st0 = As.reverse ++ .ref b :: rest) (hW : (rest.map fun v => v.category).sum ≤ 8) (hdg : decode cc pc = .ok (.invokevirtual index, 3)) (kk : ∀ (H1 : Heap) (locs1 : List Loc), va_P X.1 vwCl W1 H1 → va_D A W1 → va_S A H0 H1 locs1 → W p l e R s m args below meth c H1 locs1 cells slots Q (F0 m (pc + 3) ls (.long r :: rest))) : W p l e R s m args below meth c H locs cells slots Q (F0 m pc ls st0) := by
  have hfr := hs.free hD hS hA
  refine va_calll (va_runV (rest := rest) S (hM H.size) cw ⟨z_bm _ _ _ _, z_recv hP hK hN hs hc hq he, z_prem hP hK hN hD hs _⟩ rfl hn hsz hst (lv_room hW) hdg hf) hS (fun q _ h => hfr q h) hfr (fun z u t H1 locs1 ht hvm hw hB hz1 hk1 hS1 => ?_)
  obtain ⟨rfl, rfl⟩ := hw
  obtain ⟨hP1, hD1⟩ := hB
  rw [ht] at hP1
  obtain ⟨a, b⟩ := z_join hF hP hD hk1 hfr hP1 hD1
  exact kk H1 locs1 a b hS1
end ZC
