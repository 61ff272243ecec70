section
-- ===== PART A: goes FIRST, ahead of the names: the tables' words, and 'selects' of the private methods out of them =====
/-- a private method of a class that the tables say can be made, by its rows of tables_1 -/
def lw_okq (q : MethodName × Nat) : Prop := (q.1.cls ≠ "java/lang/invoke/MethodHandle" ∧ q.1.cls ≠ "java/lang/invoke/VarHandle") ∧ Cond.instantiable q.1.cls q.2 ∈ tables_1 ∧ Cond.privateMethod q.1 ∈ tables_1 ∧ Cond.instanceMethod q.1 ∈ tables_1
theorem lw_p0 : lw_okq (⟨"java/lang/Throwable", "fillInStackTrace", "(I)Ljava/lang/Throwable;"⟩, 6) := ⟨⟨by decide +kernel, by decide +kernel⟩, List.mem_of_getElem? (i := 302) (by decide +kernel), List.mem_of_getElem? (i := 300) (by decide +kernel), List.mem_of_getElem? (i := 301) (by decide +kernel)⟩
theorem lw_p1 : lw_okq (⟨"HouseBells", "serveInTrial", "(I)I"⟩, 2) := ⟨⟨by decide +kernel, by decide +kernel⟩, List.mem_of_getElem? (i := 16) (by decide +kernel), List.mem_of_getElem? (i := 349) (by decide +kernel), List.mem_of_getElem? (i := 350) (by decide +kernel)⟩
theorem lw_p2 : lw_okq (⟨"HouseBells$House", "letRoomsWait", "()V"⟩, 15) := ⟨⟨by decide +kernel, by decide +kernel⟩, List.mem_of_getElem? (i := 24) (by decide +kernel), List.mem_of_getElem? (i := 361) (by decide +kernel), List.mem_of_getElem? (i := 362) (by decide +kernel)⟩
theorem lw_p3 : lw_okq (⟨"HouseBells$House", "letServantsMove", "()V"⟩, 15) := ⟨⟨by decide +kernel, by decide +kernel⟩, List.mem_of_getElem? (i := 24) (by decide +kernel), List.mem_of_getElem? (i := 387) (by decide +kernel), List.mem_of_getElem? (i := 388) (by decide +kernel)⟩
theorem lw_p4 : lw_okq (⟨"HouseBells$House", "arrive", "(II)V"⟩, 15) := ⟨⟨by decide +kernel, by decide +kernel⟩, List.mem_of_getElem? (i := 24) (by decide +kernel), List.mem_of_getElem? (i := 401) (by decide +kernel), List.mem_of_getElem? (i := 402) (by decide +kernel)⟩
theorem lw_p5 : lw_okq (⟨"HouseBells$House", "sendIdleServants", "()V"⟩, 15) := ⟨⟨by decide +kernel, by decide +kernel⟩, List.mem_of_getElem? (i := 24) (by decide +kernel), List.mem_of_getElem? (i := 405) (by decide +kernel), List.mem_of_getElem? (i := 406) (by decide +kernel)⟩
theorem lw_p6 : lw_okq (⟨"HouseBells", "requireRoom", "(I)V"⟩, 2) := ⟨⟨by decide +kernel, by decide +kernel⟩, List.mem_of_getElem? (i := 16) (by decide +kernel), List.mem_of_getElem? (i := 429) (by decide +kernel), List.mem_of_getElem? (i := 430) (by decide +kernel)⟩
theorem lw_p7 : lw_okq (⟨"HouseBells", "requireServant", "(I)V"⟩, 2) := ⟨⟨by decide +kernel, by decide +kernel⟩, List.mem_of_getElem? (i := 16) (by decide +kernel), List.mem_of_getElem? (i := 503) (by decide +kernel), List.mem_of_getElem? (i := 504) (by decide +kernel)⟩
theorem lw_p8 : lw_okq (⟨"HouseBellsModel", "no", "(I)I"⟩, 11) := ⟨⟨by decide +kernel, by decide +kernel⟩, List.mem_of_getElem? (i := 697) (by decide +kernel), List.mem_of_getElem? (i := 749) (by decide +kernel), List.mem_of_getElem? (i := 750) (by decide +kernel)⟩
theorem lw_p9 : lw_okq (⟨"HouseBellsModel", "isRoom", "(I)Z"⟩, 11) := ⟨⟨by decide +kernel, by decide +kernel⟩, List.mem_of_getElem? (i := 697) (by decide +kernel), List.mem_of_getElem? (i := 761) (by decide +kernel), List.mem_of_getElem? (i := 762) (by decide +kernel)⟩
theorem lw_p10 : lw_okq (⟨"HouseBellsModel", "isKnown", "(Z)Z"⟩, 11) := ⟨⟨by decide +kernel, by decide +kernel⟩, List.mem_of_getElem? (i := 697) (by decide +kernel), List.mem_of_getElem? (i := 765) (by decide +kernel), List.mem_of_getElem? (i := 766) (by decide +kernel)⟩
theorem lw_p11 : lw_okq (⟨"HouseBellsModel", "rings", "(I)Z"⟩, 11) := ⟨⟨by decide +kernel, by decide +kernel⟩, List.mem_of_getElem? (i := 697) (by decide +kernel), List.mem_of_getElem? (i := 769) (by decide +kernel), List.mem_of_getElem? (i := 770) (by decide +kernel)⟩
theorem lw_p12 : lw_okq (⟨"HouseBellsModel", "inLine", "(I)I"⟩, 11) := ⟨⟨by decide +kernel, by decide +kernel⟩, List.mem_of_getElem? (i := 697) (by decide +kernel), List.mem_of_getElem? (i := 773) (by decide +kernel), List.mem_of_getElem? (i := 774) (by decide +kernel)⟩
theorem lw_p13 : lw_okq (⟨"HouseBellsModel", "swap", "(II)V"⟩, 11) := ⟨⟨by decide +kernel, by decide +kernel⟩, List.mem_of_getElem? (i := 697) (by decide +kernel), List.mem_of_getElem? (i := 781) (by decide +kernel), List.mem_of_getElem? (i := 782) (by decide +kernel)⟩
theorem lw_p14 : lw_okq (⟨"HouseBellsModel", "turn", "(IZ)I"⟩, 11) := ⟨⟨by decide +kernel, by decide +kernel⟩, List.mem_of_getElem? (i := 697) (by decide +kernel), List.mem_of_getElem? (i := 789) (by decide +kernel), List.mem_of_getElem? (i := 790) (by decide +kernel)⟩
theorem lw_p15 : lw_okq (⟨"HouseBellsModel", "manyCut", "()I"⟩, 11) := ⟨⟨by decide +kernel, by decide +kernel⟩, List.mem_of_getElem? (i := 697) (by decide +kernel), List.mem_of_getElem? (i := 793) (by decide +kernel), List.mem_of_getElem? (i := 794) (by decide +kernel)⟩
def lw_privs_1 : List (MethodName × Nat) := [(⟨"java/lang/Throwable", "fillInStackTrace", "(I)Ljava/lang/Throwable;"⟩, 6), (⟨"HouseBells", "serveInTrial", "(I)I"⟩, 2), (⟨"HouseBells$House", "letRoomsWait", "()V"⟩, 15), (⟨"HouseBells$House", "letServantsMove", "()V"⟩, 15), (⟨"HouseBells$House", "arrive", "(II)V"⟩, 15), (⟨"HouseBells$House", "sendIdleServants", "()V"⟩, 15), (⟨"HouseBells", "requireRoom", "(I)V"⟩, 2), (⟨"HouseBells", "requireServant", "(I)V"⟩, 2), (⟨"HouseBellsModel", "no", "(I)I"⟩, 11), (⟨"HouseBellsModel", "isRoom", "(I)Z"⟩, 11), (⟨"HouseBellsModel", "isKnown", "(Z)Z"⟩, 11), (⟨"HouseBellsModel", "rings", "(I)Z"⟩, 11), (⟨"HouseBellsModel", "inLine", "(I)I"⟩, 11), (⟨"HouseBellsModel", "swap", "(II)V"⟩, 11), (⟨"HouseBellsModel", "turn", "(IZ)I"⟩, 11), (⟨"HouseBellsModel", "manyCut", "()I"⟩, 11)]
theorem lw_r1 : ∀ q ∈ lw_privs_1, lw_okq q := List.forall_mem_cons.mpr ⟨lw_p0, List.forall_mem_cons.mpr ⟨lw_p1, List.forall_mem_cons.mpr ⟨lw_p2, List.forall_mem_cons.mpr ⟨lw_p3, List.forall_mem_cons.mpr ⟨lw_p4, List.forall_mem_cons.mpr ⟨lw_p5, List.forall_mem_cons.mpr ⟨lw_p6, List.forall_mem_cons.mpr ⟨lw_p7, List.forall_mem_cons.mpr ⟨lw_p8, List.forall_mem_cons.mpr ⟨lw_p9, List.forall_mem_cons.mpr ⟨lw_p10, List.forall_mem_cons.mpr ⟨lw_p11, List.forall_mem_cons.mpr ⟨lw_p12, List.forall_mem_cons.mpr ⟨lw_p13, List.forall_mem_cons.mpr ⟨lw_p14, List.forall_mem_cons.mpr ⟨lw_p15, fun _ h => absurd h List.not_mem_nil⟩⟩⟩⟩⟩⟩⟩⟩⟩⟩⟩⟩⟩⟩⟩⟩
theorem lw_p16 : lw_okq (⟨"HouseBellsModel", "takeOut", "(I)V"⟩, 11) := ⟨⟨by decide +kernel, by decide +kernel⟩, List.mem_of_getElem? (i := 697) (by decide +kernel), List.mem_of_getElem? (i := 809) (by decide +kernel), List.mem_of_getElem? (i := 810) (by decide +kernel)⟩
theorem lw_p17 : lw_okq (⟨"HouseBellsModel", "minutesOn", "(I)V"⟩, 11) := ⟨⟨by decide +kernel, by decide +kernel⟩, List.mem_of_getElem? (i := 697) (by decide +kernel), List.mem_of_getElem? (i := 817) (by decide +kernel), List.mem_of_getElem? (i := 818) (by decide +kernel)⟩
theorem lw_p18 : lw_okq (⟨"HouseBellsModel", "minuteOn", "()V"⟩, 11) := ⟨⟨by decide +kernel, by decide +kernel⟩, List.mem_of_getElem? (i := 697) (by decide +kernel), List.mem_of_getElem? (i := 821) (by decide +kernel), List.mem_of_getElem? (i := 822) (by decide +kernel)⟩
theorem lw_p19 : lw_okq (⟨"HouseBellsModel", "hold", "(I)V"⟩, 11) := ⟨⟨by decide +kernel, by decide +kernel⟩, List.mem_of_getElem? (i := 697) (by decide +kernel), List.mem_of_getElem? (i := 825) (by decide +kernel), List.mem_of_getElem? (i := 826) (by decide +kernel)⟩
theorem lw_p20 : lw_okq (⟨"HouseBellsModel", "work", "(I)V"⟩, 11) := ⟨⟨by decide +kernel, by decide +kernel⟩, List.mem_of_getElem? (i := 697) (by decide +kernel), List.mem_of_getElem? (i := 829) (by decide +kernel), List.mem_of_getElem? (i := 830) (by decide +kernel)⟩
theorem lw_p21 : lw_okq (⟨"HouseBellsModel", "comeTo", "(II)V"⟩, 11) := ⟨⟨by decide +kernel, by decide +kernel⟩, List.mem_of_getElem? (i := 697) (by decide +kernel), List.mem_of_getElem? (i := 833) (by decide +kernel), List.mem_of_getElem? (i := 834) (by decide +kernel)⟩
theorem lw_p22 : lw_okq (⟨"HouseBellsModel", "give", "(IIII)V"⟩, 11) := ⟨⟨by decide +kernel, by decide +kernel⟩, List.mem_of_getElem? (i := 697) (by decide +kernel), List.mem_of_getElem? (i := 837) (by decide +kernel), List.mem_of_getElem? (i := 838) (by decide +kernel)⟩
theorem lw_p23 : lw_okq (⟨"HouseBellsModel", "sends", "()Z"⟩, 11) := ⟨⟨by decide +kernel, by decide +kernel⟩, List.mem_of_getElem? (i := 697) (by decide +kernel), List.mem_of_getElem? (i := 841) (by decide +kernel), List.mem_of_getElem? (i := 842) (by decide +kernel)⟩
theorem lw_p24 : lw_okq (⟨"HouseBellsModel", "nearest", "(I)I"⟩, 11) := ⟨⟨by decide +kernel, by decide +kernel⟩, List.mem_of_getElem? (i := 697) (by decide +kernel), List.mem_of_getElem? (i := 845) (by decide +kernel), List.mem_of_getElem? (i := 846) (by decide +kernel)⟩
theorem lw_p25 : lw_okq (⟨"HouseBellsModel", "way", "(II)I"⟩, 11) := ⟨⟨by decide +kernel, by decide +kernel⟩, List.mem_of_getElem? (i := 697) (by decide +kernel), List.mem_of_getElem? (i := 849) (by decide +kernel), List.mem_of_getElem? (i := 850) (by decide +kernel)⟩
theorem lw_p26 : lw_okq (⟨"HouseBellsModel", "ok", "(I)I"⟩, 11) := ⟨⟨by decide +kernel, by decide +kernel⟩, List.mem_of_getElem? (i := 697) (by decide +kernel), List.mem_of_getElem? (i := 863) (by decide +kernel), List.mem_of_getElem? (i := 864) (by decide +kernel)⟩
theorem lw_p27 : lw_okq (⟨"HouseBellsModel", "leads", "(I)I"⟩, 11) := ⟨⟨by decide +kernel, by decide +kernel⟩, List.mem_of_getElem? (i := 697) (by decide +kernel), List.mem_of_getElem? (i := 903) (by decide +kernel), List.mem_of_getElem? (i := 904) (by decide +kernel)⟩
theorem lw_p28 : lw_okq (⟨"HouseBellsModel", "longest", "()I"⟩, 11) := ⟨⟨by decide +kernel, by decide +kernel⟩, List.mem_of_getElem? (i := 697) (by decide +kernel), List.mem_of_getElem? (i := 919) (by decide +kernel), List.mem_of_getElem? (i := 920) (by decide +kernel)⟩
theorem lw_p29 : lw_okq (⟨"HouseBellsModel", "manyCrossed", "()I"⟩, 11) := ⟨⟨by decide +kernel, by decide +kernel⟩, List.mem_of_getElem? (i := 697) (by decide +kernel), List.mem_of_getElem? (i := 927) (by decide +kernel), List.mem_of_getElem? (i := 928) (by decide +kernel)⟩
theorem lw_p30 : lw_okq (⟨"HouseBellsModel", "crossings", "()I"⟩, 11) := ⟨⟨by decide +kernel, by decide +kernel⟩, List.mem_of_getElem? (i := 697) (by decide +kernel), List.mem_of_getElem? (i := 935) (by decide +kernel), List.mem_of_getElem? (i := 936) (by decide +kernel)⟩
theorem lw_p31 : lw_okq (⟨"HouseBellsModel", "head", "()I"⟩, 11) := ⟨⟨by decide +kernel, by decide +kernel⟩, List.mem_of_getElem? (i := 697) (by decide +kernel), List.mem_of_getElem? (i := 955) (by decide +kernel), List.mem_of_getElem? (i := 956) (by decide +kernel)⟩
def lw_privs_2 : List (MethodName × Nat) := [(⟨"HouseBellsModel", "takeOut", "(I)V"⟩, 11), (⟨"HouseBellsModel", "minutesOn", "(I)V"⟩, 11), (⟨"HouseBellsModel", "minuteOn", "()V"⟩, 11), (⟨"HouseBellsModel", "hold", "(I)V"⟩, 11), (⟨"HouseBellsModel", "work", "(I)V"⟩, 11), (⟨"HouseBellsModel", "comeTo", "(II)V"⟩, 11), (⟨"HouseBellsModel", "give", "(IIII)V"⟩, 11), (⟨"HouseBellsModel", "sends", "()Z"⟩, 11), (⟨"HouseBellsModel", "nearest", "(I)I"⟩, 11), (⟨"HouseBellsModel", "way", "(II)I"⟩, 11), (⟨"HouseBellsModel", "ok", "(I)I"⟩, 11), (⟨"HouseBellsModel", "leads", "(I)I"⟩, 11), (⟨"HouseBellsModel", "longest", "()I"⟩, 11), (⟨"HouseBellsModel", "manyCrossed", "()I"⟩, 11), (⟨"HouseBellsModel", "crossings", "()I"⟩, 11), (⟨"HouseBellsModel", "head", "()I"⟩, 11)]
theorem lw_r2 : ∀ q ∈ lw_privs_2, lw_okq q := List.forall_mem_cons.mpr ⟨lw_p16, List.forall_mem_cons.mpr ⟨lw_p17, List.forall_mem_cons.mpr ⟨lw_p18, List.forall_mem_cons.mpr ⟨lw_p19, List.forall_mem_cons.mpr ⟨lw_p20, List.forall_mem_cons.mpr ⟨lw_p21, List.forall_mem_cons.mpr ⟨lw_p22, List.forall_mem_cons.mpr ⟨lw_p23, List.forall_mem_cons.mpr ⟨lw_p24, List.forall_mem_cons.mpr ⟨lw_p25, List.forall_mem_cons.mpr ⟨lw_p26, List.forall_mem_cons.mpr ⟨lw_p27, List.forall_mem_cons.mpr ⟨lw_p28, List.forall_mem_cons.mpr ⟨lw_p29, List.forall_mem_cons.mpr ⟨lw_p30, List.forall_mem_cons.mpr ⟨lw_p31, fun _ h => absurd h List.not_mem_nil⟩⟩⟩⟩⟩⟩⟩⟩⟩⟩⟩⟩⟩⟩⟩⟩
theorem lw_p32 : lw_okq (⟨"HouseBellsModel", "left", "(I)I"⟩, 11) := ⟨⟨by decide +kernel, by decide +kernel⟩, List.mem_of_getElem? (i := 697) (by decide +kernel), List.mem_of_getElem? (i := 963) (by decide +kernel), List.mem_of_getElem? (i := 964) (by decide +kernel)⟩
theorem lw_p33 : lw_okq (⟨"HouseBellsModel", "isServant", "(I)Z"⟩, 11) := ⟨⟨by decide +kernel, by decide +kernel⟩, List.mem_of_getElem? (i := 697) (by decide +kernel), List.mem_of_getElem? (i := 971) (by decide +kernel), List.mem_of_getElem? (i := 972) (by decide +kernel)⟩
theorem lw_p34 : lw_okq (⟨"HouseBellsModel", "whom", "(II)I"⟩, 11) := ⟨⟨by decide +kernel, by decide +kernel⟩, List.mem_of_getElem? (i := 697) (by decide +kernel), List.mem_of_getElem? (i := 979) (by decide +kernel), List.mem_of_getElem? (i := 980) (by decide +kernel)⟩
theorem lw_p35 : lw_okq (⟨"HouseBellsModel", "untilServed", "(I)I"⟩, 11) := ⟨⟨by decide +kernel, by decide +kernel⟩, List.mem_of_getElem? (i := 697) (by decide +kernel), List.mem_of_getElem? (i := 1003) (by decide +kernel), List.mem_of_getElem? (i := 1004) (by decide +kernel)⟩
theorem lw_p36 : lw_okq (⟨"HouseBellsModel", "keep", "()V"⟩, 11) := ⟨⟨by decide +kernel, by decide +kernel⟩, List.mem_of_getElem? (i := 697) (by decide +kernel), List.mem_of_getElem? (i := 1007) (by decide +kernel), List.mem_of_getElem? (i := 1008) (by decide +kernel)⟩
theorem lw_p37 : lw_okq (⟨"HouseBellsModel", "isServed", "(I)Z"⟩, 11) := ⟨⟨by decide +kernel, by decide +kernel⟩, List.mem_of_getElem? (i := 697) (by decide +kernel), List.mem_of_getElem? (i := 1014) (by decide +kernel), List.mem_of_getElem? (i := 1015) (by decide +kernel)⟩
theorem lw_p38 : lw_okq (⟨"HouseBellsModel", "bringBack", "()V"⟩, 11) := ⟨⟨by decide +kernel, by decide +kernel⟩, List.mem_of_getElem? (i := 697) (by decide +kernel), List.mem_of_getElem? (i := 1018) (by decide +kernel), List.mem_of_getElem? (i := 1019) (by decide +kernel)⟩
theorem lw_p39 : lw_okq (⟨"HouseBellsModel", "soon", "(I)I"⟩, 11) := ⟨⟨by decide +kernel, by decide +kernel⟩, List.mem_of_getElem? (i := 697) (by decide +kernel), List.mem_of_getElem? (i := 1026) (by decide +kernel), List.mem_of_getElem? (i := 1027) (by decide +kernel)⟩
theorem lw_p40 : lw_okq (⟨"HouseBellsModel", "best", "(I)I"⟩, 11) := ⟨⟨by decide +kernel, by decide +kernel⟩, List.mem_of_getElem? (i := 697) (by decide +kernel), List.mem_of_getElem? (i := 1034) (by decide +kernel), List.mem_of_getElem? (i := 1035) (by decide +kernel)⟩
def lw_privs_3 : List (MethodName × Nat) := [(⟨"HouseBellsModel", "left", "(I)I"⟩, 11), (⟨"HouseBellsModel", "isServant", "(I)Z"⟩, 11), (⟨"HouseBellsModel", "whom", "(II)I"⟩, 11), (⟨"HouseBellsModel", "untilServed", "(I)I"⟩, 11), (⟨"HouseBellsModel", "keep", "()V"⟩, 11), (⟨"HouseBellsModel", "isServed", "(I)Z"⟩, 11), (⟨"HouseBellsModel", "bringBack", "()V"⟩, 11), (⟨"HouseBellsModel", "soon", "(I)I"⟩, 11), (⟨"HouseBellsModel", "best", "(I)I"⟩, 11)]
theorem lw_r3 : ∀ q ∈ lw_privs_3, lw_okq q := List.forall_mem_cons.mpr ⟨lw_p32, List.forall_mem_cons.mpr ⟨lw_p33, List.forall_mem_cons.mpr ⟨lw_p34, List.forall_mem_cons.mpr ⟨lw_p35, List.forall_mem_cons.mpr ⟨lw_p36, List.forall_mem_cons.mpr ⟨lw_p37, List.forall_mem_cons.mpr ⟨lw_p38, List.forall_mem_cons.mpr ⟨lw_p39, List.forall_mem_cons.mpr ⟨lw_p40, fun _ h => absurd h List.not_mem_nil⟩⟩⟩⟩⟩⟩⟩⟩⟩
def lw_privs : List (MethodName × Nat) := lw_privs_1 ++ (lw_privs_2 ++ (lw_privs_3))
def lw_tbl : List Cond := k2_sels lw_privs ++ tables_1
theorem lw_privs_ok : ∀ q ∈ lw_privs, lw_okq q := by
  show ∀ q ∈ lw_privs_1 ++ (lw_privs_2 ++ (lw_privs_3)), lw_okq q
  exact List.forall_mem_append.mpr ⟨lw_r1, List.forall_mem_append.mpr ⟨lw_r2, lw_r3⟩⟩
/-- the streams that the claim lets the run draw from -/
abbrev lw_cs : List Choice := [Jvm.Choice.named "NaN.bits"]
theorem lw_bits : nanBits ∈ lw_cs := by first | decide | exact List.mem_cons_self | simp [lw_cs, nanBits]
end
section
/-! ===== BEGIN words of one list among another's, by their places ===== -/
theorem goodIn_r {big : List Cond} (ws : List Cond) (ps : List Nat) (hp : ws = ps.filterMap (fun i => big[i]?)) (h : ws.all goodWord = true) : GoodIn big ws := by
  intro w hw
  have h1 := List.all_eq_true.mp h w hw
  rw [hp] at hw
  obtain ⟨i, -, hi⟩ := List.mem_filterMap.mp hw
  have hm : w ∈ big := by first | exact List.mem_of_getElem? hi | exact List.getElem?_mem hi
  exact ⟨hm, good_of_word h1⟩
theorem goodIn_app {big a b : List Cond} (ha : GoodIn big a) (hb : GoodIn big b) : GoodIn big (a ++ b) := fun w h => (List.mem_append.mp h).elim (ha w) (hb w)
theorem goodIn_ca {big a b : List Cond} {c : Cond} (ha : GoodIn big (c :: a)) (hb : GoodIn big b) : GoodIn big (c :: (a ++ b)) := fun w h => (List.mem_cons.mp h).elim (fun e => ha w (List.mem_cons.mpr (Or.inl e))) (fun h => (List.mem_append.mp h).elim (fun h => ha w (List.mem_cons.mpr (Or.inr h))) (hb w))
theorem goodIn_sub {big ws : List Cond} (hm : ∀ w ∈ ws, w ∈ big) (h : ws.all goodWord = true) : GoodIn big ws := fun w hw => ⟨hm w hw, good_of_word (List.all_eq_true.mp h w hw)⟩
/-! ===== END ===== -/

/-! ===== BEGIN exceptions that leave a method, and their catching by the caller (launches without stack traces) ===== -/
section VXA
/-! The laws vx_back, vx_callV, vx_callS, vx_callSW, vx_throw0, vx_throwS follow proofs of the library, with one case more: JvmDerived/Free/Laws.lean (Back.of_free), Shelf42/LK1.lean (callV, callS), Shelf/KitTraced.lean (throwNew0V, throwNewS). -/
/-- where a method has thrown q: the class by its name, the cell, what was written, the world -/
def vx_T (XC : String → State → State → Prop) (st : State) (q : Addr) (t : State) (mc ms : Nat) (free : Addr → Prop) : Prop :=
  ∃ (E : String) (ce : Cell) (L : List Loc), XC E st t ∧ t.heap[q]? = some ce ∧ ce.vm = .none ∧ st.vm.findClass E = some ce.cls ∧ st.WarmedH t.vm ∧ st.sameButNew ({ t with vm := st.vm } : State) L mc ms ∧ ∀ z ∈ L, free z.base
def vx_Q (Qc : Array Value → State → Outcome → State → Prop) (XC : String → State → State → Prop) (mc ms : Nat) (free : Addr → Prop) : Array Value → State → Outcome → State → Prop := fun a st o t =>
  (Qc a st o t ∧ ∃ L, FrameEnd st o t L mc ms ∧ ∀ q ∈ L, free q.base) ∨ ∃ q, o = .threw q ∧ vx_T XC st q t mc ms free
/-- a callee that returns or throws -/
def vx_Met (l : Launch) (y : MethodName) (ws : List Cond) (rm : Room) (Pc : Array Value → State → Prop) (Qc : Array Value → State → Outcome → State → Prop) (XC : String → State → State → Prop) (mc ms : Nat) (free : Addr → Prop) : Prop :=
  MetFree l y (headSpec ws rm) Pc (fun _ _ _ _ _ => True) (vx_Q Qc XC mc ms free)
def vx_Post (XC : String → State → State → Prop) (mc ms : Nat) (free : Addr → Prop) : Pt → Array Value → Addr → Pt → Prop := fun A a q B =>
  ∃ (g : JFrame) (mk : MethodId) (t : State) (L : List Loc) (E : String) (ce : Cell), B.U.heap = t.heap ∧ B.U.vm = t.vm ∧ XC E (A.U.calling g mk a) t ∧ t.heap[q]? = some ce ∧ ce.vm = .none ∧ A.U.vm.findClass E = some ce.cls ∧ B.locs = A.locs ++ L ∧ (∀ z ∈ L, free z.base) ∧ B.cells = A.cells + mc ∧ B.slots = A.slots + ms
def vx_Back (l : Launch) (R : Room) (p : Program) (e : Env) (below : List Frame) (s : State) (sargs : Array Value) (y : MethodName) (len W9 : Nat)
    (Pre : Pt → Array Value → Prop) (Post : Pt → Array Value → Option Value → Pt → Prop) (PostX : Pt → Array Value → Addr → Pt → Prop) : Prop :=
  ∀ (m : MethodId) (meth : Method) (c : Code) (A : Pt) (g : JFrame) (ig : Instr) (mk : MethodId) (a : Array Value),
    Stand p l e R s m sargs below meth c A.U A.locs A.cells A.slots → g.method = m → g.locals.size = c.maxLocals → decode c.code g.pc = .ok (ig, len) →
    2 * g.monitorRoom + (g.stack.map fun v => v.category).sum ≤ W9 → A.U.methodNamed? y = some mk → Pre A a →
    (∃ (v : Option Value) (B : Pt), Stand p l e R s m sargs below meth c B.U B.locs B.cells B.slots ∧ Post A a v B ∧
      Steps p.tables e below (doInvoke e (A.U.setTop g) [] mk a).1 (B.U.setTop { g with pc := g.pc + len, stack := v.toList ++ g.stack })) ∨
    (∃ (q : Addr) (B : Pt), Stand p l e R s m sargs below meth c B.U B.locs B.cells B.slots ∧ PostX A a q B ∧
      Steps p.tables e below (doInvoke e (A.U.setTop g) [] mk a).1 ((B.U.setTop g).pushFrame (.throwing q)))
section Payer
variable {l : Launch} {R : Room} {p : Program} {e : Env} {below : List Frame} {s : State} {sargs : Array Value} {y : MethodName} {len W9 : Nat}
theorem vx_back {ws : List Cond} {rm : Room} {Pc : Array Value → State → Prop} {Qc : Array Value → State → Outcome → State → Prop} {XC : String → State → State → Prop} {mc ms : Nat} {free : Addr → Prop} {bytes : ByteArray} {maxL : Nat} {ret : Option FieldType}
    (hM : vx_Met l y ws rm Pc Qc XC mc ms free) (hblind : FrameBlind Pc) (hrc : rm.cells = mc) (hrs : rm.slots = ms)
    (hframes : rm.frames + 1 ≤ R.frames) (hlocals : W9 + (maxL + 11) + rm.locals ≤ R.locals)
    (hws : ∀ w ∈ ws, ∀ a' U, s.WarmedH U.vm → w.before a' U = true) (hcode : Cond.code y bytes maxL ret ∈ ws) (hinit : ∀ a' U, s.WarmedH U.vm → (Cond.initialized y.cls).before a' U = true) :
    vx_Back l R p e below s sargs y len W9 (PreOf R mc ms Pc) (PostOf Qc mc ms free) (vx_Post XC mc ms free) := by
  intro m meth c A g ig mk a X hg hsize hdg hW hn hp
  have h1 : (headSpec ws rm).pre.before a A.U = true := atoms_intro fun w hw => hws w hw _ _ X.warmed
  have h2 : (Cond.code y bytes maxL ret).before a A.U = true := hws _ hcode _ _ X.warmed
  have h3 : (Cond.initialized y.cls).before a A.U = true := hinit _ _ X.warmed
  have h4 : A.cells + (headSpec ws rm).room.cells ≤ R.cells := by rw [show (headSpec ws rm).room.cells = mc from hrc]; exact hp.1
  have h5 : A.slots + (headSpec ws rm).room.slots ≤ R.slots := by rw [show (headSpec ws rm).room.slots = ms from hrs]; exact hp.2.1
  have hPc : Pc a (A.U.calling g mk a) := hblind _ _ _ _ hp.2.2
  obtain ⟨U, Ls, c0, s0⟩ := A
  dsimp only [Pt.U, Pt.locs, Pt.cells, Pt.slots] at h1 h2 h3 h4 h5 X hn hPc ⊢
  obtain ⟨methY, cY, hmY, hcY, -, hlY, -, -, -, -⟩ := Cond.code_spec hn h2
  obtain ⟨kY, hkY, -⟩ := className_of_methodNamed hn
  have hinitY : kY.init = .initialized := Cond.initialized_spec (findClass_of_methodNamed hn) hkY h3
  have h : At U g.method c below := by rw [hg]; exact X.here
  have hlocals9 : W9 + (maxL + 11) + (headSpec ws rm).room.locals ≤ R.locals := hlocals
  have happ : (headSpec ws rm).appliesLoose y e.platform (U.calling g mk a) = true :=
    Spec.appliesLoose_calling (g := g) h hdg hn hkY hinitY
      (X.room_calling (g := g) (R' := (headSpec ws rm).room) hsize hmY hcY hframes (by rw [hlY]; omega) h4 h5) h1
  obtain ⟨mid, hmid⟩ := h.above
  have hfr : (U.setTop g).frames = (.java g :: mid) ++ below := by rw [State.frames_setTop' g h.top, hmid]; rfl
  obtain ⟨o, s₂, hsteps, -, hend, hq⟩ := Steps.callFree hM p X.admits X.cas X.clock (acts := []) hfr happ hPc trivial
  have hq' : vx_Q Qc XC mc ms free a (U.calling g mk a) o s₂ := hq
  rw [State.frames_setTop' g h.top] at hend
  obtain ⟨g₀, hg0⟩ := Option.isSome_iff_exists.mp h.top
  obtain ⟨r, hr⟩ := State.topJava?_eq_some.mp hg0
  have hr' : (({ U with heap := s₂.heap, slotsUsed := s₂.slotsUsed } : State).setVm s₂.vm).frames = .java g₀ :: r := hr
  rcases hq' with ⟨hqc, L, hfe, hL⟩ | ⟨q, rfl, E, ce, L, hx, hce, hcv, hcl, hW₂, hsm, hL⟩
  · obtain ⟨⟨v, rfl⟩, hW₂, e2, q2, q3, q4, q5, q6⟩ := id hfe
    have e3 : s₂ = ({ (U.calling g mk a).setFrames s₂.frames with heap := s₂.heap, slotsUsed := s₂.slotsUsed } : State).setVm s₂.vm := by
      have : s₂ = ({ s₂ with vm := (U.calling g mk a).vm } : State).setVm s₂.vm := rfl
      rw [e2] at this
      exact this
    obtain ⟨c₂, i₂, len₂, hc₂, hd₂, hf₂⟩ := hend
    have hW' : U.WarmedH s₂.vm := hW₂
    have hcc : c₂ = c := by
      have h1 : s₂.code? g.method = U.code? g.method := by
        rw [State.code?_eq, State.code?_eq, hW'.alike.method?]
      exact Option.some.inj (hc₂.symm.trans (h1.trans h.code))
    subst hcc
    have hlen : len₂ = len := by rw [hdg] at hd₂; cases hd₂; rfl
    subst hlen
    have hs₂ : s₂ = (({ U with heap := s₂.heap, slotsUsed := s₂.slotsUsed } : State).setVm s₂.vm).setTop { g with pc := g.pc + len₂, stack := v.toList ++ g.stack } := by
      refine e3.trans ?_
      rw [hf₂, State.calling_eq h.top, State.setFrames_setFrames, State.setTop_of_frames _ hr', hr]
      rfl
    have hsame : U.sameButNew ({ U with heap := s₂.heap, slotsUsed := s₂.slotsUsed } : State) L mc ms := by
      refine ⟨?_, q2, q3, q4, q5, q6⟩
      obtain ⟨t, ht, -⟩ := State.frames_cons hr
      show ({ U with heap := s₂.heap, slotsUsed := s₂.slotsUsed } : State) = { U.setFrames U.frames with heap := s₂.heap, slotsUsed := s₂.slotsUsed }
      rw [State.setFrames_self ht]
    subst hg
    refine Or.inl ⟨v, ⟨(({ U with heap := s₂.heap, slotsUsed := s₂.slotsUsed } : State).setVm s₂.vm), Ls ++ L, c0 + mc, s0 + ms⟩,
      ⟨X.admits, X.cas, X.clock, X.frames, X.room, X.hears, X.method, X.code, (X.here.setHeapUsed s₂.heap s₂.slotsUsed).setVm hW'.alike, X.tail, State.WarmedH.trans X.warmed hW', X.limits, X.bytes, X.same.trans (hsame.setVm s.vm)⟩,
      ⟨g, mk, s₂, L, rfl, rfl, hqc, rfl, hL, rfl, rfl⟩, ?_⟩
    show Steps p.tables e below _ ((({ U with heap := s₂.heap, slotsUsed := s₂.slotsUsed } : State).setVm s₂.vm).setTop { g with pc := g.pc + len₂, stack := v.toList ++ g.stack })
    rw [← hs₂]
    exact hsteps
  · obtain ⟨e2, q2, q3, q4, q5, q6⟩ := id hsm
    have e3 : s₂ = ({ (U.calling g mk a).setFrames s₂.frames with heap := s₂.heap, slotsUsed := s₂.slotsUsed } : State).setVm s₂.vm := by
      have : s₂ = ({ s₂ with vm := (U.calling g mk a).vm } : State).setVm s₂.vm := rfl
      rw [e2] at this
      exact this
    have hf₂ : s₂.frames = .throwing q :: .java g :: U.frames.tail := hend
    have hW' : U.WarmedH s₂.vm := hW₂
    have hs₂ : s₂ = ((({ U with heap := s₂.heap, slotsUsed := s₂.slotsUsed } : State).setVm s₂.vm).setTop g).pushFrame (.throwing q) := by
      refine e3.trans ?_
      rw [hf₂, State.calling_eq h.top, State.setFrames_setFrames, State.pushFrame, State.frames_setTop _ hr', State.setTop_of_frames _ hr', State.setFrames_setFrames, hr]
      rfl
    have hsame : U.sameButNew ({ U with heap := s₂.heap, slotsUsed := s₂.slotsUsed } : State) L mc ms := by
      refine ⟨?_, q2, q3, q4, q5, q6⟩
      obtain ⟨t, ht, -⟩ := State.frames_cons hr
      show ({ U with heap := s₂.heap, slotsUsed := s₂.slotsUsed } : State) = { U.setFrames U.frames with heap := s₂.heap, slotsUsed := s₂.slotsUsed }
      rw [State.setFrames_self ht]
    subst hg
    refine Or.inr ⟨q, ⟨(({ U with heap := s₂.heap, slotsUsed := s₂.slotsUsed } : State).setVm s₂.vm), Ls ++ L, c0 + mc, s0 + ms⟩,
      ⟨X.admits, X.cas, X.clock, X.frames, X.room, X.hears, X.method, X.code, (X.here.setHeapUsed s₂.heap s₂.slotsUsed).setVm hW'.alike, X.tail, State.WarmedH.trans X.warmed hW', X.limits, X.bytes, X.same.trans (hsame.setVm s.vm)⟩,
      ⟨g, mk, s₂, L, E, ce, rfl, rfl, hx, hce, hcv, hcl, rfl, hL, rfl, rfl⟩, ?_⟩
    show Steps p.tables e below _ (((({ U with heap := s₂.heap, slotsUsed := s₂.slotsUsed } : State).setVm s₂.vm).setTop g).pushFrame (.throwing q))
    rw [← hs₂]
    exact hsteps
end Payer
section Calls
variable {p : Program} {l : Launch} {e : Env} {R : Room} {s : State} {m : MethodId} {args : Array Value} {below : List Frame} {meth : Method} {c : Code} {T : State} {locs : List Loc} {cells slots : Nat}
theorem vx_callV (X : Stand p l e R s m args below meth c T locs cells slots) (hexec : p.tables.exec = Jvm.exec) {own C : String} {index : Nat} {y : MethodName} {bytes : ByteArray} {maxL : Nat} {ret : Option FieldType}
    (hown : s.vm.findClass own = some m.cls) (hlink : (Cond.methodLink own index y).before args s = true) (hinst : (Cond.instanceMethod y).before args s = true) (hsel : (Cond.selects C y y).before args s = true)
    (hcode : (Cond.code y bytes maxL ret).before args s = true) (hy : y.cls ≠ "java/lang/invoke/MethodHandle" ∧ y.cls ≠ "java/lang/invoke/VarHandle")
    {W9 : Nat} {Pre : Pt → Array Value → Prop} {Post : Pt → Array Value → Option Value → Pt → Prop} {PostX : Pt → Array Value → Addr → Pt → Prop} (hK : vx_Back l R p e below s args y 3 W9 Pre Post PostX)
    {b : Addr} {cellB : Cell} (hcell : T.heap[b]? = some cellB) (hobj : cellB.vm.isStatics = false) (hcls : s.vm.findClass C = some cellB.cls)
    {g : JFrame} (hg : g.method = m) (hsize : g.locals.size = c.maxLocals) {argsL rest : List Value} (hlen : ∀ sig, parseMethodDescriptor y.desc = some sig → argsL.length = sig.parameters.length)
    (hstack : g.stack = argsL.reverse ++ .ref b :: rest) (hW : 2 * g.monitorRoom + (rest.map fun v => v.category).sum ≤ W9) (hdg : decode c.code g.pc = .ok (.invokevirtual index, 3))
    (hpre : ∀ vm₁, s.WarmedH vm₁ → Pre ⟨T.setVm vm₁, locs, cells, slots⟩ (Value.ref b :: argsL).toArray) :
    (∃ (v : Option Value) (vm₁ : Vm) (B : Pt), s.WarmedH vm₁ ∧ Stand p l e R s m args below meth c B.U B.locs B.cells B.slots ∧ Post ⟨T.setVm vm₁, locs, cells, slots⟩ (Value.ref b :: argsL).toArray v B ∧
      ∀ target, Steps p.tables e below (B.U.setTop { g with pc := g.pc + 3, stack := v.toList ++ rest }) target → Steps p.tables e below (T.setTop g) target) ∨
    (∃ (q : Addr) (vm₁ : Vm) (B : Pt), s.WarmedH vm₁ ∧ Stand p l e R s m args below meth c B.U B.locs B.cells B.slots ∧ PostX ⟨T.setVm vm₁, locs, cells, slots⟩ (Value.ref b :: argsL).toArray q B ∧
      Steps p.tables e below (T.setTop g) ((B.U.setTop { g with stack := rest }).pushFrame (.throwing q))) := by
  obtain ⟨mk, methM, hnamed, hmethM, hstM, habM⟩ := Cond.instanceMethod_spec hinst
  obtain ⟨methM', cM, hmethM', -, -, -, -, -, -, hsigM⟩ := Cond.code_spec hnamed hcode
  cases hmethM.symm.trans hmethM'
  obtain ⟨c2, r2, m2, q1, q2, q3, q4, kP, hkP, hkPi⟩ := Cond.selects_spec hsel
  cases hcls.symm.trans q1
  cases (State.methodFound?_of_named hnamed hy).symm.trans q2
  cases hnamed.symm.trans q3
  have hselP : selectMethod e.platform s.vm cellB.cls mk = .method mk := by rw [Launch.admits_selectMethod X.admits]; exact q4
  obtain ⟨vm₁, X₁, hstep₁⟩ := X.invokevirtual hexec hown hlink hnamed hmethM hstM hkP hkPi hy (a := b) (cell := cellB) hcell
    (fun z h => by rw [h] at hobj; cases hobj) hselP hmethM habM hkP hkPi (g := g) hg (argsL := argsL) (rest := rest) (hlen _ hsigM) hstack hdg
  rcases hK m meth c ⟨T.setVm vm₁, locs, cells, slots⟩ { g with stack := rest } (.invokevirtual index) mk (Value.ref b :: argsL).toArray X₁ hg hsize hdg hW (X₁.named hnamed) (hpre vm₁ X₁.warmed) with ⟨v, B, X', hpost, hsteps⟩ | ⟨q, B, X', hpost, hsteps⟩
  · exact Or.inl ⟨v, vm₁, B, X₁.warmed, X', hpost, fun target h => hstep₁ _ fun acts => by rw [doInvoke_state]; exact hsteps.trans h⟩
  · exact Or.inr ⟨q, vm₁, B, X₁.warmed, X', hpost, hstep₁ _ fun acts => by rw [doInvoke_state]; exact hsteps⟩
theorem vx_callS (X : Stand p l e R s m args below meth c T locs cells slots) (hexec : p.tables.exec = Jvm.exec) {own : String} {index : Nat} {y : MethodName} {bytes : ByteArray} {maxL : Nat} {ret : Option FieldType}
    (hown : s.vm.findClass own = some m.cls) (hlink : (Cond.methodLink own index y).before args s = true) (hstat : (Cond.static y).before args s = true) (hinit : (Cond.initialized y.cls).before args s = true)
    (hcode : (Cond.code y bytes maxL ret).before args s = true) (hy : y.cls ≠ "java/lang/invoke/MethodHandle" ∧ y.cls ≠ "java/lang/invoke/VarHandle")
    {W9 : Nat} {Pre : Pt → Array Value → Prop} {Post : Pt → Array Value → Option Value → Pt → Prop} {PostX : Pt → Array Value → Addr → Pt → Prop} (hK : vx_Back l R p e below s args y 3 W9 Pre Post PostX)
    {g : JFrame} (hg : g.method = m) (hsize : g.locals.size = c.maxLocals) {argsL rest : List Value} (hlen : ∀ sig, parseMethodDescriptor y.desc = some sig → argsL.length = sig.parameters.length)
    (hstack : g.stack = argsL.reverse ++ rest) (hW : 2 * g.monitorRoom + (rest.map fun v => v.category).sum ≤ W9) (hdg : decode c.code g.pc = .ok (.invokestatic index, 3))
    (hpre : ∀ vm₁, s.WarmedH vm₁ → Pre ⟨T.setVm vm₁, locs, cells, slots⟩ argsL.toArray) :
    (∃ (v : Option Value) (vm₁ : Vm) (B : Pt), s.WarmedH vm₁ ∧ Stand p l e R s m args below meth c B.U B.locs B.cells B.slots ∧ Post ⟨T.setVm vm₁, locs, cells, slots⟩ argsL.toArray v B ∧
      ∀ target, Steps p.tables e below (B.U.setTop { g with pc := g.pc + 3, stack := v.toList ++ rest }) target → Steps p.tables e below (T.setTop g) target) ∨
    (∃ (q : Addr) (vm₁ : Vm) (B : Pt), s.WarmedH vm₁ ∧ Stand p l e R s m args below meth c B.U B.locs B.cells B.slots ∧ PostX ⟨T.setVm vm₁, locs, cells, slots⟩ argsL.toArray q B ∧
      Steps p.tables e below (T.setTop g) ((B.U.setTop { g with stack := rest }).pushFrame (.throwing q))) := by
  obtain ⟨mk, hnamed⟩ := Cond.code_named hcode
  obtain ⟨methM, cM, hmethM, -, -, -, -, -, -, hsigM⟩ := Cond.code_spec hnamed hcode
  have hstatic : methM.isStatic = true := Cond.static_spec hnamed hmethM hstat
  obtain ⟨kP, hkP, -⟩ := className_of_methodNamed hnamed
  have hinitP : kP.init = .initialized := Cond.initialized_spec (findClass_of_methodNamed hnamed) hkP hinit
  obtain ⟨vm₁, X₁, hstep₁⟩ := X.invokestatic hexec hown hlink hnamed hmethM hstatic hkP hinitP hy (g := g) hg (argsL := argsL) (rest := rest) (hlen _ hsigM) hstack hdg
  rcases hK m meth c ⟨T.setVm vm₁, locs, cells, slots⟩ { g with stack := rest } (.invokestatic index) mk argsL.toArray X₁ hg hsize hdg hW (X₁.named hnamed) (hpre vm₁ X₁.warmed) with ⟨v, B, X', hpost, hsteps⟩ | ⟨q, B, X', hpost, hsteps⟩
  · exact Or.inl ⟨v, vm₁, B, X₁.warmed, X', hpost, fun target h => hstep₁ _ fun acts => by rw [doInvoke_state]; exact hsteps.trans h⟩
  · exact Or.inr ⟨q, vm₁, B, X₁.warmed, X', hpost, hstep₁ _ fun acts => by rw [doInvoke_state]; exact hsteps⟩
end Calls
theorem vx_cls {s : State} {T : State} {vm₁ : Vm} {E : String} {k : ClassId} (hW : s.WarmedH vm₁) (h : (T.setVm vm₁).vm.findClass E = some k) : s.vm.findClass E = some k := by
  have h1 : vm₁.findClass E = some k := h
  rw [hW.alike.findClass] at h1
  exact h1
/-- the method's frame g, with q thrown over it -/
def vx_W (p : Program) (l : Launch) (e : Env) (R : Room) (s : State) (m : MethodId) (args : Array Value) (below : List Frame) (meth : Method) (c : Code) (H : Heap) (locs : List Loc) (cells slots : Nat) (Q : State → Prop) (g : JFrame) (q : Addr) : Prop :=
  ∀ T : State, T.heap = H → Stand p l e R s m args below meth c T locs cells slots → ∃ t, Steps p.tables e below ((T.setTop g).pushFrame (.throwing q)) t ∧ Q t
def vx_Run (p : Program) (l : Launch) (e : Env) (R : Room) (s : State) (m : MethodId) (args : Array Value) (below : List Frame) (meth : Method) (c : Code) (H : Heap) (locs : List Loc) (cells slots mc ms : Nat) (g : JFrame) (rest : List Value) (Qa : State → Outcome → State → Prop) (XC : String → State → State → Prop) (free : Addr → Prop) : Prop :=
  ∀ T : State, T.heap = H → Stand p l e R s m args below meth c T locs cells slots →
    (∃ (v : Option Value) (st₀ t T' : State) (L : List Loc), st₀.heap = H ∧ Stand p l e R s m args below meth c T' (locs ++ L) (cells + mc) (slots + ms) ∧ (∀ q ∈ L, free q.base) ∧ T'.heap = t.heap ∧ T'.vm = t.vm ∧ Qa st₀ (.returned v) t ∧
      Goes p e below T g T' { g with pc := g.pc + 3, stack := v.toList ++ rest }) ∨
    (∃ (q : Addr) (st₀ t T' : State) (L : List Loc) (E : String) (ce : Cell), st₀.heap = H ∧ Stand p l e R s m args below meth c T' (locs ++ L) (cells + mc) (slots + ms) ∧ (∀ z ∈ L, free z.base) ∧ T'.heap = t.heap ∧ T'.vm = t.vm ∧ XC E st₀ t ∧ t.heap[q]? = some ce ∧ ce.vm = .none ∧ s.vm.findClass E = some ce.cls ∧
      Steps p.tables e below (T.setTop g) ((T'.setTop { g with stack := rest }).pushFrame (.throwing q)))
def vx_X {S : Type} (px : S → Prop) (B : String → S → State → Prop) (A : Nat → Prop) : String → State → State → Prop := fun E st t => ∃ u : S, px u ∧ B E u t ∧ va_F A st t
section Runs
variable {p : Program} {l : Launch} {e : Env} {R : Room} {s : State} {m : MethodId} {args : Array Value} {below : List Frame} {meth : Method} {c : Code} {H : Heap} {locs : List Loc} {cells slots : Nat}
variable {y : MethodName} {bytes cc : ByteArray} {maxL nL mc ms n index : Nat} {ret : Option FieldType} {ws : List Cond} {rm : Room} {Pc : Array Value → State → Prop} {Qc : Array Value → State → Outcome → State → Prop} {XC : String → State → State → Prop} {free : Addr → Prop} {Ts : List Cond} {own C : String} {b : Addr} {As rest : List Value} {g : JFrame}
theorem vx_callBack (cb : CallB R s args own index y bytes maxL ret ws rm mc ms n) (hM : vx_Met l y ws rm Pc Qc XC mc ms free) (hbl : FrameBlind Pc) : vx_Back l R p e below s args y 3 8 (PreOf R mc ms Pc) (PostOf Qc mc ms free) (vx_Post XC mc ms free) := by
  obtain ⟨hrc, hrs, hfr, hlo, hws, hcw, -, hini, -⟩ := cb
  exact vx_back (bytes := bytes) (maxL := maxL) (ret := ret) hM hbl hrc hrs hfr hlo hws hcw (fun a' U hW => word_at hW (Or.inl (by first | rfl | simp [Cond.onTables, Cond.keeps, Cond.steady])) hini)
theorem vx_runV (S : CallFix p m c cc nL s args Ts own) (hM : vx_Met l y ws rm Pc Qc XC mc ms free) (cw : CallW R s args own C index y bytes maxL ret ws rm mc ms n) (hp : PreV s H C b Pc As)
    (hg : g.method = m) (hn : As.length = n) (hsize : g.locals.size = nL) (hstack : g.stack = As.reverse ++ .ref b :: rest) (hW : 2 * g.monitorRoom + (rest.map fun v => v.category).sum ≤ 8) (hdg : decode cc g.pc = .ok (.invokevirtual index, 3)) (hf : cells + mc ≤ R.cells ∧ slots + ms ≤ R.slots) :
    vx_Run p l e R s m args below meth c H locs cells slots mc ms g rest (Qc (Value.ref b :: As).toArray) XC free := by
  have hK : vx_Back l R p e below s args y 3 8 (PreOf R mc ms Pc) (PostOf Qc mc ms free) (vx_Post XC mc ms free) := vx_callBack cw.1 hM hp.1
  obtain ⟨⟨-, -, -, -, -, -, hcode, -, hy, hlen, hl⟩, hin, hse⟩ := cw
  obtain ⟨hx, hb, hml, ho, -⟩ := S
  obtain ⟨-, ⟨cellB, hcB, hoB, hclB⟩, hPc⟩ := hp
  intro T hT X
  rcases vx_callV X hx (C := C) (bytes := bytes) (maxL := maxL) (ret := ret) ho hl hin hse hcode hy hK (by rw [hT]; exact hcB) hoB hclB hg (hsize.trans hml.symm) (argsL := As) (rest := rest) (fun sig h => hn.trans (hlen sig h)) hstack hW (by rw [hb]; exact hdg)
    (fun vm₁ hW₁ => ⟨hf.1, hf.2, hPc (T.setVm vm₁) hT hW₁⟩) with ⟨v, vm₁, ⟨U', l2, c2, s2⟩, hW₁, X', ⟨g', mk, t, L, e1, e2, hq, h1, hL, h2, h3⟩, st⟩ | ⟨q, vm₁, ⟨U', l2, c2, s2⟩, hW₁, X', ⟨g', mk, t, L, E, ce, e1, e2, hq, hce, hcv, hcl, h1, hL, h2, h3⟩, st⟩
  · dsimp only [Pt.U, Pt.locs, Pt.cells, Pt.slots] at X' e1 e2 h1 h2 h3 st
    subst h1; subst h2; subst h3
    exact Or.inl ⟨v, (T.setVm vm₁).calling g' mk (Value.ref b :: As).toArray, t, U', L, hT, X', hL, e1, e2, hq, st⟩
  · dsimp only [Pt.U, Pt.locs, Pt.cells, Pt.slots] at X' e1 e2 h1 h2 h3 st hcl
    subst h1; subst h2; subst h3
    exact Or.inr ⟨q, (T.setVm vm₁).calling g' mk (Value.ref b :: As).toArray, t, U', L, E, ce, hT, X', hL, e1, e2, hq, hce, hcv, vx_cls hW₁ hcl, st⟩
theorem vx_runS (S : CallFix p m c cc nL s args Ts own) (hM : vx_Met l y ws rm Pc Qc XC mc ms free) (cw : CallB R s args own index y bytes maxL ret ws rm mc ms n ∧ (Cond.static y).before args s = true) (hp : PreS s H Pc As)
    (hg : g.method = m) (hn : As.length = n) (hsize : g.locals.size = nL) (hstack : g.stack = As.reverse ++ rest) (hW : 2 * g.monitorRoom + (rest.map fun v => v.category).sum ≤ 8) (hdg : decode cc g.pc = .ok (.invokestatic index, 3)) (hf : cells + mc ≤ R.cells ∧ slots + ms ≤ R.slots) :
    vx_Run p l e R s m args below meth c H locs cells slots mc ms g rest (Qc As.toArray) XC free := by
  have hK : vx_Back l R p e below s args y 3 8 (PreOf R mc ms Pc) (PostOf Qc mc ms free) (vx_Post XC mc ms free) := vx_callBack cw.1 hM hp.1
  obtain ⟨⟨-, -, -, -, -, -, hcode, hini, hy, hlen, hl⟩, hstt⟩ := cw
  obtain ⟨hx, hb, hml, ho, -⟩ := S
  intro T hT X
  rcases vx_callS X hx (bytes := bytes) (maxL := maxL) (ret := ret) ho hl hstt hini hcode hy hK hg (hsize.trans hml.symm) (argsL := As) (rest := rest) (fun sig h => hn.trans (hlen sig h)) hstack hW (by rw [hb]; exact hdg)
    (fun vm₁ hW₁ => ⟨hf.1, hf.2, hp.2 (T.setVm vm₁) hT hW₁⟩) with ⟨v, vm₁, ⟨U', l2, c2, s2⟩, hW₁, X', ⟨g', mk, t, L, e1, e2, hq, h1, hL, h2, h3⟩, st⟩ | ⟨q, vm₁, ⟨U', l2, c2, s2⟩, hW₁, X', ⟨g', mk, t, L, E, ce, e1, e2, hq, hce, hcv, hcl, h1, hL, h2, h3⟩, st⟩
  · dsimp only [Pt.U, Pt.locs, Pt.cells, Pt.slots] at X' e1 e2 h1 h2 h3 st
    subst h1; subst h2; subst h3
    exact Or.inl ⟨v, (T.setVm vm₁).calling g' mk As.toArray, t, U', L, hT, X', hL, e1, e2, hq, st⟩
  · dsimp only [Pt.U, Pt.locs, Pt.cells, Pt.slots] at X' e1 e2 h1 h2 h3 st hcl
    subst h1; subst h2; subst h3
    exact Or.inr ⟨q, (T.setVm vm₁).calling g' mk As.toArray, t, U', L, E, ce, hT, X', hL, e1, e2, hq, hce, hcv, vx_cls hW₁ hcl, st⟩
end Runs
section Rows
variable {p : Program} {l : Launch} {e : Env} {R : Room} {s : State} {m : MethodId} {args : Array Value} {below : List Frame} {meth : Method} {c : Code} {H : Heap} {locs : List Loc} {cells slots : Nat} {Q : State → Prop}
variable {mc ms : Nat} {free : Addr → Prop} {A0 A1 : Nat → Prop} {H0 : Heap} {a : Array Value} {pc : Nat} {ls : Array Slot} {st0 rest : List Value}
theorem vx_keep {st₀ t T' : State} {L : List Loc} (h0 : st₀.heap = H) (e1 : T'.heap = t.heap) (hS : va_S A0 H0 H locs) (hA : ∀ q, q < H.size → A1 q → A0 q) (hf : ∀ q, free q → A0 q) (hL : ∀ q ∈ L, free q.base) (hF : va_F A1 st₀ t) :
    H.size ≤ T'.heap.size ∧ (∀ q : Nat, q < H.size → ¬ A1 q → T'.heap[q]? = H[q]?) ∧ va_S A0 H0 T'.heap (locs ++ L) := by
  obtain ⟨hz, hk⟩ := hF
  rw [h0] at hz hk
  exact ⟨by rw [e1]; exact hz, fun q h1 h2 => by rw [e1]; exact hk q h1 h2,
    ⟨Nat.le_trans hS.1 (by rw [e1]; exact hz), fun q h1 h2 => by rw [e1, hk q (Nat.lt_of_lt_of_le h1 hS.1) (fun z => h2 (hA q (Nat.lt_of_lt_of_le h1 hS.1) z))]; exact hS.2.1 q h1 h2, fun q hq => by
      rcases List.mem_append.mp hq with h | h
      · exact hS.2.2 q h
      · exact hf _ (hL q h)⟩⟩
theorem vx_calli {S SX : Type} {post : Int32 → S → Prop} {px : SX → Prop} {B : S → State → Prop} {BX : String → SX → State → Prop} {AX : Nat → Prop} (hr : vx_Run p l e R s m args below meth c H locs cells slots mc ms (F0 m pc ls st0) rest (va_Qi post B A1 a) (vx_X px BX AX) free) (hS : va_S A0 H0 H locs) (hA : ∀ q, q < H.size → A1 q → A0 q) (hf : ∀ q, free q → A0 q) (hAX : ∀ q, q < H.size → AX q → A0 q)
    (kx : ∀ (E : String) (ce : Cell) (q9 : Addr) (u : SX) (t : State) (H1 : Heap) (locs1 : List Loc), t.heap = H1 → s.vm.Alike t.vm → px u → BX E u t → H.size ≤ H1.size → (∀ q : Nat, q < H.size → ¬ AX q → H1[q]? = H[q]?) → va_S A0 H0 H1 locs1 → H1[q9]? = some ce → ce.vm = .none → s.vm.findClass E = some ce.cls → vx_W p l e R s m args below meth c H1 locs1 (cells + mc) (slots + ms) Q (F0 m pc ls rest) q9)
    (kk : ∀ (r : Int32) (u : S) (t : State) (H1 : Heap) (locs1 : List Loc), t.heap = H1 → s.vm.Alike t.vm → post r u → B u t → H.size ≤ H1.size → (∀ q : Nat, q < H.size → ¬ A1 q → H1[q]? = H[q]?) → va_S A0 H0 H1 locs1 → W p l e R s m args below meth c H1 locs1 (cells + mc) (slots + ms) Q (F0 m (pc + 3) ls (.int r :: rest))) : W p l e R s m args below meth c H locs cells slots Q (F0 m pc ls st0) := by
  intro T hT X
  rcases hr T hT X with ⟨v, st₀, t, T', L, h0, X', hL, e1, e2, ⟨⟨r, u, hv, hp, hb⟩, hF⟩, st⟩ | ⟨q, st₀, t, T', L, E, ce, h0, X', hL, e1, e2, ⟨u, hp, hb, hF⟩, hce, hcv, hcl, st⟩
  · cases hv
    obtain ⟨k1, k2, k3⟩ := vx_keep h0 e1 hS hA hf hL hF
    obtain ⟨t2, a1, b1⟩ := kk r u t T'.heap (locs ++ L) e1.symm (by rw [← e2]; exact X'.warmed.alike) hp hb k1 k2 k3 T' rfl X'
    exact ⟨t2, st t2 a1, b1⟩
  · obtain ⟨k1, k2, k3⟩ := vx_keep h0 e1 hS hAX hf hL hF
    obtain ⟨t2, a1, b1⟩ := kx E ce q u t T'.heap (locs ++ L) e1.symm (by rw [← e2]; exact X'.warmed.alike) hp hb k1 k2 k3 (by rw [e1]; exact hce) hcv hcl T' rfl X'
    exact ⟨t2, st.trans a1, b1⟩
theorem vx_calll {S SX : Type} {post : Int64 → S → Prop} {px : SX → Prop} {B : S → State → Prop} {BX : String → SX → State → Prop} {AX : Nat → Prop} (hr : vx_Run p l e R s m args below meth c H locs cells slots mc ms (F0 m pc ls st0) rest (va_Ql post B A1 a) (vx_X px BX AX) free) (hS : va_S A0 H0 H locs) (hA : ∀ q, q < H.size → A1 q → A0 q) (hf : ∀ q, free q → A0 q) (hAX : ∀ q, q < H.size → AX q → A0 q)
    (kx : ∀ (E : String) (ce : Cell) (q9 : Addr) (u : SX) (t : State) (H1 : Heap) (locs1 : List Loc), t.heap = H1 → s.vm.Alike t.vm → px u → BX E u t → H.size ≤ H1.size → (∀ q : Nat, q < H.size → ¬ AX q → H1[q]? = H[q]?) → va_S A0 H0 H1 locs1 → H1[q9]? = some ce → ce.vm = .none → s.vm.findClass E = some ce.cls → vx_W p l e R s m args below meth c H1 locs1 (cells + mc) (slots + ms) Q (F0 m pc ls rest) q9)
    (kk : ∀ (r : Int64) (u : S) (t : State) (H1 : Heap) (locs1 : List Loc), t.heap = H1 → s.vm.Alike t.vm → post r u → B u t → H.size ≤ H1.size → (∀ q : Nat, q < H.size → ¬ A1 q → H1[q]? = H[q]?) → va_S A0 H0 H1 locs1 → W p l e R s m args below meth c H1 locs1 (cells + mc) (slots + ms) Q (F0 m (pc + 3) ls (.long r :: rest))) : W p l e R s m args below meth c H locs cells slots Q (F0 m pc ls st0) := by
  intro T hT X
  rcases hr T hT X with ⟨v, st₀, t, T', L, h0, X', hL, e1, e2, ⟨⟨r, u, hv, hp, hb⟩, hF⟩, st⟩ | ⟨q, st₀, t, T', L, E, ce, h0, X', hL, e1, e2, ⟨u, hp, hb, hF⟩, hce, hcv, hcl, st⟩
  · cases hv
    obtain ⟨k1, k2, k3⟩ := vx_keep h0 e1 hS hA hf hL hF
    obtain ⟨t2, a1, b1⟩ := kk r u t T'.heap (locs ++ L) e1.symm (by rw [← e2]; exact X'.warmed.alike) hp hb k1 k2 k3 T' rfl X'
    exact ⟨t2, st t2 a1, b1⟩
  · obtain ⟨k1, k2, k3⟩ := vx_keep h0 e1 hS hAX hf hL hF
    obtain ⟨t2, a1, b1⟩ := kx E ce q u t T'.heap (locs ++ L) e1.symm (by rw [← e2]; exact X'.warmed.alike) hp hb k1 k2 k3 (by rw [e1]; exact hce) hcv hcl T' rfl X'
    exact ⟨t2, st.trans a1, b1⟩
theorem vx_callf {S SX : Type} {post : UInt32 → S → Prop} {px : SX → Prop} {B : S → State → Prop} {BX : String → SX → State → Prop} {AX : Nat → Prop} (hr : vx_Run p l e R s m args below meth c H locs cells slots mc ms (F0 m pc ls st0) rest (va_Qf post B A1 a) (vx_X px BX AX) free) (hS : va_S A0 H0 H locs) (hA : ∀ q, q < H.size → A1 q → A0 q) (hf : ∀ q, free q → A0 q) (hAX : ∀ q, q < H.size → AX q → A0 q)
    (kx : ∀ (E : String) (ce : Cell) (q9 : Addr) (u : SX) (t : State) (H1 : Heap) (locs1 : List Loc), t.heap = H1 → s.vm.Alike t.vm → px u → BX E u t → H.size ≤ H1.size → (∀ q : Nat, q < H.size → ¬ AX q → H1[q]? = H[q]?) → va_S A0 H0 H1 locs1 → H1[q9]? = some ce → ce.vm = .none → s.vm.findClass E = some ce.cls → vx_W p l e R s m args below meth c H1 locs1 (cells + mc) (slots + ms) Q (F0 m pc ls rest) q9)
    (kk : ∀ (r : UInt32) (u : S) (t : State) (H1 : Heap) (locs1 : List Loc), t.heap = H1 → s.vm.Alike t.vm → post r u → B u t → H.size ≤ H1.size → (∀ q : Nat, q < H.size → ¬ A1 q → H1[q]? = H[q]?) → va_S A0 H0 H1 locs1 → W p l e R s m args below meth c H1 locs1 (cells + mc) (slots + ms) Q (F0 m (pc + 3) ls (.float r :: rest))) : W p l e R s m args below meth c H locs cells slots Q (F0 m pc ls st0) := by
  intro T hT X
  rcases hr T hT X with ⟨v, st₀, t, T', L, h0, X', hL, e1, e2, ⟨⟨r, u, hv, hp, hb⟩, hF⟩, st⟩ | ⟨q, st₀, t, T', L, E, ce, h0, X', hL, e1, e2, ⟨u, hp, hb, hF⟩, hce, hcv, hcl, st⟩
  · cases hv
    obtain ⟨k1, k2, k3⟩ := vx_keep h0 e1 hS hA hf hL hF
    obtain ⟨t2, a1, b1⟩ := kk r u t T'.heap (locs ++ L) e1.symm (by rw [← e2]; exact X'.warmed.alike) hp hb k1 k2 k3 T' rfl X'
    exact ⟨t2, st t2 a1, b1⟩
  · obtain ⟨k1, k2, k3⟩ := vx_keep h0 e1 hS hAX hf hL hF
    obtain ⟨t2, a1, b1⟩ := kx E ce q u t T'.heap (locs ++ L) e1.symm (by rw [← e2]; exact X'.warmed.alike) hp hb k1 k2 k3 (by rw [e1]; exact hce) hcv hcl T' rfl X'
    exact ⟨t2, st.trans a1, b1⟩
theorem vx_calld {S SX : Type} {post : UInt64 → S → Prop} {px : SX → Prop} {B : S → State → Prop} {BX : String → SX → State → Prop} {AX : Nat → Prop} (hr : vx_Run p l e R s m args below meth c H locs cells slots mc ms (F0 m pc ls st0) rest (va_Qd post B A1 a) (vx_X px BX AX) free) (hS : va_S A0 H0 H locs) (hA : ∀ q, q < H.size → A1 q → A0 q) (hf : ∀ q, free q → A0 q) (hAX : ∀ q, q < H.size → AX q → A0 q)
    (kx : ∀ (E : String) (ce : Cell) (q9 : Addr) (u : SX) (t : State) (H1 : Heap) (locs1 : List Loc), t.heap = H1 → s.vm.Alike t.vm → px u → BX E u t → H.size ≤ H1.size → (∀ q : Nat, q < H.size → ¬ AX q → H1[q]? = H[q]?) → va_S A0 H0 H1 locs1 → H1[q9]? = some ce → ce.vm = .none → s.vm.findClass E = some ce.cls → vx_W p l e R s m args below meth c H1 locs1 (cells + mc) (slots + ms) Q (F0 m pc ls rest) q9)
    (kk : ∀ (r : UInt64) (u : S) (t : State) (H1 : Heap) (locs1 : List Loc), t.heap = H1 → s.vm.Alike t.vm → post r u → B u t → H.size ≤ H1.size → (∀ q : Nat, q < H.size → ¬ A1 q → H1[q]? = H[q]?) → va_S A0 H0 H1 locs1 → W p l e R s m args below meth c H1 locs1 (cells + mc) (slots + ms) Q (F0 m (pc + 3) ls (.double r :: rest))) : W p l e R s m args below meth c H locs cells slots Q (F0 m pc ls st0) := by
  intro T hT X
  rcases hr T hT X with ⟨v, st₀, t, T', L, h0, X', hL, e1, e2, ⟨⟨r, u, hv, hp, hb⟩, hF⟩, st⟩ | ⟨q, st₀, t, T', L, E, ce, h0, X', hL, e1, e2, ⟨u, hp, hb, hF⟩, hce, hcv, hcl, st⟩
  · cases hv
    obtain ⟨k1, k2, k3⟩ := vx_keep h0 e1 hS hA hf hL hF
    obtain ⟨t2, a1, b1⟩ := kk r u t T'.heap (locs ++ L) e1.symm (by rw [← e2]; exact X'.warmed.alike) hp hb k1 k2 k3 T' rfl X'
    exact ⟨t2, st t2 a1, b1⟩
  · obtain ⟨k1, k2, k3⟩ := vx_keep h0 e1 hS hAX hf hL hF
    obtain ⟨t2, a1, b1⟩ := kx E ce q u t T'.heap (locs ++ L) e1.symm (by rw [← e2]; exact X'.warmed.alike) hp hb k1 k2 k3 (by rw [e1]; exact hce) hcv hcl T' rfl X'
    exact ⟨t2, st.trans a1, b1⟩
theorem vx_callv {S SX : Type} {post : S → Prop} {px : SX → Prop} {B : S → State → Prop} {BX : String → SX → State → Prop} {AX : Nat → Prop} (hr : vx_Run p l e R s m args below meth c H locs cells slots mc ms (F0 m pc ls st0) rest (va_Qv post B A1 a) (vx_X px BX AX) free) (hS : va_S A0 H0 H locs) (hA : ∀ q, q < H.size → A1 q → A0 q) (hf : ∀ q, free q → A0 q) (hAX : ∀ q, q < H.size → AX q → A0 q)
    (kx : ∀ (E : String) (ce : Cell) (q9 : Addr) (u : SX) (t : State) (H1 : Heap) (locs1 : List Loc), t.heap = H1 → s.vm.Alike t.vm → px u → BX E u t → H.size ≤ H1.size → (∀ q : Nat, q < H.size → ¬ AX q → H1[q]? = H[q]?) → va_S A0 H0 H1 locs1 → H1[q9]? = some ce → ce.vm = .none → s.vm.findClass E = some ce.cls → vx_W p l e R s m args below meth c H1 locs1 (cells + mc) (slots + ms) Q (F0 m pc ls rest) q9)
    (kk : ∀ (u : S) (t : State) (H1 : Heap) (locs1 : List Loc), t.heap = H1 → s.vm.Alike t.vm → post u → B u t → H.size ≤ H1.size → (∀ q : Nat, q < H.size → ¬ A1 q → H1[q]? = H[q]?) → va_S A0 H0 H1 locs1 → W p l e R s m args below meth c H1 locs1 (cells + mc) (slots + ms) Q (F0 m (pc + 3) ls (rest))) : W p l e R s m args below meth c H locs cells slots Q (F0 m pc ls st0) := by
  intro T hT X
  rcases hr T hT X with ⟨v, st₀, t, T', L, h0, X', hL, e1, e2, ⟨⟨u, hv, hp, hb⟩, hF⟩, st⟩ | ⟨q, st₀, t, T', L, E, ce, h0, X', hL, e1, e2, ⟨u, hp, hb, hF⟩, hce, hcv, hcl, st⟩
  · cases hv
    obtain ⟨k1, k2, k3⟩ := vx_keep h0 e1 hS hA hf hL hF
    obtain ⟨t2, a1, b1⟩ := kk u t T'.heap (locs ++ L) e1.symm (by rw [← e2]; exact X'.warmed.alike) hp hb k1 k2 k3 T' rfl X'
    exact ⟨t2, st t2 a1, b1⟩
  · obtain ⟨k1, k2, k3⟩ := vx_keep h0 e1 hS hAX hf hL hF
    obtain ⟨t2, a1, b1⟩ := kx E ce q u t T'.heap (locs ++ L) e1.symm (by rw [← e2]; exact X'.warmed.alike) hp hb k1 k2 k3 (by rw [e1]; exact hce) hcv hcl T' rfl X'
    exact ⟨t2, st.trans a1, b1⟩
/-- caught by the row x of this method's table; the rows ahead don't take it -/
theorem vx_catch {own name : String} {E : String} {ce : Cell} {q : Addr} (hown : s.vm.findClass own = some m.cls) (pre : List ExceptionTableEntry) (x : ExceptionTableEntry) (suf : List ExceptionTableEntry) (hsplit : c.exceptionTable.toList = pre ++ x :: suf)
    (hpass : ∀ z ∈ pre, covers z pc = false ∨ (z.catchType ≠ 0 ∧ ∃ nm : String, (Cond.classLink own z.catchType nm).before args s = true ∧ va_Nc E nm s)) (hx : covers x pc = true) (h0 : x.catchType ≠ 0)
    (hlink : (Cond.classLink own x.catchType name).before args s = true) (hcast : (Cond.castable E name).before args s = true) (hcell : H[q]? = some ce) (hv : ce.vm = .none) (hcl : s.vm.findClass E = some ce.cls)
    (kk : W p l e R s m args below meth c H locs cells slots Q (F0 m x.handlerPc ls [.ref q])) : vx_W p l e R s m args below meth c H locs cells slots Q (F0 m pc ls rest) q := by
  intro T hT X
  have hpl : e.platform.magicAccessors = ({} : Platform).magicAccessors := by rw [X.admits.platform]
  obtain ⟨c3, c4, hc3, hc4, hasg⟩ := Cond.castable_spec hcast
  cases Option.some.inj (hc3.symm.trans hcl)
  obtain ⟨c5, hc5, hcl5⟩ := Cond.classLink_spec hown hlink e.platform hpl
  cases Option.some.inj (hc4.symm.trans hc5)
  obtain ⟨vm', X', st⟩ := X.thenCaughtThrough q (g := F0 m pc ls rest) rfl (Steps.refl _) (by rw [hT]; exact hcell) (by rw [hv]; rfl) (by obtain ⟨k9, h9, -⟩ := Vm.findClass_spec hcl; exact ⟨k9, h9⟩) pre x suf hsplit
    (fun z hz => by
      rcases hpass z hz with h | ⟨hz0, nm, hl1, hn1⟩
      · exact Or.inl h
      · obtain ⟨c6, hc6, hcl6⟩ := Cond.classLink_spec hown hl1 e.platform hpl
        obtain ⟨a8, b8, h1, h2, h3⟩ := hn1
        cases Option.some.inj (h1.symm.trans hcl)
        cases Option.some.inj (h2.symm.trans hc6)
        exact Or.inr ⟨hz0, _, hcl6, h3⟩) hx (Or.inr ⟨h0, c4, hcl5, hasg⟩)
  obtain ⟨t, a1, b1⟩ := kk (T.setVm vm') hT X'
  exact ⟨t, st.trans a1, b1⟩
end Rows
section Ends
variable {p : Program} {l : Launch} {e : Env} {R : Room} {s : State} {m : MethodId} {args : Array Value} {below : List Frame} {meth : Method} {c : Code} {H : Heap} {locs : List Loc} {cells slots : Nat} {Q : State → Prop}
variable {mc ms : Nat} {free : Addr → Prop} {A0 A1 : Nat → Prop} {H0 : Heap} {a : Array Value} {ls : Array Slot} {st0 rest : List Value}
variable {Qc : Array Value → State → Outcome → State → Prop} {XC : String → State → State → Prop}
/-- what a body that may throw owes at its end -/
def vx_MQ (below : List Frame) (Qc : Array Value → State → Outcome → State → Prop) (XC : String → State → State → Prop) (a : Array Value) (s : State) (mc ms : Nat) (free : Addr → Prop) : State → Prop := fun t =>
  ∃ o, t.status = .running ∧ Ended t below o ∧ vx_Q Qc XC mc ms free a s o t
theorem vx_ret {g : JFrame} {mc ms : Nat} (k : W p l e R s m args below meth c H locs cells slots (MQ below Qc args s mc ms free) g) : W p l e R s m args below meth c H locs cells slots (vx_MQ below Qc XC args s mc ms free) g := by
  intro T hT X
  obtain ⟨t, a1, o, b1, b2, b3, b4⟩ := k T hT X
  exact ⟨t, a1, o, b1, b2, Or.inl ⟨b3, b4⟩⟩
/-- not caught here: it goes on to the caller -/
theorem vx_widen {g : JFrame} {q : Addr} {k n : Nat} (h1 : cells ≤ k) (h2 : slots ≤ n) (kk : vx_W p l e R s m args below meth c H locs k n Q g q) : vx_W p l e R s m args below meth c H locs cells slots Q g q := fun T hT X => kk T hT (stand_widen X h1 h2)
theorem vx_out {pc : Nat} {E : String} {ce : Cell} {q : Addr} {mc ms : Nat} (hout : ∀ x ∈ c.exceptionTable.toList, covers x pc = false) (hlocks : meth.locks = false) (hcell : H[q]? = some ce) (hv : ce.vm = .none) (hcl : s.vm.findClass E = some ce.cls)
    (hx : ∀ t : State, t.heap = H → s.vm.Alike t.vm → XC E s t) (hf : ∀ z ∈ locs, free z.base) (hc : cells ≤ mc) (hs : slots ≤ ms) :
    vx_W p l e R s m args below meth c H locs cells slots (vx_MQ below Qc XC args s mc ms free) (F0 m pc ls rest) q := by
  intro T hT X
  obtain ⟨st1, hrun, hend, hW, hsm⟩ := X.leaveThrown q (g := F0 m pc ls rest) rfl rfl rfl hout hlocks
  have hcell9 : (T.setFrames (.throwing q :: below)).heap[q]? = some ce := by
    show T.heap[q]? = some ce
    rw [hT]; exact hcell
  exact ⟨_, st1, .threw q, hrun, hend, Or.inr ⟨q, rfl, E, ce, locs, hx _ hT hW.alike, hcell9, hv, hcl, hW, hsm.mono hc hs, hf⟩⟩
theorem vx_frame {U : State} {k n : Nat} (h : s.sameButNew ({ U with vm := s.vm } : State) locs k n) : s.heap.size ≤ U.heap.size ∧ ∀ q : Nat, q < s.heap.size → (∀ z ∈ locs, z.base ≠ q) → U.heap[q]? = s.heap[q]? := by
  obtain ⟨-, h2, -, -, -, h6⟩ := h
  refine ⟨h2, fun q hq hz => ?_⟩
  obtain ⟨c9, e1, e2, e3, e4⟩ := h6 q _ (Array.getElem?_eq_getElem hq)
  have hs : c9.slots = (s.heap[q]).slots := Array.ext_getElem? fun i => e4 i fun hm => hz _ hm rfl
  have h9 : c9 = s.heap[q] := by
    rw [hs] at e2
    exact e2
  have e5 : U.heap[q]? = some c9 := e1
  rw [e5, h9, Array.getElem?_eq_getElem hq]
/-- the words of a throw but the four that speak of the heap -/
def vx_no (w : Cond) : Bool := decide (w ≠ .isRef (.static Bundle.tN "UNASSIGNED_STACK" Bundle.steD)) && decide (w ≠ .isRef (.static Bundle.tN "SUPPRESSED_SENTINEL" Bundle.listD)) && decide (w ≠ .laysStatic Bundle.tN "UNASSIGNED_STACK" Bundle.steD) && decide (w ≠ .laysStatic Bundle.tN "SUPPRESSED_SENTINEL" Bundle.listD)
def vx_at0 (own : String) (ic : Nat) (X : String) (names : List String) : List Cond := (Bundle.ownAtoms0 own ic X names).filter vx_no
def vx_atS (own : String) (ic : Nat) (X : String) (names : List String) : List Cond := (Bundle.ownAtoms own ic X names).filter vx_no
/-- a word that the tables alone decide, or a good one -/
def vx_ot (w : Cond) : Bool := w.onTables || goodWord w
theorem vx_ot_at {args a' : Array Value} {s U : State} {w : Cond} (hW : s.WarmedH U.vm) (hvm : s.vm = U.vm) (hg : vx_ot w = true) (h : w.before args s = true) : w.before a' U = true := by
  simp only [vx_ot, Bool.or_eq_true] at hg
  rcases hg with hg | hg
  · exact va_tabs hg hvm h
  · exact word_at hW (good_of_word hg) h
/-- a list's words: the good ones out of the method's own list, the others by premises of their own -/
theorem vx_hat {args : Array Value} {s : State} {L B : List Cond} (h1 : ∀ w ∈ L.filter goodWord, w.before args s = true) (h2 : ∀ w ∈ L.filter (fun w => !goodWord w), w ∈ B) (h3 : ∀ w ∈ B, w.before args s = true) : ∀ w ∈ L, w.before args s = true := by
  intro w hw
  by_cases g : goodWord w = true
  · exact h1 w (List.mem_filter.mpr ⟨hw, g⟩)
  · refine h3 w (h2 w (List.mem_filter.mpr ⟨hw, ?_⟩))
    show (!goodWord w) = true
    cases hgw : goodWord w
    · rfl
    · exact absurd hgw g
theorem vx_c {args : Array Value} {s : State} {w : Cond} {B : List Cond} (h : w.before args s = true) (t : ∀ w ∈ B, w.before args s = true) : ∀ w' ∈ w :: B, w'.before args s = true := fun w' h' => (List.mem_cons.mp h').elim (fun e => by rw [e]; exact h) (t w')
theorem vx_n {args : Array Value} {s : State} : ∀ w ∈ ([] : List Cond), w.before args s = true := fun _ h => nomatch h
theorem vx_own {args : Array Value} {s : State} {L : List Cond} (h1 : ∀ w ∈ L.filter vx_no, w.before args s = true)
    (hU : (Cond.isRef (.static Bundle.tN "UNASSIGNED_STACK" Bundle.steD)).before args s = true) (hN : (Cond.isRef (.static Bundle.tN "SUPPRESSED_SENTINEL" Bundle.listD)).before args s = true)
    (lU : (Cond.laysStatic Bundle.tN "UNASSIGNED_STACK" Bundle.steD).before args s = true) (lN : (Cond.laysStatic Bundle.tN "SUPPRESSED_SENTINEL" Bundle.listD).before args s = true) : ∀ w ∈ L, w.before args s = true := by
  intro w hw
  by_cases e1 : w = .isRef (.static Bundle.tN "UNASSIGNED_STACK" Bundle.steD)
  · rw [e1]; exact hU
  · by_cases e2 : w = .isRef (.static Bundle.tN "SUPPRESSED_SENTINEL" Bundle.listD)
    · rw [e2]; exact hN
    · by_cases e3 : w = .laysStatic Bundle.tN "UNASSIGNED_STACK" Bundle.steD
      · rw [e3]; exact lU
      · by_cases e4 : w = .laysStatic Bundle.tN "SUPPRESSED_SENTINEL" Bundle.listD
        · rw [e4]; exact lN
        · exact h1 w (List.mem_filter.mpr ⟨hw, by unfold vx_no; rw [decide_eq_true e1, decide_eq_true e2, decide_eq_true e3, decide_eq_true e4]; rfl⟩)
/-- where a static field lies, its class's statics cell in H -/
def vx_L (C n d : String) (A : Nat → Prop) (U : State) (H : Heap) : Prop := ∃ (c : ClassId) (k : Class) (i : Nat) (f : Field) (a : Nat) (cell : Cell), U.vm.findClass C = some c ∧ U.fieldFound? C n d = some (c, k, i, f) ∧ f.isStatic = true ∧ k.statics = some a ∧ H[a]? = some cell ∧ cell.vm.isStatics = true ∧ cell.cls = c ∧ f.slot < cell.slots.size ∧ k.staticTypes[f.slot]? = some f.type ∧ ¬ A a
theorem vx_L.moved {C n d : String} {A : Nat → Prop} {u U : State} {H : Heap} (hvm : u.vm.Alike U.vm) (h : vx_L C n d A u H) : vx_L C n d A U H := by
  obtain ⟨c, k, i, f, a, cell, h1, h2, h3, h4, h5, h6, h7, h8, h9, h10⟩ := h
  obtain ⟨k', hi', he⟩ := State.fieldFound?_setVm hvm h2
  exact ⟨c, k', i, f, a, cell, by rw [hvm.findClass]; exact h1, hi', h3, by rw [he]; exact h4, h5, h6, h7, h8, by rw [he]; exact h9, h10⟩
theorem vx_L.kept {C n d : String} {A : Nat → Prop} {U : State} {H H1 : Heap} (h : vx_L C n d A U H) (hq : ∀ a : Nat, a < H.size → ¬ A a → H1[a]? = H[a]?) : vx_L C n d A U H1 := by
  obtain ⟨c, k, i, f, a, cell, h1, h2, h3, h4, h5, h6, h7, h8, h9, h10⟩ := h
  exact ⟨c, k, i, f, a, cell, h1, h2, h3, h4, by rw [hq a (Array.getElem?_eq_some_iff.mp h5).1 h10]; exact h5, h6, h7, h8, h9, h10⟩
theorem vx_L.narrow {C n d : String} {A B : Nat → Prop} {U : State} {H : Heap} (h : vx_L C n d A U H) (hAB : ∀ q, B q → A q) : vx_L C n d B U H := by
  obtain ⟨c, k, i, f, a, cell, h1, h2, h3, h4, h5, h6, h7, h8, h9, h10⟩ := h
  exact ⟨c, k, i, f, a, cell, h1, h2, h3, h4, h5, h6, h7, h8, h9, fun z => h10 (hAB _ z)⟩
theorem vx_L.word {C n d : String} {A : Nat → Prop} {s : State} {args : Array Value} (h : vx_L C n d A s s.heap) : (Cond.laysStatic C n d).before args s = true := by
  obtain ⟨c, k, i, f, a, cell, h1, h2, h3, h4, h5, h6, h7, h8, h9, -⟩ := h
  show (Cond.laysStatic C n d).holds args s none s [] = true
  exact Cond.laysStatic_of h1 h2 h3 h4 h5 h6 h7 h8 h9
/-- .. and what it holds: null or some reference -/
def vx_Zq (C n d : String) (A : Nat → Prop) (U : State) (H : Heap) : Prop := va_Zq C n d A U H ∧ vx_L C n d A U H
theorem vx_Zq.moved {C n d : String} {A : Nat → Prop} {u U : State} {H : Heap} (hvm : u.vm.Alike U.vm) (h : vx_Zq C n d A u H) : vx_Zq C n d A U H := ⟨va_Zq.moved hvm h.1, vx_L.moved hvm h.2⟩
theorem vx_Zq.kept {C n d : String} {A : Nat → Prop} {U : State} {H H1 : Heap} (h : vx_Zq C n d A U H) (hq : ∀ a : Nat, a < H.size → ¬ A a → H1[a]? = H[a]?) : vx_Zq C n d A U H1 := ⟨va_Zq.kept h.1 hq, vx_L.kept h.2 hq⟩
theorem vx_Zq.narrow {C n d : String} {A B : Nat → Prop} {U : State} {H : Heap} (h : vx_Zq C n d A U H) (hAB : ∀ q, B q → A q) : vx_Zq C n d B U H := ⟨va_Zq.narrow h.1 hAB, vx_L.narrow h.2 hAB⟩
theorem vx_Zqof {args : Array Value} {s : State} {C n d : String} {A : Nat → Prop} (hl : (Cond.laysStatic C n d).before args s = true) (hini : (Cond.initialized C).before args s = true) (h : (Cond.isRef (.static C n d)).before args s = true) (hA : ∀ a : Nat, a < s.heap.size → ¬ A a) : vx_Zq C n d A s s.heap := by
  refine ⟨va_Zqof hl hini h hA, ?_⟩
  obtain ⟨c, k, i, f, a, cell, h1, h2, h3, h4, h5, h6, h7, h8, h9⟩ := Cond.laysStatic_spec hl
  exact ⟨c, k, i, f, a, cell, h1, h2, h3, h4, h5, h6, h7, h8, h9, hA a (Array.getElem?_eq_some_iff.mp h5).1⟩
theorem vx_isRef {C n d : String} {v : Value} {A : Nat → Prop} {s : State} {args : Array Value} (h : va_Z C n d v A s s.heap) (hv : v.isRef = true) : (Cond.isRef (.static C n d)).before args s = true := by
  obtain ⟨cf, kf, fi, f, a, cell, h1, h2, h3, h4, h5, h6, h7, -⟩ := h
  have he : (Term.static C n d).eval args s none [] s = some v := by
    simp [Term.eval, State.fieldNamed?, h1, h2, h4, h5, h6, h7]
  simp only [Cond.before, Cond.holds, Cond.value, he]
  cases v <;> simp_all [Value.isRef]
theorem vx_isRefq {C n d : String} {A : Nat → Prop} {s : State} {args : Array Value} (h : va_Zq C n d A s s.heap) : (Cond.isRef (.static C n d)).before args s = true := by
  rcases h with h | ⟨t, h⟩
  · exact vx_isRef h rfl
  · exact vx_isRef h rfl
/-- the same frame, seen from here: as if the method were called anew in this heap -/
theorem vx_rebase {T : State} (X : Stand p l e R s m args below meth c T locs cells slots) {R' : Room} (hf : R'.frames ≤ R.frames) (hl : R'.locals ≤ R.locals) (hc : cells + R'.cells ≤ R.cells) (hs : slots + R'.slots ≤ R.slots) :
    Stand p l e R' ((T.setVm s.vm).setFrames (.invoking m args :: below)) m args below meth c T [] 0 0 := by
  have htop : (T.setVm s.vm).topJava?.isSome := X.here.top
  have hF : ((T.setVm s.vm).setFrames (.invoking m args :: below)).frames = .invoking m args :: below := State.frames_setFrames _ (State.cur_lt_of_top htop)
  obtain ⟨g₀, hg0⟩ := Option.isSome_iff_exists.mp htop
  obtain ⟨r, hr⟩ := State.topJava?_eq_some.mp hg0
  have hl9 : e.platform.stackLimits (T.setVm s.vm).me = e.platform.stackLimits s.me := X.limits
  have hb9 : (T.setVm s.vm).me.stackBytes = s.me.stackBytes := X.bytes
  refine ⟨X.admits, X.cas, X.clock, hF, ?_, X.hears, X.method, X.code, X.here, X.tail, X.warmed, ?_, ?_, ?_⟩
  · have h := X.room
    have hU : ((T.setVm s.vm).setFrames (.invoking m args :: below)).localsInUse = s.localsInUse := by
      rw [State.localsInUse_invoking hF (meth := meth) (c := c) X.method X.code, State.localsInUse_invoking X.frames X.method X.code]
    simp only [State.hasRoom, Bool.and_eq_true, decide_eq_true_eq] at h ⊢
    obtain ⟨⟨⟨⟨h1, h2, h3, h4, h5, h6⟩, h7⟩, h8⟩, h9⟩ := h
    rw [X.frames, List.length_cons] at h2 h3
    have q1 := X.heapSize
    have q2 := X.used
    simp only [hF, hU, List.length_cons, State.stackLimits_setFrames, State.stackBytes_setFrames, hl9, hb9]
    refine ⟨⟨⟨⟨by omega, by omega, by omega, by omega, by omega, h6⟩, ?_⟩, ?_⟩, X.book⟩
    · show T.heap.size + R'.cells ≤ e.platform.maxCells
      omega
    · show T.slotsUsed + R'.slots ≤ e.platform.maxSlots
      omega
  · rw [State.stackLimits_setFrames]; rfl
  · rw [State.stackBytes_setFrames]; rfl
  · refine ⟨?_, Nat.le_refl _, Nat.le_refl _, ?_, ?_, fun a c9 h9 => ⟨c9, h9, rfl, rfl, fun _ _ => rfl⟩⟩
    · obtain ⟨t, ht, -⟩ := State.frames_cons hr
      show T.setVm s.vm = { ((T.setVm s.vm).setFrames (.invoking m args :: below)).setFrames (T.setVm s.vm).frames with heap := T.heap, slotsUsed := T.slotsUsed }
      rw [State.setFrames_setFrames, State.setFrames_self ht]
      rfl
    · show T.slotsUsed = T.slotsUsed + ((T.heap.toList.drop T.heap.size).map (·.slots.size)).sum
      rw [List.drop_eq_nil_of_le (Nat.le_of_eq Array.length_toList)]
      rfl
    · show ((T.heap.toList.drop T.heap.size).map (·.slots.size)).sum ≤ 0
      rw [List.drop_eq_nil_of_le (Nat.le_of_eq Array.length_toList)]
      exact Nat.le_refl _
/-- 'throw new E()': new; dup; invokespecial; athrow -/
theorem vx_throw0 {cc : ByteArray} {pc : Nat} (hexec : p.tables.exec = Jvm.exec) (hb : c.code = cc) (hl : l.stackTraces = false) {own cls : String} {names : List String} {ik ic mc ms : Nat} {A : Nat → Prop}
    (hown : s.vm.findClass own = some m.cls) (hcls : Bundle.fit cls = true) (hnames : ∀ n ∈ names, Bundle.fit n = true)
    (hk : (Cond.classLink own ik cls).before args s = true) (hini : (Cond.initialized cls).before args s = true) (hat : ∀ w ∈ vx_at0 own ic cls names, w.before args s = true)
    (hgood : ∀ w ∈ Cond.classLink own ik cls :: Cond.initialized cls :: vx_at0 own ic cls names, vx_ot w = true)
    (hU : vx_Zq Bundle.tN "UNASSIGNED_STACK" Bundle.steD A s s.heap) (hN : vx_Zq Bundle.tN "SUPPRESSED_SENTINEL" Bundle.listD A s s.heap) (hS : va_S A s.heap H locs) (hsize : ls.size = c.maxLocals)
    (d0 : decode cc pc = .ok (.new ik, 3)) (d3 : decode cc (pc + 3) = .ok (.dup, 1)) (d4 : decode cc (pc + 4) = .ok (.invokespecial ic, 3)) (d7 : decode cc (pc + 7) = .ok (.athrow, 1))
    (hout : ∀ x ∈ c.exceptionTable.toList, covers x (pc + 7) = false)
    (hRframes : names.length + 3 < R.frames) (hRlocals : (rest.map fun v => v.category).sum + (13 * (names.length + 1) + 42) ≤ R.locals) (hRcells : cells + 1 ≤ R.cells) (hRslots : slots + 6 ≤ R.slots) (hlocks : meth.locks = false)
    (hx : ∀ t : State, s.vm.Alike t.vm → H.size ≤ t.heap.size → (∀ q : Nat, q < H.size → t.heap[q]? = H[q]?) → XC cls s t)
    (hf : ∀ z ∈ locs, free z.base) (hc : cells + 1 ≤ mc) (hs : slots + 6 ≤ ms) :
    W p l e R s m args below meth c H locs cells slots (vx_MQ below Qc XC args s mc ms free) (F0 m pc ls rest) := by
  intro T hT X
  have htr : e.platform.stackTraces = false := (show e.platform.stackTraces = l.stackTraces by rw [X.admits.platform]).trans hl
  have Y := vx_rebase X (R' := { frames := R.frames, locals := R.locals, cells := 1, slots := 6 }) (Nat.le_refl _) (Nat.le_refl _) hRcells hRslots
  obtain ⟨s', hA⟩ : ∃ z, z = (T.setVm s.vm).setFrames (.invoking m args :: below) := ⟨_, rfl⟩
  rw [← hA] at Y
  have hvm : s'.vm = s.vm := by rw [hA]; rfl
  have hhp : s'.heap = H := by rw [hA]; exact hT
  have hW0 : s.WarmedH s'.vm := by rw [hvm]; exact State.WarmedH.refl s
  have hat' : ∀ w ∈ vx_at0 own ic cls names, w.before args s' = true := fun w hw => vx_ot_at hW0 hvm.symm (hgood w (List.mem_cons_of_mem _ (List.mem_cons_of_mem _ hw))) (hat w hw)
  have hk' : (Cond.classLink own ik cls).before args s' = true := vx_ot_at hW0 hvm.symm (hgood _ List.mem_cons_self) hk
  have hini' : (Cond.initialized cls).before args s' = true := vx_ot_at hW0 hvm.symm (hgood _ (List.mem_cons_of_mem _ List.mem_cons_self)) hini
  have hU' : vx_Zq Bundle.tN "UNASSIGNED_STACK" Bundle.steD A s' s'.heap := by rw [hhp]; exact vx_Zq.moved hW0.alike (hU.kept hS.2.1)
  have hN' : vx_Zq Bundle.tN "SUPPRESSED_SENTINEL" Bundle.listD A s' s'.heap := by rw [hhp]; exact vx_Zq.moved hW0.alike (hN.kept hS.2.1)
  have h : ∀ w ∈ Bundle.ownAtoms0 own ic cls names, w.before args s' = true := vx_own hat' (vx_isRefq hU'.1) (vx_isRefq hN'.1) hU'.2.word hN'.2.word
  have hown' : s'.vm.findClass own = some m.cls := by rw [hvm]; exact hown
  have hins : (Cond.instantiable cls 6).before args s' = true := h _ (by simp [Bundle.ownAtoms0])
  obtain ⟨vm₁, cX, kX, hfX, hkX, -, -, X₁, st1⟩ := Y.newCold hexec (own := own) (C := cls) (index := ik) (n := 6) hown' hk' hins hini'
    (g := F0 m pc ls rest) rfl (by rw [hb]; exact d0) (Nat.le_refl _) (Nat.le_refl _)
  generalize hT1 : (T.setVm vm₁).pushCell { cls := cX, slots := kX.instanceTypes.map defaultValue, vm := .none } = T1 at X₁ st1
  have hcat : (Value.ref T.heap.size).category = 1 := rfl
  have hcellA : T1.heap[T.heap.size]? = some (freshCell cX kX) := by rw [← hT1]; exact State.heap_pushCell_size _ _
  have d3' : decode c.code (pc + 3) = .ok (.dup, 1) := by rw [hb]; exact d3
  obtain ⟨U, hsteps, hrun, hend, hW, hsame, ce, hce, hO⟩ := X₁.ctorThrow0 hexec htr (own := own) (cls := cls) (names := names) (ic := ic) hown' hcls hnames h (fun x hx => nomatch hx) hfX hkX hcellA (by rw [hhp, hT]; exact Nat.le_refl _)
    (g := { method := m, pc := pc + 4, locals := ls, stack := .ref T.heap.size :: .ref T.heap.size :: rest, locked := none }) rfl hsize rfl rfl (rest := rest) rfl
    (by rw [hb]; exact d4) (by rw [hb]; exact d7) hout hRframes (by simp only [List.map_cons, List.sum_cons, hcat]; omega) hlocks
  obtain ⟨f1, f2⟩ := vx_frame hsame
  rw [hhp] at f1 f2
  have hWs : s.WarmedH U.vm := State.WarmedH.trans hW0 hW
  have hcl : s.vm.findClass cls = some ce.cls := by
    have h9 := hO.cls
    rw [hvm] at h9
    exact h9
  have hall : s.sameButNew ({ U with vm := s.vm } : State) locs mc ms := by
    subst hA
    obtain ⟨e1, e2⟩ := hsame
    rw [State.setFrames_setFrames] at e1
    have h2 : (T.setVm s.vm).sameButNew ({ U with vm := s.vm } : State) [] (0 + 1) (0 + 6) := ⟨e1, e2⟩
    have h3 := X.same.trans h2
    rw [List.append_nil] at h3
    exact h3.mono hc hs
  refine ⟨U, ?_, .threw T.heap.size, hrun, hend, Or.inr ⟨T.heap.size, rfl, cls, ce, locs, hx U hWs.alike f1 (fun q hq => f2 q hq (fun z hz => nomatch hz)), hce, hO.vm, hcl, hWs, hall, hf⟩⟩
  refine st1 _ ?_
  show Steps p.tables e below (T1.setTop { method := m, pc := pc + 3, locals := ls, stack := .ref T.heap.size :: rest, locked := none }) _
  jvm_step X₁.here [X₁.here.top, hexec, d3', Value.category]
  exact hsteps
/-- 'throw new E("text")': new; dup; ldc; invokespecial; athrow -/
theorem vx_throwS {cc : ByteArray} {pc : Nat} (hexec : p.tables.exec = Jvm.exec) (hb : c.code = cc) (hl : l.stackTraces = false) {own cls text : String} {names : List String} {ik is ic mc ms sa : Nat} {A : Nat → Prop}
    (hown : s.vm.findClass own = some m.cls) (hcls : Bundle.fit cls = true) (hnames : ∀ n ∈ names, Bundle.fit n = true)
    (hk : (Cond.classLink own ik cls).before args s = true) (hini : (Cond.initialized cls).before args s = true) (hstr : vk_R own is text sa s) (hat : ∀ w ∈ vx_atS own ic cls names, w.before args s = true)
    (hgood : ∀ w ∈ Cond.classLink own ik cls :: Cond.initialized cls :: vx_atS own ic cls names, vx_ot w = true)
    (hU : vx_Zq Bundle.tN "UNASSIGNED_STACK" Bundle.steD A s s.heap) (hN : vx_Zq Bundle.tN "SUPPRESSED_SENTINEL" Bundle.listD A s s.heap) (hS : va_S A s.heap H locs) (hsize : ls.size = c.maxLocals)
    (d0 : decode cc pc = .ok (.new ik, 3)) (d3 : decode cc (pc + 3) = .ok (.dup, 1)) (d4 : decode cc (pc + 4) = .ok (.ldc is, 2)) (d6 : decode cc (pc + 6) = .ok (.invokespecial ic, 3)) (d9 : decode cc (pc + 9) = .ok (.athrow, 1))
    (hout : ∀ x ∈ c.exceptionTable.toList, covers x (pc + 9) = false)
    (hRframes : names.length + 3 < R.frames) (hRlocals : (rest.map fun v => v.category).sum + (13 * (names.length + 1) + 43) ≤ R.locals) (hRcells : cells + 1 ≤ R.cells) (hRslots : slots + 6 ≤ R.slots) (hlocks : meth.locks = false)
    (hx : ∀ t : State, s.vm.Alike t.vm → H.size ≤ t.heap.size → (∀ q : Nat, q < H.size → t.heap[q]? = H[q]?) → XC cls s t)
    (hf : ∀ z ∈ locs, free z.base) (hc : cells + 1 ≤ mc) (hs : slots + 6 ≤ ms) :
    W p l e R s m args below meth c H locs cells slots (vx_MQ below Qc XC args s mc ms free) (F0 m pc ls rest) := by
  intro T hT X
  have htr : e.platform.stackTraces = false := (show e.platform.stackTraces = l.stackTraces by rw [X.admits.platform]).trans hl
  have Y := vx_rebase X (R' := { frames := R.frames, locals := R.locals, cells := 1, slots := 6 }) (Nat.le_refl _) (Nat.le_refl _) hRcells hRslots
  obtain ⟨s', hA⟩ : ∃ z, z = (T.setVm s.vm).setFrames (.invoking m args :: below) := ⟨_, rfl⟩
  rw [← hA] at Y
  have hvm : s'.vm = s.vm := by rw [hA]; rfl
  have hhp : s'.heap = H := by rw [hA]; exact hT
  have hW0 : s.WarmedH s'.vm := by rw [hvm]; exact State.WarmedH.refl s
  have hat' : ∀ w ∈ vx_atS own ic cls names, w.before args s' = true := fun w hw => vx_ot_at hW0 hvm.symm (hgood w (List.mem_cons_of_mem _ (List.mem_cons_of_mem _ hw))) (hat w hw)
  have hk' : (Cond.classLink own ik cls).before args s' = true := vx_ot_at hW0 hvm.symm (hgood _ List.mem_cons_self) hk
  have hini' : (Cond.initialized cls).before args s' = true := vx_ot_at hW0 hvm.symm (hgood _ (List.mem_cons_of_mem _ List.mem_cons_self)) hini
  have hU' : vx_Zq Bundle.tN "UNASSIGNED_STACK" Bundle.steD A s' s'.heap := by rw [hhp]; exact vx_Zq.moved hW0.alike (hU.kept hS.2.1)
  have hN' : vx_Zq Bundle.tN "SUPPRESSED_SENTINEL" Bundle.listD A s' s'.heap := by rw [hhp]; exact vx_Zq.moved hW0.alike (hN.kept hS.2.1)
  have h : ∀ w ∈ Bundle.ownAtoms own ic cls names, w.before args s' = true := vx_own hat' (vx_isRefq hU'.1) (vx_isRefq hN'.1) hU'.2.word hN'.2.word
  have hown' : s'.vm.findClass own = some m.cls := by rw [hvm]; exact hown
  have hins : (Cond.instantiable cls 6).before args s' = true := h _ (by simp [Bundle.ownAtoms])
  obtain ⟨vm₁, cX, kX, hfX, hkX, -, -, X₁, st1⟩ := Y.newCold hexec (own := own) (C := cls) (index := ik) (n := 6) hown' hk' hins hini'
    (g := F0 m pc ls rest) rfl (by rw [hb]; exact d0) (Nat.le_refl _) (Nat.le_refl _)
  generalize hT1 : (T.setVm vm₁).pushCell { cls := cX, slots := kX.instanceTypes.map defaultValue, vm := .none } = T1 at X₁ st1
  have hcat : (Value.ref T.heap.size).category = 1 := rfl
  have hcellA : T1.heap[T.heap.size]? = some (freshCell cX kX) := by rw [← hT1]; exact State.heap_pushCell_size _ _
  have d3' : decode c.code (pc + 3) = .ok (.dup, 1) := by rw [hb]; exact d3
  have d4' : decode c.code (pc + 4) = .ok (.ldc is, 2) := by rw [hb]; exact d4
  have hstr' : vk_R own is text sa s' := vk_R.warm hW0 hstr
  obtain ⟨U, hsteps, hrun, hend, hW, hsame, ce, hce, hO⟩ := X₁.ctorThrowS hexec htr (own := own) (cls := cls) (names := names) (ic := ic) hown' hcls hnames h (fun x hx => nomatch hx) hfX hkX hcellA (by rw [hhp, hT]; exact Nat.le_refl _) (msg := .ref sa) rfl
    (g := { method := m, pc := pc + 6, locals := ls, stack := .ref sa :: .ref T.heap.size :: .ref T.heap.size :: rest, locked := none }) rfl hsize rfl rfl (rest := rest) rfl
    (by rw [hb]; exact d6) (by rw [hb]; exact d9) hout hRframes (by simp only [List.map_cons, List.sum_cons, hcat]; omega) hlocks
  obtain ⟨f1, f2⟩ := vx_frame hsame
  rw [hhp] at f1 f2
  have hWs : s.WarmedH U.vm := State.WarmedH.trans hW0 hW
  have hcl : s.vm.findClass cls = some ce.cls := by
    have h9 := hO.cls
    rw [hvm] at h9
    exact h9
  have hall : s.sameButNew ({ U with vm := s.vm } : State) locs mc ms := by
    subst hA
    obtain ⟨e1, e2⟩ := hsame
    rw [State.setFrames_setFrames] at e1
    have h2 : (T.setVm s.vm).sameButNew ({ U with vm := s.vm } : State) [] (0 + 1) (0 + 6) := ⟨e1, e2⟩
    have h3 := X.same.trans h2
    rw [List.append_nil] at h3
    exact h3.mono hc hs
  refine ⟨U, ?_, .threw T.heap.size, hrun, hend, Or.inr ⟨T.heap.size, rfl, cls, ce, locs, hx U hWs.alike f1 (fun q hq => f2 q hq (fun z hz => nomatch hz)), hce, hO.vm, hcl, hWs, hall, hf⟩⟩
  refine st1 _ ?_
  show Steps p.tables e below (T1.setTop { method := m, pc := pc + 3, locals := ls, stack := .ref T.heap.size :: rest, locked := none }) _
  jvm_step X₁.here [X₁.here.top, hexec, d3', Value.category]
  exact X₁.ldcString hexec (own := own) (text := text) (index := is) (a := sa) hown' hstr'.1 hstr'.2
    (g := { method := m, pc := pc + 4, locals := ls, stack := .ref T.heap.size :: .ref T.heap.size :: rest, locked := none }) rfl d4' _ hsteps
/-- 'throw new E("text")', the text by a wide index -/
theorem vx_throwSW {cc : ByteArray} {pc : Nat} (hexec : p.tables.exec = Jvm.exec) (hb : c.code = cc) (hl : l.stackTraces = false) {own cls text : String} {names : List String} {ik is ic mc ms sa : Nat} {A : Nat → Prop}
    (hown : s.vm.findClass own = some m.cls) (hcls : Bundle.fit cls = true) (hnames : ∀ n ∈ names, Bundle.fit n = true)
    (hk : (Cond.classLink own ik cls).before args s = true) (hini : (Cond.initialized cls).before args s = true) (hstr : vk_R own is text sa s) (hat : ∀ w ∈ vx_atS own ic cls names, w.before args s = true)
    (hgood : ∀ w ∈ Cond.classLink own ik cls :: Cond.initialized cls :: vx_atS own ic cls names, vx_ot w = true)
    (hU : vx_Zq Bundle.tN "UNASSIGNED_STACK" Bundle.steD A s s.heap) (hN : vx_Zq Bundle.tN "SUPPRESSED_SENTINEL" Bundle.listD A s s.heap) (hS : va_S A s.heap H locs) (hsize : ls.size = c.maxLocals)
    (d0 : decode cc pc = .ok (.new ik, 3)) (d3 : decode cc (pc + 3) = .ok (.dup, 1)) (d4 : decode cc (pc + 4) = .ok (.ldc_w is, 3)) (d7 : decode cc (pc + 7) = .ok (.invokespecial ic, 3)) (d10 : decode cc (pc + 10) = .ok (.athrow, 1))
    (hout : ∀ x ∈ c.exceptionTable.toList, covers x (pc + 10) = false)
    (hRframes : names.length + 3 < R.frames) (hRlocals : (rest.map fun v => v.category).sum + (13 * (names.length + 1) + 43) ≤ R.locals) (hRcells : cells + 1 ≤ R.cells) (hRslots : slots + 6 ≤ R.slots) (hlocks : meth.locks = false)
    (hx : ∀ t : State, s.vm.Alike t.vm → H.size ≤ t.heap.size → (∀ q : Nat, q < H.size → t.heap[q]? = H[q]?) → XC cls s t)
    (hf : ∀ z ∈ locs, free z.base) (hc : cells + 1 ≤ mc) (hs : slots + 6 ≤ ms) :
    W p l e R s m args below meth c H locs cells slots (vx_MQ below Qc XC args s mc ms free) (F0 m pc ls rest) := by
  intro T hT X
  have htr : e.platform.stackTraces = false := (show e.platform.stackTraces = l.stackTraces by rw [X.admits.platform]).trans hl
  have Y := vx_rebase X (R' := { frames := R.frames, locals := R.locals, cells := 1, slots := 6 }) (Nat.le_refl _) (Nat.le_refl _) hRcells hRslots
  obtain ⟨s', hA⟩ : ∃ z, z = (T.setVm s.vm).setFrames (.invoking m args :: below) := ⟨_, rfl⟩
  rw [← hA] at Y
  have hvm : s'.vm = s.vm := by rw [hA]; rfl
  have hhp : s'.heap = H := by rw [hA]; exact hT
  have hW0 : s.WarmedH s'.vm := by rw [hvm]; exact State.WarmedH.refl s
  have hat' : ∀ w ∈ vx_atS own ic cls names, w.before args s' = true := fun w hw => vx_ot_at hW0 hvm.symm (hgood w (List.mem_cons_of_mem _ (List.mem_cons_of_mem _ hw))) (hat w hw)
  have hk' : (Cond.classLink own ik cls).before args s' = true := vx_ot_at hW0 hvm.symm (hgood _ List.mem_cons_self) hk
  have hini' : (Cond.initialized cls).before args s' = true := vx_ot_at hW0 hvm.symm (hgood _ (List.mem_cons_of_mem _ List.mem_cons_self)) hini
  have hU' : vx_Zq Bundle.tN "UNASSIGNED_STACK" Bundle.steD A s' s'.heap := by rw [hhp]; exact vx_Zq.moved hW0.alike (hU.kept hS.2.1)
  have hN' : vx_Zq Bundle.tN "SUPPRESSED_SENTINEL" Bundle.listD A s' s'.heap := by rw [hhp]; exact vx_Zq.moved hW0.alike (hN.kept hS.2.1)
  have h : ∀ w ∈ Bundle.ownAtoms own ic cls names, w.before args s' = true := vx_own hat' (vx_isRefq hU'.1) (vx_isRefq hN'.1) hU'.2.word hN'.2.word
  have hown' : s'.vm.findClass own = some m.cls := by rw [hvm]; exact hown
  have hins : (Cond.instantiable cls 6).before args s' = true := h _ (by simp [Bundle.ownAtoms])
  obtain ⟨vm₁, cX, kX, hfX, hkX, -, -, X₁, st1⟩ := Y.newCold hexec (own := own) (C := cls) (index := ik) (n := 6) hown' hk' hins hini'
    (g := F0 m pc ls rest) rfl (by rw [hb]; exact d0) (Nat.le_refl _) (Nat.le_refl _)
  generalize hT1 : (T.setVm vm₁).pushCell { cls := cX, slots := kX.instanceTypes.map defaultValue, vm := .none } = T1 at X₁ st1
  have hcat : (Value.ref T.heap.size).category = 1 := rfl
  have hcellA : T1.heap[T.heap.size]? = some (freshCell cX kX) := by rw [← hT1]; exact State.heap_pushCell_size _ _
  have d3' : decode c.code (pc + 3) = .ok (.dup, 1) := by rw [hb]; exact d3
  have d4' : decode c.code (pc + 4) = .ok (.ldc_w is, 3) := by rw [hb]; exact d4
  have hstr' : vk_R own is text sa s' := vk_R.warm hW0 hstr
  obtain ⟨U, hsteps, hrun, hend, hW, hsame, ce, hce, hO⟩ := X₁.ctorThrowS hexec htr (own := own) (cls := cls) (names := names) (ic := ic) hown' hcls hnames h (fun x hx => nomatch hx) hfX hkX hcellA (by rw [hhp, hT]; exact Nat.le_refl _) (msg := .ref sa) rfl
    (g := { method := m, pc := pc + 7, locals := ls, stack := .ref sa :: .ref T.heap.size :: .ref T.heap.size :: rest, locked := none }) rfl hsize rfl rfl (rest := rest) rfl
    (by rw [hb]; exact d7) (by rw [hb]; exact d10) hout hRframes (by simp only [List.map_cons, List.sum_cons, hcat]; omega) hlocks
  obtain ⟨f1, f2⟩ := vx_frame hsame
  rw [hhp] at f1 f2
  have hWs : s.WarmedH U.vm := State.WarmedH.trans hW0 hW
  have hcl : s.vm.findClass cls = some ce.cls := by
    have h9 := hO.cls
    rw [hvm] at h9
    exact h9
  have hall : s.sameButNew ({ U with vm := s.vm } : State) locs mc ms := by
    subst hA
    obtain ⟨e1, e2⟩ := hsame
    rw [State.setFrames_setFrames] at e1
    have h2 : (T.setVm s.vm).sameButNew ({ U with vm := s.vm } : State) [] (0 + 1) (0 + 6) := ⟨e1, e2⟩
    have h3 := X.same.trans h2
    rw [List.append_nil] at h3
    exact h3.mono hc hs
  refine ⟨U, ?_, .threw T.heap.size, hrun, hend, Or.inr ⟨T.heap.size, rfl, cls, ce, locs, hx U hWs.alike f1 (fun q hq => f2 q hq (fun z hz => nomatch hz)), hce, hO.vm, hcl, hWs, hall, hf⟩⟩
  refine st1 _ ?_
  show Steps p.tables e below (T1.setTop { method := m, pc := pc + 3, locals := ls, stack := .ref T.heap.size :: rest, locked := none }) _
  jvm_step X₁.here [X₁.here.top, hexec, d3', Value.category]
  exact X₁.ldcStringW hexec (own := own) (text := text) (index := is) (a := sa) hown' hstr'.1 hstr'.2
    (g := { method := m, pc := pc + 4, locals := ls, stack := .ref T.heap.size :: .ref T.heap.size :: rest, locked := none }) rfl d4' _ hsteps
end Ends
section Bodies
variable {l : Launch}
theorem vx_ofW {y : MethodName} {ws ws' : List Cond} {rm : Room} {Pc : Array Value → State → Prop} {Qc : Array Value → State → Outcome → State → Prop} {XC : String → State → State → Prop} {mc ms : Nat} {free : Addr → Prop} {cc : ByteArray} {maxL : Nat} {ret : Option FieldType}
    (hy : plainName y.cls = true) (hw : ws = Cond.code y cc maxL ret :: ws')
    (body : ∀ p e s m args below meth c s₁, BodyLoose p l y (headSpec ws rm) cc maxL ret e s m args below meth c s₁ → c.maxLocals = maxL → (∀ x ∈ c.exceptionTable.toList, False) → Pc args s →
      W p l e (headSpec ws rm).room s m args below meth c s.heap [] 0 0 (vx_MQ below Qc XC args s mc ms free) (entryFrame m args maxL)) : vx_Met l y ws rm Pc Qc XC mc ms free := by
  refine MetFree.of_bodyS (code := cc) (maxLocals := maxL) (ret := ret) hy ?_ ?_
  · intro args s m h hn
    obtain ⟨meth, c, h1, h2, h3, h4, h5, h6, -, -⟩ := Cond.code_spec hn (atoms_spec (ws := ws) h _ (by rw [hw]; exact List.mem_cons_self))
    exact ⟨meth, c, h1, h2, h3, h4, h5, h6⟩
  · intro p e s m args below meth c s₁ B hml hP _
    have hh0 : s₁.heap = s.heap := by rw [B.state]; rfl
    have ht : ∀ x ∈ c.exceptionTable.toList, False := by
      obtain ⟨meth9, c9, h1, h2, -, -, -, -, h7, -⟩ := Cond.code_spec B.named (atoms_spec (ws := ws) B.pre _ (by rw [hw]; exact List.mem_cons_self))
      cases Option.some.inj (h1.symm.trans B.method)
      cases Option.some.inj (h2.symm.trans (Stand.of_body B).code)
      intro x hx
      rw [Array.isEmpty_iff.mp h7] at hx
      cases hx
    obtain ⟨t, a1, o, b1, b2, b3⟩ := body p e s m args below meth c s₁ B hml ht hP s₁ hh0 (Stand.of_body B)
    exact ⟨t, o, a1, b1, b2, b3⟩
/-- the table of a body with handlers -/
theorem vx_table {p : Program} {x y : MethodName} {S : Spec} {cc bytes : ByteArray} {maxL maxL' : Nat} {ret ret' : Option FieldType} {e : Env} {s s₁ : State} {m : MethodId} {args : Array Value} {below : List Frame} {meth : Method} {c : Code} {hh : List (Nat × Nat × Nat × Nat)}
    (B : BodyLoose p l y S cc maxL ret e s m args below meth c s₁) (h : (Cond.codeWith y bytes maxL' ret' hh).before args s = true) : c.exceptionTable.toList = tableOf hh := by
  obtain ⟨m9, meth9, c9, hn9, h1, h2, -, -, h6, -⟩ := Cond.codeWith_spec h
  cases Option.some.inj (hn9.symm.trans B.named)
  cases Option.some.inj (h1.symm.trans B.method)
  cases Option.some.inj (h2.symm.trans (Stand.of_body B).code)
  rw [← h6, table_eq]
end Bodies
end VXA
/-! ===== END ===== -/
/-! ===== BEGIN a static call of a method with an exception table ===== -/
section VXS
variable {p : Program} {l : Launch} {e : Env} {R : Room} {s : State} {m : MethodId} {args : Array Value} {below : List Frame} {meth : Method} {c : Code} {T : State} {H : Heap} {locs : List Loc} {cells slots : Nat}
abbrev vx_CSW (R : Room) (s : State) (args : Array Value) (own : String) (index : Nat) (y : MethodName) (bytes : ByteArray) (maxL : Nat) (ret : Option FieldType) (hh : List (Nat × Nat × Nat × Nat)) (ws : List Cond) (rm : Room) (mc ms n : Nat) : Prop :=
  (rm.cells = mc ∧ rm.slots = ms ∧ rm.frames + 1 ≤ R.frames ∧ 8 + (maxL + 11) + rm.locals ≤ R.locals ∧ (∀ w ∈ ws, ∀ (a' : Array Value) (U : State), s.WarmedH U.vm → w.before a' U = true) ∧ Cond.codeWith y bytes maxL ret hh ∈ ws) ∧
  (Cond.codeWith y bytes maxL ret hh).before args s = true ∧ (Cond.initialized y.cls).before args s = true ∧ (y.cls ≠ "java/lang/invoke/MethodHandle" ∧ y.cls ≠ "java/lang/invoke/VarHandle") ∧
  (∀ sig, parseMethodDescriptor y.desc = some sig → n = sig.parameters.length) ∧ (Cond.methodLink own index y).before args s = true ∧ (Cond.static y).before args s = true
theorem vx_cwSW {own : String} {index maxL mc ms : Nat} {y : MethodName} {bytes : ByteArray} {ret : Option FieldType} {hh : List (Nat × Nat × Nat × Nat)} {Ts ws ws' : List Cond} {rm : Room} (n : Nat) (ht : ∀ w ∈ Ts, w.before args s = true) (hT : GoodIn Ts (va_wsS own index y ws)) (hw : ws = Cond.codeWith y bytes maxL ret hh :: ws') (hrc : rm.cells = mc) (hrs : rm.slots = ms)
    (hd : y.cls ≠ "java/lang/invoke/MethodHandle" ∧ y.cls ≠ "java/lang/invoke/VarHandle" ∧ (parseMethodDescriptor y.desc).map (fun d => d.parameters.length) = some n) (hR : rm.frames + 1 ≤ R.frames ∧ 8 + (maxL + 11) + rm.locals ≤ R.locals) :
    vx_CSW R s args own index y bytes maxL ret hh ws rm mc ms n := by
  have ok : ∀ w ∈ va_wsS own index y ws, w.before args s = true := fun w h => ht w (hT w h).1
  have hG : GoodIn Ts ws := fun w h => hT w (by unfold va_wsS; exact List.mem_append_right _ h)
  have hc : Cond.codeWith y bytes maxL ret hh ∈ ws := by rw [hw]; exact List.mem_cons_self
  refine ⟨⟨hrc, hrs, hR.1, hR.2, pay_in ht hG, hc⟩, ht _ (hG _ hc).1, ok _ (by simp [va_wsS]), ⟨hd.1, hd.2.1⟩, fun sig h => ?_, ok _ (by simp [va_wsS]), ok _ (by simp [va_wsS])⟩
  have h2 := hd.2.2
  rw [h] at h2
  exact (Option.some.inj h2).symm
theorem vx_callSW (X : Stand p l e R s m args below meth c T locs cells slots) (hexec : p.tables.exec = Jvm.exec) {own : String} {index : Nat} {y : MethodName} {bytes : ByteArray} {maxL : Nat} {ret : Option FieldType} {hh : List (Nat × Nat × Nat × Nat)}
    (hown : s.vm.findClass own = some m.cls) (hlink : (Cond.methodLink own index y).before args s = true) (hstat : (Cond.static y).before args s = true) (hinit : (Cond.initialized y.cls).before args s = true)
    (hcode : (Cond.codeWith y bytes maxL ret hh).before args s = true) (hy : y.cls ≠ "java/lang/invoke/MethodHandle" ∧ y.cls ≠ "java/lang/invoke/VarHandle")
    {W9 : Nat} {Pre : Pt → Array Value → Prop} {Post : Pt → Array Value → Option Value → Pt → Prop} (hK : Back l R p e below s args y 3 W9 Pre Post)
    {g : JFrame} (hg : g.method = m) (hsize : g.locals.size = c.maxLocals) {argsL rest : List Value} (hlen : ∀ sig, parseMethodDescriptor y.desc = some sig → argsL.length = sig.parameters.length)
    (hstack : g.stack = argsL.reverse ++ rest) (hW : 2 * g.monitorRoom + (rest.map fun v => v.category).sum ≤ W9) (hdg : decode c.code g.pc = .ok (.invokestatic index, 3))
    (hpre : ∀ vm₁, s.WarmedH vm₁ → Pre ⟨T.setVm vm₁, locs, cells, slots⟩ argsL.toArray) :
    ∃ (v : Option Value) (vm₁ : Vm) (B : Pt), s.WarmedH vm₁ ∧ Stand p l e R s m args below meth c B.U B.locs B.cells B.slots ∧ Post ⟨T.setVm vm₁, locs, cells, slots⟩ argsL.toArray v B ∧
      ∀ target, Steps p.tables e below (B.U.setTop { g with pc := g.pc + 3, stack := v.toList ++ rest }) target → Steps p.tables e below (T.setTop g) target := by
  obtain ⟨mk, methM, cM, hnamed, hmethM, -, -, -, -, -, -, hsigM⟩ := Cond.codeWith_spec hcode
  have hstatic : methM.isStatic = true := Cond.static_spec hnamed hmethM hstat
  obtain ⟨kP, hkP, -⟩ := className_of_methodNamed hnamed
  have hinitP : kP.init = .initialized := Cond.initialized_spec (findClass_of_methodNamed hnamed) hkP hinit
  obtain ⟨vm₁, X₁, hstep₁⟩ := X.invokestatic hexec hown hlink hnamed hmethM hstatic hkP hinitP hy (g := g) hg (argsL := argsL) (rest := rest) (hlen _ hsigM) hstack hdg
  obtain ⟨v, B, X', hpost, hsteps⟩ := hK m meth c ⟨T.setVm vm₁, locs, cells, slots⟩ { g with stack := rest } (.invokestatic index) mk argsL.toArray X₁ hg hsize hdg hW (X₁.named hnamed) (hpre vm₁ X₁.warmed)
  exact ⟨v, vm₁, B, X₁.warmed, X', hpost, fun target h => hstep₁ _ fun acts => by rw [doInvoke_state]; exact hsteps.trans h⟩
theorem vx_runSW {y : MethodName} {bytes cc : ByteArray} {maxL nL mc ms n index : Nat} {ret : Option FieldType} {hh : List (Nat × Nat × Nat × Nat)} {ws : List Cond} {rm : Room} {Pc : Array Value → State → Prop} {Qc : Array Value → State → Outcome → State → Prop} {free : Addr → Prop} {Ts : List Cond} {own : String} {As rest : List Value} {g : JFrame}
    (S : CallFix p m c cc nL s args Ts own) (hM : Met l y ws rm Pc Qc mc ms free) (cw : vx_CSW R s args own index y bytes maxL ret hh ws rm mc ms n) (hp : PreS s H Pc As)
    (hg : g.method = m) (hn : As.length = n) (hsize : g.locals.size = nL) (hstack : g.stack = As.reverse ++ rest) (hW : 2 * g.monitorRoom + (rest.map fun v => v.category).sum ≤ 8) (hdg : decode cc g.pc = .ok (.invokestatic index, 3)) (hf : cells + mc ≤ R.cells ∧ slots + ms ≤ R.slots) :
    va_Run p l e R s m args below meth c H locs cells slots mc ms g rest (Qc As.toArray) (free) := by
  obtain ⟨⟨hrc, hrs, hfr, hlo, hws, hcw⟩, hcode, hini, hy, hlen, hl, hstt⟩ := cw
  have hK : Back l R p e below s args y 3 8 (PreOf R mc ms Pc) (PostOf Qc mc ms free) := va_backW (hh := hh) (bytes := bytes) (maxL := maxL) (ret := ret) hM hp.1 hrc hrs hfr hlo hws hcw (fun a' U hW => word_at hW (Or.inl (by first | rfl | simp [Cond.onTables, Cond.keeps, Cond.steady])) hini)
  obtain ⟨hx, hb, hml, ho, -⟩ := S
  intro T hT X
  obtain ⟨v, vm₁, ⟨U', l2, c2, s2⟩, hW₁, X', ⟨g', mk, t, L, e1, e2, hq, h1, hL, h2, h3⟩, st⟩ := vx_callSW X hx (hh := hh) (bytes := bytes) (maxL := maxL) (ret := ret) ho hl hstt hini hcode hy hK hg (hsize.trans hml.symm) (argsL := As) (rest := rest) (fun sig h => hn.trans (hlen sig h)) hstack hW (by rw [hb]; exact hdg)
    (fun vm₁ hW₁ => ⟨hf.1, hf.2, hp.2 (T.setVm vm₁) hT hW₁⟩)
  dsimp only [Pt.U, Pt.locs, Pt.cells, Pt.slots] at X' e1 e2 h1 h2 h3 st
  subst h1; subst h2; subst h3
  exact ⟨v, (T.setVm vm₁).calling g' mk As.toArray, t, U', L, hT, X', hL, e1, e2, hq, st⟩
/-- not caught here, past rows that name other classes: it goes on to the caller -/
theorem vx_outP {p : Program} {l : Launch} {e : Env} {R : Room} {s : State} {m : MethodId} {args : Array Value} {below : List Frame} {meth : Method} {c : Code} {H : Heap} {locs : List Loc} {cells slots : Nat} {free : Addr → Prop} {ls : Array Slot} {rest : List Value} {Qc : Array Value → State → Outcome → State → Prop} {XC : String → State → State → Prop}
    {pc : Nat} {own E : String} {ce : Cell} {q : Addr} {mc ms : Nat} (hown : s.vm.findClass own = some m.cls) (hlocks : meth.locks = false)
    (hpass : ∀ z ∈ c.exceptionTable.toList, covers z pc = false ∨ (z.catchType ≠ 0 ∧ ∃ nm : String, (Cond.classLink own z.catchType nm).before args s = true ∧ va_Nc E nm s)) (hcell : H[q]? = some ce) (hv : ce.vm = .none) (hcl : s.vm.findClass E = some ce.cls)
    (hx : ∀ t : State, t.heap = H → s.vm.Alike t.vm → XC E s t) (hf : ∀ z ∈ locs, free z.base) (hc : cells ≤ mc) (hs : slots ≤ ms) :
    vx_W p l e R s m args below meth c H locs cells slots (vx_MQ below Qc XC args s mc ms free) (F0 m pc ls rest) q := by
  intro T hT X
  have hpl : e.platform.magicAccessors = ({} : Platform).magicAccessors := by rw [X.admits.platform]
  obtain ⟨vm', hW', X', st⟩ := X.outThrough hlocks q (g := F0 m pc ls rest) rfl rfl rfl (cell := ce) (by rw [hT]; exact hcell) (by rw [hv]; rfl)
    (by obtain ⟨k9, h9, -⟩ := Vm.findClass_spec hcl; exact ⟨k9, h9⟩) (fun z hz => by
      rcases hpass z hz with h | ⟨hz0, nm, hl1, hn1⟩
      · exact Or.inl h
      · obtain ⟨c6, hc6, hcl6⟩ := Cond.classLink_spec hown hl1 e.platform hpl
        obtain ⟨a8, b8, h1, h2, h3⟩ := hn1
        cases Option.some.inj (h1.symm.trans hcl)
        cases Option.some.inj (h2.symm.trans hc6)
        exact Or.inr ⟨hz0, _, hcl6, h3⟩)
  obtain ⟨g₀, hfr⟩ := X'.frames_eq
  have hcell9 : ((T.setVm vm').setFrames (.throwing q :: below)).heap[q]? = some ce := by
    show T.heap[q]? = some ce
    rw [hT]; exact hcell
  have hend : Ended ((T.setVm vm').setFrames (.throwing q :: below)) below (.threw q) := State.frames_setFrames _ (State.cur_lt_of_frames hfr)
  refine ⟨(T.setVm vm').setFrames (.throwing q :: below), ?_, .threw q, X'.here.running, hend, Or.inr ⟨q, rfl, E, ce, locs, hx _ hT (X'.ends _).1.alike, hcell9, hv, hcl, (X'.ends _).1, (X'.ends _).2.mono hc hs, hf⟩⟩
  rw [X.pushThrowing_eq]
  exact st
/-- a thing of a world lies in the heap -/
theorem vx_lt {D : va_G} {cl : List vw_C} {ws : va_W} {H1 : Heap} (h : va_P D cl ws H1) {k : Nat} {q : Nat × va_E} (hk : ws[k]? = some q) : q.1 < H1.size := (h k q hk).lt
end VXS
/-! ===== END ===== -/
/-! ===== BEGIN methods with a table of their own: called by a name, returning or throwing ===== -/
section VXH
/-! vx_backW, vx_callVX, vx_callSX, vx_callVW, vx_runVW, vx_runVX, vx_runSX, vx_ofWH follow the same proofs as their sisters above (Free/Laws.lean, Shelf42/LK1.lean); vx_outP calls Shelf42/NT130.lean (outThrough). -/
section
variable {l : Launch} {R : Room} {p : Program} {e : Env} {below : List Frame} {s : State} {sargs : Array Value} {y : MethodName} {len W9 : Nat}
theorem vx_backW {ws : List Cond} {rm : Room} {Pc : Array Value → State → Prop} {Qc : Array Value → State → Outcome → State → Prop} {XC : String → State → State → Prop} {mc ms : Nat} {free : Addr → Prop} {bytes : ByteArray} {maxL : Nat} {ret : Option FieldType} {hh : List (Nat × Nat × Nat × Nat)}
    (hM : vx_Met l y ws rm Pc Qc XC mc ms free) (hblind : FrameBlind Pc) (hrc : rm.cells = mc) (hrs : rm.slots = ms)
    (hframes : rm.frames + 1 ≤ R.frames) (hlocals : W9 + (maxL + 11) + rm.locals ≤ R.locals)
    (hws : ∀ w ∈ ws, ∀ a' U, s.WarmedH U.vm → w.before a' U = true) (hcode : Cond.codeWith y bytes maxL ret hh ∈ ws) (hinit : ∀ a' U, s.WarmedH U.vm → (Cond.initialized y.cls).before a' U = true) :
    vx_Back l R p e below s sargs y len W9 (PreOf R mc ms Pc) (PostOf Qc mc ms free) (vx_Post XC mc ms free) := by
  intro m meth c A g ig mk a X hg hsize hdg hW hn hp
  have h1 : (headSpec ws rm).pre.before a A.U = true := atoms_intro fun w hw => hws w hw _ _ X.warmed
  have h2 : (Cond.codeWith y bytes maxL ret hh).before a A.U = true := hws _ hcode _ _ X.warmed
  have h3 : (Cond.initialized y.cls).before a A.U = true := hinit _ _ X.warmed
  have h4 : A.cells + (headSpec ws rm).room.cells ≤ R.cells := by rw [show (headSpec ws rm).room.cells = mc from hrc]; exact hp.1
  have h5 : A.slots + (headSpec ws rm).room.slots ≤ R.slots := by rw [show (headSpec ws rm).room.slots = ms from hrs]; exact hp.2.1
  have hPc : Pc a (A.U.calling g mk a) := hblind _ _ _ _ hp.2.2
  obtain ⟨U, Ls, c0, s0⟩ := A
  dsimp only [Pt.U, Pt.locs, Pt.cells, Pt.slots] at h1 h2 h3 h4 h5 X hn hPc ⊢
  obtain ⟨m9, methY, cY, hn9, hmY, hcY, -, hlY, -⟩ := Cond.codeWith_spec h2
  cases Option.some.inj (hn9.symm.trans hn)
  obtain ⟨kY, hkY, -⟩ := className_of_methodNamed hn
  have hinitY : kY.init = .initialized := Cond.initialized_spec (findClass_of_methodNamed hn) hkY h3
  have h : At U g.method c below := by rw [hg]; exact X.here
  have hlocals9 : W9 + (maxL + 11) + (headSpec ws rm).room.locals ≤ R.locals := hlocals
  have happ : (headSpec ws rm).appliesLoose y e.platform (U.calling g mk a) = true :=
    Spec.appliesLoose_calling (g := g) h hdg hn hkY hinitY
      (X.room_calling (g := g) (R' := (headSpec ws rm).room) hsize hmY hcY hframes (by rw [hlY]; omega) h4 h5) h1
  obtain ⟨mid, hmid⟩ := h.above
  have hfr : (U.setTop g).frames = (.java g :: mid) ++ below := by rw [State.frames_setTop' g h.top, hmid]; rfl
  obtain ⟨o, s₂, hsteps, -, hend, hq⟩ := Steps.callFree hM p X.admits X.cas X.clock (acts := []) hfr happ hPc trivial
  have hq' : vx_Q Qc XC mc ms free a (U.calling g mk a) o s₂ := hq
  rw [State.frames_setTop' g h.top] at hend
  obtain ⟨g₀, hg0⟩ := Option.isSome_iff_exists.mp h.top
  obtain ⟨r, hr⟩ := State.topJava?_eq_some.mp hg0
  have hr' : (({ U with heap := s₂.heap, slotsUsed := s₂.slotsUsed } : State).setVm s₂.vm).frames = .java g₀ :: r := hr
  rcases hq' with ⟨hqc, L, hfe, hL⟩ | ⟨q, rfl, E, ce, L, hx, hce, hcv, hcl, hW₂, hsm, hL⟩
  · obtain ⟨⟨v, rfl⟩, hW₂, e2, q2, q3, q4, q5, q6⟩ := id hfe
    have e3 : s₂ = ({ (U.calling g mk a).setFrames s₂.frames with heap := s₂.heap, slotsUsed := s₂.slotsUsed } : State).setVm s₂.vm := by
      have : s₂ = ({ s₂ with vm := (U.calling g mk a).vm } : State).setVm s₂.vm := rfl
      rw [e2] at this
      exact this
    obtain ⟨c₂, i₂, len₂, hc₂, hd₂, hf₂⟩ := hend
    have hW' : U.WarmedH s₂.vm := hW₂
    have hcc : c₂ = c := by
      have h1 : s₂.code? g.method = U.code? g.method := by
        rw [State.code?_eq, State.code?_eq, hW'.alike.method?]
      exact Option.some.inj (hc₂.symm.trans (h1.trans h.code))
    subst hcc
    have hlen : len₂ = len := by rw [hdg] at hd₂; cases hd₂; rfl
    subst hlen
    have hs₂ : s₂ = (({ U with heap := s₂.heap, slotsUsed := s₂.slotsUsed } : State).setVm s₂.vm).setTop { g with pc := g.pc + len₂, stack := v.toList ++ g.stack } := by
      refine e3.trans ?_
      rw [hf₂, State.calling_eq h.top, State.setFrames_setFrames, State.setTop_of_frames _ hr', hr]
      rfl
    have hsame : U.sameButNew ({ U with heap := s₂.heap, slotsUsed := s₂.slotsUsed } : State) L mc ms := by
      refine ⟨?_, q2, q3, q4, q5, q6⟩
      obtain ⟨t, ht, -⟩ := State.frames_cons hr
      show ({ U with heap := s₂.heap, slotsUsed := s₂.slotsUsed } : State) = { U.setFrames U.frames with heap := s₂.heap, slotsUsed := s₂.slotsUsed }
      rw [State.setFrames_self ht]
    subst hg
    refine Or.inl ⟨v, ⟨(({ U with heap := s₂.heap, slotsUsed := s₂.slotsUsed } : State).setVm s₂.vm), Ls ++ L, c0 + mc, s0 + ms⟩,
      ⟨X.admits, X.cas, X.clock, X.frames, X.room, X.hears, X.method, X.code, (X.here.setHeapUsed s₂.heap s₂.slotsUsed).setVm hW'.alike, X.tail, State.WarmedH.trans X.warmed hW', X.limits, X.bytes, X.same.trans (hsame.setVm s.vm)⟩,
      ⟨g, mk, s₂, L, rfl, rfl, hqc, rfl, hL, rfl, rfl⟩, ?_⟩
    show Steps p.tables e below _ ((({ U with heap := s₂.heap, slotsUsed := s₂.slotsUsed } : State).setVm s₂.vm).setTop { g with pc := g.pc + len₂, stack := v.toList ++ g.stack })
    rw [← hs₂]
    exact hsteps
  · obtain ⟨e2, q2, q3, q4, q5, q6⟩ := id hsm
    have e3 : s₂ = ({ (U.calling g mk a).setFrames s₂.frames with heap := s₂.heap, slotsUsed := s₂.slotsUsed } : State).setVm s₂.vm := by
      have : s₂ = ({ s₂ with vm := (U.calling g mk a).vm } : State).setVm s₂.vm := rfl
      rw [e2] at this
      exact this
    have hf₂ : s₂.frames = .throwing q :: .java g :: U.frames.tail := hend
    have hW' : U.WarmedH s₂.vm := hW₂
    have hs₂ : s₂ = ((({ U with heap := s₂.heap, slotsUsed := s₂.slotsUsed } : State).setVm s₂.vm).setTop g).pushFrame (.throwing q) := by
      refine e3.trans ?_
      rw [hf₂, State.calling_eq h.top, State.setFrames_setFrames, State.pushFrame, State.frames_setTop _ hr', State.setTop_of_frames _ hr', State.setFrames_setFrames, hr]
      rfl
    have hsame : U.sameButNew ({ U with heap := s₂.heap, slotsUsed := s₂.slotsUsed } : State) L mc ms := by
      refine ⟨?_, q2, q3, q4, q5, q6⟩
      obtain ⟨t, ht, -⟩ := State.frames_cons hr
      show ({ U with heap := s₂.heap, slotsUsed := s₂.slotsUsed } : State) = { U.setFrames U.frames with heap := s₂.heap, slotsUsed := s₂.slotsUsed }
      rw [State.setFrames_self ht]
    subst hg
    refine Or.inr ⟨q, ⟨(({ U with heap := s₂.heap, slotsUsed := s₂.slotsUsed } : State).setVm s₂.vm), Ls ++ L, c0 + mc, s0 + ms⟩,
      ⟨X.admits, X.cas, X.clock, X.frames, X.room, X.hears, X.method, X.code, (X.here.setHeapUsed s₂.heap s₂.slotsUsed).setVm hW'.alike, X.tail, State.WarmedH.trans X.warmed hW', X.limits, X.bytes, X.same.trans (hsame.setVm s.vm)⟩,
      ⟨g, mk, s₂, L, E, ce, rfl, rfl, hx, hce, hcv, hcl, rfl, hL, rfl, rfl⟩, ?_⟩
    show Steps p.tables e below _ (((({ U with heap := s₂.heap, slotsUsed := s₂.slotsUsed } : State).setVm s₂.vm).setTop g).pushFrame (.throwing q))
    rw [← hs₂]
    exact hsteps
end
variable {p : Program} {l : Launch} {e : Env} {R : Room} {s : State} {m : MethodId} {args : Array Value} {below : List Frame} {meth : Method} {c : Code} {T : State} {H : Heap} {locs : List Loc} {cells slots : Nat}
theorem vx_callVX (X : Stand p l e R s m args below meth c T locs cells slots) (hexec : p.tables.exec = Jvm.exec) {own C : String} {index : Nat} {y : MethodName} {bytes : ByteArray} {maxL : Nat} {ret : Option FieldType} {hh : List (Nat × Nat × Nat × Nat)}
    (hown : s.vm.findClass own = some m.cls) (hlink : (Cond.methodLink own index y).before args s = true) (hinst : (Cond.instanceMethod y).before args s = true) (hsel : (Cond.selects C y y).before args s = true)
    (hcode : (Cond.codeWith y bytes maxL ret hh).before args s = true) (hy : y.cls ≠ "java/lang/invoke/MethodHandle" ∧ y.cls ≠ "java/lang/invoke/VarHandle")
    {W9 : Nat} {Pre : Pt → Array Value → Prop} {Post : Pt → Array Value → Option Value → Pt → Prop} {PostX : Pt → Array Value → Addr → Pt → Prop} (hK : vx_Back l R p e below s args y 3 W9 Pre Post PostX)
    {b : Addr} {cellB : Cell} (hcell : T.heap[b]? = some cellB) (hobj : cellB.vm.isStatics = false) (hcls : s.vm.findClass C = some cellB.cls)
    {g : JFrame} (hg : g.method = m) (hsize : g.locals.size = c.maxLocals) {argsL rest : List Value} (hlen : ∀ sig, parseMethodDescriptor y.desc = some sig → argsL.length = sig.parameters.length)
    (hstack : g.stack = argsL.reverse ++ .ref b :: rest) (hW : 2 * g.monitorRoom + (rest.map fun v => v.category).sum ≤ W9) (hdg : decode c.code g.pc = .ok (.invokevirtual index, 3))
    (hpre : ∀ vm₁, s.WarmedH vm₁ → Pre ⟨T.setVm vm₁, locs, cells, slots⟩ (Value.ref b :: argsL).toArray) :
    (∃ (v : Option Value) (vm₁ : Vm) (B : Pt), s.WarmedH vm₁ ∧ Stand p l e R s m args below meth c B.U B.locs B.cells B.slots ∧ Post ⟨T.setVm vm₁, locs, cells, slots⟩ (Value.ref b :: argsL).toArray v B ∧
      ∀ target, Steps p.tables e below (B.U.setTop { g with pc := g.pc + 3, stack := v.toList ++ rest }) target → Steps p.tables e below (T.setTop g) target) ∨
    (∃ (q : Addr) (vm₁ : Vm) (B : Pt), s.WarmedH vm₁ ∧ Stand p l e R s m args below meth c B.U B.locs B.cells B.slots ∧ PostX ⟨T.setVm vm₁, locs, cells, slots⟩ (Value.ref b :: argsL).toArray q B ∧
      Steps p.tables e below (T.setTop g) ((B.U.setTop { g with stack := rest }).pushFrame (.throwing q))) := by
  obtain ⟨mk, methM, hnamed, hmethM, hstM, habM⟩ := Cond.instanceMethod_spec hinst
  obtain ⟨m8, methM', cM, hn8, hmethM', -, -, -, -, -, -, hsigM⟩ := Cond.codeWith_spec hcode
  cases Option.some.inj (hn8.symm.trans hnamed)
  cases hmethM.symm.trans hmethM'
  obtain ⟨c2, r2, m2, q1, q2, q3, q4, kP, hkP, hkPi⟩ := Cond.selects_spec hsel
  cases hcls.symm.trans q1
  cases (State.methodFound?_of_named hnamed hy).symm.trans q2
  cases hnamed.symm.trans q3
  have hselP : selectMethod e.platform s.vm cellB.cls mk = .method mk := by rw [Launch.admits_selectMethod X.admits]; exact q4
  obtain ⟨vm₁, X₁, hstep₁⟩ := X.invokevirtual hexec hown hlink hnamed hmethM hstM hkP hkPi hy (a := b) (cell := cellB) hcell
    (fun z h => by rw [h] at hobj; cases hobj) hselP hmethM habM hkP hkPi (g := g) hg (argsL := argsL) (rest := rest) (hlen _ hsigM) hstack hdg
  rcases hK m meth c ⟨T.setVm vm₁, locs, cells, slots⟩ { g with stack := rest } (.invokevirtual index) mk (Value.ref b :: argsL).toArray X₁ hg hsize hdg hW (X₁.named hnamed) (hpre vm₁ X₁.warmed) with ⟨v, B, X', hpost, hsteps⟩ | ⟨q, B, X', hpost, hsteps⟩
  · exact Or.inl ⟨v, vm₁, B, X₁.warmed, X', hpost, fun target h => hstep₁ _ fun acts => by rw [doInvoke_state]; exact hsteps.trans h⟩
  · exact Or.inr ⟨q, vm₁, B, X₁.warmed, X', hpost, hstep₁ _ fun acts => by rw [doInvoke_state]; exact hsteps⟩
theorem vx_callSX (X : Stand p l e R s m args below meth c T locs cells slots) (hexec : p.tables.exec = Jvm.exec) {own : String} {index : Nat} {y : MethodName} {bytes : ByteArray} {maxL : Nat} {ret : Option FieldType} {hh : List (Nat × Nat × Nat × Nat)}
    (hown : s.vm.findClass own = some m.cls) (hlink : (Cond.methodLink own index y).before args s = true) (hstat : (Cond.static y).before args s = true) (hinit : (Cond.initialized y.cls).before args s = true)
    (hcode : (Cond.codeWith y bytes maxL ret hh).before args s = true) (hy : y.cls ≠ "java/lang/invoke/MethodHandle" ∧ y.cls ≠ "java/lang/invoke/VarHandle")
    {W9 : Nat} {Pre : Pt → Array Value → Prop} {Post : Pt → Array Value → Option Value → Pt → Prop} {PostX : Pt → Array Value → Addr → Pt → Prop} (hK : vx_Back l R p e below s args y 3 W9 Pre Post PostX)
    {g : JFrame} (hg : g.method = m) (hsize : g.locals.size = c.maxLocals) {argsL rest : List Value} (hlen : ∀ sig, parseMethodDescriptor y.desc = some sig → argsL.length = sig.parameters.length)
    (hstack : g.stack = argsL.reverse ++ rest) (hW : 2 * g.monitorRoom + (rest.map fun v => v.category).sum ≤ W9) (hdg : decode c.code g.pc = .ok (.invokestatic index, 3))
    (hpre : ∀ vm₁, s.WarmedH vm₁ → Pre ⟨T.setVm vm₁, locs, cells, slots⟩ argsL.toArray) :
    (∃ (v : Option Value) (vm₁ : Vm) (B : Pt), s.WarmedH vm₁ ∧ Stand p l e R s m args below meth c B.U B.locs B.cells B.slots ∧ Post ⟨T.setVm vm₁, locs, cells, slots⟩ argsL.toArray v B ∧
      ∀ target, Steps p.tables e below (B.U.setTop { g with pc := g.pc + 3, stack := v.toList ++ rest }) target → Steps p.tables e below (T.setTop g) target) ∨
    (∃ (q : Addr) (vm₁ : Vm) (B : Pt), s.WarmedH vm₁ ∧ Stand p l e R s m args below meth c B.U B.locs B.cells B.slots ∧ PostX ⟨T.setVm vm₁, locs, cells, slots⟩ argsL.toArray q B ∧
      Steps p.tables e below (T.setTop g) ((B.U.setTop { g with stack := rest }).pushFrame (.throwing q))) := by
  obtain ⟨mk, methM, cM, hnamed, hmethM, -, -, -, -, -, -, hsigM⟩ := Cond.codeWith_spec hcode
  have hstatic : methM.isStatic = true := Cond.static_spec hnamed hmethM hstat
  obtain ⟨kP, hkP, -⟩ := className_of_methodNamed hnamed
  have hinitP : kP.init = .initialized := Cond.initialized_spec (findClass_of_methodNamed hnamed) hkP hinit
  obtain ⟨vm₁, X₁, hstep₁⟩ := X.invokestatic hexec hown hlink hnamed hmethM hstatic hkP hinitP hy (g := g) hg (argsL := argsL) (rest := rest) (hlen _ hsigM) hstack hdg
  rcases hK m meth c ⟨T.setVm vm₁, locs, cells, slots⟩ { g with stack := rest } (.invokestatic index) mk argsL.toArray X₁ hg hsize hdg hW (X₁.named hnamed) (hpre vm₁ X₁.warmed) with ⟨v, B, X', hpost, hsteps⟩ | ⟨q, B, X', hpost, hsteps⟩
  · exact Or.inl ⟨v, vm₁, B, X₁.warmed, X', hpost, fun target h => hstep₁ _ fun acts => by rw [doInvoke_state]; exact hsteps.trans h⟩
  · exact Or.inr ⟨q, vm₁, B, X₁.warmed, X', hpost, hstep₁ _ fun acts => by rw [doInvoke_state]; exact hsteps⟩
theorem vx_callVW (X : Stand p l e R s m args below meth c T locs cells slots) (hexec : p.tables.exec = Jvm.exec) {own C : String} {index : Nat} {y : MethodName} {bytes : ByteArray} {maxL : Nat} {ret : Option FieldType} {hh : List (Nat × Nat × Nat × Nat)}
    (hown : s.vm.findClass own = some m.cls) (hlink : (Cond.methodLink own index y).before args s = true) (hinst : (Cond.instanceMethod y).before args s = true) (hsel : (Cond.selects C y y).before args s = true)
    (hcode : (Cond.codeWith y bytes maxL ret hh).before args s = true) (hy : y.cls ≠ "java/lang/invoke/MethodHandle" ∧ y.cls ≠ "java/lang/invoke/VarHandle")
    {W9 : Nat} {Pre : Pt → Array Value → Prop} {Post : Pt → Array Value → Option Value → Pt → Prop} (hK : Back l R p e below s args y 3 W9 Pre Post)
    {b : Addr} {cellB : Cell} (hcell : T.heap[b]? = some cellB) (hobj : cellB.vm.isStatics = false) (hcls : s.vm.findClass C = some cellB.cls)
    {g : JFrame} (hg : g.method = m) (hsize : g.locals.size = c.maxLocals) {argsL rest : List Value} (hlen : ∀ sig, parseMethodDescriptor y.desc = some sig → argsL.length = sig.parameters.length)
    (hstack : g.stack = argsL.reverse ++ .ref b :: rest) (hW : 2 * g.monitorRoom + (rest.map fun v => v.category).sum ≤ W9) (hdg : decode c.code g.pc = .ok (.invokevirtual index, 3))
    (hpre : ∀ vm₁, s.WarmedH vm₁ → Pre ⟨T.setVm vm₁, locs, cells, slots⟩ (Value.ref b :: argsL).toArray) :
    ∃ (v : Option Value) (vm₁ : Vm) (B : Pt), s.WarmedH vm₁ ∧ Stand p l e R s m args below meth c B.U B.locs B.cells B.slots ∧ Post ⟨T.setVm vm₁, locs, cells, slots⟩ (Value.ref b :: argsL).toArray v B ∧
      ∀ target, Steps p.tables e below (B.U.setTop { g with pc := g.pc + 3, stack := v.toList ++ rest }) target → Steps p.tables e below (T.setTop g) target := by
  obtain ⟨mk, methM, hnamed, hmethM, hstM, habM⟩ := Cond.instanceMethod_spec hinst
  obtain ⟨m8, methM', cM, hn8, hmethM', -, -, -, -, -, -, hsigM⟩ := Cond.codeWith_spec hcode
  cases Option.some.inj (hn8.symm.trans hnamed)
  cases hmethM.symm.trans hmethM'
  obtain ⟨c2, r2, m2, q1, q2, q3, q4, kP, hkP, hkPi⟩ := Cond.selects_spec hsel
  cases hcls.symm.trans q1
  cases (State.methodFound?_of_named hnamed hy).symm.trans q2
  cases hnamed.symm.trans q3
  have hselP : selectMethod e.platform s.vm cellB.cls mk = .method mk := by rw [Launch.admits_selectMethod X.admits]; exact q4
  obtain ⟨vm₁, X₁, hstep₁⟩ := X.invokevirtual hexec hown hlink hnamed hmethM hstM hkP hkPi hy (a := b) (cell := cellB) hcell
    (fun z h => by rw [h] at hobj; cases hobj) hselP hmethM habM hkP hkPi (g := g) hg (argsL := argsL) (rest := rest) (hlen _ hsigM) hstack hdg
  obtain ⟨v, B, X', hpost, hsteps⟩ := hK m meth c ⟨T.setVm vm₁, locs, cells, slots⟩ { g with stack := rest } (.invokevirtual index) mk (Value.ref b :: argsL).toArray X₁ hg hsize hdg hW (X₁.named hnamed) (hpre vm₁ X₁.warmed)
  exact ⟨v, vm₁, B, X₁.warmed, X', hpost, fun target h => hstep₁ _ fun acts => by rw [doInvoke_state]; exact hsteps.trans h⟩
abbrev vx_CVW (R : Room) (s : State) (args : Array Value) (own C : String) (index : Nat) (y : MethodName) (bytes : ByteArray) (maxL : Nat) (ret : Option FieldType) (hh : List (Nat × Nat × Nat × Nat)) (ws : List Cond) (rm : Room) (mc ms n : Nat) : Prop :=
  (rm.cells = mc ∧ rm.slots = ms ∧ rm.frames + 1 ≤ R.frames ∧ 8 + (maxL + 11) + rm.locals ≤ R.locals ∧ (∀ w ∈ ws, ∀ (a' : Array Value) (U : State), s.WarmedH U.vm → w.before a' U = true) ∧ Cond.codeWith y bytes maxL ret hh ∈ ws) ∧
  (Cond.codeWith y bytes maxL ret hh).before args s = true ∧ (Cond.initialized y.cls).before args s = true ∧ (y.cls ≠ "java/lang/invoke/MethodHandle" ∧ y.cls ≠ "java/lang/invoke/VarHandle") ∧
  (∀ sig, parseMethodDescriptor y.desc = some sig → n = sig.parameters.length) ∧ (Cond.methodLink own index y).before args s = true ∧ (Cond.instanceMethod y).before args s = true ∧ (Cond.selects C y y).before args s = true
theorem vx_cwVW {own C : String} {index maxL mc ms : Nat} {y : MethodName} {bytes : ByteArray} {ret : Option FieldType} {hh : List (Nat × Nat × Nat × Nat)} {Ts ws ws' : List Cond} {rm : Room} (n : Nat) (ht : ∀ w ∈ Ts, w.before args s = true) (hT : GoodIn Ts (wsV own index C y ws)) (hw : ws = Cond.codeWith y bytes maxL ret hh :: ws') (hrc : rm.cells = mc) (hrs : rm.slots = ms)
    (hd : y.cls = C ∧ y.cls ≠ "java/lang/invoke/MethodHandle" ∧ y.cls ≠ "java/lang/invoke/VarHandle" ∧ (parseMethodDescriptor y.desc).map (fun d => d.parameters.length) = some n) (hR : rm.frames + 1 ≤ R.frames ∧ 8 + (maxL + 11) + rm.locals ≤ R.locals) :
    vx_CVW R s args own C index y bytes maxL ret hh ws rm mc ms n := by
  obtain ⟨hC, hd⟩ := hd
  subst hC
  have ok : ∀ w ∈ wsV own index y.cls y ws, w.before args s = true := fun w h => ht w (hT w h).1
  have hG : GoodIn Ts ws := fun w h => hT w (by unfold wsV; exact List.mem_append_right _ h)
  have hc : Cond.codeWith y bytes maxL ret hh ∈ ws := by rw [hw]; exact List.mem_cons_self
  refine ⟨⟨hrc, hrs, hR.1, hR.2, pay_in ht hG, hc⟩, ht _ (hG _ hc).1, ok _ (by simp [wsV]), ⟨hd.1, hd.2.1⟩, fun sig h => ?_, ok _ (by simp [wsV]), ok _ (by simp [wsV]), ok _ (by simp [wsV])⟩
  have h2 := hd.2.2
  rw [h] at h2
  exact (Option.some.inj h2).symm
theorem vx_runVW {y : MethodName} {bytes cc : ByteArray} {maxL nL mc ms n index : Nat} {ret : Option FieldType} {hh : List (Nat × Nat × Nat × Nat)} {ws : List Cond} {rm : Room} {Pc : Array Value → State → Prop} {Qc : Array Value → State → Outcome → State → Prop} {free : Addr → Prop} {Ts : List Cond} {own C : String} {b : Addr} {As rest : List Value} {g : JFrame}
    (S : CallFix p m c cc nL s args Ts own) (hM : Met l y ws rm Pc Qc mc ms free) (cw : vx_CVW R s args own C index y bytes maxL ret hh ws rm mc ms n) (hp : PreV s H C b Pc As)
    (hg : g.method = m) (hn : As.length = n) (hsize : g.locals.size = nL) (hstack : g.stack = As.reverse ++ .ref b :: rest) (hW : 2 * g.monitorRoom + (rest.map fun v => v.category).sum ≤ 8) (hdg : decode cc g.pc = .ok (.invokevirtual index, 3)) (hf : cells + mc ≤ R.cells ∧ slots + ms ≤ R.slots) :
    va_Run p l e R s m args below meth c H locs cells slots mc ms g rest (Qc (Value.ref b :: As).toArray) free := by
  obtain ⟨⟨hrc, hrs, hfr, hlo, hws, hcw⟩, hcode, hini, hy, hlen, hl, hin, hse⟩ := cw
  have hK : Back l R p e below s args y 3 8 (PreOf R mc ms Pc) (PostOf Qc mc ms free) := va_backW (hh := hh) (bytes := bytes) (maxL := maxL) (ret := ret) hM hp.1 hrc hrs hfr hlo hws hcw (fun a' U hW => word_at hW (Or.inl (by first | rfl | simp [Cond.onTables, Cond.keeps, Cond.steady])) hini)
  obtain ⟨hx, hb, hml, ho, -⟩ := S
  obtain ⟨-, ⟨cellB, hcB, hoB, hclB⟩, hPc⟩ := hp
  intro T hT X
  obtain ⟨v, vm₁, ⟨U', l2, c2, s2⟩, hW₁, X', ⟨g', mk, t, L, e1, e2, hq, h1, hL, h2, h3⟩, st⟩ := vx_callVW X hx (C := C) (hh := hh) (bytes := bytes) (maxL := maxL) (ret := ret) ho hl hin hse hcode hy hK (by rw [hT]; exact hcB) hoB hclB hg (hsize.trans hml.symm) (argsL := As) (rest := rest) (fun sig h => hn.trans (hlen sig h)) hstack hW (by rw [hb]; exact hdg)
    (fun vm₁ hW₁ => ⟨hf.1, hf.2, hPc (T.setVm vm₁) hT hW₁⟩)
  dsimp only [Pt.U, Pt.locs, Pt.cells, Pt.slots] at X' e1 e2 h1 h2 h3 st
  subst h1; subst h2; subst h3
  exact ⟨v, (T.setVm vm₁).calling g' mk (Value.ref b :: As).toArray, t, U', L, hT, X', hL, e1, e2, hq, st⟩
section
variable {y : MethodName} {bytes cc : ByteArray} {maxL nL mc ms n index : Nat} {ret : Option FieldType} {ws : List Cond} {rm : Room} {Pc : Array Value → State → Prop} {Qc : Array Value → State → Outcome → State → Prop} {XC : String → State → State → Prop} {free : Addr → Prop} {Ts : List Cond} {own C : String} {b : Addr} {As rest : List Value} {g : JFrame}
theorem vx_runVX {hh : List (Nat × Nat × Nat × Nat)} (S : CallFix p m c cc nL s args Ts own) (hM : vx_Met l y ws rm Pc Qc XC mc ms free) (cw : vx_CVW R s args own C index y bytes maxL ret hh ws rm mc ms n) (hp : PreV s H C b Pc As)
    (hg : g.method = m) (hn : As.length = n) (hsize : g.locals.size = nL) (hstack : g.stack = As.reverse ++ .ref b :: rest) (hW : 2 * g.monitorRoom + (rest.map fun v => v.category).sum ≤ 8) (hdg : decode cc g.pc = .ok (.invokevirtual index, 3)) (hf : cells + mc ≤ R.cells ∧ slots + ms ≤ R.slots) :
    vx_Run p l e R s m args below meth c H locs cells slots mc ms g rest (Qc (Value.ref b :: As).toArray) XC free := by
  obtain ⟨⟨hrc, hrs, hfr, hlo, hws, hcw⟩, hcode, hini, hy, hlen, hl, hin, hse⟩ := cw
  have hK : vx_Back l R p e below s args y 3 8 (PreOf R mc ms Pc) (PostOf Qc mc ms free) (vx_Post XC mc ms free) := vx_backW (hh := hh) (bytes := bytes) (maxL := maxL) (ret := ret) hM hp.1 hrc hrs hfr hlo hws hcw (fun a' U hW => word_at hW (Or.inl (by first | rfl | simp [Cond.onTables, Cond.keeps, Cond.steady])) hini)
  obtain ⟨hx, hb, hml, ho, -⟩ := S
  obtain ⟨-, ⟨cellB, hcB, hoB, hclB⟩, hPc⟩ := hp
  intro T hT X
  rcases vx_callVX X hx (C := C) (hh := hh) (bytes := bytes) (maxL := maxL) (ret := ret) ho hl hin hse hcode hy hK (by rw [hT]; exact hcB) hoB hclB hg (hsize.trans hml.symm) (argsL := As) (rest := rest) (fun sig h => hn.trans (hlen sig h)) hstack hW (by rw [hb]; exact hdg)
    (fun vm₁ hW₁ => ⟨hf.1, hf.2, hPc (T.setVm vm₁) hT hW₁⟩) with ⟨v, vm₁, ⟨U', l2, c2, s2⟩, hW₁, X', ⟨g', mk, t, L, e1, e2, hq, h1, hL, h2, h3⟩, st⟩ | ⟨q, vm₁, ⟨U', l2, c2, s2⟩, hW₁, X', ⟨g', mk, t, L, E, ce, e1, e2, hq, hce, hcv, hcl, h1, hL, h2, h3⟩, st⟩
  · dsimp only [Pt.U, Pt.locs, Pt.cells, Pt.slots] at X' e1 e2 h1 h2 h3 st
    subst h1; subst h2; subst h3
    exact Or.inl ⟨v, (T.setVm vm₁).calling g' mk (Value.ref b :: As).toArray, t, U', L, hT, X', hL, e1, e2, hq, st⟩
  · dsimp only [Pt.U, Pt.locs, Pt.cells, Pt.slots] at X' e1 e2 h1 h2 h3 st hcl
    subst h1; subst h2; subst h3
    exact Or.inr ⟨q, (T.setVm vm₁).calling g' mk (Value.ref b :: As).toArray, t, U', L, E, ce, hT, X', hL, e1, e2, hq, hce, hcv, vx_cls hW₁ hcl, st⟩
theorem vx_runSX {hh : List (Nat × Nat × Nat × Nat)} (S : CallFix p m c cc nL s args Ts own) (hM : vx_Met l y ws rm Pc Qc XC mc ms free) (cw : vx_CSW R s args own index y bytes maxL ret hh ws rm mc ms n) (hp : PreS s H Pc As)
    (hg : g.method = m) (hn : As.length = n) (hsize : g.locals.size = nL) (hstack : g.stack = As.reverse ++ rest) (hW : 2 * g.monitorRoom + (rest.map fun v => v.category).sum ≤ 8) (hdg : decode cc g.pc = .ok (.invokestatic index, 3)) (hf : cells + mc ≤ R.cells ∧ slots + ms ≤ R.slots) :
    vx_Run p l e R s m args below meth c H locs cells slots mc ms g rest (Qc As.toArray) XC free := by
  obtain ⟨⟨hrc, hrs, hfr, hlo, hws, hcw⟩, hcode, hini, hy, hlen, hl, hstt⟩ := cw
  have hK : vx_Back l R p e below s args y 3 8 (PreOf R mc ms Pc) (PostOf Qc mc ms free) (vx_Post XC mc ms free) := vx_backW (hh := hh) (bytes := bytes) (maxL := maxL) (ret := ret) hM hp.1 hrc hrs hfr hlo hws hcw (fun a' U hW => word_at hW (Or.inl (by first | rfl | simp [Cond.onTables, Cond.keeps, Cond.steady])) hini)
  obtain ⟨hx, hb, hml, ho, -⟩ := S
  intro T hT X
  rcases vx_callSX X hx (hh := hh) (bytes := bytes) (maxL := maxL) (ret := ret) ho hl hstt hini hcode hy hK hg (hsize.trans hml.symm) (argsL := As) (rest := rest) (fun sig h => hn.trans (hlen sig h)) hstack hW (by rw [hb]; exact hdg)
    (fun vm₁ hW₁ => ⟨hf.1, hf.2, hp.2 (T.setVm vm₁) hT hW₁⟩) with ⟨v, vm₁, ⟨U', l2, c2, s2⟩, hW₁, X', ⟨g', mk, t, L, e1, e2, hq, h1, hL, h2, h3⟩, st⟩ | ⟨q, vm₁, ⟨U', l2, c2, s2⟩, hW₁, X', ⟨g', mk, t, L, E, ce, e1, e2, hq, hce, hcv, hcl, h1, hL, h2, h3⟩, st⟩
  · dsimp only [Pt.U, Pt.locs, Pt.cells, Pt.slots] at X' e1 e2 h1 h2 h3 st
    subst h1; subst h2; subst h3
    exact Or.inl ⟨v, (T.setVm vm₁).calling g' mk As.toArray, t, U', L, hT, X', hL, e1, e2, hq, st⟩
  · dsimp only [Pt.U, Pt.locs, Pt.cells, Pt.slots] at X' e1 e2 h1 h2 h3 st hcl
    subst h1; subst h2; subst h3
    exact Or.inr ⟨q, (T.setVm vm₁).calling g' mk As.toArray, t, U', L, E, ce, hT, X', hL, e1, e2, hq, hce, hcv, vx_cls hW₁ hcl, st⟩
end
end VXH
theorem vx_ofWH {l : Launch} {y : MethodName} {ws ws' : List Cond} {rm : Room} {Pc : Array Value → State → Prop} {Qc : Array Value → State → Outcome → State → Prop} {XC : String → State → State → Prop} {mc ms : Nat} {free : Addr → Prop} {cc : ByteArray} {maxL : Nat} {ret : Option FieldType} {hh : List (Nat × Nat × Nat × Nat)}
    (hy : plainName y.cls = true) (hw : ws = Cond.codeWith y cc maxL ret hh :: ws')
    (body : ∀ p e s m args below meth c s₁, BodyLoose p l y (headSpec ws rm) cc maxL ret e s m args below meth c s₁ → c.maxLocals = maxL → Pc args s →
      W p l e (headSpec ws rm).room s m args below meth c s.heap [] 0 0 (vx_MQ below Qc XC args s mc ms free) (entryFrame m args maxL)) : vx_Met l y ws rm Pc Qc XC mc ms free := by
  refine MetFree.of_bodyS (code := cc) (maxLocals := maxL) (ret := ret) hy ?_ ?_
  · intro args s m h hn
    obtain ⟨m9, meth, c, hn9, h1, h2, h3, h4, -, h5, h6, -⟩ := Cond.codeWith_spec (atoms_spec (ws := ws) h _ (by rw [hw]; exact List.mem_cons_self))
    cases hn.symm.trans hn9
    exact ⟨meth, c, h1, h2, h3, h4, h5, h6⟩
  · intro p e s m args below meth c s₁ B hml hP _
    have hh0 : s₁.heap = s.heap := by rw [B.state]; rfl
    obtain ⟨t, a1, o, b1, b2, b3⟩ := body p e s m args below meth c s₁ B hml hP s₁ hh0 (Stand.of_body B)
    exact ⟨t, o, a1, b1, b2, b3⟩
/-! ===== END ===== -/

/-! ===== BEGIN printed: names, fields, word lists, decode rows ===== -/
def RX0 : String := "HouseBells$House"
def TX0 : u_T := fun k => match k with
  | 0 => ("HouseBells$House", "minute", "I", false)
  | 1 => ("HouseBells$House", "roomCount", "I", false)
  | 2 => ("HouseBells$House", "charge", "I", false)
  | 3 => ("HouseBells$House", "served", "I", false)
  | 4 => ("HouseBells$House", "inVain", "I", false)
  | 5 => ("HouseBells$House", "gaveUp", "I", false)
  | 6 => ("HouseBells$House", "unheard", "I", false)
  | 7 => ("HouseBells$House", "floor", "LHouseBells$Row;", true)
  | 8 => ("HouseBells$House", "patience", "LHouseBells$Row;", true)
  | 9 => ("HouseBells$House", "need", "LHouseBells$Row;", true)
  | 10 => ("HouseBells$House", "wire", "LHouseBells$Row;", true)
  | 11 => ("HouseBells$House", "cut", "LHouseBells$Row;", true)
  | 12 => ("HouseBells$House", "waited", "LHouseBells$Row;", true)
  | 13 => ("HouseBells$House", "line", "LHouseBells$Line;", true)
  | _ => ("HouseBells$House", "staff", "LHouseBells$Staff;", true)
def tyX0 : Nat → FieldType := fun k => match k with
  | 0 => .int
  | 1 => .int
  | 2 => .int
  | 3 => .int
  | 4 => .int
  | 5 => .int
  | 6 => .int
  | 7 => .object "HouseBells$Row"
  | 8 => .object "HouseBells$Row"
  | 9 => .object "HouseBells$Row"
  | 10 => .object "HouseBells$Row"
  | 11 => .object "HouseBells$Row"
  | 12 => .object "HouseBells$Row"
  | 13 => .object "HouseBells$Line"
  | _ => .object "HouseBells$Staff"
abbrev wsX00 : List Cond := u_ws RX0 TX0 15
theorem nmX0 : ∀ a, a < 15 → ∀ b, b < 15 → a ≠ b → (TX0 a).2.1 ≠ (TX0 b).2.1 := by decide +kernel
theorem tyX0_ok : ∀ k, k < 15 → parseFieldDescriptor (TX0 k).2.2.1 = some (tyX0 k) := by decide +kernel
abbrev cX0_init : ByteArray := prog_2_method_1_code
def yX0_init : MethodName := ⟨RX0, "<init>", "()V"⟩
abbrev cX0_copyFrom : ByteArray := prog_2_method_2_code
def yX0_copyFrom : MethodName := ⟨RX0, "copyFrom", "(LHouseBells$House;)V"⟩
abbrev cX0_openRoom : ByteArray := prog_2_method_3_code
def yX0_openRoom : MethodName := ⟨RX0, "openRoom", "(III)I"⟩
abbrev cX0_isWaiting : ByteArray := prog_2_method_4_code
def yX0_isWaiting : MethodName := ⟨RX0, "isWaiting", "(I)Z"⟩
abbrev cX0_isAnyoneWaiting : ByteArray := prog_2_method_5_code
def yX0_isAnyoneWaiting : MethodName := ⟨RX0, "isAnyoneWaiting", "()Z"⟩
abbrev cX0_isWireCut : ByteArray := prog_2_method_6_code
def yX0_isWireCut : MethodName := ⟨RX0, "isWireCut", "(I)Z"⟩
abbrev cX0_countCutWires : ByteArray := prog_2_method_7_code
def yX0_countCutWires : MethodName := ⟨RX0, "countCutWires", "()I"⟩
abbrev cX0_swapWires : ByteArray := prog_2_method_8_code
def yX0_swapWires : MethodName := ⟨RX0, "swapWires", "(II)V"⟩
abbrev cX0_isFirstOfItsCircle : ByteArray := prog_2_method_9_code
def yX0_isFirstOfItsCircle : MethodName := ⟨RX0, "isFirstOfItsCircle", "(I)Z"⟩
abbrev cX0_costFrom : ByteArray := prog_2_method_10_code
def yX0_costFrom : MethodName := ⟨RX0, "costFrom", "(I)I"⟩
abbrev cX0_pullBell : ByteArray := prog_2_method_11_code
def yX0_pullBell : MethodName := ⟨RX0, "pullBell", "(I)Z"⟩
abbrev cX0_letMinuteGoBy : ByteArray := prog_2_method_12_code
def yX0_letMinuteGoBy : MethodName := ⟨RX0, "letMinuteGoBy", "()I"⟩
abbrev cX0_letRoomsWait : ByteArray := prog_2_method_13_code
def yX0_letRoomsWait : MethodName := ⟨RX0, "letRoomsWait", "()V"⟩
abbrev cX0_isMultiple : ByteArray := prog_2_method_14_code
def yX0_isMultiple : MethodName := ⟨RX0, "isMultiple", "(II)Z"⟩
abbrev cX0_letServantsMove : ByteArray := prog_2_method_15_code
def yX0_letServantsMove : MethodName := ⟨RX0, "letServantsMove", "()V"⟩
abbrev cX0_arrive : ByteArray := prog_2_method_16_code
def yX0_arrive : MethodName := ⟨RX0, "arrive", "(II)V"⟩
abbrev cX0_sendIdleServants : ByteArray := prog_2_method_17_code
def yX0_sendIdleServants : MethodName := ⟨RX0, "sendIdleServants", "()V"⟩
def RX1 : String := "HouseBells$Line"
def TX1 : u_T := fun k => match k with
  | 0 => ("HouseBells$Line", "count", "I", false)
  | _ => ("HouseBells$Line", "drops", "[I", true)
def tyX1 : Nat → FieldType := fun k => match k with
  | 0 => .int
  | _ => .array .int
abbrev wsX10 : List Cond := u_ws RX1 TX1 2
theorem nmX1 : ∀ a, a < 2 → ∀ b, b < 2 → a ≠ b → (TX1 a).2.1 ≠ (TX1 b).2.1 := by decide +kernel
theorem tyX1_ok : ∀ k, k < 2 → parseFieldDescriptor (TX1 k).2.2.1 = some (tyX1 k) := by decide +kernel
abbrev cX1_init : ByteArray := prog_3_method_1_code
def yX1_init : MethodName := ⟨RX1, "<init>", "()V"⟩
abbrev cX1_copyFrom : ByteArray := prog_3_method_2_code
def yX1_copyFrom : MethodName := ⟨RX1, "copyFrom", "(LHouseBells$Line;)V"⟩
abbrev cX1_first : ByteArray := prog_3_method_3_code
def yX1_first : MethodName := ⟨RX1, "first", "()I"⟩
abbrev cX1_placeOf : ByteArray := prog_3_method_4_code
def yX1_placeOf : MethodName := ⟨RX1, "placeOf", "(I)I"⟩
abbrev cX1_append : ByteArray := prog_3_method_5_code
def yX1_append : MethodName := ⟨RX1, "append", "(I)V"⟩
abbrev cX1_remove : ByteArray := prog_3_method_6_code
def yX1_remove : MethodName := ⟨RX1, "remove", "(I)V"⟩
def RX2 : String := "HouseBells$Row"
def TX2 : u_T := fun k => match k with
  | _ => ("HouseBells$Row", "cells", "[I", true)
def tyX2 : Nat → FieldType := fun k => match k with
  | _ => .array .int
abbrev wsX20 : List Cond := u_ws RX2 TX2 1
theorem nmX2 : ∀ a, a < 1 → ∀ b, b < 1 → a ≠ b → (TX2 a).2.1 ≠ (TX2 b).2.1 := by decide +kernel
theorem tyX2_ok : ∀ k, k < 1 → parseFieldDescriptor (TX2 k).2.2.1 = some (tyX2 k) := by decide +kernel
abbrev cX2_init : ByteArray := prog_4_method_1_code
def yX2_init : MethodName := ⟨RX2, "<init>", "()V"⟩
abbrev cX2_get : ByteArray := prog_4_method_2_code
def yX2_get : MethodName := ⟨RX2, "get", "(I)I"⟩
abbrev cX2_set : ByteArray := prog_4_method_3_code
def yX2_set : MethodName := ⟨RX2, "set", "(II)V"⟩
abbrev cX2_copyFrom : ByteArray := prog_4_method_4_code
def yX2_copyFrom : MethodName := ⟨RX2, "copyFrom", "(LHouseBells$Row;)V"⟩
def RX3 : String := "HouseBells$Staff"
def TX3 : u_T := fun k => match k with
  | 0 => ("HouseBells$Staff", "count", "I", false)
  | 1 => ("HouseBells$Staff", "pace", "LHouseBells$Row;", true)
  | 2 => ("HouseBells$Staff", "floor", "LHouseBells$Row;", true)
  | 3 => ("HouseBells$Staff", "goal", "LHouseBells$Row;", true)
  | 4 => ("HouseBells$Staff", "guest", "LHouseBells$Row;", true)
  | _ => ("HouseBells$Staff", "left", "LHouseBells$Row;", true)
def tyX3 : Nat → FieldType := fun k => match k with
  | 0 => .int
  | 1 => .object "HouseBells$Row"
  | 2 => .object "HouseBells$Row"
  | 3 => .object "HouseBells$Row"
  | 4 => .object "HouseBells$Row"
  | _ => .object "HouseBells$Row"
abbrev wsX30 : List Cond := u_ws RX3 TX3 6
theorem nmX3 : ∀ a, a < 6 → ∀ b, b < 6 → a ≠ b → (TX3 a).2.1 ≠ (TX3 b).2.1 := by decide +kernel
theorem tyX3_ok : ∀ k, k < 6 → parseFieldDescriptor (TX3 k).2.2.1 = some (tyX3 k) := by decide +kernel
abbrev cX3_init : ByteArray := prog_5_method_1_code
def yX3_init : MethodName := ⟨RX3, "<init>", "()V"⟩
abbrev cX3_copyFrom : ByteArray := prog_5_method_2_code
def yX3_copyFrom : MethodName := ⟨RX3, "copyFrom", "(LHouseBells$Staff;)V"⟩
abbrev cX3_hire : ByteArray := prog_5_method_3_code
def yX3_hire : MethodName := ⟨RX3, "hire", "(I)I"⟩
abbrev cX3_rest : ByteArray := prog_5_method_4_code
def yX3_rest : MethodName := ⟨RX3, "rest", "(I)V"⟩
abbrev cX3_isIdle : ByteArray := prog_5_method_5_code
def yX3_isIdle : MethodName := ⟨RX3, "isIdle", "(I)Z"⟩
abbrev cX3_isServing : ByteArray := prog_5_method_6_code
def yX3_isServing : MethodName := ⟨RX3, "isServing", "(I)Z"⟩
abbrev cX3_wayToFloor : ByteArray := prog_5_method_7_code
def yX3_wayToFloor : MethodName := ⟨RX3, "wayToFloor", "(II)I"⟩
abbrev cX3_nearestTo : ByteArray := prog_5_method_8_code
def yX3_nearestTo : MethodName := ⟨RX3, "nearestTo", "(I)I"⟩
abbrev cX3_minutesOfWay : ByteArray := prog_5_method_9_code
def yX3_minutesOfWay : MethodName := ⟨RX3, "minutesOfWay", "(III)I"⟩
def RX4 : String := "HouseBells"
def TX4 : u_T := fun k => match k with
  | 0 => ("HouseBells", "house", "LHouseBells$House;", true)
  | _ => ("HouseBells", "trial", "LHouseBells$House;", true)
def tyX4 : Nat → FieldType := fun k => match k with
  | 0 => .object "HouseBells$House"
  | _ => .object "HouseBells$House"
abbrev wsX40 : List Cond := u_ws RX4 TX4 2
theorem nmX4 : ∀ a, a < 2 → ∀ b, b < 2 → a ≠ b → (TX4 a).2.1 ≠ (TX4 b).2.1 := by decide +kernel
theorem tyX4_ok : ∀ k, k < 2 → parseFieldDescriptor (TX4 k).2.2.1 = some (tyX4 k) := by decide +kernel
abbrev cX4_init : ByteArray := prog_1_method_1_code
def yX4_init : MethodName := ⟨RX4, "<init>", "()V"⟩
abbrev cX4_addRoom : ByteArray := prog_1_method_2_code
def yX4_addRoom : MethodName := ⟨RX4, "addRoom", "(III)I"⟩
abbrev cX4_addServant : ByteArray := prog_1_method_3_code
def yX4_addServant : MethodName := ⟨RX4, "addServant", "(I)I"⟩
abbrev cX4_ring : ByteArray := prog_1_method_4_code
def yX4_ring : MethodName := ⟨RX4, "ring", "(I)Z"⟩
abbrev cX4_cross : ByteArray := prog_1_method_5_code
def yX4_cross : MethodName := ⟨RX4, "cross", "(II)I"⟩
abbrev cX4_cut : ByteArray := prog_1_method_6_code
def yX4_cut : MethodName := ⟨RX4, "cut", "(I)I"⟩
abbrev cX4_mend : ByteArray := prog_1_method_7_code
def yX4_mend : MethodName := ⟨RX4, "mend", "(I)I"⟩
abbrev cX4_recharge : ByteArray := prog_1_method_8_code
def yX4_recharge : MethodName := ⟨RX4, "recharge", "(I)I"⟩
abbrev cX4_putUp : ByteArray := prog_1_method_9_code
def yX4_putUp : MethodName := ⟨RX4, "putUp", "(I)I"⟩
abbrev cX4_pass : ByteArray := prog_1_method_10_code
def yX4_pass : MethodName := ⟨RX4, "pass", "(I)I"⟩
abbrev cX4_minute : ByteArray := prog_1_method_11_code
def yX4_minute : MethodName := ⟨RX4, "minute", "()I"⟩
abbrev cX4_rooms : ByteArray := prog_1_method_12_code
def yX4_rooms : MethodName := ⟨RX4, "rooms", "()I"⟩
abbrev cX4_servants : ByteArray := prog_1_method_13_code
def yX4_servants : MethodName := ⟨RX4, "servants", "()I"⟩
abbrev cX4_charge : ByteArray := prog_1_method_14_code
def yX4_charge : MethodName := ⟨RX4, "charge", "()I"⟩
abbrev cX4_served : ByteArray := prog_1_method_15_code
def yX4_served : MethodName := ⟨RX4, "served", "()I"⟩
abbrev cX4_inVain : ByteArray := prog_1_method_16_code
def yX4_inVain : MethodName := ⟨RX4, "inVain", "()I"⟩
abbrev cX4_gaveUp : ByteArray := prog_1_method_17_code
def yX4_gaveUp : MethodName := ⟨RX4, "gaveUp", "()I"⟩
abbrev cX4_unheard : ByteArray := prog_1_method_18_code
def yX4_unheard : MethodName := ⟨RX4, "unheard", "()I"⟩
abbrev cX4_dropOf : ByteArray := prog_1_method_19_code
def yX4_dropOf : MethodName := ⟨RX4, "dropOf", "(I)I"⟩
abbrev cX4_roomOf : ByteArray := prog_1_method_20_code
def yX4_roomOf : MethodName := ⟨RX4, "roomOf", "(I)I"⟩
abbrev cX4_isCut : ByteArray := prog_1_method_21_code
def yX4_isCut : MethodName := ⟨RX4, "isCut", "(I)Z"⟩
abbrev cX4_waitedFor : ByteArray := prog_1_method_22_code
def yX4_waitedFor : MethodName := ⟨RX4, "waitedFor", "(I)I"⟩
abbrev cX4_longestWaiting : ByteArray := prog_1_method_23_code
def yX4_longestWaiting : MethodName := ⟨RX4, "longestWaiting", "()I"⟩
abbrev cX4_crossed : ByteArray := prog_1_method_24_code
def yX4_crossed : MethodName := ⟨RX4, "crossed", "()I"⟩
abbrev cX4_crossingsNeeded : ByteArray := prog_1_method_25_code
def yX4_crossingsNeeded : MethodName := ⟨RX4, "crossingsNeeded", "()I"⟩
abbrev cX4_fallen : ByteArray := prog_1_method_26_code
def yX4_fallen : MethodName := ⟨RX4, "fallen", "()I"⟩
abbrev cX4_hasFallen : ByteArray := prog_1_method_27_code
def yX4_hasFallen : MethodName := ⟨RX4, "hasFallen", "(I)Z"⟩
abbrev cX4_placeInLine : ByteArray := prog_1_method_28_code
def yX4_placeInLine : MethodName := ⟨RX4, "placeInLine", "(I)I"⟩
abbrev cX4_nextDrop : ByteArray := prog_1_method_29_code
def yX4_nextDrop : MethodName := ⟨RX4, "nextDrop", "()I"⟩
abbrev cX4_ringsLeft : ByteArray := prog_1_method_30_code
def yX4_ringsLeft : MethodName := ⟨RX4, "ringsLeft", "(I)I"⟩
abbrev cX4_floorOf : ByteArray := prog_1_method_31_code
def yX4_floorOf : MethodName := ⟨RX4, "floorOf", "(I)I"⟩
abbrev cX4_goesTo : ByteArray := prog_1_method_32_code
def yX4_goesTo : MethodName := ⟨RX4, "goesTo", "(I)I"⟩
abbrev cX4_serves : ByteArray := prog_1_method_33_code
def yX4_serves : MethodName := ⟨RX4, "serves", "(I)I"⟩
abbrev cX4_minutesLeft : ByteArray := prog_1_method_34_code
def yX4_minutesLeft : MethodName := ⟨RX4, "minutesLeft", "(I)I"⟩
abbrev cX4_wayTo : ByteArray := prog_1_method_35_code
def yX4_wayTo : MethodName := ⟨RX4, "wayTo", "(II)I"⟩
abbrev cX4_nearestIdle : ByteArray := prog_1_method_36_code
def yX4_nearestIdle : MethodName := ⟨RX4, "nearestIdle", "(I)I"⟩
abbrev cX4_minutesUntilServed : ByteArray := prog_1_method_37_code
def yX4_minutesUntilServed : MethodName := ⟨RX4, "minutesUntilServed", "(I)I"⟩
abbrev cX4_servedIn : ByteArray := prog_1_method_38_code
def yX4_servedIn : MethodName := ⟨RX4, "servedIn", "(I)I"⟩
abbrev cX4_bestToCross : ByteArray := prog_1_method_39_code
def yX4_bestToCross : MethodName := ⟨RX4, "bestToCross", "(I)I"⟩
abbrev cX4_meanWait : ByteArray := prog_1_method_40_code
def yX4_meanWait : MethodName := ⟨RX4, "meanWait", "()D"⟩
abbrev cX4_digest : ByteArray := prog_1_method_41_code
def yX4_digest : MethodName := ⟨RX4, "digest", "()J"⟩
abbrev cX4_requireRoom : ByteArray := prog_1_method_42_code
def yX4_requireRoom : MethodName := ⟨RX4, "requireRoom", "(I)V"⟩
abbrev cX4_requireServant : ByteArray := prog_1_method_43_code
def yX4_requireServant : MethodName := ⟨RX4, "requireServant", "(I)V"⟩
abbrev cX4_requireMinutes : ByteArray := prog_1_method_44_code
def yX4_requireMinutes : MethodName := ⟨RX4, "requireMinutes", "(I)V"⟩
abbrev cX4_isWithin : ByteArray := prog_1_method_45_code
def yX4_isWithin : MethodName := ⟨RX4, "isWithin", "(III)Z"⟩
abbrev cX4_serveInTrial : ByteArray := prog_1_method_46_code
def yX4_serveInTrial : MethodName := ⟨RX4, "serveInTrial", "(I)I"⟩
abbrev cX4_quotient : ByteArray := prog_1_method_47_code
def yX4_quotient : MethodName := ⟨RX4, "quotient", "(II)I"⟩
abbrev cX4_mix : ByteArray := prog_1_method_48_code
def yX4_mix : MethodName := ⟨RX4, "mix", "(JI)J"⟩
def RX5 : String := "HouseBellsModel"
def TX5 : u_T := fun k => match k with
  | 0 => ("HouseBellsModel", "thrown", "I", false)
  | 1 => ("HouseBellsModel", "rooms", "I", false)
  | 2 => ("HouseBellsModel", "servants", "I", false)
  | 3 => ("HouseBellsModel", "floor", "[I", true)
  | 4 => ("HouseBellsModel", "patience", "[I", true)
  | 5 => ("HouseBellsModel", "need", "[I", true)
  | 6 => ("HouseBellsModel", "drop", "[I", true)
  | 7 => ("HouseBellsModel", "isCut", "[Z", true)
  | 8 => ("HouseBellsModel", "pace", "[I", true)
  | 9 => ("HouseBellsModel", "now", "[I", true)
  | _ => ("HouseBellsModel", "kept", "[I", true)
def tyX5 : Nat → FieldType := fun k => match k with
  | 0 => .int
  | 1 => .int
  | 2 => .int
  | 3 => .array .int
  | 4 => .array .int
  | 5 => .array .int
  | 6 => .array .int
  | 7 => .array .boolean
  | 8 => .array .int
  | 9 => .array .int
  | _ => .array .int
abbrev wsX50 : List Cond := u_ws RX5 TX5 11
theorem nmX5 : ∀ a, a < 11 → ∀ b, b < 11 → a ≠ b → (TX5 a).2.1 ≠ (TX5 b).2.1 := by decide +kernel
theorem tyX5_ok : ∀ k, k < 11 → parseFieldDescriptor (TX5 k).2.2.1 = some (tyX5 k) := by decide +kernel
abbrev cX5_init : ByteArray := prog_7_method_1_code
def yX5_init : MethodName := ⟨RX5, "<init>", "()V"⟩
abbrev cX5_thrown : ByteArray := prog_7_method_2_code
def yX5_thrown : MethodName := ⟨RX5, "thrown", "()I"⟩
abbrev cX5_no : ByteArray := prog_7_method_3_code
def yX5_no : MethodName := ⟨RX5, "no", "(I)I"⟩
abbrev cX5_ok : ByteArray := prog_7_method_4_code
def yX5_ok : MethodName := ⟨RX5, "ok", "(I)I"⟩
abbrev cX5_isIn : ByteArray := prog_7_method_5_code
def yX5_isIn : MethodName := ⟨RX5, "isIn", "(III)Z"⟩
abbrev cX5_isRoom : ByteArray := prog_7_method_6_code
def yX5_isRoom : MethodName := ⟨RX5, "isRoom", "(I)Z"⟩
abbrev cX5_isServant : ByteArray := prog_7_method_7_code
def yX5_isServant : MethodName := ⟨RX5, "isServant", "(I)Z"⟩
abbrev cX5_isKnown : ByteArray := prog_7_method_8_code
def yX5_isKnown : MethodName := ⟨RX5, "isKnown", "(Z)Z"⟩
abbrev cX5_keep : ByteArray := prog_7_method_9_code
def yX5_keep : MethodName := ⟨RX5, "keep", "()V"⟩
abbrev cX5_bringBack : ByteArray := prog_7_method_10_code
def yX5_bringBack : MethodName := ⟨RX5, "bringBack", "()V"⟩
abbrev cX5_inLine : ByteArray := prog_7_method_11_code
def yX5_inLine : MethodName := ⟨RX5, "inLine", "(I)I"⟩
abbrev cX5_takeOut : ByteArray := prog_7_method_12_code
def yX5_takeOut : MethodName := ⟨RX5, "takeOut", "(I)V"⟩
abbrev cX5_rings : ByteArray := prog_7_method_13_code
def yX5_rings : MethodName := ⟨RX5, "rings", "(I)Z"⟩
abbrev cX5_way : ByteArray := prog_7_method_14_code
def yX5_way : MethodName := ⟨RX5, "way", "(II)I"⟩
abbrev cX5_nearest : ByteArray := prog_7_method_15_code
def yX5_nearest : MethodName := ⟨RX5, "nearest", "(I)I"⟩
abbrev cX5_give : ByteArray := prog_7_method_16_code
def yX5_give : MethodName := ⟨RX5, "give", "(IIII)V"⟩
abbrev cX5_comeTo : ByteArray := prog_7_method_17_code
def yX5_comeTo : MethodName := ⟨RX5, "comeTo", "(II)V"⟩
abbrev cX5_hold : ByteArray := prog_7_method_18_code
def yX5_hold : MethodName := ⟨RX5, "hold", "(I)V"⟩
abbrev cX5_work : ByteArray := prog_7_method_19_code
def yX5_work : MethodName := ⟨RX5, "work", "(I)V"⟩
abbrev cX5_sends : ByteArray := prog_7_method_20_code
def yX5_sends : MethodName := ⟨RX5, "sends", "()Z"⟩
abbrev cX5_minuteOn : ByteArray := prog_7_method_21_code
def yX5_minuteOn : MethodName := ⟨RX5, "minuteOn", "()V"⟩
abbrev cX5_minutesOn : ByteArray := prog_7_method_22_code
def yX5_minutesOn : MethodName := ⟨RX5, "minutesOn", "(I)V"⟩
abbrev cX5_addRoom : ByteArray := prog_7_method_23_code
def yX5_addRoom : MethodName := ⟨RX5, "addRoom", "(III)I"⟩
abbrev cX5_addServant : ByteArray := prog_7_method_24_code
def yX5_addServant : MethodName := ⟨RX5, "addServant", "(I)I"⟩
abbrev cX5_ring : ByteArray := prog_7_method_25_code
def yX5_ring : MethodName := ⟨RX5, "ring", "(I)Z"⟩
abbrev cX5_swap : ByteArray := prog_7_method_26_code
def yX5_swap : MethodName := ⟨RX5, "swap", "(II)V"⟩
abbrev cX5_cross : ByteArray := prog_7_method_27_code
def yX5_cross : MethodName := ⟨RX5, "cross", "(II)I"⟩
abbrev cX5_manyCut : ByteArray := prog_7_method_28_code
def yX5_manyCut : MethodName := ⟨RX5, "manyCut", "()I"⟩
abbrev cX5_turn : ByteArray := prog_7_method_29_code
def yX5_turn : MethodName := ⟨RX5, "turn", "(IZ)I"⟩
abbrev cX5_cut : ByteArray := prog_7_method_30_code
def yX5_cut : MethodName := ⟨RX5, "cut", "(I)I"⟩
abbrev cX5_mend : ByteArray := prog_7_method_31_code
def yX5_mend : MethodName := ⟨RX5, "mend", "(I)I"⟩
abbrev cX5_recharge : ByteArray := prog_7_method_32_code
def yX5_recharge : MethodName := ⟨RX5, "recharge", "(I)I"⟩
abbrev cX5_putUp : ByteArray := prog_7_method_33_code
def yX5_putUp : MethodName := ⟨RX5, "putUp", "(I)I"⟩
abbrev cX5_pass : ByteArray := prog_7_method_34_code
def yX5_pass : MethodName := ⟨RX5, "pass", "(I)I"⟩
abbrev cX5_minute : ByteArray := prog_7_method_35_code
def yX5_minute : MethodName := ⟨RX5, "minute", "()I"⟩
abbrev cX5_rooms : ByteArray := prog_7_method_36_code
def yX5_rooms : MethodName := ⟨RX5, "rooms", "()I"⟩
abbrev cX5_servants : ByteArray := prog_7_method_37_code
def yX5_servants : MethodName := ⟨RX5, "servants", "()I"⟩
abbrev cX5_charge : ByteArray := prog_7_method_38_code
def yX5_charge : MethodName := ⟨RX5, "charge", "()I"⟩
abbrev cX5_served : ByteArray := prog_7_method_39_code
def yX5_served : MethodName := ⟨RX5, "served", "()I"⟩
abbrev cX5_inVain : ByteArray := prog_7_method_40_code
def yX5_inVain : MethodName := ⟨RX5, "inVain", "()I"⟩
abbrev cX5_gaveUp : ByteArray := prog_7_method_41_code
def yX5_gaveUp : MethodName := ⟨RX5, "gaveUp", "()I"⟩
abbrev cX5_unheard : ByteArray := prog_7_method_42_code
def yX5_unheard : MethodName := ⟨RX5, "unheard", "()I"⟩
abbrev cX5_dropOf : ByteArray := prog_7_method_43_code
def yX5_dropOf : MethodName := ⟨RX5, "dropOf", "(I)I"⟩
abbrev cX5_leads : ByteArray := prog_7_method_44_code
def yX5_leads : MethodName := ⟨RX5, "leads", "(I)I"⟩
abbrev cX5_roomOf : ByteArray := prog_7_method_45_code
def yX5_roomOf : MethodName := ⟨RX5, "roomOf", "(I)I"⟩
abbrev cX5_isCut : ByteArray := prog_7_method_46_code
def yX5_isCut : MethodName := ⟨RX5, "isCut", "(I)Z"⟩
abbrev cX5_waitedFor : ByteArray := prog_7_method_47_code
def yX5_waitedFor : MethodName := ⟨RX5, "waitedFor", "(I)I"⟩
abbrev cX5_longest : ByteArray := prog_7_method_48_code
def yX5_longest : MethodName := ⟨RX5, "longest", "()I"⟩
abbrev cX5_longestWaiting : ByteArray := prog_7_method_49_code
def yX5_longestWaiting : MethodName := ⟨RX5, "longestWaiting", "()I"⟩
abbrev cX5_manyCrossed : ByteArray := prog_7_method_50_code
def yX5_manyCrossed : MethodName := ⟨RX5, "manyCrossed", "()I"⟩
abbrev cX5_crossed : ByteArray := prog_7_method_51_code
def yX5_crossed : MethodName := ⟨RX5, "crossed", "()I"⟩
abbrev cX5_crossings : ByteArray := prog_7_method_52_code
def yX5_crossings : MethodName := ⟨RX5, "crossings", "()I"⟩
abbrev cX5_crossingsNeeded : ByteArray := prog_7_method_53_code
def yX5_crossingsNeeded : MethodName := ⟨RX5, "crossingsNeeded", "()I"⟩
abbrev cX5_fallen : ByteArray := prog_7_method_54_code
def yX5_fallen : MethodName := ⟨RX5, "fallen", "()I"⟩
abbrev cX5_hasFallen : ByteArray := prog_7_method_55_code
def yX5_hasFallen : MethodName := ⟨RX5, "hasFallen", "(I)Z"⟩
abbrev cX5_placeInLine : ByteArray := prog_7_method_56_code
def yX5_placeInLine : MethodName := ⟨RX5, "placeInLine", "(I)I"⟩
abbrev cX5_head : ByteArray := prog_7_method_57_code
def yX5_head : MethodName := ⟨RX5, "head", "()I"⟩
abbrev cX5_nextDrop : ByteArray := prog_7_method_58_code
def yX5_nextDrop : MethodName := ⟨RX5, "nextDrop", "()I"⟩
abbrev cX5_left : ByteArray := prog_7_method_59_code
def yX5_left : MethodName := ⟨RX5, "left", "(I)I"⟩
abbrev cX5_ringsLeft : ByteArray := prog_7_method_60_code
def yX5_ringsLeft : MethodName := ⟨RX5, "ringsLeft", "(I)I"⟩
abbrev cX5_floorOf : ByteArray := prog_7_method_61_code
def yX5_floorOf : MethodName := ⟨RX5, "floorOf", "(I)I"⟩
abbrev cX5_whom : ByteArray := prog_7_method_62_code
def yX5_whom : MethodName := ⟨RX5, "whom", "(II)I"⟩
abbrev cX5_goesTo : ByteArray := prog_7_method_63_code
def yX5_goesTo : MethodName := ⟨RX5, "goesTo", "(I)I"⟩
abbrev cX5_serves : ByteArray := prog_7_method_64_code
def yX5_serves : MethodName := ⟨RX5, "serves", "(I)I"⟩
abbrev cX5_minutesLeft : ByteArray := prog_7_method_65_code
def yX5_minutesLeft : MethodName := ⟨RX5, "minutesLeft", "(I)I"⟩
abbrev cX5_wayTo : ByteArray := prog_7_method_66_code
def yX5_wayTo : MethodName := ⟨RX5, "wayTo", "(II)I"⟩
abbrev cX5_nearestIdle : ByteArray := prog_7_method_67_code
def yX5_nearestIdle : MethodName := ⟨RX5, "nearestIdle", "(I)I"⟩
abbrev cX5_isServed : ByteArray := prog_7_method_68_code
def yX5_isServed : MethodName := ⟨RX5, "isServed", "(I)Z"⟩
abbrev cX5_untilServed : ByteArray := prog_7_method_69_code
def yX5_untilServed : MethodName := ⟨RX5, "untilServed", "(I)I"⟩
abbrev cX5_minutesUntilServed : ByteArray := prog_7_method_70_code
def yX5_minutesUntilServed : MethodName := ⟨RX5, "minutesUntilServed", "(I)I"⟩
abbrev cX5_soon : ByteArray := prog_7_method_71_code
def yX5_soon : MethodName := ⟨RX5, "soon", "(I)I"⟩
abbrev cX5_servedIn : ByteArray := prog_7_method_72_code
def yX5_servedIn : MethodName := ⟨RX5, "servedIn", "(I)I"⟩
abbrev cX5_best : ByteArray := prog_7_method_73_code
def yX5_best : MethodName := ⟨RX5, "best", "(I)I"⟩
abbrev cX5_bestToCross : ByteArray := prog_7_method_74_code
def yX5_bestToCross : MethodName := ⟨RX5, "bestToCross", "(I)I"⟩
abbrev cX5_meanWait : ByteArray := prog_7_method_75_code
def yX5_meanWait : MethodName := ⟨RX5, "meanWait", "()D"⟩
abbrev cX5_digest : ByteArray := prog_7_method_76_code
def yX5_digest : MethodName := ⟨RX5, "digest", "()J"⟩
def RJ9 : String := "java/lang/Math"
def TJ9 : u_T := fun k => match k with
  | _ => ("", "", "", false)
def tyJ9 : Nat → FieldType := fun k => match k with
  | _ => .int
abbrev wsJ90 : List Cond := u_ws RJ9 TJ9 0
theorem nmJ9 : ∀ a, a < 0 → ∀ b, b < 0 → a ≠ b → (TJ9 a).2.1 ≠ (TJ9 b).2.1 := by decide +kernel
theorem tyJ9_ok : ∀ k, k < 0 → parseFieldDescriptor (TJ9 k).2.2.1 = some (tyJ9 k) := by decide +kernel
abbrev cJ9_abs_0f7a4 : ByteArray := prog_12_method_59_code
def yJ9_abs_0f7a4 : MethodName := ⟨RJ9, "abs", "(I)I"⟩
abbrev cJ9_max_7cf53 : ByteArray := prog_12_method_65_code
def yJ9_max_7cf53 : MethodName := ⟨RJ9, "max", "(II)I"⟩
def RJ0 : String := "java/lang/String"
def TJ0 : u_T := fun k => match k with
  | _ => ("", "", "", false)
def tyJ0 : Nat → FieldType := fun k => match k with
  | _ => .int
abbrev wsJ00 : List Cond := u_ws RJ0 TJ0 0
theorem nmJ0 : ∀ a, a < 0 → ∀ b, b < 0 → a ≠ b → (TJ0 a).2.1 ≠ (TJ0 b).2.1 := by decide +kernel
theorem tyJ0_ok : ∀ k, k < 0 → parseFieldDescriptor (TJ0 k).2.2.1 = some (tyJ0 k) := by decide +kernel
def RJ10 : String := "java/lang/System"
def TJ10 : u_T := fun k => match k with
  | _ => ("", "", "", false)
def tyJ10 : Nat → FieldType := fun k => match k with
  | _ => .int
abbrev wsJ100 : List Cond := u_ws RJ10 TJ10 0
theorem nmJ10 : ∀ a, a < 0 → ∀ b, b < 0 → a ≠ b → (TJ10 a).2.1 ≠ (TJ10 b).2.1 := by decide +kernel
theorem tyJ10_ok : ∀ k, k < 0 → parseFieldDescriptor (TJ10 k).2.2.1 = some (tyJ10 k) := by decide +kernel
def RL : String := "HouseBellsLaw"
abbrev cL_addRoom : ByteArray := method_3_code
def yL_addRoom : MethodName := ⟨RL, "addRoom", "(LHouseBells;III[J)I"⟩
abbrev cL_addServant : ByteArray := method_4_code
def yL_addServant : MethodName := ⟨RL, "addServant", "(LHouseBells;I[J)I"⟩
abbrev cL_ring : ByteArray := method_5_code
def yL_ring : MethodName := ⟨RL, "ring", "(LHouseBells;I[J)I"⟩
abbrev cL_cross : ByteArray := method_6_code
def yL_cross : MethodName := ⟨RL, "cross", "(LHouseBells;II[J)I"⟩
abbrev cL_cut : ByteArray := method_7_code
def yL_cut : MethodName := ⟨RL, "cut", "(LHouseBells;I[J)I"⟩
abbrev cL_mend : ByteArray := method_8_code
def yL_mend : MethodName := ⟨RL, "mend", "(LHouseBells;I[J)I"⟩
abbrev cL_recharge : ByteArray := method_9_code
def yL_recharge : MethodName := ⟨RL, "recharge", "(LHouseBells;I[J)I"⟩
abbrev cL_putUp : ByteArray := method_10_code
def yL_putUp : MethodName := ⟨RL, "putUp", "(LHouseBells;I[J)I"⟩
abbrev cL_pass : ByteArray := method_11_code
def yL_pass : MethodName := ⟨RL, "pass", "(LHouseBells;I[J)I"⟩
abbrev cL_dropOf : ByteArray := method_12_code
def yL_dropOf : MethodName := ⟨RL, "dropOf", "(LHouseBells;I[J)I"⟩
abbrev cL_roomOf : ByteArray := method_13_code
def yL_roomOf : MethodName := ⟨RL, "roomOf", "(LHouseBells;I[J)I"⟩
abbrev cL_isCut : ByteArray := method_14_code
def yL_isCut : MethodName := ⟨RL, "isCut", "(LHouseBells;I[J)I"⟩
abbrev cL_waitedFor : ByteArray := method_15_code
def yL_waitedFor : MethodName := ⟨RL, "waitedFor", "(LHouseBells;I[J)I"⟩
abbrev cL_hasFallen : ByteArray := method_16_code
def yL_hasFallen : MethodName := ⟨RL, "hasFallen", "(LHouseBells;I[J)I"⟩
abbrev cL_placeInLine : ByteArray := method_17_code
def yL_placeInLine : MethodName := ⟨RL, "placeInLine", "(LHouseBells;I[J)I"⟩
abbrev cL_ringsLeft : ByteArray := method_18_code
def yL_ringsLeft : MethodName := ⟨RL, "ringsLeft", "(LHouseBells;I[J)I"⟩
abbrev cL_floorOf : ByteArray := method_19_code
def yL_floorOf : MethodName := ⟨RL, "floorOf", "(LHouseBells;I[J)I"⟩
abbrev cL_goesTo : ByteArray := method_20_code
def yL_goesTo : MethodName := ⟨RL, "goesTo", "(LHouseBells;I[J)I"⟩
abbrev cL_serves : ByteArray := method_21_code
def yL_serves : MethodName := ⟨RL, "serves", "(LHouseBells;I[J)I"⟩
abbrev cL_minutesLeft : ByteArray := method_22_code
def yL_minutesLeft : MethodName := ⟨RL, "minutesLeft", "(LHouseBells;I[J)I"⟩
abbrev cL_wayTo : ByteArray := method_23_code
def yL_wayTo : MethodName := ⟨RL, "wayTo", "(LHouseBells;II[J)I"⟩
abbrev cL_nearestIdle : ByteArray := method_24_code
def yL_nearestIdle : MethodName := ⟨RL, "nearestIdle", "(LHouseBells;I[J)I"⟩
abbrev cL_minutesUntilServed : ByteArray := method_25_code
def yL_minutesUntilServed : MethodName := ⟨RL, "minutesUntilServed", "(LHouseBells;I[J)I"⟩
abbrev cL_servedIn : ByteArray := method_26_code
def yL_servedIn : MethodName := ⟨RL, "servedIn", "(LHouseBells;I[J)I"⟩
abbrev cL_bestToCross : ByteArray := method_27_code
def yL_bestToCross : MethodName := ⟨RL, "bestToCross", "(LHouseBells;I[J)I"⟩
abbrev cL_law : ByteArray := code
def yL_law : MethodName := ⟨RL, "law", "([I)Z"⟩
def wsX2_init : List Cond := .code yX2_init cX2_init 1 none :: ([.methodLink RX2 3 objectInit, .instanceMethod objectInit, .code objectInit ⟨#[0xb1]⟩ 1 none, .arrayClass .int, .fieldLink RX2 9 "HouseBells$Row" "cells" "[I"] ++ wsX20)
def wsX1_init : List Cond := .code yX1_init cX1_init 1 none :: ([.methodLink RX1 3 objectInit, .instanceMethod objectInit, .code objectInit ⟨#[0xb1]⟩ 1 none, .arrayClass .int, .fieldLink RX1 9 "HouseBells$Line" "drops" "[I"] ++ wsX10)
def wsX3_init : List Cond := .code yX3_init cX3_init 1 none :: ([.methodLink RX3 3 objectInit, .instanceMethod objectInit, .code objectInit ⟨#[0xb1]⟩ 1 none, .classLink RX3 9 RX2, .instantiable RX2 1, .initialized RX2, .fieldLink RX3 12 "HouseBells$Staff" "pace" "LHouseBells$Row;", .fieldLink RX3 18 "HouseBells$Staff" "floor" "LHouseBells$Row;", .fieldLink RX3 21 "HouseBells$Staff" "goal" "LHouseBells$Row;", .fieldLink RX3 24 "HouseBells$Staff" "guest" "LHouseBells$Row;", .fieldLink RX3 27 "HouseBells$Staff" "left" "LHouseBells$Row;", .methodLink RX3 11 yX2_init, .instanceMethod yX2_init, .code yX2_init cX2_init 1 none, .methodLink RX2 3 objectInit, .arrayClass .int, .fieldLink RX2 9 "HouseBells$Row" "cells" "[I"] ++ wsX20 ++ wsX30)
def wsX0_init_r1 : List Cond := [Cond.methodLink RX0 3 objectInit, Cond.instanceMethod objectInit, Cond.code objectInit ⟨#[0xb1]⟩ 1 none, Cond.fieldLink RX0 9 "HouseBells$House" "charge" "I", Cond.classLink RX0 15 RX2, Cond.instantiable RX2 1, Cond.initialized RX2, Cond.fieldLink RX0 18 "HouseBells$House" "floor" "LHouseBells$Row;", Cond.fieldLink RX0 22 "HouseBells$House" "patience" "LHouseBells$Row;", Cond.fieldLink RX0 25 "HouseBells$House" "need" "LHouseBells$Row;", Cond.fieldLink RX0 28 "HouseBells$House" "wire" "LHouseBells$Row;", Cond.fieldLink RX0 31 "HouseBells$House" "cut" "LHouseBells$Row;", Cond.fieldLink RX0 34 "HouseBells$House" "waited" "LHouseBells$Row;", Cond.classLink RX0 37 RX1, Cond.instantiable RX1 2, Cond.initialized RX1, Cond.fieldLink RX0 40 "HouseBells$House" "line" "LHouseBells$Line;", Cond.classLink RX0 44 RX3, Cond.instantiable RX3 6, Cond.initialized RX3, Cond.fieldLink RX0 47 "HouseBells$House" "staff" "LHouseBells$Staff;", Cond.methodLink RX0 17 yX2_init, Cond.instanceMethod yX2_init, Cond.code yX2_init cX2_init 1 none]
def wsX0_init_r2 : List Cond := [Cond.methodLink RX2 3 objectInit, Cond.arrayClass .int, Cond.fieldLink RX2 9 "HouseBells$Row" "cells" "[I", Cond.methodLink RX0 39 yX1_init, Cond.instanceMethod yX1_init, Cond.code yX1_init cX1_init 1 none, Cond.methodLink RX1 3 objectInit, Cond.fieldLink RX1 9 "HouseBells$Line" "drops" "[I", Cond.methodLink RX0 46 yX3_init, Cond.instanceMethod yX3_init, Cond.code yX3_init cX3_init 1 none, Cond.methodLink RX3 3 objectInit, Cond.classLink RX3 9 RX2, Cond.fieldLink RX3 12 "HouseBells$Staff" "pace" "LHouseBells$Row;", Cond.fieldLink RX3 18 "HouseBells$Staff" "floor" "LHouseBells$Row;", Cond.fieldLink RX3 21 "HouseBells$Staff" "goal" "LHouseBells$Row;", Cond.fieldLink RX3 24 "HouseBells$Staff" "guest" "LHouseBells$Row;", Cond.fieldLink RX3 27 "HouseBells$Staff" "left" "LHouseBells$Row;", Cond.methodLink RX3 11 yX2_init]
def wsX0_init : List Cond := .code yX0_init cX0_init 1 none :: ((wsX0_init_r1 ++ wsX0_init_r2) ++ wsX00 ++ wsX20 ++ wsX10 ++ wsX30)
def wsX2_copyFrom : List Cond := .code yX2_copyFrom cX2_copyFrom 3 none :: ([.fieldLink RX2 9 "HouseBells$Row" "cells" "[I"] ++ wsX20)
def wsX1_copyFrom : List Cond := .code yX1_copyFrom cX1_copyFrom 3 none :: ([.fieldLink RX1 15 "HouseBells$Line" "count" "I", .fieldLink RX1 9 "HouseBells$Line" "drops" "[I"] ++ wsX10)
def wsX3_copyFrom : List Cond := .code yX3_copyFrom cX3_copyFrom 2 none :: ([.fieldLink RX3 30 "HouseBells$Staff" "count" "I", .fieldLink RX3 12 "HouseBells$Staff" "pace" "LHouseBells$Row;", .fieldLink RX3 18 "HouseBells$Staff" "floor" "LHouseBells$Row;", .fieldLink RX3 21 "HouseBells$Staff" "goal" "LHouseBells$Row;", .fieldLink RX3 24 "HouseBells$Staff" "guest" "LHouseBells$Row;", .fieldLink RX3 27 "HouseBells$Staff" "left" "LHouseBells$Row;", .methodLink RX3 34 yX2_copyFrom, .instanceMethod yX2_copyFrom, .selects RX2 yX2_copyFrom yX2_copyFrom, .initialized RX2, .code yX2_copyFrom cX2_copyFrom 3 none, .fieldLink RX2 9 "HouseBells$Row" "cells" "[I"] ++ wsX30 ++ wsX20)
def wsX0_copyFrom_r1 : List Cond := [Cond.fieldLink RX0 51 "HouseBells$House" "minute" "I", Cond.fieldLink RX0 54 "HouseBells$House" "roomCount" "I", Cond.fieldLink RX0 9 "HouseBells$House" "charge" "I", Cond.fieldLink RX0 57 "HouseBells$House" "served" "I", Cond.fieldLink RX0 60 "HouseBells$House" "inVain" "I", Cond.fieldLink RX0 63 "HouseBells$House" "gaveUp" "I", Cond.fieldLink RX0 66 "HouseBells$House" "unheard" "I", Cond.fieldLink RX0 18 "HouseBells$House" "floor" "LHouseBells$Row;", Cond.fieldLink RX0 22 "HouseBells$House" "patience" "LHouseBells$Row;", Cond.fieldLink RX0 25 "HouseBells$House" "need" "LHouseBells$Row;", Cond.fieldLink RX0 28 "HouseBells$House" "wire" "LHouseBells$Row;", Cond.fieldLink RX0 31 "HouseBells$House" "cut" "LHouseBells$Row;", Cond.fieldLink RX0 34 "HouseBells$House" "waited" "LHouseBells$Row;", Cond.fieldLink RX0 40 "HouseBells$House" "line" "LHouseBells$Line;", Cond.fieldLink RX0 47 "HouseBells$House" "staff" "LHouseBells$Staff;", Cond.methodLink RX0 69 yX2_copyFrom, Cond.instanceMethod yX2_copyFrom, Cond.selects RX2 yX2_copyFrom yX2_copyFrom, Cond.initialized RX2, Cond.code yX2_copyFrom cX2_copyFrom 3 none, Cond.fieldLink RX2 9 "HouseBells$Row" "cells" "[I", Cond.methodLink RX0 73 yX1_copyFrom, Cond.instanceMethod yX1_copyFrom, Cond.selects RX1 yX1_copyFrom yX1_copyFrom]
def wsX0_copyFrom_r2 : List Cond := [Cond.initialized RX1, Cond.code yX1_copyFrom cX1_copyFrom 3 none, Cond.fieldLink RX1 15 "HouseBells$Line" "count" "I", Cond.fieldLink RX1 9 "HouseBells$Line" "drops" "[I", Cond.methodLink RX0 76 yX3_copyFrom, Cond.instanceMethod yX3_copyFrom, Cond.selects RX3 yX3_copyFrom yX3_copyFrom, Cond.initialized RX3, Cond.code yX3_copyFrom cX3_copyFrom 2 none, Cond.fieldLink RX3 30 "HouseBells$Staff" "count" "I", Cond.fieldLink RX3 12 "HouseBells$Staff" "pace" "LHouseBells$Row;", Cond.fieldLink RX3 18 "HouseBells$Staff" "floor" "LHouseBells$Row;", Cond.fieldLink RX3 21 "HouseBells$Staff" "goal" "LHouseBells$Row;", Cond.fieldLink RX3 24 "HouseBells$Staff" "guest" "LHouseBells$Row;", Cond.fieldLink RX3 27 "HouseBells$Staff" "left" "LHouseBells$Row;", Cond.methodLink RX3 34 yX2_copyFrom]
def wsX0_copyFrom : List Cond := .code yX0_copyFrom cX0_copyFrom 2 none :: ((wsX0_copyFrom_r1 ++ wsX0_copyFrom_r2) ++ wsX00 ++ wsX20 ++ wsX10 ++ wsX30)
def wsX2_set : List Cond := .code yX2_set cX2_set 3 none :: ([.fieldLink RX2 9 "HouseBells$Row" "cells" "[I"] ++ wsX20)
def wsX0_openRoom : List Cond := .code yX0_openRoom cX0_openRoom 5 (some .int) :: ([.fieldLink RX0 54 "HouseBells$House" "roomCount" "I", .fieldLink RX0 18 "HouseBells$House" "floor" "LHouseBells$Row;", .fieldLink RX0 22 "HouseBells$House" "patience" "LHouseBells$Row;", .fieldLink RX0 25 "HouseBells$House" "need" "LHouseBells$Row;", .fieldLink RX0 28 "HouseBells$House" "wire" "LHouseBells$Row;", .fieldLink RX0 31 "HouseBells$House" "cut" "LHouseBells$Row;", .fieldLink RX0 34 "HouseBells$House" "waited" "LHouseBells$Row;", .methodLink RX0 79 yX2_set, .instanceMethod yX2_set, .selects RX2 yX2_set yX2_set, .initialized RX2, .code yX2_set cX2_set 3 none, .fieldLink RX2 9 "HouseBells$Row" "cells" "[I"] ++ wsX00 ++ wsX20)
def wsX2_get : List Cond := .code yX2_get cX2_get 2 (some .int) :: ([.fieldLink RX2 9 "HouseBells$Row" "cells" "[I"] ++ wsX20)
def wsX0_isWaiting : List Cond := .code yX0_isWaiting cX0_isWaiting 2 (some .boolean) :: ([.fieldLink RX0 34 "HouseBells$House" "waited" "LHouseBells$Row;", .methodLink RX0 83 yX2_get, .instanceMethod yX2_get, .selects RX2 yX2_get yX2_get, .initialized RX2, .code yX2_get cX2_get 2 (some .int), .fieldLink RX2 9 "HouseBells$Row" "cells" "[I"] ++ wsX00 ++ wsX20)
def wsX0_isAnyoneWaiting : List Cond := .code yX0_isAnyoneWaiting cX0_isAnyoneWaiting 2 (some .boolean) :: ([.fieldLink RX0 54 "HouseBells$House" "roomCount" "I", .fieldLink RX0 34 "HouseBells$House" "waited" "LHouseBells$Row;", .methodLink RX0 83 yX2_get, .instanceMethod yX2_get, .selects RX2 yX2_get yX2_get, .initialized RX2, .code yX2_get cX2_get 2 (some .int), .fieldLink RX2 9 "HouseBells$Row" "cells" "[I"] ++ wsX00 ++ wsX20)
def wsX0_isWireCut : List Cond := .code yX0_isWireCut cX0_isWireCut 2 (some .boolean) :: ([.fieldLink RX0 31 "HouseBells$House" "cut" "LHouseBells$Row;", .methodLink RX0 83 yX2_get, .instanceMethod yX2_get, .selects RX2 yX2_get yX2_get, .initialized RX2, .code yX2_get cX2_get 2 (some .int), .fieldLink RX2 9 "HouseBells$Row" "cells" "[I"] ++ wsX00 ++ wsX20)
def wsX0_countCutWires : List Cond := .code yX0_countCutWires cX0_countCutWires 3 (some .int) :: ([.fieldLink RX0 54 "HouseBells$House" "roomCount" "I", .fieldLink RX0 31 "HouseBells$House" "cut" "LHouseBells$Row;", .methodLink RX0 83 yX2_get, .instanceMethod yX2_get, .selects RX2 yX2_get yX2_get, .initialized RX2, .code yX2_get cX2_get 2 (some .int), .fieldLink RX2 9 "HouseBells$Row" "cells" "[I"] ++ wsX00 ++ wsX20)
def wsX0_swapWires : List Cond := .code yX0_swapWires cX0_swapWires 4 none :: ([.fieldLink RX0 28 "HouseBells$House" "wire" "LHouseBells$Row;", .methodLink RX0 83 yX2_get, .instanceMethod yX2_get, .selects RX2 yX2_get yX2_get, .initialized RX2, .code yX2_get cX2_get 2 (some .int), .fieldLink RX2 9 "HouseBells$Row" "cells" "[I", .methodLink RX0 79 yX2_set, .instanceMethod yX2_set, .selects RX2 yX2_set yX2_set, .code yX2_set cX2_set 3 none] ++ wsX00 ++ wsX20)
def wsX0_isFirstOfItsCircle : List Cond := .code yX0_isFirstOfItsCircle cX0_isFirstOfItsCircle 4 (some .boolean) :: ([.fieldLink RX0 28 "HouseBells$House" "wire" "LHouseBells$Row;", .fieldLink RX0 54 "HouseBells$House" "roomCount" "I", .methodLink RX0 83 yX2_get, .instanceMethod yX2_get, .selects RX2 yX2_get yX2_get, .initialized RX2, .code yX2_get cX2_get 2 (some .int), .fieldLink RX2 9 "HouseBells$Row" "cells" "[I"] ++ wsX00 ++ wsX20)
def wsX0_costFrom : List Cond := .code yX0_costFrom cX0_costFrom 1 (some .int) :: ([])
def wsX1_placeOf : List Cond := .code yX1_placeOf cX1_placeOf 3 (some .int) :: ([.fieldLink RX1 15 "HouseBells$Line" "count" "I", .fieldLink RX1 9 "HouseBells$Line" "drops" "[I"] ++ wsX10)
def wsX1_append : List Cond := .code yX1_append cX1_append 2 none :: ([.fieldLink RX1 15 "HouseBells$Line" "count" "I", .fieldLink RX1 9 "HouseBells$Line" "drops" "[I"] ++ wsX10)
def wsX0_pullBell_r1 : List Cond := [Cond.fieldLink RX0 18 "HouseBells$House" "floor" "LHouseBells$Row;", Cond.fieldLink RX0 31 "HouseBells$House" "cut" "LHouseBells$Row;", Cond.fieldLink RX0 9 "HouseBells$House" "charge" "I", Cond.fieldLink RX0 66 "HouseBells$House" "unheard" "I", Cond.fieldLink RX0 28 "HouseBells$House" "wire" "LHouseBells$Row;", Cond.fieldLink RX0 40 "HouseBells$House" "line" "LHouseBells$Line;", Cond.methodLink RX0 83 yX2_get, Cond.instanceMethod yX2_get, Cond.selects RX2 yX2_get yX2_get, Cond.initialized RX2, Cond.code yX2_get cX2_get 2 (some .int), Cond.fieldLink RX2 9 "HouseBells$Row" "cells" "[I", Cond.methodLink RX0 87 yX0_costFrom, Cond.static yX0_costFrom, Cond.initialized RX0, Cond.code yX0_costFrom cX0_costFrom 1 (some .int), Cond.methodLink RX0 90 yX1_placeOf, Cond.instanceMethod yX1_placeOf, Cond.selects RX1 yX1_placeOf yX1_placeOf, Cond.initialized RX1, Cond.code yX1_placeOf cX1_placeOf 3 (some .int), Cond.fieldLink RX1 15 "HouseBells$Line" "count" "I", Cond.fieldLink RX1 9 "HouseBells$Line" "drops" "[I", Cond.methodLink RX0 93 yX1_append]
def wsX0_pullBell_r2 : List Cond := [Cond.instanceMethod yX1_append, Cond.selects RX1 yX1_append yX1_append, Cond.code yX1_append cX1_append 2 none]
def wsX0_pullBell : List Cond := .code yX0_pullBell cX0_pullBell 4 (some .boolean) :: ((wsX0_pullBell_r1 ++ wsX0_pullBell_r2) ++ wsX00 ++ wsX20 ++ wsX10)
def wsX0_isMultiple : List Cond := .code yX0_isMultiple cX0_isMultiple 2 (some .boolean) :: ([])
def wsX0_letRoomsWait_r1 : List Cond := [Cond.fieldLink RX0 54 "HouseBells$House" "roomCount" "I", Cond.fieldLink RX0 34 "HouseBells$House" "waited" "LHouseBells$Row;", Cond.fieldLink RX0 63 "HouseBells$House" "gaveUp" "I", Cond.fieldLink RX0 22 "HouseBells$House" "patience" "LHouseBells$Row;", Cond.methodLink RX0 83 yX2_get, Cond.instanceMethod yX2_get, Cond.selects RX2 yX2_get yX2_get, Cond.initialized RX2, Cond.code yX2_get cX2_get 2 (some .int), Cond.fieldLink RX2 9 "HouseBells$Row" "cells" "[I", Cond.methodLink RX0 79 yX2_set, Cond.instanceMethod yX2_set, Cond.selects RX2 yX2_set yX2_set, Cond.code yX2_set cX2_set 3 none, Cond.methodLink RX0 106 yX0_isMultiple, Cond.static yX0_isMultiple, Cond.initialized RX0, Cond.code yX0_isMultiple cX0_isMultiple 2 (some .boolean), Cond.methodLink RX0 110 yX0_pullBell, Cond.instanceMethod yX0_pullBell, Cond.selects RX0 yX0_pullBell yX0_pullBell, Cond.code yX0_pullBell cX0_pullBell 4 (some .boolean), Cond.fieldLink RX0 18 "HouseBells$House" "floor" "LHouseBells$Row;", Cond.fieldLink RX0 31 "HouseBells$House" "cut" "LHouseBells$Row;"]
def wsX0_letRoomsWait_r2 : List Cond := [Cond.fieldLink RX0 9 "HouseBells$House" "charge" "I", Cond.fieldLink RX0 66 "HouseBells$House" "unheard" "I", Cond.fieldLink RX0 28 "HouseBells$House" "wire" "LHouseBells$Row;", Cond.fieldLink RX0 40 "HouseBells$House" "line" "LHouseBells$Line;", Cond.methodLink RX0 87 yX0_costFrom, Cond.static yX0_costFrom, Cond.code yX0_costFrom cX0_costFrom 1 (some .int), Cond.methodLink RX0 90 yX1_placeOf, Cond.instanceMethod yX1_placeOf, Cond.selects RX1 yX1_placeOf yX1_placeOf, Cond.initialized RX1, Cond.code yX1_placeOf cX1_placeOf 3 (some .int), Cond.fieldLink RX1 15 "HouseBells$Line" "count" "I", Cond.fieldLink RX1 9 "HouseBells$Line" "drops" "[I", Cond.methodLink RX0 93 yX1_append, Cond.instanceMethod yX1_append, Cond.selects RX1 yX1_append yX1_append, Cond.code yX1_append cX1_append 2 none]
def wsX0_letRoomsWait : List Cond := .code yX0_letRoomsWait cX0_letRoomsWait 3 none :: ((wsX0_letRoomsWait_r1 ++ wsX0_letRoomsWait_r2) ++ wsX00 ++ wsX20 ++ wsX10)
def wsX3_isIdle : List Cond := .code yX3_isIdle cX3_isIdle 2 (some .boolean) :: ([.fieldLink RX3 21 "HouseBells$Staff" "goal" "LHouseBells$Row;", .fieldLink RX3 24 "HouseBells$Staff" "guest" "LHouseBells$Row;", .methodLink RX3 46 yX2_get, .instanceMethod yX2_get, .selects RX2 yX2_get yX2_get, .initialized RX2, .code yX2_get cX2_get 2 (some .int), .fieldLink RX2 9 "HouseBells$Row" "cells" "[I"] ++ wsX30 ++ wsX20)
def wsX3_rest : List Cond := .code yX3_rest cX3_rest 2 none :: ([.fieldLink RX3 21 "HouseBells$Staff" "goal" "LHouseBells$Row;", .fieldLink RX3 24 "HouseBells$Staff" "guest" "LHouseBells$Row;", .fieldLink RX3 27 "HouseBells$Staff" "left" "LHouseBells$Row;", .methodLink RX3 38 yX2_set, .instanceMethod yX2_set, .selects RX2 yX2_set yX2_set, .initialized RX2, .code yX2_set cX2_set 3 none, .fieldLink RX2 9 "HouseBells$Row" "cells" "[I"] ++ wsX30 ++ wsX20)
def wsX0_arrive : List Cond := .code yX0_arrive cX0_arrive 3 none :: ([.fieldLink RX0 47 "HouseBells$House" "staff" "LHouseBells$Staff;", .fieldLink RX0 18 "HouseBells$House" "floor" "LHouseBells$Row;", .fieldLink RX0 34 "HouseBells$House" "waited" "LHouseBells$Row;", .fieldLink RX0 60 "HouseBells$House" "inVain" "I", .fieldLink RX0 57 "HouseBells$House" "served" "I", .fieldLink RX0 25 "HouseBells$House" "need" "LHouseBells$Row;", .methodLink RX0 83 yX2_get, .instanceMethod yX2_get, .selects RX2 yX2_get yX2_get, .initialized RX2, .code yX2_get cX2_get 2 (some .int), .fieldLink RX2 9 "HouseBells$Row" "cells" "[I", .methodLink RX0 79 yX2_set, .instanceMethod yX2_set, .selects RX2 yX2_set yX2_set, .code yX2_set cX2_set 3 none] ++ wsX00 ++ wsX30 ++ wsX20)
def wsX0_letServantsMove_r1 : List Cond := [Cond.fieldLink RX0 47 "HouseBells$House" "staff" "LHouseBells$Staff;", Cond.methodLink RX0 117 yX3_isIdle, Cond.instanceMethod yX3_isIdle, Cond.selects RX3 yX3_isIdle yX3_isIdle, Cond.initialized RX3, Cond.code yX3_isIdle cX3_isIdle 2 (some .boolean), Cond.fieldLink RX3 21 "HouseBells$Staff" "goal" "LHouseBells$Row;", Cond.fieldLink RX3 24 "HouseBells$Staff" "guest" "LHouseBells$Row;", Cond.methodLink RX3 46 yX2_get, Cond.instanceMethod yX2_get, Cond.selects RX2 yX2_get yX2_get, Cond.initialized RX2, Cond.code yX2_get cX2_get 2 (some .int), Cond.fieldLink RX2 9 "HouseBells$Row" "cells" "[I", Cond.methodLink RX0 83 yX2_get, Cond.methodLink RX0 79 yX2_set, Cond.instanceMethod yX2_set, Cond.selects RX2 yX2_set yX2_set, Cond.code yX2_set cX2_set 3 none, Cond.methodLink RX0 126 yX3_rest, Cond.instanceMethod yX3_rest, Cond.selects RX3 yX3_rest yX3_rest, Cond.code yX3_rest cX3_rest 2 none, Cond.fieldLink RX3 27 "HouseBells$Staff" "left" "LHouseBells$Row;"]
def wsX0_letServantsMove_r2 : List Cond := [Cond.methodLink RX3 38 yX2_set, Cond.methodLink RX0 129 yX0_arrive, Cond.instanceMethod yX0_arrive, Cond.selects RX0 yX0_arrive yX0_arrive, Cond.initialized RX0, Cond.code yX0_arrive cX0_arrive 3 none, Cond.fieldLink RX0 18 "HouseBells$House" "floor" "LHouseBells$Row;", Cond.fieldLink RX0 34 "HouseBells$House" "waited" "LHouseBells$Row;", Cond.fieldLink RX0 60 "HouseBells$House" "inVain" "I", Cond.fieldLink RX0 57 "HouseBells$House" "served" "I", Cond.fieldLink RX0 25 "HouseBells$House" "need" "LHouseBells$Row;"]
def wsX0_letServantsMove : List Cond := .code yX0_letServantsMove cX0_letServantsMove 4 none :: ((wsX0_letServantsMove_r1 ++ wsX0_letServantsMove_r2) ++ wsX00 ++ wsX30 ++ wsX20)
def wsX1_first : List Cond := .code yX1_first cX1_first 1 (some .int) :: ([.fieldLink RX1 15 "HouseBells$Line" "count" "I", .fieldLink RX1 9 "HouseBells$Line" "drops" "[I"] ++ wsX10)
def wsX3_minutesOfWay : List Cond := .code yX3_minutesOfWay cX3_minutesOfWay 5 (some .int) :: ([])
def wsX3_nearestTo : List Cond := .code yX3_nearestTo cX3_nearestTo 6 (some .int) :: ([.fieldLink RX3 30 "HouseBells$Staff" "count" "I", .fieldLink RX3 21 "HouseBells$Staff" "goal" "LHouseBells$Row;", .fieldLink RX3 24 "HouseBells$Staff" "guest" "LHouseBells$Row;", .fieldLink RX3 18 "HouseBells$Staff" "floor" "LHouseBells$Row;", .fieldLink RX3 12 "HouseBells$Staff" "pace" "LHouseBells$Row;", .methodLink RX3 46 yX2_get, .instanceMethod yX2_get, .selects RX2 yX2_get yX2_get, .initialized RX2, .code yX2_get cX2_get 2 (some .int), .fieldLink RX2 9 "HouseBells$Row" "cells" "[I", .methodLink RX3 50 yX3_minutesOfWay, .static yX3_minutesOfWay, .initialized RX3, .code yX3_minutesOfWay cX3_minutesOfWay 5 (some .int)] ++ wsX30 ++ wsX20)
def wsX1_remove : List Cond := .code yX1_remove cX1_remove 4 none :: ([.fieldLink RX1 15 "HouseBells$Line" "count" "I", .fieldLink RX1 9 "HouseBells$Line" "drops" "[I"] ++ wsX10)
def wsX3_wayToFloor : List Cond := .code yX3_wayToFloor cX3_wayToFloor 3 (some .int) :: ([.fieldLink RX3 18 "HouseBells$Staff" "floor" "LHouseBells$Row;", .fieldLink RX3 12 "HouseBells$Staff" "pace" "LHouseBells$Row;", .methodLink RX3 46 yX2_get, .instanceMethod yX2_get, .selects RX2 yX2_get yX2_get, .initialized RX2, .code yX2_get cX2_get 2 (some .int), .fieldLink RX2 9 "HouseBells$Row" "cells" "[I", .methodLink RX3 50 yX3_minutesOfWay, .static yX3_minutesOfWay, .initialized RX3, .code yX3_minutesOfWay cX3_minutesOfWay 5 (some .int)] ++ wsX30 ++ wsX20)
def wsX0_sendIdleServants_r1 : List Cond := [Cond.fieldLink RX0 47 "HouseBells$House" "staff" "LHouseBells$Staff;", Cond.fieldLink RX0 40 "HouseBells$House" "line" "LHouseBells$Line;", Cond.fieldLink RX0 18 "HouseBells$House" "floor" "LHouseBells$Row;", Cond.methodLink RX0 137 yX1_first, Cond.instanceMethod yX1_first, Cond.selects RX1 yX1_first yX1_first, Cond.initialized RX1, Cond.code yX1_first cX1_first 1 (some .int), Cond.fieldLink RX1 15 "HouseBells$Line" "count" "I", Cond.fieldLink RX1 9 "HouseBells$Line" "drops" "[I", Cond.methodLink RX0 83 yX2_get, Cond.instanceMethod yX2_get, Cond.selects RX2 yX2_get yX2_get, Cond.initialized RX2, Cond.code yX2_get cX2_get 2 (some .int), Cond.fieldLink RX2 9 "HouseBells$Row" "cells" "[I", Cond.methodLink RX0 141 yX3_nearestTo, Cond.instanceMethod yX3_nearestTo, Cond.selects RX3 yX3_nearestTo yX3_nearestTo, Cond.initialized RX3, Cond.code yX3_nearestTo cX3_nearestTo 6 (some .int), Cond.fieldLink RX3 30 "HouseBells$Staff" "count" "I", Cond.fieldLink RX3 21 "HouseBells$Staff" "goal" "LHouseBells$Row;", Cond.fieldLink RX3 24 "HouseBells$Staff" "guest" "LHouseBells$Row;"]
def wsX0_sendIdleServants_r2 : List Cond := [Cond.fieldLink RX3 18 "HouseBells$Staff" "floor" "LHouseBells$Row;", Cond.fieldLink RX3 12 "HouseBells$Staff" "pace" "LHouseBells$Row;", Cond.methodLink RX3 46 yX2_get, Cond.methodLink RX3 50 yX3_minutesOfWay, Cond.static yX3_minutesOfWay, Cond.code yX3_minutesOfWay cX3_minutesOfWay 5 (some .int), Cond.methodLink RX0 144 yX1_remove, Cond.instanceMethod yX1_remove, Cond.selects RX1 yX1_remove yX1_remove, Cond.code yX1_remove cX1_remove 4 none, Cond.methodLink RX0 147 yX3_wayToFloor, Cond.instanceMethod yX3_wayToFloor, Cond.selects RX3 yX3_wayToFloor yX3_wayToFloor, Cond.code yX3_wayToFloor cX3_wayToFloor 3 (some .int), Cond.methodLink RX0 79 yX2_set, Cond.instanceMethod yX2_set, Cond.selects RX2 yX2_set yX2_set, Cond.code yX2_set cX2_set 3 none]
def wsX0_sendIdleServants : List Cond := .code yX0_sendIdleServants cX0_sendIdleServants 5 none :: ((wsX0_sendIdleServants_r1 ++ wsX0_sendIdleServants_r2) ++ wsX00 ++ wsX30 ++ wsX10 ++ wsX20)
def wsX0_letMinuteGoBy_r1 : List Cond := [Cond.fieldLink RX0 57 "HouseBells$House" "served" "I", Cond.fieldLink RX0 51 "HouseBells$House" "minute" "I", Cond.methodLink RX0 97 yX0_letRoomsWait, Cond.instanceMethod yX0_letRoomsWait, Cond.selects RX0 yX0_letRoomsWait yX0_letRoomsWait, Cond.initialized RX0, Cond.code yX0_letRoomsWait cX0_letRoomsWait 3 none, Cond.fieldLink RX0 54 "HouseBells$House" "roomCount" "I", Cond.fieldLink RX0 34 "HouseBells$House" "waited" "LHouseBells$Row;", Cond.fieldLink RX0 63 "HouseBells$House" "gaveUp" "I", Cond.fieldLink RX0 22 "HouseBells$House" "patience" "LHouseBells$Row;", Cond.methodLink RX0 83 yX2_get, Cond.instanceMethod yX2_get, Cond.selects RX2 yX2_get yX2_get, Cond.initialized RX2, Cond.code yX2_get cX2_get 2 (some .int), Cond.fieldLink RX2 9 "HouseBells$Row" "cells" "[I", Cond.methodLink RX0 79 yX2_set, Cond.instanceMethod yX2_set, Cond.selects RX2 yX2_set yX2_set, Cond.code yX2_set cX2_set 3 none, Cond.methodLink RX0 106 yX0_isMultiple, Cond.static yX0_isMultiple, Cond.code yX0_isMultiple cX0_isMultiple 2 (some .boolean)]
def wsX0_letMinuteGoBy_r2 : List Cond := [Cond.methodLink RX0 110 yX0_pullBell, Cond.instanceMethod yX0_pullBell, Cond.selects RX0 yX0_pullBell yX0_pullBell, Cond.code yX0_pullBell cX0_pullBell 4 (some .boolean), Cond.fieldLink RX0 18 "HouseBells$House" "floor" "LHouseBells$Row;", Cond.fieldLink RX0 31 "HouseBells$House" "cut" "LHouseBells$Row;", Cond.fieldLink RX0 9 "HouseBells$House" "charge" "I", Cond.fieldLink RX0 66 "HouseBells$House" "unheard" "I", Cond.fieldLink RX0 28 "HouseBells$House" "wire" "LHouseBells$Row;", Cond.fieldLink RX0 40 "HouseBells$House" "line" "LHouseBells$Line;", Cond.methodLink RX0 87 yX0_costFrom, Cond.static yX0_costFrom, Cond.code yX0_costFrom cX0_costFrom 1 (some .int), Cond.methodLink RX0 90 yX1_placeOf, Cond.instanceMethod yX1_placeOf, Cond.selects RX1 yX1_placeOf yX1_placeOf, Cond.initialized RX1, Cond.code yX1_placeOf cX1_placeOf 3 (some .int), Cond.fieldLink RX1 15 "HouseBells$Line" "count" "I", Cond.fieldLink RX1 9 "HouseBells$Line" "drops" "[I", Cond.methodLink RX0 93 yX1_append, Cond.instanceMethod yX1_append, Cond.selects RX1 yX1_append yX1_append, Cond.code yX1_append cX1_append 2 none]
def wsX0_letMinuteGoBy_r3 : List Cond := [Cond.methodLink RX0 100 yX0_letServantsMove, Cond.instanceMethod yX0_letServantsMove, Cond.selects RX0 yX0_letServantsMove yX0_letServantsMove, Cond.code yX0_letServantsMove cX0_letServantsMove 4 none, Cond.fieldLink RX0 47 "HouseBells$House" "staff" "LHouseBells$Staff;", Cond.methodLink RX0 117 yX3_isIdle, Cond.instanceMethod yX3_isIdle, Cond.selects RX3 yX3_isIdle yX3_isIdle, Cond.initialized RX3, Cond.code yX3_isIdle cX3_isIdle 2 (some .boolean), Cond.fieldLink RX3 21 "HouseBells$Staff" "goal" "LHouseBells$Row;", Cond.fieldLink RX3 24 "HouseBells$Staff" "guest" "LHouseBells$Row;", Cond.methodLink RX3 46 yX2_get, Cond.methodLink RX0 126 yX3_rest, Cond.instanceMethod yX3_rest, Cond.selects RX3 yX3_rest yX3_rest, Cond.code yX3_rest cX3_rest 2 none, Cond.fieldLink RX3 27 "HouseBells$Staff" "left" "LHouseBells$Row;", Cond.methodLink RX3 38 yX2_set, Cond.methodLink RX0 129 yX0_arrive, Cond.instanceMethod yX0_arrive, Cond.selects RX0 yX0_arrive yX0_arrive, Cond.code yX0_arrive cX0_arrive 3 none, Cond.fieldLink RX0 60 "HouseBells$House" "inVain" "I"]
def wsX0_letMinuteGoBy_r4 : List Cond := [Cond.fieldLink RX0 25 "HouseBells$House" "need" "LHouseBells$Row;", Cond.methodLink RX0 103 yX0_sendIdleServants, Cond.instanceMethod yX0_sendIdleServants, Cond.selects RX0 yX0_sendIdleServants yX0_sendIdleServants, Cond.code yX0_sendIdleServants cX0_sendIdleServants 5 none, Cond.methodLink RX0 137 yX1_first, Cond.instanceMethod yX1_first, Cond.selects RX1 yX1_first yX1_first, Cond.code yX1_first cX1_first 1 (some .int), Cond.methodLink RX0 141 yX3_nearestTo, Cond.instanceMethod yX3_nearestTo, Cond.selects RX3 yX3_nearestTo yX3_nearestTo, Cond.code yX3_nearestTo cX3_nearestTo 6 (some .int), Cond.fieldLink RX3 30 "HouseBells$Staff" "count" "I", Cond.fieldLink RX3 18 "HouseBells$Staff" "floor" "LHouseBells$Row;", Cond.fieldLink RX3 12 "HouseBells$Staff" "pace" "LHouseBells$Row;", Cond.methodLink RX3 50 yX3_minutesOfWay, Cond.static yX3_minutesOfWay, Cond.code yX3_minutesOfWay cX3_minutesOfWay 5 (some .int), Cond.methodLink RX0 144 yX1_remove, Cond.instanceMethod yX1_remove, Cond.selects RX1 yX1_remove yX1_remove, Cond.code yX1_remove cX1_remove 4 none, Cond.methodLink RX0 147 yX3_wayToFloor]
def wsX0_letMinuteGoBy_r5 : List Cond := [Cond.instanceMethod yX3_wayToFloor, Cond.selects RX3 yX3_wayToFloor yX3_wayToFloor, Cond.code yX3_wayToFloor cX3_wayToFloor 3 (some .int)]
def wsX0_letMinuteGoBy : List Cond := .code yX0_letMinuteGoBy cX0_letMinuteGoBy 2 (some .int) :: ((wsX0_letMinuteGoBy_r1 ++ (wsX0_letMinuteGoBy_r2 ++ (wsX0_letMinuteGoBy_r3 ++ (wsX0_letMinuteGoBy_r4 ++ wsX0_letMinuteGoBy_r5)))) ++ wsX00 ++ wsX20 ++ wsX10 ++ wsX30)
def wsX3_hire : List Cond := .code yX3_hire cX3_hire 3 (some .int) :: ([.fieldLink RX3 30 "HouseBells$Staff" "count" "I", .fieldLink RX3 12 "HouseBells$Staff" "pace" "LHouseBells$Row;", .fieldLink RX3 18 "HouseBells$Staff" "floor" "LHouseBells$Row;", .methodLink RX3 38 yX2_set, .instanceMethod yX2_set, .selects RX2 yX2_set yX2_set, .initialized RX2, .code yX2_set cX2_set 3 none, .fieldLink RX2 9 "HouseBells$Row" "cells" "[I", .methodLink RX3 42 yX3_rest, .instanceMethod yX3_rest, .selects RX3 yX3_rest yX3_rest, .initialized RX3, .code yX3_rest cX3_rest 2 none, .fieldLink RX3 21 "HouseBells$Staff" "goal" "LHouseBells$Row;", .fieldLink RX3 24 "HouseBells$Staff" "guest" "LHouseBells$Row;", .fieldLink RX3 27 "HouseBells$Staff" "left" "LHouseBells$Row;"] ++ wsX30 ++ wsX20)
def wsX3_isServing : List Cond := .code yX3_isServing cX3_isServing 3 (some .boolean) :: ([.fieldLink RX3 30 "HouseBells$Staff" "count" "I", .fieldLink RX3 24 "HouseBells$Staff" "guest" "LHouseBells$Row;", .methodLink RX3 46 yX2_get, .instanceMethod yX2_get, .selects RX2 yX2_get yX2_get, .initialized RX2, .code yX2_get cX2_get 2 (some .int), .fieldLink RX2 9 "HouseBells$Row" "cells" "[I"] ++ wsX30 ++ wsX20)
def wsX4_init_r1 : List Cond := [Cond.methodLink RX4 1 objectInit, Cond.instanceMethod objectInit, Cond.code objectInit ⟨#[0xb1]⟩ 1 none, Cond.classLink RX4 7 RX0, Cond.instantiable RX0 15, Cond.initialized RX0, Cond.fieldLink RX4 10 "HouseBells" "house" "LHouseBells$House;", Cond.fieldLink RX4 16 "HouseBells" "trial" "LHouseBells$House;", Cond.methodLink RX4 9 yX0_init, Cond.instanceMethod yX0_init, Cond.code yX0_init cX0_init 1 none, Cond.methodLink RX0 3 objectInit, Cond.fieldLink RX0 9 "HouseBells$House" "charge" "I", Cond.classLink RX0 15 RX2, Cond.instantiable RX2 1, Cond.initialized RX2, Cond.fieldLink RX0 18 "HouseBells$House" "floor" "LHouseBells$Row;", Cond.fieldLink RX0 22 "HouseBells$House" "patience" "LHouseBells$Row;", Cond.fieldLink RX0 25 "HouseBells$House" "need" "LHouseBells$Row;", Cond.fieldLink RX0 28 "HouseBells$House" "wire" "LHouseBells$Row;", Cond.fieldLink RX0 31 "HouseBells$House" "cut" "LHouseBells$Row;", Cond.fieldLink RX0 34 "HouseBells$House" "waited" "LHouseBells$Row;", Cond.classLink RX0 37 RX1, Cond.instantiable RX1 2]
def wsX4_init_r2 : List Cond := [Cond.initialized RX1, Cond.fieldLink RX0 40 "HouseBells$House" "line" "LHouseBells$Line;", Cond.classLink RX0 44 RX3, Cond.instantiable RX3 6, Cond.initialized RX3, Cond.fieldLink RX0 47 "HouseBells$House" "staff" "LHouseBells$Staff;", Cond.methodLink RX0 17 yX2_init, Cond.instanceMethod yX2_init, Cond.code yX2_init cX2_init 1 none, Cond.methodLink RX2 3 objectInit, Cond.arrayClass .int, Cond.fieldLink RX2 9 "HouseBells$Row" "cells" "[I", Cond.methodLink RX0 39 yX1_init, Cond.instanceMethod yX1_init, Cond.code yX1_init cX1_init 1 none, Cond.methodLink RX1 3 objectInit, Cond.fieldLink RX1 9 "HouseBells$Line" "drops" "[I", Cond.methodLink RX0 46 yX3_init, Cond.instanceMethod yX3_init, Cond.code yX3_init cX3_init 1 none, Cond.methodLink RX3 3 objectInit, Cond.classLink RX3 9 RX2, Cond.fieldLink RX3 12 "HouseBells$Staff" "pace" "LHouseBells$Row;", Cond.fieldLink RX3 18 "HouseBells$Staff" "floor" "LHouseBells$Row;"]
def wsX4_init_r3 : List Cond := [Cond.fieldLink RX3 21 "HouseBells$Staff" "goal" "LHouseBells$Row;", Cond.fieldLink RX3 24 "HouseBells$Staff" "guest" "LHouseBells$Row;", Cond.fieldLink RX3 27 "HouseBells$Staff" "left" "LHouseBells$Row;", Cond.methodLink RX3 11 yX2_init]
def wsX4_init : List Cond := .code yX4_init cX4_init 1 none :: ((wsX4_init_r1 ++ (wsX4_init_r2 ++ wsX4_init_r3)) ++ wsX00 ++ wsX40 ++ wsX20 ++ wsX10 ++ wsX30)
def wsX4_isWithin : List Cond := .code yX4_isWithin cX4_isWithin 3 (some .boolean) :: ([])
def wsX4_addRoom_r1 : List Cond := [Cond.classLink RX4 23 "java/lang/IllegalArgumentException", Cond.initialized "java/lang/IllegalArgumentException", Cond.classLink RX4 34 "java/lang/IllegalStateException", Cond.initialized "java/lang/IllegalStateException", Cond.fieldLink RX4 10 "HouseBells" "house" "LHouseBells$House;", Cond.methodLink RX4 19 yX4_isWithin, Cond.static yX4_isWithin, Cond.initialized RX4, Cond.code yX4_isWithin cX4_isWithin 3 (some .boolean), Cond.methodLink RX4 39 yX0_openRoom, Cond.instanceMethod yX0_openRoom, Cond.selects RX0 yX0_openRoom yX0_openRoom, Cond.initialized RX0, Cond.code yX0_openRoom cX0_openRoom 5 (some .int), Cond.fieldLink RX0 54 "HouseBells$House" "roomCount" "I", Cond.fieldLink RX0 18 "HouseBells$House" "floor" "LHouseBells$Row;", Cond.fieldLink RX0 22 "HouseBells$House" "patience" "LHouseBells$Row;", Cond.fieldLink RX0 25 "HouseBells$House" "need" "LHouseBells$Row;", Cond.fieldLink RX0 28 "HouseBells$House" "wire" "LHouseBells$Row;", Cond.fieldLink RX0 31 "HouseBells$House" "cut" "LHouseBells$Row;", Cond.fieldLink RX0 34 "HouseBells$House" "waited" "LHouseBells$Row;", Cond.methodLink RX0 79 yX2_set, Cond.instanceMethod yX2_set, Cond.selects RX2 yX2_set yX2_set]
def wsX4_addRoom_r2 : List Cond := [Cond.initialized RX2, Cond.code yX2_set cX2_set 3 none, Cond.fieldLink RX2 9 "HouseBells$Row" "cells" "[I"]
def wsX4_addRoom : List Cond := .code yX4_addRoom cX4_addRoom 4 (some .int) :: ((wsX4_addRoom_r1 ++ wsX4_addRoom_r2) ++ wsX40 ++ wsX00 ++ wsX20 ++ (vx_atS RX4 27 "java/lang/IllegalArgumentException" ["java/lang/RuntimeException", "java/lang/Exception"]).filter goodWord ++ (vx_atS RX4 38 "java/lang/IllegalStateException" ["java/lang/RuntimeException", "java/lang/Exception"]).filter goodWord)
def wsX4_addServant_r1 : List Cond := [Cond.classLink RX4 23 "java/lang/IllegalArgumentException", Cond.initialized "java/lang/IllegalArgumentException", Cond.classLink RX4 34 "java/lang/IllegalStateException", Cond.initialized "java/lang/IllegalStateException", Cond.fieldLink RX4 10 "HouseBells" "house" "LHouseBells$House;", Cond.methodLink RX4 19 yX4_isWithin, Cond.static yX4_isWithin, Cond.initialized RX4, Cond.code yX4_isWithin cX4_isWithin 3 (some .boolean), Cond.methodLink RX4 56 yX3_hire, Cond.instanceMethod yX3_hire, Cond.selects RX3 yX3_hire yX3_hire, Cond.initialized RX3, Cond.code yX3_hire cX3_hire 3 (some .int), Cond.fieldLink RX3 30 "HouseBells$Staff" "count" "I", Cond.fieldLink RX3 12 "HouseBells$Staff" "pace" "LHouseBells$Row;", Cond.fieldLink RX3 18 "HouseBells$Staff" "floor" "LHouseBells$Row;", Cond.methodLink RX3 38 yX2_set, Cond.instanceMethod yX2_set, Cond.selects RX2 yX2_set yX2_set, Cond.initialized RX2, Cond.code yX2_set cX2_set 3 none, Cond.fieldLink RX2 9 "HouseBells$Row" "cells" "[I", Cond.methodLink RX3 42 yX3_rest]
def wsX4_addServant_r2 : List Cond := [Cond.instanceMethod yX3_rest, Cond.selects RX3 yX3_rest yX3_rest, Cond.code yX3_rest cX3_rest 2 none, Cond.fieldLink RX3 21 "HouseBells$Staff" "goal" "LHouseBells$Row;", Cond.fieldLink RX3 24 "HouseBells$Staff" "guest" "LHouseBells$Row;", Cond.fieldLink RX3 27 "HouseBells$Staff" "left" "LHouseBells$Row;"]
def wsX4_addServant : List Cond := .code yX4_addServant cX4_addServant 2 (some .int) :: ((wsX4_addServant_r1 ++ wsX4_addServant_r2) ++ wsX40 ++ wsX00 ++ wsX30 ++ wsX20 ++ (vx_atS RX4 27 "java/lang/IllegalArgumentException" ["java/lang/RuntimeException", "java/lang/Exception"]).filter goodWord ++ (vx_atS RX4 38 "java/lang/IllegalStateException" ["java/lang/RuntimeException", "java/lang/Exception"]).filter goodWord)
def wsX4_requireRoom : List Cond := .code yX4_requireRoom cX4_requireRoom 2 none :: ([.classLink RX4 273 "java/lang/IndexOutOfBoundsException", .initialized "java/lang/IndexOutOfBoundsException", .fieldLink RX4 10 "HouseBells" "house" "LHouseBells$House;"] ++ wsX40 ++ wsX00 ++ (vx_atS RX4 277 "java/lang/IndexOutOfBoundsException" ["java/lang/RuntimeException", "java/lang/Exception"]).filter goodWord)
def wsX4_ring_r1 : List Cond := [Cond.fieldLink RX4 10 "HouseBells" "house" "LHouseBells$House;", Cond.methodLink RX4 60 yX4_requireRoom, Cond.instanceMethod yX4_requireRoom, Cond.selects RX4 yX4_requireRoom yX4_requireRoom, Cond.initialized RX4, Cond.code yX4_requireRoom cX4_requireRoom 2 none, Cond.classLink RX4 273 "java/lang/IndexOutOfBoundsException", Cond.initialized "java/lang/IndexOutOfBoundsException", Cond.methodLink RX4 64 yX0_pullBell, Cond.instanceMethod yX0_pullBell, Cond.selects RX0 yX0_pullBell yX0_pullBell, Cond.initialized RX0, Cond.code yX0_pullBell cX0_pullBell 4 (some .boolean), Cond.fieldLink RX0 18 "HouseBells$House" "floor" "LHouseBells$Row;", Cond.fieldLink RX0 31 "HouseBells$House" "cut" "LHouseBells$Row;", Cond.fieldLink RX0 9 "HouseBells$House" "charge" "I", Cond.fieldLink RX0 66 "HouseBells$House" "unheard" "I", Cond.fieldLink RX0 28 "HouseBells$House" "wire" "LHouseBells$Row;", Cond.fieldLink RX0 40 "HouseBells$House" "line" "LHouseBells$Line;", Cond.methodLink RX0 83 yX2_get, Cond.instanceMethod yX2_get, Cond.selects RX2 yX2_get yX2_get, Cond.initialized RX2, Cond.code yX2_get cX2_get 2 (some .int)]
def wsX4_ring_r2 : List Cond := [Cond.fieldLink RX2 9 "HouseBells$Row" "cells" "[I", Cond.methodLink RX0 87 yX0_costFrom, Cond.static yX0_costFrom, Cond.code yX0_costFrom cX0_costFrom 1 (some .int), Cond.methodLink RX0 90 yX1_placeOf, Cond.instanceMethod yX1_placeOf, Cond.selects RX1 yX1_placeOf yX1_placeOf, Cond.initialized RX1, Cond.code yX1_placeOf cX1_placeOf 3 (some .int), Cond.fieldLink RX1 15 "HouseBells$Line" "count" "I", Cond.fieldLink RX1 9 "HouseBells$Line" "drops" "[I", Cond.methodLink RX0 93 yX1_append, Cond.instanceMethod yX1_append, Cond.selects RX1 yX1_append yX1_append, Cond.code yX1_append cX1_append 2 none, Cond.methodLink RX4 68 yX0_isWaiting, Cond.instanceMethod yX0_isWaiting, Cond.selects RX0 yX0_isWaiting yX0_isWaiting, Cond.code yX0_isWaiting cX0_isWaiting 2 (some .boolean), Cond.fieldLink RX0 34 "HouseBells$House" "waited" "LHouseBells$Row;", Cond.methodLink RX4 75 yX2_set, Cond.instanceMethod yX2_set, Cond.selects RX2 yX2_set yX2_set, Cond.code yX2_set cX2_set 3 none]
def wsX4_ring : List Cond := .code yX4_ring cX4_ring 3 (some .boolean) :: ((wsX4_ring_r1 ++ wsX4_ring_r2) ++ wsX40 ++ wsX00 ++ wsX20 ++ wsX10 ++ (vx_atS RX4 277 "java/lang/IndexOutOfBoundsException" ["java/lang/RuntimeException", "java/lang/Exception"]).filter goodWord)
def wsX4_cross_r1 : List Cond := [Cond.classLink RX4 23 "java/lang/IllegalArgumentException", Cond.initialized "java/lang/IllegalArgumentException", Cond.fieldLink RX4 10 "HouseBells" "house" "LHouseBells$House;", Cond.methodLink RX4 60 yX4_requireRoom, Cond.instanceMethod yX4_requireRoom, Cond.selects RX4 yX4_requireRoom yX4_requireRoom, Cond.initialized RX4, Cond.code yX4_requireRoom cX4_requireRoom 2 none, Cond.classLink RX4 273 "java/lang/IndexOutOfBoundsException", Cond.initialized "java/lang/IndexOutOfBoundsException", Cond.methodLink RX4 83 yX0_swapWires, Cond.instanceMethod yX0_swapWires, Cond.selects RX0 yX0_swapWires yX0_swapWires, Cond.initialized RX0, Cond.code yX0_swapWires cX0_swapWires 4 none, Cond.fieldLink RX0 28 "HouseBells$House" "wire" "LHouseBells$Row;", Cond.methodLink RX0 83 yX2_get, Cond.instanceMethod yX2_get, Cond.selects RX2 yX2_get yX2_get, Cond.initialized RX2, Cond.code yX2_get cX2_get 2 (some .int), Cond.fieldLink RX2 9 "HouseBells$Row" "cells" "[I", Cond.methodLink RX0 79 yX2_set, Cond.instanceMethod yX2_set]
def wsX4_cross_r2 : List Cond := [Cond.selects RX2 yX2_set yX2_set, Cond.code yX2_set cX2_set 3 none, Cond.methodLink RX4 89 yX2_get]
def wsX4_cross : List Cond := .code yX4_cross cX4_cross 3 (some .int) :: ((wsX4_cross_r1 ++ wsX4_cross_r2) ++ wsX40 ++ wsX00 ++ wsX20 ++ (vx_atS RX4 27 "java/lang/IllegalArgumentException" ["java/lang/RuntimeException", "java/lang/Exception"]).filter goodWord ++ (vx_atS RX4 277 "java/lang/IndexOutOfBoundsException" ["java/lang/RuntimeException", "java/lang/Exception"]).filter goodWord)
def wsX4_cut_r1 : List Cond := [Cond.classLink RX4 34 "java/lang/IllegalStateException", Cond.initialized "java/lang/IllegalStateException", Cond.fieldLink RX4 10 "HouseBells" "house" "LHouseBells$House;", Cond.methodLink RX4 60 yX4_requireRoom, Cond.instanceMethod yX4_requireRoom, Cond.selects RX4 yX4_requireRoom yX4_requireRoom, Cond.initialized RX4, Cond.code yX4_requireRoom cX4_requireRoom 2 none, Cond.classLink RX4 273 "java/lang/IndexOutOfBoundsException", Cond.initialized "java/lang/IndexOutOfBoundsException", Cond.methodLink RX4 92 yX0_isWireCut, Cond.instanceMethod yX0_isWireCut, Cond.selects RX0 yX0_isWireCut yX0_isWireCut, Cond.initialized RX0, Cond.code yX0_isWireCut cX0_isWireCut 2 (some .boolean), Cond.fieldLink RX0 31 "HouseBells$House" "cut" "LHouseBells$Row;", Cond.methodLink RX0 83 yX2_get, Cond.instanceMethod yX2_get, Cond.selects RX2 yX2_get yX2_get, Cond.initialized RX2, Cond.code yX2_get cX2_get 2 (some .int), Cond.fieldLink RX2 9 "HouseBells$Row" "cells" "[I", Cond.methodLink RX4 75 yX2_set, Cond.instanceMethod yX2_set]
def wsX4_cut_r2 : List Cond := [Cond.selects RX2 yX2_set yX2_set, Cond.code yX2_set cX2_set 3 none, Cond.methodLink RX4 100 yX0_countCutWires, Cond.instanceMethod yX0_countCutWires, Cond.selects RX0 yX0_countCutWires yX0_countCutWires, Cond.code yX0_countCutWires cX0_countCutWires 3 (some .int), Cond.fieldLink RX0 54 "HouseBells$House" "roomCount" "I"]
def wsX4_cut : List Cond := .code yX4_cut cX4_cut 2 (some .int) :: ((wsX4_cut_r1 ++ wsX4_cut_r2) ++ wsX40 ++ wsX00 ++ wsX20 ++ (vx_atS RX4 38 "java/lang/IllegalStateException" ["java/lang/RuntimeException", "java/lang/Exception"]).filter goodWord ++ (vx_atS RX4 277 "java/lang/IndexOutOfBoundsException" ["java/lang/RuntimeException", "java/lang/Exception"]).filter goodWord)
def wsX4_mend_r1 : List Cond := [Cond.classLink RX4 34 "java/lang/IllegalStateException", Cond.initialized "java/lang/IllegalStateException", Cond.fieldLink RX4 10 "HouseBells" "house" "LHouseBells$House;", Cond.methodLink RX4 60 yX4_requireRoom, Cond.instanceMethod yX4_requireRoom, Cond.selects RX4 yX4_requireRoom yX4_requireRoom, Cond.initialized RX4, Cond.code yX4_requireRoom cX4_requireRoom 2 none, Cond.classLink RX4 273 "java/lang/IndexOutOfBoundsException", Cond.initialized "java/lang/IndexOutOfBoundsException", Cond.methodLink RX4 92 yX0_isWireCut, Cond.instanceMethod yX0_isWireCut, Cond.selects RX0 yX0_isWireCut yX0_isWireCut, Cond.initialized RX0, Cond.code yX0_isWireCut cX0_isWireCut 2 (some .boolean), Cond.fieldLink RX0 31 "HouseBells$House" "cut" "LHouseBells$Row;", Cond.methodLink RX0 83 yX2_get, Cond.instanceMethod yX2_get, Cond.selects RX2 yX2_get yX2_get, Cond.initialized RX2, Cond.code yX2_get cX2_get 2 (some .int), Cond.fieldLink RX2 9 "HouseBells$Row" "cells" "[I", Cond.methodLink RX4 75 yX2_set, Cond.instanceMethod yX2_set]
def wsX4_mend_r2 : List Cond := [Cond.selects RX2 yX2_set yX2_set, Cond.code yX2_set cX2_set 3 none, Cond.methodLink RX4 100 yX0_countCutWires, Cond.instanceMethod yX0_countCutWires, Cond.selects RX0 yX0_countCutWires yX0_countCutWires, Cond.code yX0_countCutWires cX0_countCutWires 3 (some .int), Cond.fieldLink RX0 54 "HouseBells$House" "roomCount" "I"]
def wsX4_mend : List Cond := .code yX4_mend cX4_mend 2 (some .int) :: ((wsX4_mend_r1 ++ wsX4_mend_r2) ++ wsX40 ++ wsX00 ++ wsX20 ++ (vx_atS RX4 38 "java/lang/IllegalStateException" ["java/lang/RuntimeException", "java/lang/Exception"]).filter goodWord ++ (vx_atS RX4 277 "java/lang/IndexOutOfBoundsException" ["java/lang/RuntimeException", "java/lang/Exception"]).filter goodWord)
def wsX4_recharge : List Cond := .code yX4_recharge cX4_recharge 3 (some .int) :: ([.classLink RX4 23 "java/lang/IllegalArgumentException", .initialized "java/lang/IllegalArgumentException", .fieldLink RX4 10 "HouseBells" "house" "LHouseBells$House;", .methodLink RX4 19 yX4_isWithin, .static yX4_isWithin, .initialized RX4, .code yX4_isWithin cX4_isWithin 3 (some .boolean)] ++ wsX40 ++ wsX00 ++ (vx_atS RX4 27 "java/lang/IllegalArgumentException" ["java/lang/RuntimeException", "java/lang/Exception"]).filter goodWord)
def wsX4_putUp : List Cond := .code yX4_putUp cX4_putUp 2 (some .int) :: ([.classLink RX4 34 "java/lang/IllegalStateException", .initialized "java/lang/IllegalStateException", .fieldLink RX4 10 "HouseBells" "house" "LHouseBells$House;", .methodLink RX4 60 yX4_requireRoom, .instanceMethod yX4_requireRoom, .selects RX4 yX4_requireRoom yX4_requireRoom, .initialized RX4, .code yX4_requireRoom cX4_requireRoom 2 none, .classLink RX4 273 "java/lang/IndexOutOfBoundsException", .initialized "java/lang/IndexOutOfBoundsException", .methodLink RX4 115 yX1_placeOf, .instanceMethod yX1_placeOf, .selects RX1 yX1_placeOf yX1_placeOf, .initialized RX1, .code yX1_placeOf cX1_placeOf 3 (some .int), .fieldLink RX1 15 "HouseBells$Line" "count" "I", .fieldLink RX1 9 "HouseBells$Line" "drops" "[I", .methodLink RX4 122 yX1_remove, .instanceMethod yX1_remove, .selects RX1 yX1_remove yX1_remove, .code yX1_remove cX1_remove 4 none] ++ wsX40 ++ wsX00 ++ wsX10 ++ (vx_atS RX4 38 "java/lang/IllegalStateException" ["java/lang/RuntimeException", "java/lang/Exception"]).filter goodWord ++ (vx_atS RX4 277 "java/lang/IndexOutOfBoundsException" ["java/lang/RuntimeException", "java/lang/Exception"]).filter goodWord)
def wsX4_requireMinutes : List Cond := .code yX4_requireMinutes cX4_requireMinutes 1 none :: ([.classLink RX4 23 "java/lang/IllegalArgumentException", .initialized "java/lang/IllegalArgumentException", .methodLink RX4 19 yX4_isWithin, .static yX4_isWithin, .initialized RX4, .code yX4_isWithin cX4_isWithin 3 (some .boolean)] ++ (vx_atS RX4 27 "java/lang/IllegalArgumentException" ["java/lang/RuntimeException", "java/lang/Exception"]).filter goodWord)
def wsX4_pass_r1 : List Cond := [Cond.fieldLink RX4 10 "HouseBells" "house" "LHouseBells$House;", Cond.methodLink RX4 126 yX4_requireMinutes, Cond.static yX4_requireMinutes, Cond.initialized RX4, Cond.code yX4_requireMinutes cX4_requireMinutes 1 none, Cond.classLink RX4 23 "java/lang/IllegalArgumentException", Cond.initialized "java/lang/IllegalArgumentException", Cond.methodLink RX4 19 yX4_isWithin, Cond.static yX4_isWithin, Cond.code yX4_isWithin cX4_isWithin 3 (some .boolean), Cond.methodLink RX4 129 yX0_letMinuteGoBy, Cond.instanceMethod yX0_letMinuteGoBy, Cond.selects RX0 yX0_letMinuteGoBy yX0_letMinuteGoBy, Cond.initialized RX0, Cond.code yX0_letMinuteGoBy cX0_letMinuteGoBy 2 (some .int), Cond.fieldLink RX0 57 "HouseBells$House" "served" "I", Cond.fieldLink RX0 51 "HouseBells$House" "minute" "I", Cond.methodLink RX0 97 yX0_letRoomsWait, Cond.instanceMethod yX0_letRoomsWait, Cond.selects RX0 yX0_letRoomsWait yX0_letRoomsWait, Cond.code yX0_letRoomsWait cX0_letRoomsWait 3 none, Cond.fieldLink RX0 54 "HouseBells$House" "roomCount" "I", Cond.fieldLink RX0 34 "HouseBells$House" "waited" "LHouseBells$Row;", Cond.fieldLink RX0 63 "HouseBells$House" "gaveUp" "I"]
def wsX4_pass_r2 : List Cond := [Cond.fieldLink RX0 22 "HouseBells$House" "patience" "LHouseBells$Row;", Cond.methodLink RX0 83 yX2_get, Cond.instanceMethod yX2_get, Cond.selects RX2 yX2_get yX2_get, Cond.initialized RX2, Cond.code yX2_get cX2_get 2 (some .int), Cond.fieldLink RX2 9 "HouseBells$Row" "cells" "[I", Cond.methodLink RX0 79 yX2_set, Cond.instanceMethod yX2_set, Cond.selects RX2 yX2_set yX2_set, Cond.code yX2_set cX2_set 3 none, Cond.methodLink RX0 106 yX0_isMultiple, Cond.static yX0_isMultiple, Cond.code yX0_isMultiple cX0_isMultiple 2 (some .boolean), Cond.methodLink RX0 110 yX0_pullBell, Cond.instanceMethod yX0_pullBell, Cond.selects RX0 yX0_pullBell yX0_pullBell, Cond.code yX0_pullBell cX0_pullBell 4 (some .boolean), Cond.fieldLink RX0 18 "HouseBells$House" "floor" "LHouseBells$Row;", Cond.fieldLink RX0 31 "HouseBells$House" "cut" "LHouseBells$Row;", Cond.fieldLink RX0 9 "HouseBells$House" "charge" "I", Cond.fieldLink RX0 66 "HouseBells$House" "unheard" "I", Cond.fieldLink RX0 28 "HouseBells$House" "wire" "LHouseBells$Row;", Cond.fieldLink RX0 40 "HouseBells$House" "line" "LHouseBells$Line;"]
def wsX4_pass_r3 : List Cond := [Cond.methodLink RX0 87 yX0_costFrom, Cond.static yX0_costFrom, Cond.code yX0_costFrom cX0_costFrom 1 (some .int), Cond.methodLink RX0 90 yX1_placeOf, Cond.instanceMethod yX1_placeOf, Cond.selects RX1 yX1_placeOf yX1_placeOf, Cond.initialized RX1, Cond.code yX1_placeOf cX1_placeOf 3 (some .int), Cond.fieldLink RX1 15 "HouseBells$Line" "count" "I", Cond.fieldLink RX1 9 "HouseBells$Line" "drops" "[I", Cond.methodLink RX0 93 yX1_append, Cond.instanceMethod yX1_append, Cond.selects RX1 yX1_append yX1_append, Cond.code yX1_append cX1_append 2 none, Cond.methodLink RX0 100 yX0_letServantsMove, Cond.instanceMethod yX0_letServantsMove, Cond.selects RX0 yX0_letServantsMove yX0_letServantsMove, Cond.code yX0_letServantsMove cX0_letServantsMove 4 none, Cond.fieldLink RX0 47 "HouseBells$House" "staff" "LHouseBells$Staff;", Cond.methodLink RX0 117 yX3_isIdle, Cond.instanceMethod yX3_isIdle, Cond.selects RX3 yX3_isIdle yX3_isIdle, Cond.initialized RX3, Cond.code yX3_isIdle cX3_isIdle 2 (some .boolean)]
def wsX4_pass_r4 : List Cond := [Cond.fieldLink RX3 21 "HouseBells$Staff" "goal" "LHouseBells$Row;", Cond.fieldLink RX3 24 "HouseBells$Staff" "guest" "LHouseBells$Row;", Cond.methodLink RX3 46 yX2_get, Cond.methodLink RX0 126 yX3_rest, Cond.instanceMethod yX3_rest, Cond.selects RX3 yX3_rest yX3_rest, Cond.code yX3_rest cX3_rest 2 none, Cond.fieldLink RX3 27 "HouseBells$Staff" "left" "LHouseBells$Row;", Cond.methodLink RX3 38 yX2_set, Cond.methodLink RX0 129 yX0_arrive, Cond.instanceMethod yX0_arrive, Cond.selects RX0 yX0_arrive yX0_arrive, Cond.code yX0_arrive cX0_arrive 3 none, Cond.fieldLink RX0 60 "HouseBells$House" "inVain" "I", Cond.fieldLink RX0 25 "HouseBells$House" "need" "LHouseBells$Row;", Cond.methodLink RX0 103 yX0_sendIdleServants, Cond.instanceMethod yX0_sendIdleServants, Cond.selects RX0 yX0_sendIdleServants yX0_sendIdleServants, Cond.code yX0_sendIdleServants cX0_sendIdleServants 5 none, Cond.methodLink RX0 137 yX1_first, Cond.instanceMethod yX1_first, Cond.selects RX1 yX1_first yX1_first, Cond.code yX1_first cX1_first 1 (some .int), Cond.methodLink RX0 141 yX3_nearestTo]
def wsX4_pass_r5 : List Cond := [Cond.instanceMethod yX3_nearestTo, Cond.selects RX3 yX3_nearestTo yX3_nearestTo, Cond.code yX3_nearestTo cX3_nearestTo 6 (some .int), Cond.fieldLink RX3 30 "HouseBells$Staff" "count" "I", Cond.fieldLink RX3 18 "HouseBells$Staff" "floor" "LHouseBells$Row;", Cond.fieldLink RX3 12 "HouseBells$Staff" "pace" "LHouseBells$Row;", Cond.methodLink RX3 50 yX3_minutesOfWay, Cond.static yX3_minutesOfWay, Cond.code yX3_minutesOfWay cX3_minutesOfWay 5 (some .int), Cond.methodLink RX0 144 yX1_remove, Cond.instanceMethod yX1_remove, Cond.selects RX1 yX1_remove yX1_remove, Cond.code yX1_remove cX1_remove 4 none, Cond.methodLink RX0 147 yX3_wayToFloor, Cond.instanceMethod yX3_wayToFloor, Cond.selects RX3 yX3_wayToFloor yX3_wayToFloor, Cond.code yX3_wayToFloor cX3_wayToFloor 3 (some .int)]
def wsX4_pass : List Cond := .code yX4_pass cX4_pass 4 (some .int) :: ((wsX4_pass_r1 ++ (wsX4_pass_r2 ++ (wsX4_pass_r3 ++ (wsX4_pass_r4 ++ wsX4_pass_r5)))) ++ wsX40 ++ wsX00 ++ wsX20 ++ wsX10 ++ wsX30 ++ (vx_atS RX4 27 "java/lang/IllegalArgumentException" ["java/lang/RuntimeException", "java/lang/Exception"]).filter goodWord)
def wsX4_minute : List Cond := .code yX4_minute cX4_minute 1 (some .int) :: ([.fieldLink RX4 10 "HouseBells" "house" "LHouseBells$House;"] ++ wsX40 ++ wsX00)
def wsX4_rooms : List Cond := .code yX4_rooms cX4_rooms 1 (some .int) :: ([.fieldLink RX4 10 "HouseBells" "house" "LHouseBells$House;"] ++ wsX40 ++ wsX00)
def wsX4_servants : List Cond := .code yX4_servants cX4_servants 1 (some .int) :: ([.fieldLink RX4 10 "HouseBells" "house" "LHouseBells$House;"] ++ wsX40 ++ wsX00 ++ wsX30)
def wsX4_charge : List Cond := .code yX4_charge cX4_charge 1 (some .int) :: ([.fieldLink RX4 10 "HouseBells" "house" "LHouseBells$House;"] ++ wsX40 ++ wsX00)
def wsX4_served : List Cond := .code yX4_served cX4_served 1 (some .int) :: ([.fieldLink RX4 10 "HouseBells" "house" "LHouseBells$House;"] ++ wsX40 ++ wsX00)
def wsX4_inVain : List Cond := .code yX4_inVain cX4_inVain 1 (some .int) :: ([.fieldLink RX4 10 "HouseBells" "house" "LHouseBells$House;"] ++ wsX40 ++ wsX00)
def wsX4_gaveUp : List Cond := .code yX4_gaveUp cX4_gaveUp 1 (some .int) :: ([.fieldLink RX4 10 "HouseBells" "house" "LHouseBells$House;"] ++ wsX40 ++ wsX00)
def wsX4_unheard : List Cond := .code yX4_unheard cX4_unheard 1 (some .int) :: ([.fieldLink RX4 10 "HouseBells" "house" "LHouseBells$House;"] ++ wsX40 ++ wsX00)
def wsX4_dropOf : List Cond := .code yX4_dropOf cX4_dropOf 2 (some .int) :: ([.fieldLink RX4 10 "HouseBells" "house" "LHouseBells$House;", .methodLink RX4 60 yX4_requireRoom, .instanceMethod yX4_requireRoom, .selects RX4 yX4_requireRoom yX4_requireRoom, .initialized RX4, .code yX4_requireRoom cX4_requireRoom 2 none, .classLink RX4 273 "java/lang/IndexOutOfBoundsException", .initialized "java/lang/IndexOutOfBoundsException", .methodLink RX4 89 yX2_get, .instanceMethod yX2_get, .selects RX2 yX2_get yX2_get, .initialized RX2, .code yX2_get cX2_get 2 (some .int), .fieldLink RX2 9 "HouseBells$Row" "cells" "[I"] ++ wsX40 ++ wsX00 ++ wsX20 ++ (vx_atS RX4 277 "java/lang/IndexOutOfBoundsException" ["java/lang/RuntimeException", "java/lang/Exception"]).filter goodWord)
def wsX4_roomOf : List Cond := .code yX4_roomOf cX4_roomOf 3 (some .int) :: ([.fieldLink RX4 10 "HouseBells" "house" "LHouseBells$House;", .methodLink RX4 60 yX4_requireRoom, .instanceMethod yX4_requireRoom, .selects RX4 yX4_requireRoom yX4_requireRoom, .initialized RX4, .code yX4_requireRoom cX4_requireRoom 2 none, .classLink RX4 273 "java/lang/IndexOutOfBoundsException", .initialized "java/lang/IndexOutOfBoundsException", .methodLink RX4 89 yX2_get, .instanceMethod yX2_get, .selects RX2 yX2_get yX2_get, .initialized RX2, .code yX2_get cX2_get 2 (some .int), .fieldLink RX2 9 "HouseBells$Row" "cells" "[I"] ++ wsX40 ++ wsX00 ++ wsX20 ++ (vx_atS RX4 277 "java/lang/IndexOutOfBoundsException" ["java/lang/RuntimeException", "java/lang/Exception"]).filter goodWord)
def wsX4_isCut : List Cond := .code yX4_isCut cX4_isCut 2 (some .boolean) :: ([.fieldLink RX4 10 "HouseBells" "house" "LHouseBells$House;", .methodLink RX4 60 yX4_requireRoom, .instanceMethod yX4_requireRoom, .selects RX4 yX4_requireRoom yX4_requireRoom, .initialized RX4, .code yX4_requireRoom cX4_requireRoom 2 none, .classLink RX4 273 "java/lang/IndexOutOfBoundsException", .initialized "java/lang/IndexOutOfBoundsException", .methodLink RX4 92 yX0_isWireCut, .instanceMethod yX0_isWireCut, .selects RX0 yX0_isWireCut yX0_isWireCut, .initialized RX0, .code yX0_isWireCut cX0_isWireCut 2 (some .boolean), .fieldLink RX0 31 "HouseBells$House" "cut" "LHouseBells$Row;", .methodLink RX0 83 yX2_get, .instanceMethod yX2_get, .selects RX2 yX2_get yX2_get, .initialized RX2, .code yX2_get cX2_get 2 (some .int), .fieldLink RX2 9 "HouseBells$Row" "cells" "[I"] ++ wsX40 ++ wsX00 ++ wsX20 ++ (vx_atS RX4 277 "java/lang/IndexOutOfBoundsException" ["java/lang/RuntimeException", "java/lang/Exception"]).filter goodWord)
def wsX4_waitedFor : List Cond := .code yX4_waitedFor cX4_waitedFor 2 (some .int) :: ([.fieldLink RX4 10 "HouseBells" "house" "LHouseBells$House;", .methodLink RX4 60 yX4_requireRoom, .instanceMethod yX4_requireRoom, .selects RX4 yX4_requireRoom yX4_requireRoom, .initialized RX4, .code yX4_requireRoom cX4_requireRoom 2 none, .classLink RX4 273 "java/lang/IndexOutOfBoundsException", .initialized "java/lang/IndexOutOfBoundsException", .methodLink RX4 89 yX2_get, .instanceMethod yX2_get, .selects RX2 yX2_get yX2_get, .initialized RX2, .code yX2_get cX2_get 2 (some .int), .fieldLink RX2 9 "HouseBells$Row" "cells" "[I"] ++ wsX40 ++ wsX00 ++ wsX20 ++ (vx_atS RX4 277 "java/lang/IndexOutOfBoundsException" ["java/lang/RuntimeException", "java/lang/Exception"]).filter goodWord)
def wsX4_longestWaiting : List Cond := .code yX4_longestWaiting cX4_longestWaiting 4 (some .int) :: ([.fieldLink RX4 10 "HouseBells" "house" "LHouseBells$House;", .methodLink RX4 89 yX2_get, .instanceMethod yX2_get, .selects RX2 yX2_get yX2_get, .initialized RX2, .code yX2_get cX2_get 2 (some .int), .fieldLink RX2 9 "HouseBells$Row" "cells" "[I"] ++ wsX40 ++ wsX00 ++ wsX20)
def wsX4_crossed : List Cond := .code yX4_crossed cX4_crossed 3 (some .int) :: ([.fieldLink RX4 10 "HouseBells" "house" "LHouseBells$House;", .methodLink RX4 89 yX2_get, .instanceMethod yX2_get, .selects RX2 yX2_get yX2_get, .initialized RX2, .code yX2_get cX2_get 2 (some .int), .fieldLink RX2 9 "HouseBells$Row" "cells" "[I"] ++ wsX40 ++ wsX00 ++ wsX20)
def wsX4_crossingsNeeded : List Cond := .code yX4_crossingsNeeded cX4_crossingsNeeded 3 (some .int) :: ([.fieldLink RX4 10 "HouseBells" "house" "LHouseBells$House;", .methodLink RX4 147 yX0_isFirstOfItsCircle, .instanceMethod yX0_isFirstOfItsCircle, .selects RX0 yX0_isFirstOfItsCircle yX0_isFirstOfItsCircle, .initialized RX0, .code yX0_isFirstOfItsCircle cX0_isFirstOfItsCircle 4 (some .boolean), .fieldLink RX0 28 "HouseBells$House" "wire" "LHouseBells$Row;", .fieldLink RX0 54 "HouseBells$House" "roomCount" "I", .methodLink RX0 83 yX2_get, .instanceMethod yX2_get, .selects RX2 yX2_get yX2_get, .initialized RX2, .code yX2_get cX2_get 2 (some .int), .fieldLink RX2 9 "HouseBells$Row" "cells" "[I"] ++ wsX40 ++ wsX00 ++ wsX20)
def wsX4_fallen : List Cond := .code yX4_fallen cX4_fallen 1 (some .int) :: ([.fieldLink RX4 10 "HouseBells" "house" "LHouseBells$House;"] ++ wsX40 ++ wsX00 ++ wsX10)
def wsX4_hasFallen : List Cond := .code yX4_hasFallen cX4_hasFallen 2 (some .boolean) :: ([.fieldLink RX4 10 "HouseBells" "house" "LHouseBells$House;", .methodLink RX4 60 yX4_requireRoom, .instanceMethod yX4_requireRoom, .selects RX4 yX4_requireRoom yX4_requireRoom, .initialized RX4, .code yX4_requireRoom cX4_requireRoom 2 none, .classLink RX4 273 "java/lang/IndexOutOfBoundsException", .initialized "java/lang/IndexOutOfBoundsException", .methodLink RX4 115 yX1_placeOf, .instanceMethod yX1_placeOf, .selects RX1 yX1_placeOf yX1_placeOf, .initialized RX1, .code yX1_placeOf cX1_placeOf 3 (some .int), .fieldLink RX1 15 "HouseBells$Line" "count" "I", .fieldLink RX1 9 "HouseBells$Line" "drops" "[I"] ++ wsX40 ++ wsX00 ++ wsX10 ++ (vx_atS RX4 277 "java/lang/IndexOutOfBoundsException" ["java/lang/RuntimeException", "java/lang/Exception"]).filter goodWord)
def wsX4_placeInLine : List Cond := .code yX4_placeInLine cX4_placeInLine 2 (some .int) :: ([.fieldLink RX4 10 "HouseBells" "house" "LHouseBells$House;", .methodLink RX4 60 yX4_requireRoom, .instanceMethod yX4_requireRoom, .selects RX4 yX4_requireRoom yX4_requireRoom, .initialized RX4, .code yX4_requireRoom cX4_requireRoom 2 none, .classLink RX4 273 "java/lang/IndexOutOfBoundsException", .initialized "java/lang/IndexOutOfBoundsException", .methodLink RX4 115 yX1_placeOf, .instanceMethod yX1_placeOf, .selects RX1 yX1_placeOf yX1_placeOf, .initialized RX1, .code yX1_placeOf cX1_placeOf 3 (some .int), .fieldLink RX1 15 "HouseBells$Line" "count" "I", .fieldLink RX1 9 "HouseBells$Line" "drops" "[I"] ++ wsX40 ++ wsX00 ++ wsX10 ++ (vx_atS RX4 277 "java/lang/IndexOutOfBoundsException" ["java/lang/RuntimeException", "java/lang/Exception"]).filter goodWord)
def wsX4_nextDrop : List Cond := .code yX4_nextDrop cX4_nextDrop 1 (some .int) :: ([.fieldLink RX4 10 "HouseBells" "house" "LHouseBells$House;", .methodLink RX4 150 yX1_first, .instanceMethod yX1_first, .selects RX1 yX1_first yX1_first, .initialized RX1, .code yX1_first cX1_first 1 (some .int), .fieldLink RX1 15 "HouseBells$Line" "count" "I", .fieldLink RX1 9 "HouseBells$Line" "drops" "[I"] ++ wsX40 ++ wsX00 ++ wsX10)
def wsX4_quotient : List Cond := .code yX4_quotient cX4_quotient 2 (some .int) :: ([])
def wsX4_ringsLeft_r1 : List Cond := [Cond.fieldLink RX4 10 "HouseBells" "house" "LHouseBells$House;", Cond.methodLink RX4 60 yX4_requireRoom, Cond.instanceMethod yX4_requireRoom, Cond.selects RX4 yX4_requireRoom yX4_requireRoom, Cond.initialized RX4, Cond.code yX4_requireRoom cX4_requireRoom 2 none, Cond.classLink RX4 273 "java/lang/IndexOutOfBoundsException", Cond.initialized "java/lang/IndexOutOfBoundsException", Cond.methodLink RX4 92 yX0_isWireCut, Cond.instanceMethod yX0_isWireCut, Cond.selects RX0 yX0_isWireCut yX0_isWireCut, Cond.initialized RX0, Cond.code yX0_isWireCut cX0_isWireCut 2 (some .boolean), Cond.fieldLink RX0 31 "HouseBells$House" "cut" "LHouseBells$Row;", Cond.methodLink RX0 83 yX2_get, Cond.instanceMethod yX2_get, Cond.selects RX2 yX2_get yX2_get, Cond.initialized RX2, Cond.code yX2_get cX2_get 2 (some .int), Cond.fieldLink RX2 9 "HouseBells$Row" "cells" "[I", Cond.methodLink RX4 89 yX2_get, Cond.methodLink RX4 156 yX0_costFrom, Cond.static yX0_costFrom, Cond.code yX0_costFrom cX0_costFrom 1 (some .int)]
def wsX4_ringsLeft_r2 : List Cond := [Cond.methodLink RX4 159 yX4_quotient, Cond.static yX4_quotient, Cond.code yX4_quotient cX4_quotient 2 (some .int)]
def wsX4_ringsLeft : List Cond := .code yX4_ringsLeft cX4_ringsLeft 2 (some .int) :: ((wsX4_ringsLeft_r1 ++ wsX4_ringsLeft_r2) ++ wsX40 ++ wsX00 ++ wsX20 ++ (vx_atS RX4 277 "java/lang/IndexOutOfBoundsException" ["java/lang/RuntimeException", "java/lang/Exception"]).filter goodWord)
def wsX4_requireServant : List Cond := .code yX4_requireServant cX4_requireServant 2 none :: ([.classLink RX4 273 "java/lang/IndexOutOfBoundsException", .initialized "java/lang/IndexOutOfBoundsException", .fieldLink RX4 10 "HouseBells" "house" "LHouseBells$House;"] ++ wsX40 ++ wsX00 ++ wsX30 ++ (vx_atS RX4 277 "java/lang/IndexOutOfBoundsException" ["java/lang/RuntimeException", "java/lang/Exception"]).filter goodWord)
def wsX4_floorOf : List Cond := .code yX4_floorOf cX4_floorOf 2 (some .int) :: ([.fieldLink RX4 10 "HouseBells" "house" "LHouseBells$House;", .methodLink RX4 163 yX4_requireServant, .instanceMethod yX4_requireServant, .selects RX4 yX4_requireServant yX4_requireServant, .initialized RX4, .code yX4_requireServant cX4_requireServant 2 none, .classLink RX4 273 "java/lang/IndexOutOfBoundsException", .initialized "java/lang/IndexOutOfBoundsException", .methodLink RX4 89 yX2_get, .instanceMethod yX2_get, .selects RX2 yX2_get yX2_get, .initialized RX2, .code yX2_get cX2_get 2 (some .int), .fieldLink RX2 9 "HouseBells$Row" "cells" "[I"] ++ wsX40 ++ wsX00 ++ wsX30 ++ wsX20 ++ (vx_atS RX4 277 "java/lang/IndexOutOfBoundsException" ["java/lang/RuntimeException", "java/lang/Exception"]).filter goodWord)
def wsX4_goesTo : List Cond := .code yX4_goesTo cX4_goesTo 2 (some .int) :: ([.fieldLink RX4 10 "HouseBells" "house" "LHouseBells$House;", .methodLink RX4 163 yX4_requireServant, .instanceMethod yX4_requireServant, .selects RX4 yX4_requireServant yX4_requireServant, .initialized RX4, .code yX4_requireServant cX4_requireServant 2 none, .classLink RX4 273 "java/lang/IndexOutOfBoundsException", .initialized "java/lang/IndexOutOfBoundsException", .methodLink RX4 89 yX2_get, .instanceMethod yX2_get, .selects RX2 yX2_get yX2_get, .initialized RX2, .code yX2_get cX2_get 2 (some .int), .fieldLink RX2 9 "HouseBells$Row" "cells" "[I"] ++ wsX40 ++ wsX00 ++ wsX30 ++ wsX20 ++ (vx_atS RX4 277 "java/lang/IndexOutOfBoundsException" ["java/lang/RuntimeException", "java/lang/Exception"]).filter goodWord)
def wsX4_serves : List Cond := .code yX4_serves cX4_serves 2 (some .int) :: ([.fieldLink RX4 10 "HouseBells" "house" "LHouseBells$House;", .methodLink RX4 163 yX4_requireServant, .instanceMethod yX4_requireServant, .selects RX4 yX4_requireServant yX4_requireServant, .initialized RX4, .code yX4_requireServant cX4_requireServant 2 none, .classLink RX4 273 "java/lang/IndexOutOfBoundsException", .initialized "java/lang/IndexOutOfBoundsException", .methodLink RX4 89 yX2_get, .instanceMethod yX2_get, .selects RX2 yX2_get yX2_get, .initialized RX2, .code yX2_get cX2_get 2 (some .int), .fieldLink RX2 9 "HouseBells$Row" "cells" "[I"] ++ wsX40 ++ wsX00 ++ wsX30 ++ wsX20 ++ (vx_atS RX4 277 "java/lang/IndexOutOfBoundsException" ["java/lang/RuntimeException", "java/lang/Exception"]).filter goodWord)
def wsX4_minutesLeft : List Cond := .code yX4_minutesLeft cX4_minutesLeft 2 (some .int) :: ([.fieldLink RX4 10 "HouseBells" "house" "LHouseBells$House;", .methodLink RX4 163 yX4_requireServant, .instanceMethod yX4_requireServant, .selects RX4 yX4_requireServant yX4_requireServant, .initialized RX4, .code yX4_requireServant cX4_requireServant 2 none, .classLink RX4 273 "java/lang/IndexOutOfBoundsException", .initialized "java/lang/IndexOutOfBoundsException", .methodLink RX4 89 yX2_get, .instanceMethod yX2_get, .selects RX2 yX2_get yX2_get, .initialized RX2, .code yX2_get cX2_get 2 (some .int), .fieldLink RX2 9 "HouseBells$Row" "cells" "[I"] ++ wsX40 ++ wsX00 ++ wsX30 ++ wsX20 ++ (vx_atS RX4 277 "java/lang/IndexOutOfBoundsException" ["java/lang/RuntimeException", "java/lang/Exception"]).filter goodWord)
def wsX4_wayTo_r1 : List Cond := [Cond.fieldLink RX4 10 "HouseBells" "house" "LHouseBells$House;", Cond.methodLink RX4 163 yX4_requireServant, Cond.instanceMethod yX4_requireServant, Cond.selects RX4 yX4_requireServant yX4_requireServant, Cond.initialized RX4, Cond.code yX4_requireServant cX4_requireServant 2 none, Cond.classLink RX4 273 "java/lang/IndexOutOfBoundsException", Cond.initialized "java/lang/IndexOutOfBoundsException", Cond.methodLink RX4 60 yX4_requireRoom, Cond.instanceMethod yX4_requireRoom, Cond.selects RX4 yX4_requireRoom yX4_requireRoom, Cond.code yX4_requireRoom cX4_requireRoom 2 none, Cond.methodLink RX4 89 yX2_get, Cond.instanceMethod yX2_get, Cond.selects RX2 yX2_get yX2_get, Cond.initialized RX2, Cond.code yX2_get cX2_get 2 (some .int), Cond.fieldLink RX2 9 "HouseBells$Row" "cells" "[I", Cond.methodLink RX4 176 yX3_wayToFloor, Cond.instanceMethod yX3_wayToFloor, Cond.selects RX3 yX3_wayToFloor yX3_wayToFloor, Cond.initialized RX3, Cond.code yX3_wayToFloor cX3_wayToFloor 3 (some .int), Cond.fieldLink RX3 18 "HouseBells$Staff" "floor" "LHouseBells$Row;"]
def wsX4_wayTo_r2 : List Cond := [Cond.fieldLink RX3 12 "HouseBells$Staff" "pace" "LHouseBells$Row;", Cond.methodLink RX3 46 yX2_get, Cond.methodLink RX3 50 yX3_minutesOfWay, Cond.static yX3_minutesOfWay, Cond.code yX3_minutesOfWay cX3_minutesOfWay 5 (some .int)]
def wsX4_wayTo : List Cond := .code yX4_wayTo cX4_wayTo 3 (some .int) :: ((wsX4_wayTo_r1 ++ wsX4_wayTo_r2) ++ wsX40 ++ wsX00 ++ wsX30 ++ wsX20 ++ (vx_atS RX4 277 "java/lang/IndexOutOfBoundsException" ["java/lang/RuntimeException", "java/lang/Exception"]).filter goodWord)
def wsX4_nearestIdle_r1 : List Cond := [Cond.fieldLink RX4 10 "HouseBells" "house" "LHouseBells$House;", Cond.methodLink RX4 60 yX4_requireRoom, Cond.instanceMethod yX4_requireRoom, Cond.selects RX4 yX4_requireRoom yX4_requireRoom, Cond.initialized RX4, Cond.code yX4_requireRoom cX4_requireRoom 2 none, Cond.classLink RX4 273 "java/lang/IndexOutOfBoundsException", Cond.initialized "java/lang/IndexOutOfBoundsException", Cond.methodLink RX4 89 yX2_get, Cond.instanceMethod yX2_get, Cond.selects RX2 yX2_get yX2_get, Cond.initialized RX2, Cond.code yX2_get cX2_get 2 (some .int), Cond.fieldLink RX2 9 "HouseBells$Row" "cells" "[I", Cond.methodLink RX4 179 yX3_nearestTo, Cond.instanceMethod yX3_nearestTo, Cond.selects RX3 yX3_nearestTo yX3_nearestTo, Cond.initialized RX3, Cond.code yX3_nearestTo cX3_nearestTo 6 (some .int), Cond.fieldLink RX3 30 "HouseBells$Staff" "count" "I", Cond.fieldLink RX3 21 "HouseBells$Staff" "goal" "LHouseBells$Row;", Cond.fieldLink RX3 24 "HouseBells$Staff" "guest" "LHouseBells$Row;", Cond.fieldLink RX3 18 "HouseBells$Staff" "floor" "LHouseBells$Row;", Cond.fieldLink RX3 12 "HouseBells$Staff" "pace" "LHouseBells$Row;"]
def wsX4_nearestIdle_r2 : List Cond := [Cond.methodLink RX3 46 yX2_get, Cond.methodLink RX3 50 yX3_minutesOfWay, Cond.static yX3_minutesOfWay, Cond.code yX3_minutesOfWay cX3_minutesOfWay 5 (some .int)]
def wsX4_nearestIdle : List Cond := .code yX4_nearestIdle cX4_nearestIdle 2 (some .int) :: ((wsX4_nearestIdle_r1 ++ wsX4_nearestIdle_r2) ++ wsX40 ++ wsX00 ++ wsX20 ++ wsX30 ++ (vx_atS RX4 277 "java/lang/IndexOutOfBoundsException" ["java/lang/RuntimeException", "java/lang/Exception"]).filter goodWord)
def wsX4_minutesUntilServed_r1 : List Cond := [Cond.fieldLink RX4 16 "HouseBells" "trial" "LHouseBells$House;", Cond.fieldLink RX4 10 "HouseBells" "house" "LHouseBells$House;", Cond.methodLink RX4 60 yX4_requireRoom, Cond.instanceMethod yX4_requireRoom, Cond.selects RX4 yX4_requireRoom yX4_requireRoom, Cond.initialized RX4, Cond.code yX4_requireRoom cX4_requireRoom 2 none, Cond.classLink RX4 273 "java/lang/IndexOutOfBoundsException", Cond.initialized "java/lang/IndexOutOfBoundsException", Cond.methodLink RX4 182 yX0_copyFrom, Cond.instanceMethod yX0_copyFrom, Cond.selects RX0 yX0_copyFrom yX0_copyFrom, Cond.initialized RX0, Cond.code yX0_copyFrom cX0_copyFrom 2 none, Cond.fieldLink RX0 51 "HouseBells$House" "minute" "I", Cond.fieldLink RX0 54 "HouseBells$House" "roomCount" "I", Cond.fieldLink RX0 9 "HouseBells$House" "charge" "I", Cond.fieldLink RX0 57 "HouseBells$House" "served" "I", Cond.fieldLink RX0 60 "HouseBells$House" "inVain" "I", Cond.fieldLink RX0 63 "HouseBells$House" "gaveUp" "I", Cond.fieldLink RX0 66 "HouseBells$House" "unheard" "I", Cond.fieldLink RX0 18 "HouseBells$House" "floor" "LHouseBells$Row;", Cond.fieldLink RX0 22 "HouseBells$House" "patience" "LHouseBells$Row;", Cond.fieldLink RX0 25 "HouseBells$House" "need" "LHouseBells$Row;"]
def wsX4_minutesUntilServed_r2 : List Cond := [Cond.fieldLink RX0 28 "HouseBells$House" "wire" "LHouseBells$Row;", Cond.fieldLink RX0 31 "HouseBells$House" "cut" "LHouseBells$Row;", Cond.fieldLink RX0 34 "HouseBells$House" "waited" "LHouseBells$Row;", Cond.fieldLink RX0 40 "HouseBells$House" "line" "LHouseBells$Line;", Cond.fieldLink RX0 47 "HouseBells$House" "staff" "LHouseBells$Staff;", Cond.methodLink RX0 69 yX2_copyFrom, Cond.instanceMethod yX2_copyFrom, Cond.selects RX2 yX2_copyFrom yX2_copyFrom, Cond.initialized RX2, Cond.code yX2_copyFrom cX2_copyFrom 3 none, Cond.fieldLink RX2 9 "HouseBells$Row" "cells" "[I", Cond.methodLink RX0 73 yX1_copyFrom, Cond.instanceMethod yX1_copyFrom, Cond.selects RX1 yX1_copyFrom yX1_copyFrom, Cond.initialized RX1, Cond.code yX1_copyFrom cX1_copyFrom 3 none, Cond.fieldLink RX1 15 "HouseBells$Line" "count" "I", Cond.fieldLink RX1 9 "HouseBells$Line" "drops" "[I", Cond.methodLink RX0 76 yX3_copyFrom, Cond.instanceMethod yX3_copyFrom, Cond.selects RX3 yX3_copyFrom yX3_copyFrom, Cond.initialized RX3, Cond.code yX3_copyFrom cX3_copyFrom 2 none, Cond.fieldLink RX3 30 "HouseBells$Staff" "count" "I"]
def wsX4_minutesUntilServed_r3 : List Cond := [Cond.fieldLink RX3 12 "HouseBells$Staff" "pace" "LHouseBells$Row;", Cond.fieldLink RX3 18 "HouseBells$Staff" "floor" "LHouseBells$Row;", Cond.fieldLink RX3 21 "HouseBells$Staff" "goal" "LHouseBells$Row;", Cond.fieldLink RX3 24 "HouseBells$Staff" "guest" "LHouseBells$Row;", Cond.fieldLink RX3 27 "HouseBells$Staff" "left" "LHouseBells$Row;", Cond.methodLink RX3 34 yX2_copyFrom, Cond.methodLink RX4 186 yX3_isServing, Cond.instanceMethod yX3_isServing, Cond.selects RX3 yX3_isServing yX3_isServing, Cond.code yX3_isServing cX3_isServing 3 (some .boolean), Cond.methodLink RX3 46 yX2_get, Cond.instanceMethod yX2_get, Cond.selects RX2 yX2_get yX2_get, Cond.code yX2_get cX2_get 2 (some .int), Cond.methodLink RX4 68 yX0_isWaiting, Cond.instanceMethod yX0_isWaiting, Cond.selects RX0 yX0_isWaiting yX0_isWaiting, Cond.code yX0_isWaiting cX0_isWaiting 2 (some .boolean), Cond.methodLink RX0 83 yX2_get, Cond.methodLink RX4 129 yX0_letMinuteGoBy, Cond.instanceMethod yX0_letMinuteGoBy, Cond.selects RX0 yX0_letMinuteGoBy yX0_letMinuteGoBy, Cond.code yX0_letMinuteGoBy cX0_letMinuteGoBy 2 (some .int), Cond.methodLink RX0 97 yX0_letRoomsWait]
def wsX4_minutesUntilServed_r4 : List Cond := [Cond.instanceMethod yX0_letRoomsWait, Cond.selects RX0 yX0_letRoomsWait yX0_letRoomsWait, Cond.code yX0_letRoomsWait cX0_letRoomsWait 3 none, Cond.methodLink RX0 79 yX2_set, Cond.instanceMethod yX2_set, Cond.selects RX2 yX2_set yX2_set, Cond.code yX2_set cX2_set 3 none, Cond.methodLink RX0 106 yX0_isMultiple, Cond.static yX0_isMultiple, Cond.code yX0_isMultiple cX0_isMultiple 2 (some .boolean), Cond.methodLink RX0 110 yX0_pullBell, Cond.instanceMethod yX0_pullBell, Cond.selects RX0 yX0_pullBell yX0_pullBell, Cond.code yX0_pullBell cX0_pullBell 4 (some .boolean), Cond.methodLink RX0 87 yX0_costFrom, Cond.static yX0_costFrom, Cond.code yX0_costFrom cX0_costFrom 1 (some .int), Cond.methodLink RX0 90 yX1_placeOf, Cond.instanceMethod yX1_placeOf, Cond.selects RX1 yX1_placeOf yX1_placeOf, Cond.code yX1_placeOf cX1_placeOf 3 (some .int), Cond.methodLink RX0 93 yX1_append, Cond.instanceMethod yX1_append, Cond.selects RX1 yX1_append yX1_append]
def wsX4_minutesUntilServed_r5 : List Cond := [Cond.code yX1_append cX1_append 2 none, Cond.methodLink RX0 100 yX0_letServantsMove, Cond.instanceMethod yX0_letServantsMove, Cond.selects RX0 yX0_letServantsMove yX0_letServantsMove, Cond.code yX0_letServantsMove cX0_letServantsMove 4 none, Cond.methodLink RX0 117 yX3_isIdle, Cond.instanceMethod yX3_isIdle, Cond.selects RX3 yX3_isIdle yX3_isIdle, Cond.code yX3_isIdle cX3_isIdle 2 (some .boolean), Cond.methodLink RX0 126 yX3_rest, Cond.instanceMethod yX3_rest, Cond.selects RX3 yX3_rest yX3_rest, Cond.code yX3_rest cX3_rest 2 none, Cond.methodLink RX3 38 yX2_set, Cond.methodLink RX0 129 yX0_arrive, Cond.instanceMethod yX0_arrive, Cond.selects RX0 yX0_arrive yX0_arrive, Cond.code yX0_arrive cX0_arrive 3 none, Cond.methodLink RX0 103 yX0_sendIdleServants, Cond.instanceMethod yX0_sendIdleServants, Cond.selects RX0 yX0_sendIdleServants yX0_sendIdleServants, Cond.code yX0_sendIdleServants cX0_sendIdleServants 5 none, Cond.methodLink RX0 137 yX1_first, Cond.instanceMethod yX1_first]
def wsX4_minutesUntilServed_r6 : List Cond := [Cond.selects RX1 yX1_first yX1_first, Cond.code yX1_first cX1_first 1 (some .int), Cond.methodLink RX0 141 yX3_nearestTo, Cond.instanceMethod yX3_nearestTo, Cond.selects RX3 yX3_nearestTo yX3_nearestTo, Cond.code yX3_nearestTo cX3_nearestTo 6 (some .int), Cond.methodLink RX3 50 yX3_minutesOfWay, Cond.static yX3_minutesOfWay, Cond.code yX3_minutesOfWay cX3_minutesOfWay 5 (some .int), Cond.methodLink RX0 144 yX1_remove, Cond.instanceMethod yX1_remove, Cond.selects RX1 yX1_remove yX1_remove, Cond.code yX1_remove cX1_remove 4 none, Cond.methodLink RX0 147 yX3_wayToFloor, Cond.instanceMethod yX3_wayToFloor, Cond.selects RX3 yX3_wayToFloor yX3_wayToFloor, Cond.code yX3_wayToFloor cX3_wayToFloor 3 (some .int)]
def wsX4_minutesUntilServed : List Cond := .code yX4_minutesUntilServed cX4_minutesUntilServed 3 (some .int) :: ((wsX4_minutesUntilServed_r1 ++ (wsX4_minutesUntilServed_r2 ++ (wsX4_minutesUntilServed_r3 ++ (wsX4_minutesUntilServed_r4 ++ (wsX4_minutesUntilServed_r5 ++ wsX4_minutesUntilServed_r6))))) ++ wsX40 ++ wsX00 ++ wsX20 ++ wsX10 ++ wsX30 ++ (vx_atS RX4 277 "java/lang/IndexOutOfBoundsException" ["java/lang/RuntimeException", "java/lang/Exception"]).filter goodWord)
def wsX4_serveInTrial_r1 : List Cond := [Cond.fieldLink RX4 16 "HouseBells" "trial" "LHouseBells$House;", Cond.methodLink RX4 282 yX0_isAnyoneWaiting, Cond.instanceMethod yX0_isAnyoneWaiting, Cond.selects RX0 yX0_isAnyoneWaiting yX0_isAnyoneWaiting, Cond.initialized RX0, Cond.code yX0_isAnyoneWaiting cX0_isAnyoneWaiting 2 (some .boolean), Cond.fieldLink RX0 54 "HouseBells$House" "roomCount" "I", Cond.fieldLink RX0 34 "HouseBells$House" "waited" "LHouseBells$Row;", Cond.methodLink RX0 83 yX2_get, Cond.instanceMethod yX2_get, Cond.selects RX2 yX2_get yX2_get, Cond.initialized RX2, Cond.code yX2_get cX2_get 2 (some .int), Cond.fieldLink RX2 9 "HouseBells$Row" "cells" "[I", Cond.methodLink RX4 129 yX0_letMinuteGoBy, Cond.instanceMethod yX0_letMinuteGoBy, Cond.selects RX0 yX0_letMinuteGoBy yX0_letMinuteGoBy, Cond.code yX0_letMinuteGoBy cX0_letMinuteGoBy 2 (some .int), Cond.fieldLink RX0 57 "HouseBells$House" "served" "I", Cond.fieldLink RX0 51 "HouseBells$House" "minute" "I", Cond.methodLink RX0 97 yX0_letRoomsWait, Cond.instanceMethod yX0_letRoomsWait, Cond.selects RX0 yX0_letRoomsWait yX0_letRoomsWait, Cond.code yX0_letRoomsWait cX0_letRoomsWait 3 none]
def wsX4_serveInTrial_r2 : List Cond := [Cond.fieldLink RX0 63 "HouseBells$House" "gaveUp" "I", Cond.fieldLink RX0 22 "HouseBells$House" "patience" "LHouseBells$Row;", Cond.methodLink RX0 79 yX2_set, Cond.instanceMethod yX2_set, Cond.selects RX2 yX2_set yX2_set, Cond.code yX2_set cX2_set 3 none, Cond.methodLink RX0 106 yX0_isMultiple, Cond.static yX0_isMultiple, Cond.code yX0_isMultiple cX0_isMultiple 2 (some .boolean), Cond.methodLink RX0 110 yX0_pullBell, Cond.instanceMethod yX0_pullBell, Cond.selects RX0 yX0_pullBell yX0_pullBell, Cond.code yX0_pullBell cX0_pullBell 4 (some .boolean), Cond.fieldLink RX0 18 "HouseBells$House" "floor" "LHouseBells$Row;", Cond.fieldLink RX0 31 "HouseBells$House" "cut" "LHouseBells$Row;", Cond.fieldLink RX0 9 "HouseBells$House" "charge" "I", Cond.fieldLink RX0 66 "HouseBells$House" "unheard" "I", Cond.fieldLink RX0 28 "HouseBells$House" "wire" "LHouseBells$Row;", Cond.fieldLink RX0 40 "HouseBells$House" "line" "LHouseBells$Line;", Cond.methodLink RX0 87 yX0_costFrom, Cond.static yX0_costFrom, Cond.code yX0_costFrom cX0_costFrom 1 (some .int), Cond.methodLink RX0 90 yX1_placeOf, Cond.instanceMethod yX1_placeOf]
def wsX4_serveInTrial_r3 : List Cond := [Cond.selects RX1 yX1_placeOf yX1_placeOf, Cond.initialized RX1, Cond.code yX1_placeOf cX1_placeOf 3 (some .int), Cond.fieldLink RX1 15 "HouseBells$Line" "count" "I", Cond.fieldLink RX1 9 "HouseBells$Line" "drops" "[I", Cond.methodLink RX0 93 yX1_append, Cond.instanceMethod yX1_append, Cond.selects RX1 yX1_append yX1_append, Cond.code yX1_append cX1_append 2 none, Cond.methodLink RX0 100 yX0_letServantsMove, Cond.instanceMethod yX0_letServantsMove, Cond.selects RX0 yX0_letServantsMove yX0_letServantsMove, Cond.code yX0_letServantsMove cX0_letServantsMove 4 none, Cond.fieldLink RX0 47 "HouseBells$House" "staff" "LHouseBells$Staff;", Cond.methodLink RX0 117 yX3_isIdle, Cond.instanceMethod yX3_isIdle, Cond.selects RX3 yX3_isIdle yX3_isIdle, Cond.initialized RX3, Cond.code yX3_isIdle cX3_isIdle 2 (some .boolean), Cond.fieldLink RX3 21 "HouseBells$Staff" "goal" "LHouseBells$Row;", Cond.fieldLink RX3 24 "HouseBells$Staff" "guest" "LHouseBells$Row;", Cond.methodLink RX3 46 yX2_get, Cond.methodLink RX0 126 yX3_rest, Cond.instanceMethod yX3_rest]
def wsX4_serveInTrial_r4 : List Cond := [Cond.selects RX3 yX3_rest yX3_rest, Cond.code yX3_rest cX3_rest 2 none, Cond.fieldLink RX3 27 "HouseBells$Staff" "left" "LHouseBells$Row;", Cond.methodLink RX3 38 yX2_set, Cond.methodLink RX0 129 yX0_arrive, Cond.instanceMethod yX0_arrive, Cond.selects RX0 yX0_arrive yX0_arrive, Cond.code yX0_arrive cX0_arrive 3 none, Cond.fieldLink RX0 60 "HouseBells$House" "inVain" "I", Cond.fieldLink RX0 25 "HouseBells$House" "need" "LHouseBells$Row;", Cond.methodLink RX0 103 yX0_sendIdleServants, Cond.instanceMethod yX0_sendIdleServants, Cond.selects RX0 yX0_sendIdleServants yX0_sendIdleServants, Cond.code yX0_sendIdleServants cX0_sendIdleServants 5 none, Cond.methodLink RX0 137 yX1_first, Cond.instanceMethod yX1_first, Cond.selects RX1 yX1_first yX1_first, Cond.code yX1_first cX1_first 1 (some .int), Cond.methodLink RX0 141 yX3_nearestTo, Cond.instanceMethod yX3_nearestTo, Cond.selects RX3 yX3_nearestTo yX3_nearestTo, Cond.code yX3_nearestTo cX3_nearestTo 6 (some .int), Cond.fieldLink RX3 30 "HouseBells$Staff" "count" "I", Cond.fieldLink RX3 18 "HouseBells$Staff" "floor" "LHouseBells$Row;"]
def wsX4_serveInTrial_r5 : List Cond := [Cond.fieldLink RX3 12 "HouseBells$Staff" "pace" "LHouseBells$Row;", Cond.methodLink RX3 50 yX3_minutesOfWay, Cond.static yX3_minutesOfWay, Cond.code yX3_minutesOfWay cX3_minutesOfWay 5 (some .int), Cond.methodLink RX0 144 yX1_remove, Cond.instanceMethod yX1_remove, Cond.selects RX1 yX1_remove yX1_remove, Cond.code yX1_remove cX1_remove 4 none, Cond.methodLink RX0 147 yX3_wayToFloor, Cond.instanceMethod yX3_wayToFloor, Cond.selects RX3 yX3_wayToFloor yX3_wayToFloor, Cond.code yX3_wayToFloor cX3_wayToFloor 3 (some .int)]
def wsX4_serveInTrial : List Cond := .code yX4_serveInTrial cX4_serveInTrial 4 (some .int) :: ((wsX4_serveInTrial_r1 ++ (wsX4_serveInTrial_r2 ++ (wsX4_serveInTrial_r3 ++ (wsX4_serveInTrial_r4 ++ wsX4_serveInTrial_r5)))) ++ wsX40 ++ wsX00 ++ wsX20 ++ wsX10 ++ wsX30)
def wsX4_servedIn_r1 : List Cond := [Cond.fieldLink RX4 16 "HouseBells" "trial" "LHouseBells$House;", Cond.fieldLink RX4 10 "HouseBells" "house" "LHouseBells$House;", Cond.methodLink RX4 126 yX4_requireMinutes, Cond.static yX4_requireMinutes, Cond.initialized RX4, Cond.code yX4_requireMinutes cX4_requireMinutes 1 none, Cond.classLink RX4 23 "java/lang/IllegalArgumentException", Cond.initialized "java/lang/IllegalArgumentException", Cond.methodLink RX4 19 yX4_isWithin, Cond.static yX4_isWithin, Cond.code yX4_isWithin cX4_isWithin 3 (some .boolean), Cond.methodLink RX4 182 yX0_copyFrom, Cond.instanceMethod yX0_copyFrom, Cond.selects RX0 yX0_copyFrom yX0_copyFrom, Cond.initialized RX0, Cond.code yX0_copyFrom cX0_copyFrom 2 none, Cond.fieldLink RX0 51 "HouseBells$House" "minute" "I", Cond.fieldLink RX0 54 "HouseBells$House" "roomCount" "I", Cond.fieldLink RX0 9 "HouseBells$House" "charge" "I", Cond.fieldLink RX0 57 "HouseBells$House" "served" "I", Cond.fieldLink RX0 60 "HouseBells$House" "inVain" "I", Cond.fieldLink RX0 63 "HouseBells$House" "gaveUp" "I", Cond.fieldLink RX0 66 "HouseBells$House" "unheard" "I", Cond.fieldLink RX0 18 "HouseBells$House" "floor" "LHouseBells$Row;"]
def wsX4_servedIn_r2 : List Cond := [Cond.fieldLink RX0 22 "HouseBells$House" "patience" "LHouseBells$Row;", Cond.fieldLink RX0 25 "HouseBells$House" "need" "LHouseBells$Row;", Cond.fieldLink RX0 28 "HouseBells$House" "wire" "LHouseBells$Row;", Cond.fieldLink RX0 31 "HouseBells$House" "cut" "LHouseBells$Row;", Cond.fieldLink RX0 34 "HouseBells$House" "waited" "LHouseBells$Row;", Cond.fieldLink RX0 40 "HouseBells$House" "line" "LHouseBells$Line;", Cond.fieldLink RX0 47 "HouseBells$House" "staff" "LHouseBells$Staff;", Cond.methodLink RX0 69 yX2_copyFrom, Cond.instanceMethod yX2_copyFrom, Cond.selects RX2 yX2_copyFrom yX2_copyFrom, Cond.initialized RX2, Cond.code yX2_copyFrom cX2_copyFrom 3 none, Cond.fieldLink RX2 9 "HouseBells$Row" "cells" "[I", Cond.methodLink RX0 73 yX1_copyFrom, Cond.instanceMethod yX1_copyFrom, Cond.selects RX1 yX1_copyFrom yX1_copyFrom, Cond.initialized RX1, Cond.code yX1_copyFrom cX1_copyFrom 3 none, Cond.fieldLink RX1 15 "HouseBells$Line" "count" "I", Cond.fieldLink RX1 9 "HouseBells$Line" "drops" "[I", Cond.methodLink RX0 76 yX3_copyFrom, Cond.instanceMethod yX3_copyFrom, Cond.selects RX3 yX3_copyFrom yX3_copyFrom, Cond.initialized RX3]
def wsX4_servedIn_r3 : List Cond := [Cond.code yX3_copyFrom cX3_copyFrom 2 none, Cond.fieldLink RX3 30 "HouseBells$Staff" "count" "I", Cond.fieldLink RX3 12 "HouseBells$Staff" "pace" "LHouseBells$Row;", Cond.fieldLink RX3 18 "HouseBells$Staff" "floor" "LHouseBells$Row;", Cond.fieldLink RX3 21 "HouseBells$Staff" "goal" "LHouseBells$Row;", Cond.fieldLink RX3 24 "HouseBells$Staff" "guest" "LHouseBells$Row;", Cond.fieldLink RX3 27 "HouseBells$Staff" "left" "LHouseBells$Row;", Cond.methodLink RX3 34 yX2_copyFrom, Cond.methodLink RX4 189 yX4_serveInTrial, Cond.instanceMethod yX4_serveInTrial, Cond.selects RX4 yX4_serveInTrial yX4_serveInTrial, Cond.code yX4_serveInTrial cX4_serveInTrial 4 (some .int), Cond.methodLink RX4 282 yX0_isAnyoneWaiting, Cond.instanceMethod yX0_isAnyoneWaiting, Cond.selects RX0 yX0_isAnyoneWaiting yX0_isAnyoneWaiting, Cond.code yX0_isAnyoneWaiting cX0_isAnyoneWaiting 2 (some .boolean), Cond.methodLink RX0 83 yX2_get, Cond.instanceMethod yX2_get, Cond.selects RX2 yX2_get yX2_get, Cond.code yX2_get cX2_get 2 (some .int), Cond.methodLink RX4 129 yX0_letMinuteGoBy, Cond.instanceMethod yX0_letMinuteGoBy, Cond.selects RX0 yX0_letMinuteGoBy yX0_letMinuteGoBy, Cond.code yX0_letMinuteGoBy cX0_letMinuteGoBy 2 (some .int)]
def wsX4_servedIn_r4 : List Cond := [Cond.methodLink RX0 97 yX0_letRoomsWait, Cond.instanceMethod yX0_letRoomsWait, Cond.selects RX0 yX0_letRoomsWait yX0_letRoomsWait, Cond.code yX0_letRoomsWait cX0_letRoomsWait 3 none, Cond.methodLink RX0 79 yX2_set, Cond.instanceMethod yX2_set, Cond.selects RX2 yX2_set yX2_set, Cond.code yX2_set cX2_set 3 none, Cond.methodLink RX0 106 yX0_isMultiple, Cond.static yX0_isMultiple, Cond.code yX0_isMultiple cX0_isMultiple 2 (some .boolean), Cond.methodLink RX0 110 yX0_pullBell, Cond.instanceMethod yX0_pullBell, Cond.selects RX0 yX0_pullBell yX0_pullBell, Cond.code yX0_pullBell cX0_pullBell 4 (some .boolean), Cond.methodLink RX0 87 yX0_costFrom, Cond.static yX0_costFrom, Cond.code yX0_costFrom cX0_costFrom 1 (some .int), Cond.methodLink RX0 90 yX1_placeOf, Cond.instanceMethod yX1_placeOf, Cond.selects RX1 yX1_placeOf yX1_placeOf, Cond.code yX1_placeOf cX1_placeOf 3 (some .int), Cond.methodLink RX0 93 yX1_append, Cond.instanceMethod yX1_append]
def wsX4_servedIn_r5 : List Cond := [Cond.selects RX1 yX1_append yX1_append, Cond.code yX1_append cX1_append 2 none, Cond.methodLink RX0 100 yX0_letServantsMove, Cond.instanceMethod yX0_letServantsMove, Cond.selects RX0 yX0_letServantsMove yX0_letServantsMove, Cond.code yX0_letServantsMove cX0_letServantsMove 4 none, Cond.methodLink RX0 117 yX3_isIdle, Cond.instanceMethod yX3_isIdle, Cond.selects RX3 yX3_isIdle yX3_isIdle, Cond.code yX3_isIdle cX3_isIdle 2 (some .boolean), Cond.methodLink RX3 46 yX2_get, Cond.methodLink RX0 126 yX3_rest, Cond.instanceMethod yX3_rest, Cond.selects RX3 yX3_rest yX3_rest, Cond.code yX3_rest cX3_rest 2 none, Cond.methodLink RX3 38 yX2_set, Cond.methodLink RX0 129 yX0_arrive, Cond.instanceMethod yX0_arrive, Cond.selects RX0 yX0_arrive yX0_arrive, Cond.code yX0_arrive cX0_arrive 3 none, Cond.methodLink RX0 103 yX0_sendIdleServants, Cond.instanceMethod yX0_sendIdleServants, Cond.selects RX0 yX0_sendIdleServants yX0_sendIdleServants, Cond.code yX0_sendIdleServants cX0_sendIdleServants 5 none]
def wsX4_servedIn_r6 : List Cond := [Cond.methodLink RX0 137 yX1_first, Cond.instanceMethod yX1_first, Cond.selects RX1 yX1_first yX1_first, Cond.code yX1_first cX1_first 1 (some .int), Cond.methodLink RX0 141 yX3_nearestTo, Cond.instanceMethod yX3_nearestTo, Cond.selects RX3 yX3_nearestTo yX3_nearestTo, Cond.code yX3_nearestTo cX3_nearestTo 6 (some .int), Cond.methodLink RX3 50 yX3_minutesOfWay, Cond.static yX3_minutesOfWay, Cond.code yX3_minutesOfWay cX3_minutesOfWay 5 (some .int), Cond.methodLink RX0 144 yX1_remove, Cond.instanceMethod yX1_remove, Cond.selects RX1 yX1_remove yX1_remove, Cond.code yX1_remove cX1_remove 4 none, Cond.methodLink RX0 147 yX3_wayToFloor, Cond.instanceMethod yX3_wayToFloor, Cond.selects RX3 yX3_wayToFloor yX3_wayToFloor, Cond.code yX3_wayToFloor cX3_wayToFloor 3 (some .int)]
def wsX4_servedIn : List Cond := .code yX4_servedIn cX4_servedIn 2 (some .int) :: ((wsX4_servedIn_r1 ++ (wsX4_servedIn_r2 ++ (wsX4_servedIn_r3 ++ (wsX4_servedIn_r4 ++ (wsX4_servedIn_r5 ++ wsX4_servedIn_r6))))) ++ wsX40 ++ wsX00 ++ wsX20 ++ wsX10 ++ wsX30 ++ (vx_atS RX4 27 "java/lang/IllegalArgumentException" ["java/lang/RuntimeException", "java/lang/Exception"]).filter goodWord)
def wsX4_bestToCross_r1 : List Cond := [Cond.fieldLink RX4 16 "HouseBells" "trial" "LHouseBells$House;", Cond.fieldLink RX4 10 "HouseBells" "house" "LHouseBells$House;", Cond.methodLink RX4 60 yX4_requireRoom, Cond.instanceMethod yX4_requireRoom, Cond.selects RX4 yX4_requireRoom yX4_requireRoom, Cond.initialized RX4, Cond.code yX4_requireRoom cX4_requireRoom 2 none, Cond.classLink RX4 273 "java/lang/IndexOutOfBoundsException", Cond.initialized "java/lang/IndexOutOfBoundsException", Cond.methodLink RX4 182 yX0_copyFrom, Cond.instanceMethod yX0_copyFrom, Cond.selects RX0 yX0_copyFrom yX0_copyFrom, Cond.initialized RX0, Cond.code yX0_copyFrom cX0_copyFrom 2 none, Cond.fieldLink RX0 51 "HouseBells$House" "minute" "I", Cond.fieldLink RX0 54 "HouseBells$House" "roomCount" "I", Cond.fieldLink RX0 9 "HouseBells$House" "charge" "I", Cond.fieldLink RX0 57 "HouseBells$House" "served" "I", Cond.fieldLink RX0 60 "HouseBells$House" "inVain" "I", Cond.fieldLink RX0 63 "HouseBells$House" "gaveUp" "I", Cond.fieldLink RX0 66 "HouseBells$House" "unheard" "I", Cond.fieldLink RX0 18 "HouseBells$House" "floor" "LHouseBells$Row;", Cond.fieldLink RX0 22 "HouseBells$House" "patience" "LHouseBells$Row;", Cond.fieldLink RX0 25 "HouseBells$House" "need" "LHouseBells$Row;"]
def wsX4_bestToCross_r2 : List Cond := [Cond.fieldLink RX0 28 "HouseBells$House" "wire" "LHouseBells$Row;", Cond.fieldLink RX0 31 "HouseBells$House" "cut" "LHouseBells$Row;", Cond.fieldLink RX0 34 "HouseBells$House" "waited" "LHouseBells$Row;", Cond.fieldLink RX0 40 "HouseBells$House" "line" "LHouseBells$Line;", Cond.fieldLink RX0 47 "HouseBells$House" "staff" "LHouseBells$Staff;", Cond.methodLink RX0 69 yX2_copyFrom, Cond.instanceMethod yX2_copyFrom, Cond.selects RX2 yX2_copyFrom yX2_copyFrom, Cond.initialized RX2, Cond.code yX2_copyFrom cX2_copyFrom 3 none, Cond.fieldLink RX2 9 "HouseBells$Row" "cells" "[I", Cond.methodLink RX0 73 yX1_copyFrom, Cond.instanceMethod yX1_copyFrom, Cond.selects RX1 yX1_copyFrom yX1_copyFrom, Cond.initialized RX1, Cond.code yX1_copyFrom cX1_copyFrom 3 none, Cond.fieldLink RX1 15 "HouseBells$Line" "count" "I", Cond.fieldLink RX1 9 "HouseBells$Line" "drops" "[I", Cond.methodLink RX0 76 yX3_copyFrom, Cond.instanceMethod yX3_copyFrom, Cond.selects RX3 yX3_copyFrom yX3_copyFrom, Cond.initialized RX3, Cond.code yX3_copyFrom cX3_copyFrom 2 none, Cond.fieldLink RX3 30 "HouseBells$Staff" "count" "I"]
def wsX4_bestToCross_r3 : List Cond := [Cond.fieldLink RX3 12 "HouseBells$Staff" "pace" "LHouseBells$Row;", Cond.fieldLink RX3 18 "HouseBells$Staff" "floor" "LHouseBells$Row;", Cond.fieldLink RX3 21 "HouseBells$Staff" "goal" "LHouseBells$Row;", Cond.fieldLink RX3 24 "HouseBells$Staff" "guest" "LHouseBells$Row;", Cond.fieldLink RX3 27 "HouseBells$Staff" "left" "LHouseBells$Row;", Cond.methodLink RX3 34 yX2_copyFrom, Cond.methodLink RX4 189 yX4_serveInTrial, Cond.instanceMethod yX4_serveInTrial, Cond.selects RX4 yX4_serveInTrial yX4_serveInTrial, Cond.code yX4_serveInTrial cX4_serveInTrial 4 (some .int), Cond.methodLink RX4 282 yX0_isAnyoneWaiting, Cond.instanceMethod yX0_isAnyoneWaiting, Cond.selects RX0 yX0_isAnyoneWaiting yX0_isAnyoneWaiting, Cond.code yX0_isAnyoneWaiting cX0_isAnyoneWaiting 2 (some .boolean), Cond.methodLink RX0 83 yX2_get, Cond.instanceMethod yX2_get, Cond.selects RX2 yX2_get yX2_get, Cond.code yX2_get cX2_get 2 (some .int), Cond.methodLink RX4 129 yX0_letMinuteGoBy, Cond.instanceMethod yX0_letMinuteGoBy, Cond.selects RX0 yX0_letMinuteGoBy yX0_letMinuteGoBy, Cond.code yX0_letMinuteGoBy cX0_letMinuteGoBy 2 (some .int), Cond.methodLink RX0 97 yX0_letRoomsWait, Cond.instanceMethod yX0_letRoomsWait]
def wsX4_bestToCross_r4 : List Cond := [Cond.selects RX0 yX0_letRoomsWait yX0_letRoomsWait, Cond.code yX0_letRoomsWait cX0_letRoomsWait 3 none, Cond.methodLink RX0 79 yX2_set, Cond.instanceMethod yX2_set, Cond.selects RX2 yX2_set yX2_set, Cond.code yX2_set cX2_set 3 none, Cond.methodLink RX0 106 yX0_isMultiple, Cond.static yX0_isMultiple, Cond.code yX0_isMultiple cX0_isMultiple 2 (some .boolean), Cond.methodLink RX0 110 yX0_pullBell, Cond.instanceMethod yX0_pullBell, Cond.selects RX0 yX0_pullBell yX0_pullBell, Cond.code yX0_pullBell cX0_pullBell 4 (some .boolean), Cond.methodLink RX0 87 yX0_costFrom, Cond.static yX0_costFrom, Cond.code yX0_costFrom cX0_costFrom 1 (some .int), Cond.methodLink RX0 90 yX1_placeOf, Cond.instanceMethod yX1_placeOf, Cond.selects RX1 yX1_placeOf yX1_placeOf, Cond.code yX1_placeOf cX1_placeOf 3 (some .int), Cond.methodLink RX0 93 yX1_append, Cond.instanceMethod yX1_append, Cond.selects RX1 yX1_append yX1_append, Cond.code yX1_append cX1_append 2 none]
def wsX4_bestToCross_r5 : List Cond := [Cond.methodLink RX0 100 yX0_letServantsMove, Cond.instanceMethod yX0_letServantsMove, Cond.selects RX0 yX0_letServantsMove yX0_letServantsMove, Cond.code yX0_letServantsMove cX0_letServantsMove 4 none, Cond.methodLink RX0 117 yX3_isIdle, Cond.instanceMethod yX3_isIdle, Cond.selects RX3 yX3_isIdle yX3_isIdle, Cond.code yX3_isIdle cX3_isIdle 2 (some .boolean), Cond.methodLink RX3 46 yX2_get, Cond.methodLink RX0 126 yX3_rest, Cond.instanceMethod yX3_rest, Cond.selects RX3 yX3_rest yX3_rest, Cond.code yX3_rest cX3_rest 2 none, Cond.methodLink RX3 38 yX2_set, Cond.methodLink RX0 129 yX0_arrive, Cond.instanceMethod yX0_arrive, Cond.selects RX0 yX0_arrive yX0_arrive, Cond.code yX0_arrive cX0_arrive 3 none, Cond.methodLink RX0 103 yX0_sendIdleServants, Cond.instanceMethod yX0_sendIdleServants, Cond.selects RX0 yX0_sendIdleServants yX0_sendIdleServants, Cond.code yX0_sendIdleServants cX0_sendIdleServants 5 none, Cond.methodLink RX0 137 yX1_first, Cond.instanceMethod yX1_first]
def wsX4_bestToCross_r6 : List Cond := [Cond.selects RX1 yX1_first yX1_first, Cond.code yX1_first cX1_first 1 (some .int), Cond.methodLink RX0 141 yX3_nearestTo, Cond.instanceMethod yX3_nearestTo, Cond.selects RX3 yX3_nearestTo yX3_nearestTo, Cond.code yX3_nearestTo cX3_nearestTo 6 (some .int), Cond.methodLink RX3 50 yX3_minutesOfWay, Cond.static yX3_minutesOfWay, Cond.code yX3_minutesOfWay cX3_minutesOfWay 5 (some .int), Cond.methodLink RX0 144 yX1_remove, Cond.instanceMethod yX1_remove, Cond.selects RX1 yX1_remove yX1_remove, Cond.code yX1_remove cX1_remove 4 none, Cond.methodLink RX0 147 yX3_wayToFloor, Cond.instanceMethod yX3_wayToFloor, Cond.selects RX3 yX3_wayToFloor yX3_wayToFloor, Cond.code yX3_wayToFloor cX3_wayToFloor 3 (some .int), Cond.methodLink RX4 83 yX0_swapWires, Cond.instanceMethod yX0_swapWires, Cond.selects RX0 yX0_swapWires yX0_swapWires, Cond.code yX0_swapWires cX0_swapWires 4 none]
def wsX4_bestToCross : List Cond := .code yX4_bestToCross cX4_bestToCross 6 (some .int) :: ((wsX4_bestToCross_r1 ++ (wsX4_bestToCross_r2 ++ (wsX4_bestToCross_r3 ++ (wsX4_bestToCross_r4 ++ (wsX4_bestToCross_r5 ++ wsX4_bestToCross_r6))))) ++ wsX40 ++ wsX00 ++ wsX20 ++ wsX10 ++ wsX30 ++ (vx_atS RX4 277 "java/lang/IndexOutOfBoundsException" ["java/lang/RuntimeException", "java/lang/Exception"]).filter goodWord)
def wsX4_meanWait : List Cond := .code yX4_meanWait cX4_meanWait 4 (some .double) :: ([.fieldLink RX4 10 "HouseBells" "house" "LHouseBells$House;", .methodLink RX4 68 yX0_isWaiting, .instanceMethod yX0_isWaiting, .selects RX0 yX0_isWaiting yX0_isWaiting, .initialized RX0, .code yX0_isWaiting cX0_isWaiting 2 (some .boolean), .fieldLink RX0 34 "HouseBells$House" "waited" "LHouseBells$Row;", .methodLink RX0 83 yX2_get, .instanceMethod yX2_get, .selects RX2 yX2_get yX2_get, .initialized RX2, .code yX2_get cX2_get 2 (some .int), .fieldLink RX2 9 "HouseBells$Row" "cells" "[I", .methodLink RX4 89 yX2_get] ++ wsX40 ++ wsX00 ++ wsX20)
def wsX4_mix : List Cond := .code yX4_mix cX4_mix 3 (some .long) :: ([.constantLong RX4 286 (31)])
def wsX4_digest_r1 : List Cond := [Cond.constantLong RX4 192 (2377), Cond.fieldLink RX4 10 "HouseBells" "house" "LHouseBells$House;", Cond.methodLink RX4 194 yX4_minute, Cond.instanceMethod yX4_minute, Cond.selects RX4 yX4_minute yX4_minute, Cond.initialized RX4, Cond.code yX4_minute cX4_minute 1 (some .int), Cond.methodLink RX4 196 yX4_mix, Cond.static yX4_mix, Cond.code yX4_mix cX4_mix 3 (some .long), Cond.constantLong RX4 286 (31), Cond.methodLink RX4 200 yX4_rooms, Cond.instanceMethod yX4_rooms, Cond.selects RX4 yX4_rooms yX4_rooms, Cond.code yX4_rooms cX4_rooms 1 (some .int), Cond.methodLink RX4 203 yX4_servants, Cond.instanceMethod yX4_servants, Cond.selects RX4 yX4_servants yX4_servants, Cond.code yX4_servants cX4_servants 1 (some .int), Cond.methodLink RX4 206 yX4_charge, Cond.instanceMethod yX4_charge, Cond.selects RX4 yX4_charge yX4_charge, Cond.code yX4_charge cX4_charge 1 (some .int), Cond.methodLink RX4 208 yX4_served]
def wsX4_digest_r2 : List Cond := [Cond.instanceMethod yX4_served, Cond.selects RX4 yX4_served yX4_served, Cond.code yX4_served cX4_served 1 (some .int), Cond.methodLink RX4 210 yX4_inVain, Cond.instanceMethod yX4_inVain, Cond.selects RX4 yX4_inVain yX4_inVain, Cond.code yX4_inVain cX4_inVain 1 (some .int), Cond.methodLink RX4 212 yX4_gaveUp, Cond.instanceMethod yX4_gaveUp, Cond.selects RX4 yX4_gaveUp yX4_gaveUp, Cond.code yX4_gaveUp cX4_gaveUp 1 (some .int), Cond.methodLink RX4 214 yX4_unheard, Cond.instanceMethod yX4_unheard, Cond.selects RX4 yX4_unheard yX4_unheard, Cond.code yX4_unheard cX4_unheard 1 (some .int), Cond.methodLink RX4 216 yX4_longestWaiting, Cond.instanceMethod yX4_longestWaiting, Cond.selects RX4 yX4_longestWaiting yX4_longestWaiting, Cond.code yX4_longestWaiting cX4_longestWaiting 4 (some .int), Cond.methodLink RX4 89 yX2_get, Cond.instanceMethod yX2_get, Cond.selects RX2 yX2_get yX2_get, Cond.initialized RX2, Cond.code yX2_get cX2_get 2 (some .int)]
def wsX4_digest_r3 : List Cond := [Cond.fieldLink RX2 9 "HouseBells$Row" "cells" "[I", Cond.methodLink RX4 219 yX4_crossed, Cond.instanceMethod yX4_crossed, Cond.selects RX4 yX4_crossed yX4_crossed, Cond.code yX4_crossed cX4_crossed 3 (some .int), Cond.methodLink RX4 222 yX4_crossingsNeeded, Cond.instanceMethod yX4_crossingsNeeded, Cond.selects RX4 yX4_crossingsNeeded yX4_crossingsNeeded, Cond.code yX4_crossingsNeeded cX4_crossingsNeeded 3 (some .int), Cond.methodLink RX4 147 yX0_isFirstOfItsCircle, Cond.instanceMethod yX0_isFirstOfItsCircle, Cond.selects RX0 yX0_isFirstOfItsCircle yX0_isFirstOfItsCircle, Cond.initialized RX0, Cond.code yX0_isFirstOfItsCircle cX0_isFirstOfItsCircle 4 (some .boolean), Cond.fieldLink RX0 28 "HouseBells$House" "wire" "LHouseBells$Row;", Cond.fieldLink RX0 54 "HouseBells$House" "roomCount" "I", Cond.methodLink RX0 83 yX2_get, Cond.methodLink RX4 225 yX4_fallen, Cond.instanceMethod yX4_fallen, Cond.selects RX4 yX4_fallen yX4_fallen, Cond.code yX4_fallen cX4_fallen 1 (some .int), Cond.methodLink RX4 228 yX4_nextDrop, Cond.instanceMethod yX4_nextDrop, Cond.selects RX4 yX4_nextDrop yX4_nextDrop]
def wsX4_digest_r4 : List Cond := [Cond.code yX4_nextDrop cX4_nextDrop 1 (some .int), Cond.methodLink RX4 150 yX1_first, Cond.instanceMethod yX1_first, Cond.selects RX1 yX1_first yX1_first, Cond.initialized RX1, Cond.code yX1_first cX1_first 1 (some .int), Cond.fieldLink RX1 15 "HouseBells$Line" "count" "I", Cond.fieldLink RX1 9 "HouseBells$Line" "drops" "[I", Cond.methodLink RX4 231 yX4_servedIn, Cond.instanceMethod yX4_servedIn, Cond.selects RX4 yX4_servedIn yX4_servedIn, Cond.code yX4_servedIn cX4_servedIn 2 (some .int), Cond.fieldLink RX4 16 "HouseBells" "trial" "LHouseBells$House;", Cond.methodLink RX4 126 yX4_requireMinutes, Cond.static yX4_requireMinutes, Cond.code yX4_requireMinutes cX4_requireMinutes 1 none, Cond.classLink RX4 23 "java/lang/IllegalArgumentException", Cond.initialized "java/lang/IllegalArgumentException", Cond.methodLink RX4 19 yX4_isWithin, Cond.static yX4_isWithin, Cond.code yX4_isWithin cX4_isWithin 3 (some .boolean), Cond.methodLink RX4 182 yX0_copyFrom, Cond.instanceMethod yX0_copyFrom, Cond.selects RX0 yX0_copyFrom yX0_copyFrom]
def wsX4_digest_r5 : List Cond := [Cond.code yX0_copyFrom cX0_copyFrom 2 none, Cond.fieldLink RX0 51 "HouseBells$House" "minute" "I", Cond.fieldLink RX0 9 "HouseBells$House" "charge" "I", Cond.fieldLink RX0 57 "HouseBells$House" "served" "I", Cond.fieldLink RX0 60 "HouseBells$House" "inVain" "I", Cond.fieldLink RX0 63 "HouseBells$House" "gaveUp" "I", Cond.fieldLink RX0 66 "HouseBells$House" "unheard" "I", Cond.fieldLink RX0 18 "HouseBells$House" "floor" "LHouseBells$Row;", Cond.fieldLink RX0 22 "HouseBells$House" "patience" "LHouseBells$Row;", Cond.fieldLink RX0 25 "HouseBells$House" "need" "LHouseBells$Row;", Cond.fieldLink RX0 31 "HouseBells$House" "cut" "LHouseBells$Row;", Cond.fieldLink RX0 34 "HouseBells$House" "waited" "LHouseBells$Row;", Cond.fieldLink RX0 40 "HouseBells$House" "line" "LHouseBells$Line;", Cond.fieldLink RX0 47 "HouseBells$House" "staff" "LHouseBells$Staff;", Cond.methodLink RX0 69 yX2_copyFrom, Cond.instanceMethod yX2_copyFrom, Cond.selects RX2 yX2_copyFrom yX2_copyFrom, Cond.code yX2_copyFrom cX2_copyFrom 3 none, Cond.methodLink RX0 73 yX1_copyFrom, Cond.instanceMethod yX1_copyFrom, Cond.selects RX1 yX1_copyFrom yX1_copyFrom, Cond.code yX1_copyFrom cX1_copyFrom 3 none, Cond.methodLink RX0 76 yX3_copyFrom, Cond.instanceMethod yX3_copyFrom]
def wsX4_digest_r6 : List Cond := [Cond.selects RX3 yX3_copyFrom yX3_copyFrom, Cond.initialized RX3, Cond.code yX3_copyFrom cX3_copyFrom 2 none, Cond.fieldLink RX3 30 "HouseBells$Staff" "count" "I", Cond.fieldLink RX3 12 "HouseBells$Staff" "pace" "LHouseBells$Row;", Cond.fieldLink RX3 18 "HouseBells$Staff" "floor" "LHouseBells$Row;", Cond.fieldLink RX3 21 "HouseBells$Staff" "goal" "LHouseBells$Row;", Cond.fieldLink RX3 24 "HouseBells$Staff" "guest" "LHouseBells$Row;", Cond.fieldLink RX3 27 "HouseBells$Staff" "left" "LHouseBells$Row;", Cond.methodLink RX3 34 yX2_copyFrom, Cond.methodLink RX4 189 yX4_serveInTrial, Cond.instanceMethod yX4_serveInTrial, Cond.selects RX4 yX4_serveInTrial yX4_serveInTrial, Cond.code yX4_serveInTrial cX4_serveInTrial 4 (some .int), Cond.methodLink RX4 282 yX0_isAnyoneWaiting, Cond.instanceMethod yX0_isAnyoneWaiting, Cond.selects RX0 yX0_isAnyoneWaiting yX0_isAnyoneWaiting, Cond.code yX0_isAnyoneWaiting cX0_isAnyoneWaiting 2 (some .boolean), Cond.methodLink RX4 129 yX0_letMinuteGoBy, Cond.instanceMethod yX0_letMinuteGoBy, Cond.selects RX0 yX0_letMinuteGoBy yX0_letMinuteGoBy, Cond.code yX0_letMinuteGoBy cX0_letMinuteGoBy 2 (some .int), Cond.methodLink RX0 97 yX0_letRoomsWait, Cond.instanceMethod yX0_letRoomsWait]
def wsX4_digest_r7 : List Cond := [Cond.selects RX0 yX0_letRoomsWait yX0_letRoomsWait, Cond.code yX0_letRoomsWait cX0_letRoomsWait 3 none, Cond.methodLink RX0 79 yX2_set, Cond.instanceMethod yX2_set, Cond.selects RX2 yX2_set yX2_set, Cond.code yX2_set cX2_set 3 none, Cond.methodLink RX0 106 yX0_isMultiple, Cond.static yX0_isMultiple, Cond.code yX0_isMultiple cX0_isMultiple 2 (some .boolean), Cond.methodLink RX0 110 yX0_pullBell, Cond.instanceMethod yX0_pullBell, Cond.selects RX0 yX0_pullBell yX0_pullBell, Cond.code yX0_pullBell cX0_pullBell 4 (some .boolean), Cond.methodLink RX0 87 yX0_costFrom, Cond.static yX0_costFrom, Cond.code yX0_costFrom cX0_costFrom 1 (some .int), Cond.methodLink RX0 90 yX1_placeOf, Cond.instanceMethod yX1_placeOf, Cond.selects RX1 yX1_placeOf yX1_placeOf, Cond.code yX1_placeOf cX1_placeOf 3 (some .int), Cond.methodLink RX0 93 yX1_append, Cond.instanceMethod yX1_append, Cond.selects RX1 yX1_append yX1_append, Cond.code yX1_append cX1_append 2 none]
def wsX4_digest_r8 : List Cond := [Cond.methodLink RX0 100 yX0_letServantsMove, Cond.instanceMethod yX0_letServantsMove, Cond.selects RX0 yX0_letServantsMove yX0_letServantsMove, Cond.code yX0_letServantsMove cX0_letServantsMove 4 none, Cond.methodLink RX0 117 yX3_isIdle, Cond.instanceMethod yX3_isIdle, Cond.selects RX3 yX3_isIdle yX3_isIdle, Cond.code yX3_isIdle cX3_isIdle 2 (some .boolean), Cond.methodLink RX3 46 yX2_get, Cond.methodLink RX0 126 yX3_rest, Cond.instanceMethod yX3_rest, Cond.selects RX3 yX3_rest yX3_rest, Cond.code yX3_rest cX3_rest 2 none, Cond.methodLink RX3 38 yX2_set, Cond.methodLink RX0 129 yX0_arrive, Cond.instanceMethod yX0_arrive, Cond.selects RX0 yX0_arrive yX0_arrive, Cond.code yX0_arrive cX0_arrive 3 none, Cond.methodLink RX0 103 yX0_sendIdleServants, Cond.instanceMethod yX0_sendIdleServants, Cond.selects RX0 yX0_sendIdleServants yX0_sendIdleServants, Cond.code yX0_sendIdleServants cX0_sendIdleServants 5 none, Cond.methodLink RX0 137 yX1_first, Cond.methodLink RX0 141 yX3_nearestTo]
def wsX4_digest_r9 : List Cond := [Cond.instanceMethod yX3_nearestTo, Cond.selects RX3 yX3_nearestTo yX3_nearestTo, Cond.code yX3_nearestTo cX3_nearestTo 6 (some .int), Cond.methodLink RX3 50 yX3_minutesOfWay, Cond.static yX3_minutesOfWay, Cond.code yX3_minutesOfWay cX3_minutesOfWay 5 (some .int), Cond.methodLink RX0 144 yX1_remove, Cond.instanceMethod yX1_remove, Cond.selects RX1 yX1_remove yX1_remove, Cond.code yX1_remove cX1_remove 4 none, Cond.methodLink RX0 147 yX3_wayToFloor, Cond.instanceMethod yX3_wayToFloor, Cond.selects RX3 yX3_wayToFloor yX3_wayToFloor, Cond.code yX3_wayToFloor cX3_wayToFloor 3 (some .int), Cond.methodLink RX4 234 yX4_dropOf, Cond.instanceMethod yX4_dropOf, Cond.selects RX4 yX4_dropOf yX4_dropOf, Cond.code yX4_dropOf cX4_dropOf 2 (some .int), Cond.methodLink RX4 60 yX4_requireRoom, Cond.instanceMethod yX4_requireRoom, Cond.selects RX4 yX4_requireRoom yX4_requireRoom, Cond.code yX4_requireRoom cX4_requireRoom 2 none, Cond.classLink RX4 273 "java/lang/IndexOutOfBoundsException", Cond.initialized "java/lang/IndexOutOfBoundsException"]
def wsX4_digest_r10 : List Cond := [Cond.methodLink RX4 237 yX4_roomOf, Cond.instanceMethod yX4_roomOf, Cond.selects RX4 yX4_roomOf yX4_roomOf, Cond.code yX4_roomOf cX4_roomOf 3 (some .int), Cond.methodLink RX4 240 yX4_isCut, Cond.instanceMethod yX4_isCut, Cond.selects RX4 yX4_isCut yX4_isCut, Cond.code yX4_isCut cX4_isCut 2 (some .boolean), Cond.methodLink RX4 92 yX0_isWireCut, Cond.instanceMethod yX0_isWireCut, Cond.selects RX0 yX0_isWireCut yX0_isWireCut, Cond.code yX0_isWireCut cX0_isWireCut 2 (some .boolean), Cond.methodLink RX4 243 yX4_waitedFor, Cond.instanceMethod yX4_waitedFor, Cond.selects RX4 yX4_waitedFor yX4_waitedFor, Cond.code yX4_waitedFor cX4_waitedFor 2 (some .int), Cond.methodLink RX4 246 yX4_placeInLine, Cond.instanceMethod yX4_placeInLine, Cond.selects RX4 yX4_placeInLine yX4_placeInLine, Cond.code yX4_placeInLine cX4_placeInLine 2 (some .int), Cond.methodLink RX4 115 yX1_placeOf, Cond.methodLink RX4 249 yX4_ringsLeft, Cond.instanceMethod yX4_ringsLeft, Cond.selects RX4 yX4_ringsLeft yX4_ringsLeft]
def wsX4_digest_r11 : List Cond := [Cond.code yX4_ringsLeft cX4_ringsLeft 2 (some .int), Cond.methodLink RX4 156 yX0_costFrom, Cond.methodLink RX4 159 yX4_quotient, Cond.static yX4_quotient, Cond.code yX4_quotient cX4_quotient 2 (some .int), Cond.methodLink RX4 252 yX4_nearestIdle, Cond.instanceMethod yX4_nearestIdle, Cond.selects RX4 yX4_nearestIdle yX4_nearestIdle, Cond.code yX4_nearestIdle cX4_nearestIdle 2 (some .int), Cond.methodLink RX4 179 yX3_nearestTo, Cond.methodLink RX4 255 yX4_minutesUntilServed, Cond.instanceMethod yX4_minutesUntilServed, Cond.selects RX4 yX4_minutesUntilServed yX4_minutesUntilServed, Cond.code yX4_minutesUntilServed cX4_minutesUntilServed 3 (some .int), Cond.methodLink RX4 186 yX3_isServing, Cond.instanceMethod yX3_isServing, Cond.selects RX3 yX3_isServing yX3_isServing, Cond.code yX3_isServing cX3_isServing 3 (some .boolean), Cond.methodLink RX4 68 yX0_isWaiting, Cond.instanceMethod yX0_isWaiting, Cond.selects RX0 yX0_isWaiting yX0_isWaiting, Cond.code yX0_isWaiting cX0_isWaiting 2 (some .boolean), Cond.methodLink RX4 258 yX4_bestToCross, Cond.instanceMethod yX4_bestToCross]
def wsX4_digest_r12 : List Cond := [Cond.selects RX4 yX4_bestToCross yX4_bestToCross, Cond.code yX4_bestToCross cX4_bestToCross 6 (some .int), Cond.methodLink RX4 83 yX0_swapWires, Cond.instanceMethod yX0_swapWires, Cond.selects RX0 yX0_swapWires yX0_swapWires, Cond.code yX0_swapWires cX0_swapWires 4 none, Cond.methodLink RX4 261 yX4_floorOf, Cond.instanceMethod yX4_floorOf, Cond.selects RX4 yX4_floorOf yX4_floorOf, Cond.code yX4_floorOf cX4_floorOf 2 (some .int), Cond.methodLink RX4 163 yX4_requireServant, Cond.instanceMethod yX4_requireServant, Cond.selects RX4 yX4_requireServant yX4_requireServant, Cond.code yX4_requireServant cX4_requireServant 2 none, Cond.methodLink RX4 264 yX4_goesTo, Cond.instanceMethod yX4_goesTo, Cond.selects RX4 yX4_goesTo yX4_goesTo, Cond.code yX4_goesTo cX4_goesTo 2 (some .int), Cond.methodLink RX4 267 yX4_serves, Cond.instanceMethod yX4_serves, Cond.selects RX4 yX4_serves yX4_serves, Cond.code yX4_serves cX4_serves 2 (some .int), Cond.methodLink RX4 270 yX4_minutesLeft, Cond.instanceMethod yX4_minutesLeft]
def wsX4_digest_r13 : List Cond := [Cond.selects RX4 yX4_minutesLeft yX4_minutesLeft, Cond.code yX4_minutesLeft cX4_minutesLeft 2 (some .int)]
def wsX4_digest : List Cond := .code yX4_digest cX4_digest 4 (some .long) :: ((wsX4_digest_r1 ++ (wsX4_digest_r2 ++ (wsX4_digest_r3 ++ (wsX4_digest_r4 ++ (wsX4_digest_r5 ++ (wsX4_digest_r6 ++ (wsX4_digest_r7 ++ (wsX4_digest_r8 ++ (wsX4_digest_r9 ++ (wsX4_digest_r10 ++ (wsX4_digest_r11 ++ (wsX4_digest_r12 ++ wsX4_digest_r13)))))))))))) ++ wsX40 ++ wsX00 ++ wsX30 ++ wsX20 ++ wsX10 ++ (vx_atS RX4 27 "java/lang/IllegalArgumentException" ["java/lang/RuntimeException", "java/lang/Exception"]).filter goodWord ++ (vx_atS RX4 277 "java/lang/IndexOutOfBoundsException" ["java/lang/RuntimeException", "java/lang/Exception"]).filter goodWord)
def wsX5_init : List Cond := .code yX5_init cX5_init 1 none :: ([.methodLink RX5 3 objectInit, .instanceMethod objectInit, .code objectInit ⟨#[0xb1]⟩ 1 none, .arrayClass .int, .fieldLink RX5 9 "HouseBellsModel" "floor" "[I", .fieldLink RX5 13 "HouseBellsModel" "patience" "[I", .fieldLink RX5 16 "HouseBellsModel" "need" "[I", .fieldLink RX5 19 "HouseBellsModel" "drop" "[I", .arrayClass .boolean, .fieldLink RX5 22 "HouseBellsModel" "isCut" "[Z", .fieldLink RX5 26 "HouseBellsModel" "pace" "[I", .fieldLink RX5 29 "HouseBellsModel" "now" "[I", .fieldLink RX5 32 "HouseBellsModel" "kept" "[I"] ++ wsX50)
def wsX5_thrown : List Cond := .code yX5_thrown cX5_thrown 1 (some .int) :: ([.fieldLink RX5 35 "HouseBellsModel" "thrown" "I"] ++ wsX50)
def wsX5_no : List Cond := .code yX5_no cX5_no 2 (some .int) :: ([.fieldLink RX5 35 "HouseBellsModel" "thrown" "I"] ++ wsX50)
def wsX5_ok : List Cond := .code yX5_ok cX5_ok 2 (some .int) :: ([.fieldLink RX5 35 "HouseBellsModel" "thrown" "I"] ++ wsX50)
def wsX5_isIn : List Cond := .code yX5_isIn cX5_isIn 3 (some .boolean) :: ([])
def wsX5_isRoom : List Cond := .code yX5_isRoom cX5_isRoom 2 (some .boolean) :: ([.fieldLink RX5 39 "HouseBellsModel" "rooms" "I", .methodLink RX5 42 yX5_isIn, .static yX5_isIn, .initialized RX5, .code yX5_isIn cX5_isIn 3 (some .boolean)] ++ wsX50)
def wsX5_isServant : List Cond := .code yX5_isServant cX5_isServant 2 (some .boolean) :: ([.fieldLink RX5 46 "HouseBellsModel" "servants" "I", .methodLink RX5 42 yX5_isIn, .static yX5_isIn, .initialized RX5, .code yX5_isIn cX5_isIn 3 (some .boolean)] ++ wsX50)
def wsX5_isKnown : List Cond := .code yX5_isKnown cX5_isKnown 2 (some .boolean) :: ([.fieldLink RX5 35 "HouseBellsModel" "thrown" "I"] ++ wsX50)
def wsX5_keep : List Cond := .code yX5_keep cX5_keep 1 none :: ([.fieldLink RX5 29 "HouseBellsModel" "now" "[I", .fieldLink RX5 32 "HouseBellsModel" "kept" "[I", .methodLink RX5 49 arraycopyName, .native arraycopyName, .static arraycopyName, .initialized "java/lang/System"] ++ wsX50)
def wsX5_bringBack : List Cond := .code yX5_bringBack cX5_bringBack 1 none :: ([.fieldLink RX5 32 "HouseBellsModel" "kept" "[I", .fieldLink RX5 29 "HouseBellsModel" "now" "[I", .methodLink RX5 49 arraycopyName, .native arraycopyName, .static arraycopyName, .initialized "java/lang/System"] ++ wsX50)
def wsX5_inLine : List Cond := .code yX5_inLine cX5_inLine 3 (some .int) :: ([.fieldLink RX5 29 "HouseBellsModel" "now" "[I"] ++ wsX50)
def wsX5_takeOut : List Cond := .code yX5_takeOut cX5_takeOut 3 none :: ([.fieldLink RX5 29 "HouseBellsModel" "now" "[I"] ++ wsX50)
def wsX5_rings : List Cond := .code yX5_rings cX5_rings 3 (some .boolean) :: ([.fieldLink RX5 22 "HouseBellsModel" "isCut" "[Z", .fieldLink RX5 29 "HouseBellsModel" "now" "[I", .fieldLink RX5 9 "HouseBellsModel" "floor" "[I", .fieldLink RX5 19 "HouseBellsModel" "drop" "[I", .methodLink RX5 55 yX5_inLine, .instanceMethod yX5_inLine, .selects RX5 yX5_inLine yX5_inLine, .initialized RX5, .code yX5_inLine cX5_inLine 3 (some .int)] ++ wsX50)
def wsX5_way : List Cond := .code yX5_way cX5_way 3 (some .int) :: ([.fieldLink RX5 29 "HouseBellsModel" "now" "[I", .fieldLink RX5 9 "HouseBellsModel" "floor" "[I", .methodLink RX5 59 Lib.Math.abs.name, .static Lib.Math.abs.name, .initialized "java/lang/Math", .code Lib.Math.abs.name Lib.Math.abs.code 1 (some .int), .fieldLink RX5 26 "HouseBellsModel" "pace" "[I", .methodLink RX5 64 Lib.Math.max.name, .static Lib.Math.max.name, .code Lib.Math.max.name Lib.Math.max.code 2 (some .int)] ++ wsX50)
def wsX5_nearest : List Cond := .code yX5_nearest cX5_nearest 4 (some .int) :: ([.fieldLink RX5 46 "HouseBellsModel" "servants" "I", .fieldLink RX5 29 "HouseBellsModel" "now" "[I", .methodLink RX5 68 yX5_way, .instanceMethod yX5_way, .selects RX5 yX5_way yX5_way, .initialized RX5, .code yX5_way cX5_way 3 (some .int), .fieldLink RX5 9 "HouseBellsModel" "floor" "[I", .methodLink RX5 59 Lib.Math.abs.name, .static Lib.Math.abs.name, .initialized "java/lang/Math", .code Lib.Math.abs.name Lib.Math.abs.code 1 (some .int), .fieldLink RX5 26 "HouseBellsModel" "pace" "[I", .methodLink RX5 64 Lib.Math.max.name, .static Lib.Math.max.name, .code Lib.Math.max.name Lib.Math.max.code 2 (some .int)] ++ wsX50)
def wsX5_give : List Cond := .code yX5_give cX5_give 5 none :: ([.fieldLink RX5 29 "HouseBellsModel" "now" "[I"] ++ wsX50)
def wsX5_comeTo : List Cond := .code yX5_comeTo cX5_comeTo 3 none :: ([.fieldLink RX5 29 "HouseBellsModel" "now" "[I", .fieldLink RX5 9 "HouseBellsModel" "floor" "[I", .fieldLink RX5 16 "HouseBellsModel" "need" "[I", .methodLink RX5 71 yX5_give, .instanceMethod yX5_give, .selects RX5 yX5_give yX5_give, .initialized RX5, .code yX5_give cX5_give 5 none] ++ wsX50)
def wsX5_hold : List Cond := .code yX5_hold cX5_hold 2 none :: ([.fieldLink RX5 29 "HouseBellsModel" "now" "[I", .fieldLink RX5 13 "HouseBellsModel" "patience" "[I", .methodLink RX5 75 yX5_rings, .instanceMethod yX5_rings, .selects RX5 yX5_rings yX5_rings, .initialized RX5, .code yX5_rings cX5_rings 3 (some .boolean), .fieldLink RX5 22 "HouseBellsModel" "isCut" "[Z", .fieldLink RX5 9 "HouseBellsModel" "floor" "[I", .fieldLink RX5 19 "HouseBellsModel" "drop" "[I", .methodLink RX5 55 yX5_inLine, .instanceMethod yX5_inLine, .selects RX5 yX5_inLine yX5_inLine, .code yX5_inLine cX5_inLine 3 (some .int)] ++ wsX50)
def wsX5_work : List Cond := .code yX5_work cX5_work 2 none :: ([.fieldLink RX5 29 "HouseBellsModel" "now" "[I", .methodLink RX5 79 yX5_comeTo, .instanceMethod yX5_comeTo, .selects RX5 yX5_comeTo yX5_comeTo, .initialized RX5, .code yX5_comeTo cX5_comeTo 3 none, .fieldLink RX5 9 "HouseBellsModel" "floor" "[I", .fieldLink RX5 16 "HouseBellsModel" "need" "[I", .methodLink RX5 71 yX5_give, .instanceMethod yX5_give, .selects RX5 yX5_give yX5_give, .code yX5_give cX5_give 5 none] ++ wsX50)
def wsX5_sends_r1 : List Cond := [Cond.fieldLink RX5 29 "HouseBellsModel" "now" "[I", Cond.methodLink RX5 83 yX5_nearest, Cond.instanceMethod yX5_nearest, Cond.selects RX5 yX5_nearest yX5_nearest, Cond.initialized RX5, Cond.code yX5_nearest cX5_nearest 4 (some .int), Cond.fieldLink RX5 46 "HouseBellsModel" "servants" "I", Cond.methodLink RX5 68 yX5_way, Cond.instanceMethod yX5_way, Cond.selects RX5 yX5_way yX5_way, Cond.code yX5_way cX5_way 3 (some .int), Cond.fieldLink RX5 9 "HouseBellsModel" "floor" "[I", Cond.methodLink RX5 59 Lib.Math.abs.name, Cond.static Lib.Math.abs.name, Cond.initialized "java/lang/Math", Cond.code Lib.Math.abs.name Lib.Math.abs.code 1 (some .int), Cond.fieldLink RX5 26 "HouseBellsModel" "pace" "[I", Cond.methodLink RX5 64 Lib.Math.max.name, Cond.static Lib.Math.max.name, Cond.code Lib.Math.max.name Lib.Math.max.code 2 (some .int), Cond.methodLink RX5 86 yX5_takeOut, Cond.instanceMethod yX5_takeOut, Cond.selects RX5 yX5_takeOut yX5_takeOut, Cond.code yX5_takeOut cX5_takeOut 3 none]
def wsX5_sends_r2 : List Cond := [Cond.methodLink RX5 71 yX5_give, Cond.instanceMethod yX5_give, Cond.selects RX5 yX5_give yX5_give, Cond.code yX5_give cX5_give 5 none]
def wsX5_sends : List Cond := .code yX5_sends cX5_sends 3 (some .boolean) :: ((wsX5_sends_r1 ++ wsX5_sends_r2) ++ wsX50)
def wsX5_minuteOn_r1 : List Cond := [Cond.fieldLink RX5 39 "HouseBellsModel" "rooms" "I", Cond.fieldLink RX5 29 "HouseBellsModel" "now" "[I", Cond.fieldLink RX5 46 "HouseBellsModel" "servants" "I", Cond.methodLink RX5 90 yX5_hold, Cond.instanceMethod yX5_hold, Cond.selects RX5 yX5_hold yX5_hold, Cond.initialized RX5, Cond.code yX5_hold cX5_hold 2 none, Cond.fieldLink RX5 13 "HouseBellsModel" "patience" "[I", Cond.methodLink RX5 75 yX5_rings, Cond.instanceMethod yX5_rings, Cond.selects RX5 yX5_rings yX5_rings, Cond.code yX5_rings cX5_rings 3 (some .boolean), Cond.fieldLink RX5 22 "HouseBellsModel" "isCut" "[Z", Cond.fieldLink RX5 9 "HouseBellsModel" "floor" "[I", Cond.fieldLink RX5 19 "HouseBellsModel" "drop" "[I", Cond.methodLink RX5 55 yX5_inLine, Cond.instanceMethod yX5_inLine, Cond.selects RX5 yX5_inLine yX5_inLine, Cond.code yX5_inLine cX5_inLine 3 (some .int), Cond.methodLink RX5 93 yX5_work, Cond.instanceMethod yX5_work, Cond.selects RX5 yX5_work yX5_work, Cond.code yX5_work cX5_work 2 none]
def wsX5_minuteOn_r2 : List Cond := [Cond.methodLink RX5 79 yX5_comeTo, Cond.instanceMethod yX5_comeTo, Cond.selects RX5 yX5_comeTo yX5_comeTo, Cond.code yX5_comeTo cX5_comeTo 3 none, Cond.fieldLink RX5 16 "HouseBellsModel" "need" "[I", Cond.methodLink RX5 71 yX5_give, Cond.instanceMethod yX5_give, Cond.selects RX5 yX5_give yX5_give, Cond.code yX5_give cX5_give 5 none, Cond.methodLink RX5 96 yX5_sends, Cond.instanceMethod yX5_sends, Cond.selects RX5 yX5_sends yX5_sends, Cond.code yX5_sends cX5_sends 3 (some .boolean), Cond.methodLink RX5 83 yX5_nearest, Cond.instanceMethod yX5_nearest, Cond.selects RX5 yX5_nearest yX5_nearest, Cond.code yX5_nearest cX5_nearest 4 (some .int), Cond.methodLink RX5 68 yX5_way, Cond.instanceMethod yX5_way, Cond.selects RX5 yX5_way yX5_way, Cond.code yX5_way cX5_way 3 (some .int), Cond.methodLink RX5 59 Lib.Math.abs.name, Cond.static Lib.Math.abs.name, Cond.initialized "java/lang/Math"]
def wsX5_minuteOn_r3 : List Cond := [Cond.code Lib.Math.abs.name Lib.Math.abs.code 1 (some .int), Cond.fieldLink RX5 26 "HouseBellsModel" "pace" "[I", Cond.methodLink RX5 64 Lib.Math.max.name, Cond.static Lib.Math.max.name, Cond.code Lib.Math.max.name Lib.Math.max.code 2 (some .int), Cond.methodLink RX5 86 yX5_takeOut, Cond.instanceMethod yX5_takeOut, Cond.selects RX5 yX5_takeOut yX5_takeOut, Cond.code yX5_takeOut cX5_takeOut 3 none]
def wsX5_minuteOn : List Cond := .code yX5_minuteOn cX5_minuteOn 2 none :: ((wsX5_minuteOn_r1 ++ (wsX5_minuteOn_r2 ++ wsX5_minuteOn_r3)) ++ wsX50)
def wsX5_minutesOn_r1 : List Cond := [Cond.methodLink RX5 100 yX5_minuteOn, Cond.instanceMethod yX5_minuteOn, Cond.selects RX5 yX5_minuteOn yX5_minuteOn, Cond.initialized RX5, Cond.code yX5_minuteOn cX5_minuteOn 2 none, Cond.fieldLink RX5 39 "HouseBellsModel" "rooms" "I", Cond.fieldLink RX5 29 "HouseBellsModel" "now" "[I", Cond.fieldLink RX5 46 "HouseBellsModel" "servants" "I", Cond.methodLink RX5 90 yX5_hold, Cond.instanceMethod yX5_hold, Cond.selects RX5 yX5_hold yX5_hold, Cond.code yX5_hold cX5_hold 2 none, Cond.fieldLink RX5 13 "HouseBellsModel" "patience" "[I", Cond.methodLink RX5 75 yX5_rings, Cond.instanceMethod yX5_rings, Cond.selects RX5 yX5_rings yX5_rings, Cond.code yX5_rings cX5_rings 3 (some .boolean), Cond.fieldLink RX5 22 "HouseBellsModel" "isCut" "[Z", Cond.fieldLink RX5 9 "HouseBellsModel" "floor" "[I", Cond.fieldLink RX5 19 "HouseBellsModel" "drop" "[I", Cond.methodLink RX5 55 yX5_inLine, Cond.instanceMethod yX5_inLine, Cond.selects RX5 yX5_inLine yX5_inLine, Cond.code yX5_inLine cX5_inLine 3 (some .int)]
def wsX5_minutesOn_r2 : List Cond := [Cond.methodLink RX5 93 yX5_work, Cond.instanceMethod yX5_work, Cond.selects RX5 yX5_work yX5_work, Cond.code yX5_work cX5_work 2 none, Cond.methodLink RX5 79 yX5_comeTo, Cond.instanceMethod yX5_comeTo, Cond.selects RX5 yX5_comeTo yX5_comeTo, Cond.code yX5_comeTo cX5_comeTo 3 none, Cond.fieldLink RX5 16 "HouseBellsModel" "need" "[I", Cond.methodLink RX5 71 yX5_give, Cond.instanceMethod yX5_give, Cond.selects RX5 yX5_give yX5_give, Cond.code yX5_give cX5_give 5 none, Cond.methodLink RX5 96 yX5_sends, Cond.instanceMethod yX5_sends, Cond.selects RX5 yX5_sends yX5_sends, Cond.code yX5_sends cX5_sends 3 (some .boolean), Cond.methodLink RX5 83 yX5_nearest, Cond.instanceMethod yX5_nearest, Cond.selects RX5 yX5_nearest yX5_nearest, Cond.code yX5_nearest cX5_nearest 4 (some .int), Cond.methodLink RX5 68 yX5_way, Cond.instanceMethod yX5_way, Cond.selects RX5 yX5_way yX5_way]
def wsX5_minutesOn_r3 : List Cond := [Cond.code yX5_way cX5_way 3 (some .int), Cond.methodLink RX5 59 Lib.Math.abs.name, Cond.static Lib.Math.abs.name, Cond.initialized "java/lang/Math", Cond.code Lib.Math.abs.name Lib.Math.abs.code 1 (some .int), Cond.fieldLink RX5 26 "HouseBellsModel" "pace" "[I", Cond.methodLink RX5 64 Lib.Math.max.name, Cond.static Lib.Math.max.name, Cond.code Lib.Math.max.name Lib.Math.max.code 2 (some .int), Cond.methodLink RX5 86 yX5_takeOut, Cond.instanceMethod yX5_takeOut, Cond.selects RX5 yX5_takeOut yX5_takeOut, Cond.code yX5_takeOut cX5_takeOut 3 none]
def wsX5_minutesOn : List Cond := .code yX5_minutesOn cX5_minutesOn 3 none :: ((wsX5_minutesOn_r1 ++ (wsX5_minutesOn_r2 ++ wsX5_minutesOn_r3)) ++ wsX50)
def wsX5_addRoom : List Cond := .code yX5_addRoom cX5_addRoom 4 (some .int) :: ([.fieldLink RX5 35 "HouseBellsModel" "thrown" "I", .fieldLink RX5 39 "HouseBellsModel" "rooms" "I", .fieldLink RX5 9 "HouseBellsModel" "floor" "[I", .fieldLink RX5 13 "HouseBellsModel" "patience" "[I", .fieldLink RX5 16 "HouseBellsModel" "need" "[I", .fieldLink RX5 19 "HouseBellsModel" "drop" "[I", .fieldLink RX5 29 "HouseBellsModel" "now" "[I", .methodLink RX5 42 yX5_isIn, .static yX5_isIn, .initialized RX5, .code yX5_isIn cX5_isIn 3 (some .boolean), .methodLink RX5 103 yX5_no, .instanceMethod yX5_no, .selects RX5 yX5_no yX5_no, .code yX5_no cX5_no 2 (some .int)] ++ wsX50)
def wsX5_addServant : List Cond := .code yX5_addServant cX5_addServant 2 (some .int) :: ([.fieldLink RX5 35 "HouseBellsModel" "thrown" "I", .fieldLink RX5 46 "HouseBellsModel" "servants" "I", .fieldLink RX5 26 "HouseBellsModel" "pace" "[I", .methodLink RX5 42 yX5_isIn, .static yX5_isIn, .initialized RX5, .code yX5_isIn cX5_isIn 3 (some .boolean), .methodLink RX5 103 yX5_no, .instanceMethod yX5_no, .selects RX5 yX5_no yX5_no, .code yX5_no cX5_no 2 (some .int)] ++ wsX50)
def wsX5_ring_r1 : List Cond := [Cond.fieldLink RX5 29 "HouseBellsModel" "now" "[I", Cond.methodLink RX5 106 yX5_isRoom, Cond.instanceMethod yX5_isRoom, Cond.selects RX5 yX5_isRoom yX5_isRoom, Cond.initialized RX5, Cond.code yX5_isRoom cX5_isRoom 2 (some .boolean), Cond.fieldLink RX5 39 "HouseBellsModel" "rooms" "I", Cond.methodLink RX5 42 yX5_isIn, Cond.static yX5_isIn, Cond.code yX5_isIn cX5_isIn 3 (some .boolean), Cond.methodLink RX5 109 yX5_isKnown, Cond.instanceMethod yX5_isKnown, Cond.selects RX5 yX5_isKnown yX5_isKnown, Cond.code yX5_isKnown cX5_isKnown 2 (some .boolean), Cond.fieldLink RX5 35 "HouseBellsModel" "thrown" "I", Cond.methodLink RX5 75 yX5_rings, Cond.instanceMethod yX5_rings, Cond.selects RX5 yX5_rings yX5_rings, Cond.code yX5_rings cX5_rings 3 (some .boolean), Cond.fieldLink RX5 22 "HouseBellsModel" "isCut" "[Z", Cond.fieldLink RX5 9 "HouseBellsModel" "floor" "[I", Cond.fieldLink RX5 19 "HouseBellsModel" "drop" "[I", Cond.methodLink RX5 55 yX5_inLine, Cond.instanceMethod yX5_inLine]
def wsX5_ring_r2 : List Cond := [Cond.selects RX5 yX5_inLine yX5_inLine, Cond.code yX5_inLine cX5_inLine 3 (some .int)]
def wsX5_ring : List Cond := .code yX5_ring cX5_ring 2 (some .boolean) :: ((wsX5_ring_r1 ++ wsX5_ring_r2) ++ wsX50)
def wsX5_swap : List Cond := .code yX5_swap cX5_swap 4 none :: ([.fieldLink RX5 19 "HouseBellsModel" "drop" "[I"] ++ wsX50)
def wsX5_cross : List Cond := .code yX5_cross cX5_cross 3 (some .int) :: ([.fieldLink RX5 19 "HouseBellsModel" "drop" "[I", .methodLink RX5 106 yX5_isRoom, .instanceMethod yX5_isRoom, .selects RX5 yX5_isRoom yX5_isRoom, .initialized RX5, .code yX5_isRoom cX5_isRoom 2 (some .boolean), .fieldLink RX5 39 "HouseBellsModel" "rooms" "I", .methodLink RX5 42 yX5_isIn, .static yX5_isIn, .code yX5_isIn cX5_isIn 3 (some .boolean), .methodLink RX5 109 yX5_isKnown, .instanceMethod yX5_isKnown, .selects RX5 yX5_isKnown yX5_isKnown, .code yX5_isKnown cX5_isKnown 2 (some .boolean), .fieldLink RX5 35 "HouseBellsModel" "thrown" "I", .methodLink RX5 103 yX5_no, .instanceMethod yX5_no, .selects RX5 yX5_no yX5_no, .code yX5_no cX5_no 2 (some .int), .methodLink RX5 113 yX5_swap, .instanceMethod yX5_swap, .selects RX5 yX5_swap yX5_swap, .code yX5_swap cX5_swap 4 none] ++ wsX50)
def wsX5_manyCut : List Cond := .code yX5_manyCut cX5_manyCut 3 (some .int) :: ([.fieldLink RX5 39 "HouseBellsModel" "rooms" "I", .fieldLink RX5 22 "HouseBellsModel" "isCut" "[Z"] ++ wsX50)
def wsX5_turn : List Cond := .code yX5_turn cX5_turn 3 (some .int) :: ([.fieldLink RX5 22 "HouseBellsModel" "isCut" "[Z", .methodLink RX5 106 yX5_isRoom, .instanceMethod yX5_isRoom, .selects RX5 yX5_isRoom yX5_isRoom, .initialized RX5, .code yX5_isRoom cX5_isRoom 2 (some .boolean), .fieldLink RX5 39 "HouseBellsModel" "rooms" "I", .methodLink RX5 42 yX5_isIn, .static yX5_isIn, .code yX5_isIn cX5_isIn 3 (some .boolean), .methodLink RX5 109 yX5_isKnown, .instanceMethod yX5_isKnown, .selects RX5 yX5_isKnown yX5_isKnown, .code yX5_isKnown cX5_isKnown 2 (some .boolean), .fieldLink RX5 35 "HouseBellsModel" "thrown" "I", .methodLink RX5 103 yX5_no, .instanceMethod yX5_no, .selects RX5 yX5_no yX5_no, .code yX5_no cX5_no 2 (some .int), .methodLink RX5 116 yX5_manyCut, .instanceMethod yX5_manyCut, .selects RX5 yX5_manyCut yX5_manyCut, .code yX5_manyCut cX5_manyCut 3 (some .int)] ++ wsX50)
def wsX5_cut_r1 : List Cond := [Cond.methodLink RX5 120 yX5_turn, Cond.instanceMethod yX5_turn, Cond.selects RX5 yX5_turn yX5_turn, Cond.initialized RX5, Cond.code yX5_turn cX5_turn 3 (some .int), Cond.fieldLink RX5 22 "HouseBellsModel" "isCut" "[Z", Cond.methodLink RX5 106 yX5_isRoom, Cond.instanceMethod yX5_isRoom, Cond.selects RX5 yX5_isRoom yX5_isRoom, Cond.code yX5_isRoom cX5_isRoom 2 (some .boolean), Cond.fieldLink RX5 39 "HouseBellsModel" "rooms" "I", Cond.methodLink RX5 42 yX5_isIn, Cond.static yX5_isIn, Cond.code yX5_isIn cX5_isIn 3 (some .boolean), Cond.methodLink RX5 109 yX5_isKnown, Cond.instanceMethod yX5_isKnown, Cond.selects RX5 yX5_isKnown yX5_isKnown, Cond.code yX5_isKnown cX5_isKnown 2 (some .boolean), Cond.fieldLink RX5 35 "HouseBellsModel" "thrown" "I", Cond.methodLink RX5 103 yX5_no, Cond.instanceMethod yX5_no, Cond.selects RX5 yX5_no yX5_no, Cond.code yX5_no cX5_no 2 (some .int), Cond.methodLink RX5 116 yX5_manyCut]
def wsX5_cut_r2 : List Cond := [Cond.instanceMethod yX5_manyCut, Cond.selects RX5 yX5_manyCut yX5_manyCut, Cond.code yX5_manyCut cX5_manyCut 3 (some .int)]
def wsX5_cut : List Cond := .code yX5_cut cX5_cut 2 (some .int) :: ((wsX5_cut_r1 ++ wsX5_cut_r2) ++ wsX50)
def wsX5_mend_r1 : List Cond := [Cond.methodLink RX5 120 yX5_turn, Cond.instanceMethod yX5_turn, Cond.selects RX5 yX5_turn yX5_turn, Cond.initialized RX5, Cond.code yX5_turn cX5_turn 3 (some .int), Cond.fieldLink RX5 22 "HouseBellsModel" "isCut" "[Z", Cond.methodLink RX5 106 yX5_isRoom, Cond.instanceMethod yX5_isRoom, Cond.selects RX5 yX5_isRoom yX5_isRoom, Cond.code yX5_isRoom cX5_isRoom 2 (some .boolean), Cond.fieldLink RX5 39 "HouseBellsModel" "rooms" "I", Cond.methodLink RX5 42 yX5_isIn, Cond.static yX5_isIn, Cond.code yX5_isIn cX5_isIn 3 (some .boolean), Cond.methodLink RX5 109 yX5_isKnown, Cond.instanceMethod yX5_isKnown, Cond.selects RX5 yX5_isKnown yX5_isKnown, Cond.code yX5_isKnown cX5_isKnown 2 (some .boolean), Cond.fieldLink RX5 35 "HouseBellsModel" "thrown" "I", Cond.methodLink RX5 103 yX5_no, Cond.instanceMethod yX5_no, Cond.selects RX5 yX5_no yX5_no, Cond.code yX5_no cX5_no 2 (some .int), Cond.methodLink RX5 116 yX5_manyCut]
def wsX5_mend_r2 : List Cond := [Cond.instanceMethod yX5_manyCut, Cond.selects RX5 yX5_manyCut yX5_manyCut, Cond.code yX5_manyCut cX5_manyCut 3 (some .int)]
def wsX5_mend : List Cond := .code yX5_mend cX5_mend 2 (some .int) :: ((wsX5_mend_r1 ++ wsX5_mend_r2) ++ wsX50)
def wsX5_recharge : List Cond := .code yX5_recharge cX5_recharge 3 (some .int) :: ([.fieldLink RX5 35 "HouseBellsModel" "thrown" "I", .fieldLink RX5 29 "HouseBellsModel" "now" "[I", .methodLink RX5 42 yX5_isIn, .static yX5_isIn, .initialized RX5, .code yX5_isIn cX5_isIn 3 (some .boolean), .methodLink RX5 103 yX5_no, .instanceMethod yX5_no, .selects RX5 yX5_no yX5_no, .code yX5_no cX5_no 2 (some .int)] ++ wsX50)
def wsX5_putUp_r1 : List Cond := [Cond.fieldLink RX5 29 "HouseBellsModel" "now" "[I", Cond.methodLink RX5 106 yX5_isRoom, Cond.instanceMethod yX5_isRoom, Cond.selects RX5 yX5_isRoom yX5_isRoom, Cond.initialized RX5, Cond.code yX5_isRoom cX5_isRoom 2 (some .boolean), Cond.fieldLink RX5 39 "HouseBellsModel" "rooms" "I", Cond.methodLink RX5 42 yX5_isIn, Cond.static yX5_isIn, Cond.code yX5_isIn cX5_isIn 3 (some .boolean), Cond.methodLink RX5 109 yX5_isKnown, Cond.instanceMethod yX5_isKnown, Cond.selects RX5 yX5_isKnown yX5_isKnown, Cond.code yX5_isKnown cX5_isKnown 2 (some .boolean), Cond.fieldLink RX5 35 "HouseBellsModel" "thrown" "I", Cond.methodLink RX5 55 yX5_inLine, Cond.instanceMethod yX5_inLine, Cond.selects RX5 yX5_inLine yX5_inLine, Cond.code yX5_inLine cX5_inLine 3 (some .int), Cond.methodLink RX5 103 yX5_no, Cond.instanceMethod yX5_no, Cond.selects RX5 yX5_no yX5_no, Cond.code yX5_no cX5_no 2 (some .int), Cond.methodLink RX5 86 yX5_takeOut]
def wsX5_putUp_r2 : List Cond := [Cond.instanceMethod yX5_takeOut, Cond.selects RX5 yX5_takeOut yX5_takeOut, Cond.code yX5_takeOut cX5_takeOut 3 none]
def wsX5_putUp : List Cond := .code yX5_putUp cX5_putUp 3 (some .int) :: ((wsX5_putUp_r1 ++ wsX5_putUp_r2) ++ wsX50)
def wsX5_pass_r1 : List Cond := [Cond.fieldLink RX5 35 "HouseBellsModel" "thrown" "I", Cond.fieldLink RX5 29 "HouseBellsModel" "now" "[I", Cond.methodLink RX5 42 yX5_isIn, Cond.static yX5_isIn, Cond.initialized RX5, Cond.code yX5_isIn cX5_isIn 3 (some .boolean), Cond.methodLink RX5 103 yX5_no, Cond.instanceMethod yX5_no, Cond.selects RX5 yX5_no yX5_no, Cond.code yX5_no cX5_no 2 (some .int), Cond.methodLink RX5 124 yX5_minutesOn, Cond.instanceMethod yX5_minutesOn, Cond.selects RX5 yX5_minutesOn yX5_minutesOn, Cond.code yX5_minutesOn cX5_minutesOn 3 none, Cond.methodLink RX5 100 yX5_minuteOn, Cond.instanceMethod yX5_minuteOn, Cond.selects RX5 yX5_minuteOn yX5_minuteOn, Cond.code yX5_minuteOn cX5_minuteOn 2 none, Cond.fieldLink RX5 39 "HouseBellsModel" "rooms" "I", Cond.fieldLink RX5 46 "HouseBellsModel" "servants" "I", Cond.methodLink RX5 90 yX5_hold, Cond.instanceMethod yX5_hold, Cond.selects RX5 yX5_hold yX5_hold, Cond.code yX5_hold cX5_hold 2 none]
def wsX5_pass_r2 : List Cond := [Cond.fieldLink RX5 13 "HouseBellsModel" "patience" "[I", Cond.methodLink RX5 75 yX5_rings, Cond.instanceMethod yX5_rings, Cond.selects RX5 yX5_rings yX5_rings, Cond.code yX5_rings cX5_rings 3 (some .boolean), Cond.fieldLink RX5 22 "HouseBellsModel" "isCut" "[Z", Cond.fieldLink RX5 9 "HouseBellsModel" "floor" "[I", Cond.fieldLink RX5 19 "HouseBellsModel" "drop" "[I", Cond.methodLink RX5 55 yX5_inLine, Cond.instanceMethod yX5_inLine, Cond.selects RX5 yX5_inLine yX5_inLine, Cond.code yX5_inLine cX5_inLine 3 (some .int), Cond.methodLink RX5 93 yX5_work, Cond.instanceMethod yX5_work, Cond.selects RX5 yX5_work yX5_work, Cond.code yX5_work cX5_work 2 none, Cond.methodLink RX5 79 yX5_comeTo, Cond.instanceMethod yX5_comeTo, Cond.selects RX5 yX5_comeTo yX5_comeTo, Cond.code yX5_comeTo cX5_comeTo 3 none, Cond.fieldLink RX5 16 "HouseBellsModel" "need" "[I", Cond.methodLink RX5 71 yX5_give, Cond.instanceMethod yX5_give, Cond.selects RX5 yX5_give yX5_give]
def wsX5_pass_r3 : List Cond := [Cond.code yX5_give cX5_give 5 none, Cond.methodLink RX5 96 yX5_sends, Cond.instanceMethod yX5_sends, Cond.selects RX5 yX5_sends yX5_sends, Cond.code yX5_sends cX5_sends 3 (some .boolean), Cond.methodLink RX5 83 yX5_nearest, Cond.instanceMethod yX5_nearest, Cond.selects RX5 yX5_nearest yX5_nearest, Cond.code yX5_nearest cX5_nearest 4 (some .int), Cond.methodLink RX5 68 yX5_way, Cond.instanceMethod yX5_way, Cond.selects RX5 yX5_way yX5_way, Cond.code yX5_way cX5_way 3 (some .int), Cond.methodLink RX5 59 Lib.Math.abs.name, Cond.static Lib.Math.abs.name, Cond.initialized "java/lang/Math", Cond.code Lib.Math.abs.name Lib.Math.abs.code 1 (some .int), Cond.fieldLink RX5 26 "HouseBellsModel" "pace" "[I", Cond.methodLink RX5 64 Lib.Math.max.name, Cond.static Lib.Math.max.name, Cond.code Lib.Math.max.name Lib.Math.max.code 2 (some .int), Cond.methodLink RX5 86 yX5_takeOut, Cond.instanceMethod yX5_takeOut, Cond.selects RX5 yX5_takeOut yX5_takeOut]
def wsX5_pass_r4 : List Cond := [Cond.code yX5_takeOut cX5_takeOut 3 none]
def wsX5_pass : List Cond := .code yX5_pass cX5_pass 3 (some .int) :: ((wsX5_pass_r1 ++ (wsX5_pass_r2 ++ (wsX5_pass_r3 ++ wsX5_pass_r4))) ++ wsX50)
def wsX5_minute : List Cond := .code yX5_minute cX5_minute 1 (some .int) :: ([.fieldLink RX5 29 "HouseBellsModel" "now" "[I", .methodLink RX5 127 yX5_ok, .instanceMethod yX5_ok, .selects RX5 yX5_ok yX5_ok, .initialized RX5, .code yX5_ok cX5_ok 2 (some .int), .fieldLink RX5 35 "HouseBellsModel" "thrown" "I"] ++ wsX50)
def wsX5_rooms : List Cond := .code yX5_rooms cX5_rooms 1 (some .int) :: ([.fieldLink RX5 39 "HouseBellsModel" "rooms" "I", .methodLink RX5 127 yX5_ok, .instanceMethod yX5_ok, .selects RX5 yX5_ok yX5_ok, .initialized RX5, .code yX5_ok cX5_ok 2 (some .int), .fieldLink RX5 35 "HouseBellsModel" "thrown" "I"] ++ wsX50)
def wsX5_servants : List Cond := .code yX5_servants cX5_servants 1 (some .int) :: ([.fieldLink RX5 46 "HouseBellsModel" "servants" "I", .methodLink RX5 127 yX5_ok, .instanceMethod yX5_ok, .selects RX5 yX5_ok yX5_ok, .initialized RX5, .code yX5_ok cX5_ok 2 (some .int), .fieldLink RX5 35 "HouseBellsModel" "thrown" "I"] ++ wsX50)
def wsX5_charge : List Cond := .code yX5_charge cX5_charge 1 (some .int) :: ([.fieldLink RX5 29 "HouseBellsModel" "now" "[I", .methodLink RX5 127 yX5_ok, .instanceMethod yX5_ok, .selects RX5 yX5_ok yX5_ok, .initialized RX5, .code yX5_ok cX5_ok 2 (some .int), .fieldLink RX5 35 "HouseBellsModel" "thrown" "I"] ++ wsX50)
def wsX5_served : List Cond := .code yX5_served cX5_served 1 (some .int) :: ([.fieldLink RX5 29 "HouseBellsModel" "now" "[I", .methodLink RX5 127 yX5_ok, .instanceMethod yX5_ok, .selects RX5 yX5_ok yX5_ok, .initialized RX5, .code yX5_ok cX5_ok 2 (some .int), .fieldLink RX5 35 "HouseBellsModel" "thrown" "I"] ++ wsX50)
def wsX5_inVain : List Cond := .code yX5_inVain cX5_inVain 1 (some .int) :: ([.fieldLink RX5 29 "HouseBellsModel" "now" "[I", .methodLink RX5 127 yX5_ok, .instanceMethod yX5_ok, .selects RX5 yX5_ok yX5_ok, .initialized RX5, .code yX5_ok cX5_ok 2 (some .int), .fieldLink RX5 35 "HouseBellsModel" "thrown" "I"] ++ wsX50)
def wsX5_gaveUp : List Cond := .code yX5_gaveUp cX5_gaveUp 1 (some .int) :: ([.fieldLink RX5 29 "HouseBellsModel" "now" "[I", .methodLink RX5 127 yX5_ok, .instanceMethod yX5_ok, .selects RX5 yX5_ok yX5_ok, .initialized RX5, .code yX5_ok cX5_ok 2 (some .int), .fieldLink RX5 35 "HouseBellsModel" "thrown" "I"] ++ wsX50)
def wsX5_unheard : List Cond := .code yX5_unheard cX5_unheard 1 (some .int) :: ([.fieldLink RX5 29 "HouseBellsModel" "now" "[I", .methodLink RX5 127 yX5_ok, .instanceMethod yX5_ok, .selects RX5 yX5_ok yX5_ok, .initialized RX5, .code yX5_ok cX5_ok 2 (some .int), .fieldLink RX5 35 "HouseBellsModel" "thrown" "I"] ++ wsX50)
def wsX5_dropOf : List Cond := .code yX5_dropOf cX5_dropOf 2 (some .int) :: ([.fieldLink RX5 19 "HouseBellsModel" "drop" "[I", .methodLink RX5 106 yX5_isRoom, .instanceMethod yX5_isRoom, .selects RX5 yX5_isRoom yX5_isRoom, .initialized RX5, .code yX5_isRoom cX5_isRoom 2 (some .boolean), .fieldLink RX5 39 "HouseBellsModel" "rooms" "I", .methodLink RX5 42 yX5_isIn, .static yX5_isIn, .code yX5_isIn cX5_isIn 3 (some .boolean), .methodLink RX5 109 yX5_isKnown, .instanceMethod yX5_isKnown, .selects RX5 yX5_isKnown yX5_isKnown, .code yX5_isKnown cX5_isKnown 2 (some .boolean), .fieldLink RX5 35 "HouseBellsModel" "thrown" "I"] ++ wsX50)
def wsX5_leads : List Cond := .code yX5_leads cX5_leads 3 (some .int) :: ([.fieldLink RX5 19 "HouseBellsModel" "drop" "[I"] ++ wsX50)
def wsX5_roomOf : List Cond := .code yX5_roomOf cX5_roomOf 2 (some .int) :: ([.methodLink RX5 106 yX5_isRoom, .instanceMethod yX5_isRoom, .selects RX5 yX5_isRoom yX5_isRoom, .initialized RX5, .code yX5_isRoom cX5_isRoom 2 (some .boolean), .fieldLink RX5 39 "HouseBellsModel" "rooms" "I", .methodLink RX5 42 yX5_isIn, .static yX5_isIn, .code yX5_isIn cX5_isIn 3 (some .boolean), .methodLink RX5 109 yX5_isKnown, .instanceMethod yX5_isKnown, .selects RX5 yX5_isKnown yX5_isKnown, .code yX5_isKnown cX5_isKnown 2 (some .boolean), .fieldLink RX5 35 "HouseBellsModel" "thrown" "I", .methodLink RX5 130 yX5_leads, .instanceMethod yX5_leads, .selects RX5 yX5_leads yX5_leads, .code yX5_leads cX5_leads 3 (some .int), .fieldLink RX5 19 "HouseBellsModel" "drop" "[I"] ++ wsX50)
def wsX5_isCut : List Cond := .code yX5_isCut cX5_isCut 2 (some .boolean) :: ([.fieldLink RX5 22 "HouseBellsModel" "isCut" "[Z", .methodLink RX5 106 yX5_isRoom, .instanceMethod yX5_isRoom, .selects RX5 yX5_isRoom yX5_isRoom, .initialized RX5, .code yX5_isRoom cX5_isRoom 2 (some .boolean), .fieldLink RX5 39 "HouseBellsModel" "rooms" "I", .methodLink RX5 42 yX5_isIn, .static yX5_isIn, .code yX5_isIn cX5_isIn 3 (some .boolean), .methodLink RX5 109 yX5_isKnown, .instanceMethod yX5_isKnown, .selects RX5 yX5_isKnown yX5_isKnown, .code yX5_isKnown cX5_isKnown 2 (some .boolean), .fieldLink RX5 35 "HouseBellsModel" "thrown" "I"] ++ wsX50)
def wsX5_waitedFor : List Cond := .code yX5_waitedFor cX5_waitedFor 2 (some .int) :: ([.fieldLink RX5 29 "HouseBellsModel" "now" "[I", .methodLink RX5 106 yX5_isRoom, .instanceMethod yX5_isRoom, .selects RX5 yX5_isRoom yX5_isRoom, .initialized RX5, .code yX5_isRoom cX5_isRoom 2 (some .boolean), .fieldLink RX5 39 "HouseBellsModel" "rooms" "I", .methodLink RX5 42 yX5_isIn, .static yX5_isIn, .code yX5_isIn cX5_isIn 3 (some .boolean), .methodLink RX5 109 yX5_isKnown, .instanceMethod yX5_isKnown, .selects RX5 yX5_isKnown yX5_isKnown, .code yX5_isKnown cX5_isKnown 2 (some .boolean), .fieldLink RX5 35 "HouseBellsModel" "thrown" "I"] ++ wsX50)
def wsX5_longest : List Cond := .code yX5_longest cX5_longest 3 (some .int) :: ([.fieldLink RX5 39 "HouseBellsModel" "rooms" "I", .fieldLink RX5 29 "HouseBellsModel" "now" "[I"] ++ wsX50)
def wsX5_longestWaiting : List Cond := .code yX5_longestWaiting cX5_longestWaiting 1 (some .int) :: ([.methodLink RX5 133 yX5_longest, .instanceMethod yX5_longest, .selects RX5 yX5_longest yX5_longest, .initialized RX5, .code yX5_longest cX5_longest 3 (some .int), .fieldLink RX5 39 "HouseBellsModel" "rooms" "I", .fieldLink RX5 29 "HouseBellsModel" "now" "[I", .methodLink RX5 127 yX5_ok, .instanceMethod yX5_ok, .selects RX5 yX5_ok yX5_ok, .code yX5_ok cX5_ok 2 (some .int), .fieldLink RX5 35 "HouseBellsModel" "thrown" "I"] ++ wsX50)
def wsX5_manyCrossed : List Cond := .code yX5_manyCrossed cX5_manyCrossed 3 (some .int) :: ([.fieldLink RX5 39 "HouseBellsModel" "rooms" "I", .fieldLink RX5 19 "HouseBellsModel" "drop" "[I"] ++ wsX50)
def wsX5_crossed : List Cond := .code yX5_crossed cX5_crossed 1 (some .int) :: ([.methodLink RX5 136 yX5_manyCrossed, .instanceMethod yX5_manyCrossed, .selects RX5 yX5_manyCrossed yX5_manyCrossed, .initialized RX5, .code yX5_manyCrossed cX5_manyCrossed 3 (some .int), .fieldLink RX5 39 "HouseBellsModel" "rooms" "I", .fieldLink RX5 19 "HouseBellsModel" "drop" "[I", .methodLink RX5 127 yX5_ok, .instanceMethod yX5_ok, .selects RX5 yX5_ok yX5_ok, .code yX5_ok cX5_ok 2 (some .int), .fieldLink RX5 35 "HouseBellsModel" "thrown" "I"] ++ wsX50)
def wsX5_crossings : List Cond := .code yX5_crossings cX5_crossings 4 (some .int) :: ([.fieldLink RX5 39 "HouseBellsModel" "rooms" "I", .fieldLink RX5 19 "HouseBellsModel" "drop" "[I"] ++ wsX50)
def wsX5_crossingsNeeded : List Cond := .code yX5_crossingsNeeded cX5_crossingsNeeded 1 (some .int) :: ([.methodLink RX5 139 yX5_crossings, .instanceMethod yX5_crossings, .selects RX5 yX5_crossings yX5_crossings, .initialized RX5, .code yX5_crossings cX5_crossings 4 (some .int), .fieldLink RX5 39 "HouseBellsModel" "rooms" "I", .fieldLink RX5 19 "HouseBellsModel" "drop" "[I", .methodLink RX5 127 yX5_ok, .instanceMethod yX5_ok, .selects RX5 yX5_ok yX5_ok, .code yX5_ok cX5_ok 2 (some .int), .fieldLink RX5 35 "HouseBellsModel" "thrown" "I"] ++ wsX50)
def wsX5_fallen : List Cond := .code yX5_fallen cX5_fallen 1 (some .int) :: ([.fieldLink RX5 29 "HouseBellsModel" "now" "[I", .methodLink RX5 127 yX5_ok, .instanceMethod yX5_ok, .selects RX5 yX5_ok yX5_ok, .initialized RX5, .code yX5_ok cX5_ok 2 (some .int), .fieldLink RX5 35 "HouseBellsModel" "thrown" "I"] ++ wsX50)
def wsX5_hasFallen : List Cond := .code yX5_hasFallen cX5_hasFallen 2 (some .boolean) :: ([.methodLink RX5 106 yX5_isRoom, .instanceMethod yX5_isRoom, .selects RX5 yX5_isRoom yX5_isRoom, .initialized RX5, .code yX5_isRoom cX5_isRoom 2 (some .boolean), .fieldLink RX5 39 "HouseBellsModel" "rooms" "I", .methodLink RX5 42 yX5_isIn, .static yX5_isIn, .code yX5_isIn cX5_isIn 3 (some .boolean), .methodLink RX5 109 yX5_isKnown, .instanceMethod yX5_isKnown, .selects RX5 yX5_isKnown yX5_isKnown, .code yX5_isKnown cX5_isKnown 2 (some .boolean), .fieldLink RX5 35 "HouseBellsModel" "thrown" "I", .methodLink RX5 55 yX5_inLine, .instanceMethod yX5_inLine, .selects RX5 yX5_inLine yX5_inLine, .code yX5_inLine cX5_inLine 3 (some .int), .fieldLink RX5 29 "HouseBellsModel" "now" "[I"] ++ wsX50)
def wsX5_placeInLine : List Cond := .code yX5_placeInLine cX5_placeInLine 2 (some .int) :: ([.methodLink RX5 106 yX5_isRoom, .instanceMethod yX5_isRoom, .selects RX5 yX5_isRoom yX5_isRoom, .initialized RX5, .code yX5_isRoom cX5_isRoom 2 (some .boolean), .fieldLink RX5 39 "HouseBellsModel" "rooms" "I", .methodLink RX5 42 yX5_isIn, .static yX5_isIn, .code yX5_isIn cX5_isIn 3 (some .boolean), .methodLink RX5 109 yX5_isKnown, .instanceMethod yX5_isKnown, .selects RX5 yX5_isKnown yX5_isKnown, .code yX5_isKnown cX5_isKnown 2 (some .boolean), .fieldLink RX5 35 "HouseBellsModel" "thrown" "I", .methodLink RX5 55 yX5_inLine, .instanceMethod yX5_inLine, .selects RX5 yX5_inLine yX5_inLine, .code yX5_inLine cX5_inLine 3 (some .int), .fieldLink RX5 29 "HouseBellsModel" "now" "[I"] ++ wsX50)
def wsX5_head : List Cond := .code yX5_head cX5_head 1 (some .int) :: ([.fieldLink RX5 29 "HouseBellsModel" "now" "[I"] ++ wsX50)
def wsX5_nextDrop : List Cond := .code yX5_nextDrop cX5_nextDrop 1 (some .int) :: ([.methodLink RX5 142 yX5_head, .instanceMethod yX5_head, .selects RX5 yX5_head yX5_head, .initialized RX5, .code yX5_head cX5_head 1 (some .int), .fieldLink RX5 29 "HouseBellsModel" "now" "[I", .methodLink RX5 127 yX5_ok, .instanceMethod yX5_ok, .selects RX5 yX5_ok yX5_ok, .code yX5_ok cX5_ok 2 (some .int), .fieldLink RX5 35 "HouseBellsModel" "thrown" "I"] ++ wsX50)
def wsX5_left : List Cond := .code yX5_left cX5_left 2 (some .int) :: ([.fieldLink RX5 22 "HouseBellsModel" "isCut" "[Z", .fieldLink RX5 29 "HouseBellsModel" "now" "[I", .fieldLink RX5 9 "HouseBellsModel" "floor" "[I"] ++ wsX50)
def wsX5_ringsLeft : List Cond := .code yX5_ringsLeft cX5_ringsLeft 2 (some .int) :: ([.methodLink RX5 106 yX5_isRoom, .instanceMethod yX5_isRoom, .selects RX5 yX5_isRoom yX5_isRoom, .initialized RX5, .code yX5_isRoom cX5_isRoom 2 (some .boolean), .fieldLink RX5 39 "HouseBellsModel" "rooms" "I", .methodLink RX5 42 yX5_isIn, .static yX5_isIn, .code yX5_isIn cX5_isIn 3 (some .boolean), .methodLink RX5 109 yX5_isKnown, .instanceMethod yX5_isKnown, .selects RX5 yX5_isKnown yX5_isKnown, .code yX5_isKnown cX5_isKnown 2 (some .boolean), .fieldLink RX5 35 "HouseBellsModel" "thrown" "I", .methodLink RX5 145 yX5_left, .instanceMethod yX5_left, .selects RX5 yX5_left yX5_left, .code yX5_left cX5_left 2 (some .int), .fieldLink RX5 22 "HouseBellsModel" "isCut" "[Z", .fieldLink RX5 29 "HouseBellsModel" "now" "[I", .fieldLink RX5 9 "HouseBellsModel" "floor" "[I"] ++ wsX50)
def wsX5_floorOf : List Cond := .code yX5_floorOf cX5_floorOf 2 (some .int) :: ([.fieldLink RX5 29 "HouseBellsModel" "now" "[I", .methodLink RX5 148 yX5_isServant, .instanceMethod yX5_isServant, .selects RX5 yX5_isServant yX5_isServant, .initialized RX5, .code yX5_isServant cX5_isServant 2 (some .boolean), .fieldLink RX5 46 "HouseBellsModel" "servants" "I", .methodLink RX5 42 yX5_isIn, .static yX5_isIn, .code yX5_isIn cX5_isIn 3 (some .boolean), .methodLink RX5 109 yX5_isKnown, .instanceMethod yX5_isKnown, .selects RX5 yX5_isKnown yX5_isKnown, .code yX5_isKnown cX5_isKnown 2 (some .boolean), .fieldLink RX5 35 "HouseBellsModel" "thrown" "I"] ++ wsX50)
def wsX5_whom : List Cond := .code yX5_whom cX5_whom 3 (some .int) :: ([.fieldLink RX5 29 "HouseBellsModel" "now" "[I"] ++ wsX50)
def wsX5_goesTo : List Cond := .code yX5_goesTo cX5_goesTo 2 (some .int) :: ([.methodLink RX5 148 yX5_isServant, .instanceMethod yX5_isServant, .selects RX5 yX5_isServant yX5_isServant, .initialized RX5, .code yX5_isServant cX5_isServant 2 (some .boolean), .fieldLink RX5 46 "HouseBellsModel" "servants" "I", .methodLink RX5 42 yX5_isIn, .static yX5_isIn, .code yX5_isIn cX5_isIn 3 (some .boolean), .methodLink RX5 109 yX5_isKnown, .instanceMethod yX5_isKnown, .selects RX5 yX5_isKnown yX5_isKnown, .code yX5_isKnown cX5_isKnown 2 (some .boolean), .fieldLink RX5 35 "HouseBellsModel" "thrown" "I", .methodLink RX5 151 yX5_whom, .instanceMethod yX5_whom, .selects RX5 yX5_whom yX5_whom, .code yX5_whom cX5_whom 3 (some .int), .fieldLink RX5 29 "HouseBellsModel" "now" "[I"] ++ wsX50)
def wsX5_serves : List Cond := .code yX5_serves cX5_serves 2 (some .int) :: ([.methodLink RX5 148 yX5_isServant, .instanceMethod yX5_isServant, .selects RX5 yX5_isServant yX5_isServant, .initialized RX5, .code yX5_isServant cX5_isServant 2 (some .boolean), .fieldLink RX5 46 "HouseBellsModel" "servants" "I", .methodLink RX5 42 yX5_isIn, .static yX5_isIn, .code yX5_isIn cX5_isIn 3 (some .boolean), .methodLink RX5 109 yX5_isKnown, .instanceMethod yX5_isKnown, .selects RX5 yX5_isKnown yX5_isKnown, .code yX5_isKnown cX5_isKnown 2 (some .boolean), .fieldLink RX5 35 "HouseBellsModel" "thrown" "I", .methodLink RX5 151 yX5_whom, .instanceMethod yX5_whom, .selects RX5 yX5_whom yX5_whom, .code yX5_whom cX5_whom 3 (some .int), .fieldLink RX5 29 "HouseBellsModel" "now" "[I"] ++ wsX50)
def wsX5_minutesLeft : List Cond := .code yX5_minutesLeft cX5_minutesLeft 2 (some .int) :: ([.fieldLink RX5 29 "HouseBellsModel" "now" "[I", .methodLink RX5 148 yX5_isServant, .instanceMethod yX5_isServant, .selects RX5 yX5_isServant yX5_isServant, .initialized RX5, .code yX5_isServant cX5_isServant 2 (some .boolean), .fieldLink RX5 46 "HouseBellsModel" "servants" "I", .methodLink RX5 42 yX5_isIn, .static yX5_isIn, .code yX5_isIn cX5_isIn 3 (some .boolean), .methodLink RX5 109 yX5_isKnown, .instanceMethod yX5_isKnown, .selects RX5 yX5_isKnown yX5_isKnown, .code yX5_isKnown cX5_isKnown 2 (some .boolean), .fieldLink RX5 35 "HouseBellsModel" "thrown" "I"] ++ wsX50)
def wsX5_wayTo_r1 : List Cond := [Cond.methodLink RX5 148 yX5_isServant, Cond.instanceMethod yX5_isServant, Cond.selects RX5 yX5_isServant yX5_isServant, Cond.initialized RX5, Cond.code yX5_isServant cX5_isServant 2 (some .boolean), Cond.fieldLink RX5 46 "HouseBellsModel" "servants" "I", Cond.methodLink RX5 42 yX5_isIn, Cond.static yX5_isIn, Cond.code yX5_isIn cX5_isIn 3 (some .boolean), Cond.methodLink RX5 106 yX5_isRoom, Cond.instanceMethod yX5_isRoom, Cond.selects RX5 yX5_isRoom yX5_isRoom, Cond.code yX5_isRoom cX5_isRoom 2 (some .boolean), Cond.fieldLink RX5 39 "HouseBellsModel" "rooms" "I", Cond.methodLink RX5 109 yX5_isKnown, Cond.instanceMethod yX5_isKnown, Cond.selects RX5 yX5_isKnown yX5_isKnown, Cond.code yX5_isKnown cX5_isKnown 2 (some .boolean), Cond.fieldLink RX5 35 "HouseBellsModel" "thrown" "I", Cond.methodLink RX5 68 yX5_way, Cond.instanceMethod yX5_way, Cond.selects RX5 yX5_way yX5_way, Cond.code yX5_way cX5_way 3 (some .int), Cond.fieldLink RX5 29 "HouseBellsModel" "now" "[I"]
def wsX5_wayTo_r2 : List Cond := [Cond.fieldLink RX5 9 "HouseBellsModel" "floor" "[I", Cond.methodLink RX5 59 Lib.Math.abs.name, Cond.static Lib.Math.abs.name, Cond.initialized "java/lang/Math", Cond.code Lib.Math.abs.name Lib.Math.abs.code 1 (some .int), Cond.fieldLink RX5 26 "HouseBellsModel" "pace" "[I", Cond.methodLink RX5 64 Lib.Math.max.name, Cond.static Lib.Math.max.name, Cond.code Lib.Math.max.name Lib.Math.max.code 2 (some .int)]
def wsX5_wayTo : List Cond := .code yX5_wayTo cX5_wayTo 3 (some .int) :: ((wsX5_wayTo_r1 ++ wsX5_wayTo_r2) ++ wsX50)
def wsX5_nearestIdle_r1 : List Cond := [Cond.methodLink RX5 106 yX5_isRoom, Cond.instanceMethod yX5_isRoom, Cond.selects RX5 yX5_isRoom yX5_isRoom, Cond.initialized RX5, Cond.code yX5_isRoom cX5_isRoom 2 (some .boolean), Cond.fieldLink RX5 39 "HouseBellsModel" "rooms" "I", Cond.methodLink RX5 42 yX5_isIn, Cond.static yX5_isIn, Cond.code yX5_isIn cX5_isIn 3 (some .boolean), Cond.methodLink RX5 109 yX5_isKnown, Cond.instanceMethod yX5_isKnown, Cond.selects RX5 yX5_isKnown yX5_isKnown, Cond.code yX5_isKnown cX5_isKnown 2 (some .boolean), Cond.fieldLink RX5 35 "HouseBellsModel" "thrown" "I", Cond.methodLink RX5 83 yX5_nearest, Cond.instanceMethod yX5_nearest, Cond.selects RX5 yX5_nearest yX5_nearest, Cond.code yX5_nearest cX5_nearest 4 (some .int), Cond.fieldLink RX5 46 "HouseBellsModel" "servants" "I", Cond.fieldLink RX5 29 "HouseBellsModel" "now" "[I", Cond.methodLink RX5 68 yX5_way, Cond.instanceMethod yX5_way, Cond.selects RX5 yX5_way yX5_way, Cond.code yX5_way cX5_way 3 (some .int)]
def wsX5_nearestIdle_r2 : List Cond := [Cond.fieldLink RX5 9 "HouseBellsModel" "floor" "[I", Cond.methodLink RX5 59 Lib.Math.abs.name, Cond.static Lib.Math.abs.name, Cond.initialized "java/lang/Math", Cond.code Lib.Math.abs.name Lib.Math.abs.code 1 (some .int), Cond.fieldLink RX5 26 "HouseBellsModel" "pace" "[I", Cond.methodLink RX5 64 Lib.Math.max.name, Cond.static Lib.Math.max.name, Cond.code Lib.Math.max.name Lib.Math.max.code 2 (some .int)]
def wsX5_nearestIdle : List Cond := .code yX5_nearestIdle cX5_nearestIdle 2 (some .int) :: ((wsX5_nearestIdle_r1 ++ wsX5_nearestIdle_r2) ++ wsX50)
def wsX5_isServed : List Cond := .code yX5_isServed cX5_isServed 3 (some .boolean) :: ([.fieldLink RX5 46 "HouseBellsModel" "servants" "I", .methodLink RX5 151 yX5_whom, .instanceMethod yX5_whom, .selects RX5 yX5_whom yX5_whom, .initialized RX5, .code yX5_whom cX5_whom 3 (some .int), .fieldLink RX5 29 "HouseBellsModel" "now" "[I"] ++ wsX50)
def wsX5_untilServed_r1 : List Cond := [Cond.methodLink RX5 154 yX5_keep, Cond.instanceMethod yX5_keep, Cond.selects RX5 yX5_keep yX5_keep, Cond.initialized RX5, Cond.code yX5_keep cX5_keep 1 none, Cond.fieldLink RX5 29 "HouseBellsModel" "now" "[I", Cond.fieldLink RX5 32 "HouseBellsModel" "kept" "[I", Cond.methodLink RX5 49 arraycopyName, Cond.native arraycopyName, Cond.static arraycopyName, Cond.initialized "java/lang/System", Cond.methodLink RX5 157 yX5_isServed, Cond.instanceMethod yX5_isServed, Cond.selects RX5 yX5_isServed yX5_isServed, Cond.code yX5_isServed cX5_isServed 3 (some .boolean), Cond.fieldLink RX5 46 "HouseBellsModel" "servants" "I", Cond.methodLink RX5 151 yX5_whom, Cond.instanceMethod yX5_whom, Cond.selects RX5 yX5_whom yX5_whom, Cond.code yX5_whom cX5_whom 3 (some .int), Cond.methodLink RX5 100 yX5_minuteOn, Cond.instanceMethod yX5_minuteOn, Cond.selects RX5 yX5_minuteOn yX5_minuteOn, Cond.code yX5_minuteOn cX5_minuteOn 2 none]
def wsX5_untilServed_r2 : List Cond := [Cond.fieldLink RX5 39 "HouseBellsModel" "rooms" "I", Cond.methodLink RX5 90 yX5_hold, Cond.instanceMethod yX5_hold, Cond.selects RX5 yX5_hold yX5_hold, Cond.code yX5_hold cX5_hold 2 none, Cond.fieldLink RX5 13 "HouseBellsModel" "patience" "[I", Cond.methodLink RX5 75 yX5_rings, Cond.instanceMethod yX5_rings, Cond.selects RX5 yX5_rings yX5_rings, Cond.code yX5_rings cX5_rings 3 (some .boolean), Cond.fieldLink RX5 22 "HouseBellsModel" "isCut" "[Z", Cond.fieldLink RX5 9 "HouseBellsModel" "floor" "[I", Cond.fieldLink RX5 19 "HouseBellsModel" "drop" "[I", Cond.methodLink RX5 55 yX5_inLine, Cond.instanceMethod yX5_inLine, Cond.selects RX5 yX5_inLine yX5_inLine, Cond.code yX5_inLine cX5_inLine 3 (some .int), Cond.methodLink RX5 93 yX5_work, Cond.instanceMethod yX5_work, Cond.selects RX5 yX5_work yX5_work, Cond.code yX5_work cX5_work 2 none, Cond.methodLink RX5 79 yX5_comeTo, Cond.instanceMethod yX5_comeTo, Cond.selects RX5 yX5_comeTo yX5_comeTo]
def wsX5_untilServed_r3 : List Cond := [Cond.code yX5_comeTo cX5_comeTo 3 none, Cond.fieldLink RX5 16 "HouseBellsModel" "need" "[I", Cond.methodLink RX5 71 yX5_give, Cond.instanceMethod yX5_give, Cond.selects RX5 yX5_give yX5_give, Cond.code yX5_give cX5_give 5 none, Cond.methodLink RX5 96 yX5_sends, Cond.instanceMethod yX5_sends, Cond.selects RX5 yX5_sends yX5_sends, Cond.code yX5_sends cX5_sends 3 (some .boolean), Cond.methodLink RX5 83 yX5_nearest, Cond.instanceMethod yX5_nearest, Cond.selects RX5 yX5_nearest yX5_nearest, Cond.code yX5_nearest cX5_nearest 4 (some .int), Cond.methodLink RX5 68 yX5_way, Cond.instanceMethod yX5_way, Cond.selects RX5 yX5_way yX5_way, Cond.code yX5_way cX5_way 3 (some .int), Cond.methodLink RX5 59 Lib.Math.abs.name, Cond.static Lib.Math.abs.name, Cond.initialized "java/lang/Math", Cond.code Lib.Math.abs.name Lib.Math.abs.code 1 (some .int), Cond.fieldLink RX5 26 "HouseBellsModel" "pace" "[I", Cond.methodLink RX5 64 Lib.Math.max.name]
def wsX5_untilServed_r4 : List Cond := [Cond.static Lib.Math.max.name, Cond.code Lib.Math.max.name Lib.Math.max.code 2 (some .int), Cond.methodLink RX5 86 yX5_takeOut, Cond.instanceMethod yX5_takeOut, Cond.selects RX5 yX5_takeOut yX5_takeOut, Cond.code yX5_takeOut cX5_takeOut 3 none, Cond.methodLink RX5 160 yX5_bringBack, Cond.instanceMethod yX5_bringBack, Cond.selects RX5 yX5_bringBack yX5_bringBack, Cond.code yX5_bringBack cX5_bringBack 1 none]
def wsX5_untilServed : List Cond := .code yX5_untilServed cX5_untilServed 3 (some .int) :: ((wsX5_untilServed_r1 ++ (wsX5_untilServed_r2 ++ (wsX5_untilServed_r3 ++ wsX5_untilServed_r4))) ++ wsX50)
def wsX5_minutesUntilServed_r1 : List Cond := [Cond.methodLink RX5 106 yX5_isRoom, Cond.instanceMethod yX5_isRoom, Cond.selects RX5 yX5_isRoom yX5_isRoom, Cond.initialized RX5, Cond.code yX5_isRoom cX5_isRoom 2 (some .boolean), Cond.fieldLink RX5 39 "HouseBellsModel" "rooms" "I", Cond.methodLink RX5 42 yX5_isIn, Cond.static yX5_isIn, Cond.code yX5_isIn cX5_isIn 3 (some .boolean), Cond.methodLink RX5 109 yX5_isKnown, Cond.instanceMethod yX5_isKnown, Cond.selects RX5 yX5_isKnown yX5_isKnown, Cond.code yX5_isKnown cX5_isKnown 2 (some .boolean), Cond.fieldLink RX5 35 "HouseBellsModel" "thrown" "I", Cond.methodLink RX5 163 yX5_untilServed, Cond.instanceMethod yX5_untilServed, Cond.selects RX5 yX5_untilServed yX5_untilServed, Cond.code yX5_untilServed cX5_untilServed 3 (some .int), Cond.methodLink RX5 154 yX5_keep, Cond.instanceMethod yX5_keep, Cond.selects RX5 yX5_keep yX5_keep, Cond.code yX5_keep cX5_keep 1 none, Cond.fieldLink RX5 29 "HouseBellsModel" "now" "[I", Cond.fieldLink RX5 32 "HouseBellsModel" "kept" "[I"]
def wsX5_minutesUntilServed_r2 : List Cond := [Cond.methodLink RX5 49 arraycopyName, Cond.native arraycopyName, Cond.static arraycopyName, Cond.initialized "java/lang/System", Cond.methodLink RX5 157 yX5_isServed, Cond.instanceMethod yX5_isServed, Cond.selects RX5 yX5_isServed yX5_isServed, Cond.code yX5_isServed cX5_isServed 3 (some .boolean), Cond.fieldLink RX5 46 "HouseBellsModel" "servants" "I", Cond.methodLink RX5 151 yX5_whom, Cond.instanceMethod yX5_whom, Cond.selects RX5 yX5_whom yX5_whom, Cond.code yX5_whom cX5_whom 3 (some .int), Cond.methodLink RX5 100 yX5_minuteOn, Cond.instanceMethod yX5_minuteOn, Cond.selects RX5 yX5_minuteOn yX5_minuteOn, Cond.code yX5_minuteOn cX5_minuteOn 2 none, Cond.methodLink RX5 90 yX5_hold, Cond.instanceMethod yX5_hold, Cond.selects RX5 yX5_hold yX5_hold, Cond.code yX5_hold cX5_hold 2 none, Cond.fieldLink RX5 13 "HouseBellsModel" "patience" "[I", Cond.methodLink RX5 75 yX5_rings, Cond.instanceMethod yX5_rings]
def wsX5_minutesUntilServed_r3 : List Cond := [Cond.selects RX5 yX5_rings yX5_rings, Cond.code yX5_rings cX5_rings 3 (some .boolean), Cond.fieldLink RX5 22 "HouseBellsModel" "isCut" "[Z", Cond.fieldLink RX5 9 "HouseBellsModel" "floor" "[I", Cond.fieldLink RX5 19 "HouseBellsModel" "drop" "[I", Cond.methodLink RX5 55 yX5_inLine, Cond.instanceMethod yX5_inLine, Cond.selects RX5 yX5_inLine yX5_inLine, Cond.code yX5_inLine cX5_inLine 3 (some .int), Cond.methodLink RX5 93 yX5_work, Cond.instanceMethod yX5_work, Cond.selects RX5 yX5_work yX5_work, Cond.code yX5_work cX5_work 2 none, Cond.methodLink RX5 79 yX5_comeTo, Cond.instanceMethod yX5_comeTo, Cond.selects RX5 yX5_comeTo yX5_comeTo, Cond.code yX5_comeTo cX5_comeTo 3 none, Cond.fieldLink RX5 16 "HouseBellsModel" "need" "[I", Cond.methodLink RX5 71 yX5_give, Cond.instanceMethod yX5_give, Cond.selects RX5 yX5_give yX5_give, Cond.code yX5_give cX5_give 5 none, Cond.methodLink RX5 96 yX5_sends, Cond.instanceMethod yX5_sends]
def wsX5_minutesUntilServed_r4 : List Cond := [Cond.selects RX5 yX5_sends yX5_sends, Cond.code yX5_sends cX5_sends 3 (some .boolean), Cond.methodLink RX5 83 yX5_nearest, Cond.instanceMethod yX5_nearest, Cond.selects RX5 yX5_nearest yX5_nearest, Cond.code yX5_nearest cX5_nearest 4 (some .int), Cond.methodLink RX5 68 yX5_way, Cond.instanceMethod yX5_way, Cond.selects RX5 yX5_way yX5_way, Cond.code yX5_way cX5_way 3 (some .int), Cond.methodLink RX5 59 Lib.Math.abs.name, Cond.static Lib.Math.abs.name, Cond.initialized "java/lang/Math", Cond.code Lib.Math.abs.name Lib.Math.abs.code 1 (some .int), Cond.fieldLink RX5 26 "HouseBellsModel" "pace" "[I", Cond.methodLink RX5 64 Lib.Math.max.name, Cond.static Lib.Math.max.name, Cond.code Lib.Math.max.name Lib.Math.max.code 2 (some .int), Cond.methodLink RX5 86 yX5_takeOut, Cond.instanceMethod yX5_takeOut, Cond.selects RX5 yX5_takeOut yX5_takeOut, Cond.code yX5_takeOut cX5_takeOut 3 none, Cond.methodLink RX5 160 yX5_bringBack, Cond.instanceMethod yX5_bringBack]
def wsX5_minutesUntilServed_r5 : List Cond := [Cond.selects RX5 yX5_bringBack yX5_bringBack, Cond.code yX5_bringBack cX5_bringBack 1 none]
def wsX5_minutesUntilServed : List Cond := .code yX5_minutesUntilServed cX5_minutesUntilServed 2 (some .int) :: ((wsX5_minutesUntilServed_r1 ++ (wsX5_minutesUntilServed_r2 ++ (wsX5_minutesUntilServed_r3 ++ (wsX5_minutesUntilServed_r4 ++ wsX5_minutesUntilServed_r5)))) ++ wsX50)
def wsX5_soon_r1 : List Cond := [Cond.fieldLink RX5 29 "HouseBellsModel" "now" "[I", Cond.methodLink RX5 154 yX5_keep, Cond.instanceMethod yX5_keep, Cond.selects RX5 yX5_keep yX5_keep, Cond.initialized RX5, Cond.code yX5_keep cX5_keep 1 none, Cond.fieldLink RX5 32 "HouseBellsModel" "kept" "[I", Cond.methodLink RX5 49 arraycopyName, Cond.native arraycopyName, Cond.static arraycopyName, Cond.initialized "java/lang/System", Cond.methodLink RX5 124 yX5_minutesOn, Cond.instanceMethod yX5_minutesOn, Cond.selects RX5 yX5_minutesOn yX5_minutesOn, Cond.code yX5_minutesOn cX5_minutesOn 3 none, Cond.methodLink RX5 100 yX5_minuteOn, Cond.instanceMethod yX5_minuteOn, Cond.selects RX5 yX5_minuteOn yX5_minuteOn, Cond.code yX5_minuteOn cX5_minuteOn 2 none, Cond.fieldLink RX5 39 "HouseBellsModel" "rooms" "I", Cond.fieldLink RX5 46 "HouseBellsModel" "servants" "I", Cond.methodLink RX5 90 yX5_hold, Cond.instanceMethod yX5_hold, Cond.selects RX5 yX5_hold yX5_hold]
def wsX5_soon_r2 : List Cond := [Cond.code yX5_hold cX5_hold 2 none, Cond.fieldLink RX5 13 "HouseBellsModel" "patience" "[I", Cond.methodLink RX5 75 yX5_rings, Cond.instanceMethod yX5_rings, Cond.selects RX5 yX5_rings yX5_rings, Cond.code yX5_rings cX5_rings 3 (some .boolean), Cond.fieldLink RX5 22 "HouseBellsModel" "isCut" "[Z", Cond.fieldLink RX5 9 "HouseBellsModel" "floor" "[I", Cond.fieldLink RX5 19 "HouseBellsModel" "drop" "[I", Cond.methodLink RX5 55 yX5_inLine, Cond.instanceMethod yX5_inLine, Cond.selects RX5 yX5_inLine yX5_inLine, Cond.code yX5_inLine cX5_inLine 3 (some .int), Cond.methodLink RX5 93 yX5_work, Cond.instanceMethod yX5_work, Cond.selects RX5 yX5_work yX5_work, Cond.code yX5_work cX5_work 2 none, Cond.methodLink RX5 79 yX5_comeTo, Cond.instanceMethod yX5_comeTo, Cond.selects RX5 yX5_comeTo yX5_comeTo, Cond.code yX5_comeTo cX5_comeTo 3 none, Cond.fieldLink RX5 16 "HouseBellsModel" "need" "[I", Cond.methodLink RX5 71 yX5_give, Cond.instanceMethod yX5_give]
def wsX5_soon_r3 : List Cond := [Cond.selects RX5 yX5_give yX5_give, Cond.code yX5_give cX5_give 5 none, Cond.methodLink RX5 96 yX5_sends, Cond.instanceMethod yX5_sends, Cond.selects RX5 yX5_sends yX5_sends, Cond.code yX5_sends cX5_sends 3 (some .boolean), Cond.methodLink RX5 83 yX5_nearest, Cond.instanceMethod yX5_nearest, Cond.selects RX5 yX5_nearest yX5_nearest, Cond.code yX5_nearest cX5_nearest 4 (some .int), Cond.methodLink RX5 68 yX5_way, Cond.instanceMethod yX5_way, Cond.selects RX5 yX5_way yX5_way, Cond.code yX5_way cX5_way 3 (some .int), Cond.methodLink RX5 59 Lib.Math.abs.name, Cond.static Lib.Math.abs.name, Cond.initialized "java/lang/Math", Cond.code Lib.Math.abs.name Lib.Math.abs.code 1 (some .int), Cond.fieldLink RX5 26 "HouseBellsModel" "pace" "[I", Cond.methodLink RX5 64 Lib.Math.max.name, Cond.static Lib.Math.max.name, Cond.code Lib.Math.max.name Lib.Math.max.code 2 (some .int), Cond.methodLink RX5 86 yX5_takeOut, Cond.instanceMethod yX5_takeOut]
def wsX5_soon_r4 : List Cond := [Cond.selects RX5 yX5_takeOut yX5_takeOut, Cond.code yX5_takeOut cX5_takeOut 3 none, Cond.methodLink RX5 160 yX5_bringBack, Cond.instanceMethod yX5_bringBack, Cond.selects RX5 yX5_bringBack yX5_bringBack, Cond.code yX5_bringBack cX5_bringBack 1 none]
def wsX5_soon : List Cond := .code yX5_soon cX5_soon 3 (some .int) :: ((wsX5_soon_r1 ++ (wsX5_soon_r2 ++ (wsX5_soon_r3 ++ wsX5_soon_r4))) ++ wsX50)
def wsX5_servedIn_r1 : List Cond := [Cond.fieldLink RX5 35 "HouseBellsModel" "thrown" "I", Cond.methodLink RX5 42 yX5_isIn, Cond.static yX5_isIn, Cond.initialized RX5, Cond.code yX5_isIn cX5_isIn 3 (some .boolean), Cond.methodLink RX5 166 yX5_soon, Cond.instanceMethod yX5_soon, Cond.selects RX5 yX5_soon yX5_soon, Cond.code yX5_soon cX5_soon 3 (some .int), Cond.fieldLink RX5 29 "HouseBellsModel" "now" "[I", Cond.methodLink RX5 154 yX5_keep, Cond.instanceMethod yX5_keep, Cond.selects RX5 yX5_keep yX5_keep, Cond.code yX5_keep cX5_keep 1 none, Cond.fieldLink RX5 32 "HouseBellsModel" "kept" "[I", Cond.methodLink RX5 49 arraycopyName, Cond.native arraycopyName, Cond.static arraycopyName, Cond.initialized "java/lang/System", Cond.methodLink RX5 124 yX5_minutesOn, Cond.instanceMethod yX5_minutesOn, Cond.selects RX5 yX5_minutesOn yX5_minutesOn, Cond.code yX5_minutesOn cX5_minutesOn 3 none, Cond.methodLink RX5 100 yX5_minuteOn]
def wsX5_servedIn_r2 : List Cond := [Cond.instanceMethod yX5_minuteOn, Cond.selects RX5 yX5_minuteOn yX5_minuteOn, Cond.code yX5_minuteOn cX5_minuteOn 2 none, Cond.fieldLink RX5 39 "HouseBellsModel" "rooms" "I", Cond.fieldLink RX5 46 "HouseBellsModel" "servants" "I", Cond.methodLink RX5 90 yX5_hold, Cond.instanceMethod yX5_hold, Cond.selects RX5 yX5_hold yX5_hold, Cond.code yX5_hold cX5_hold 2 none, Cond.fieldLink RX5 13 "HouseBellsModel" "patience" "[I", Cond.methodLink RX5 75 yX5_rings, Cond.instanceMethod yX5_rings, Cond.selects RX5 yX5_rings yX5_rings, Cond.code yX5_rings cX5_rings 3 (some .boolean), Cond.fieldLink RX5 22 "HouseBellsModel" "isCut" "[Z", Cond.fieldLink RX5 9 "HouseBellsModel" "floor" "[I", Cond.fieldLink RX5 19 "HouseBellsModel" "drop" "[I", Cond.methodLink RX5 55 yX5_inLine, Cond.instanceMethod yX5_inLine, Cond.selects RX5 yX5_inLine yX5_inLine, Cond.code yX5_inLine cX5_inLine 3 (some .int), Cond.methodLink RX5 93 yX5_work, Cond.instanceMethod yX5_work, Cond.selects RX5 yX5_work yX5_work]
def wsX5_servedIn_r3 : List Cond := [Cond.code yX5_work cX5_work 2 none, Cond.methodLink RX5 79 yX5_comeTo, Cond.instanceMethod yX5_comeTo, Cond.selects RX5 yX5_comeTo yX5_comeTo, Cond.code yX5_comeTo cX5_comeTo 3 none, Cond.fieldLink RX5 16 "HouseBellsModel" "need" "[I", Cond.methodLink RX5 71 yX5_give, Cond.instanceMethod yX5_give, Cond.selects RX5 yX5_give yX5_give, Cond.code yX5_give cX5_give 5 none, Cond.methodLink RX5 96 yX5_sends, Cond.instanceMethod yX5_sends, Cond.selects RX5 yX5_sends yX5_sends, Cond.code yX5_sends cX5_sends 3 (some .boolean), Cond.methodLink RX5 83 yX5_nearest, Cond.instanceMethod yX5_nearest, Cond.selects RX5 yX5_nearest yX5_nearest, Cond.code yX5_nearest cX5_nearest 4 (some .int), Cond.methodLink RX5 68 yX5_way, Cond.instanceMethod yX5_way, Cond.selects RX5 yX5_way yX5_way, Cond.code yX5_way cX5_way 3 (some .int), Cond.methodLink RX5 59 Lib.Math.abs.name, Cond.static Lib.Math.abs.name]
def wsX5_servedIn_r4 : List Cond := [Cond.initialized "java/lang/Math", Cond.code Lib.Math.abs.name Lib.Math.abs.code 1 (some .int), Cond.fieldLink RX5 26 "HouseBellsModel" "pace" "[I", Cond.methodLink RX5 64 Lib.Math.max.name, Cond.static Lib.Math.max.name, Cond.code Lib.Math.max.name Lib.Math.max.code 2 (some .int), Cond.methodLink RX5 86 yX5_takeOut, Cond.instanceMethod yX5_takeOut, Cond.selects RX5 yX5_takeOut yX5_takeOut, Cond.code yX5_takeOut cX5_takeOut 3 none, Cond.methodLink RX5 160 yX5_bringBack, Cond.instanceMethod yX5_bringBack, Cond.selects RX5 yX5_bringBack yX5_bringBack, Cond.code yX5_bringBack cX5_bringBack 1 none, Cond.methodLink RX5 103 yX5_no, Cond.instanceMethod yX5_no, Cond.selects RX5 yX5_no yX5_no, Cond.code yX5_no cX5_no 2 (some .int)]
def wsX5_servedIn : List Cond := .code yX5_servedIn cX5_servedIn 2 (some .int) :: ((wsX5_servedIn_r1 ++ (wsX5_servedIn_r2 ++ (wsX5_servedIn_r3 ++ wsX5_servedIn_r4))) ++ wsX50)
def wsX5_best_r1 : List Cond := [Cond.fieldLink RX5 39 "HouseBellsModel" "rooms" "I", Cond.methodLink RX5 166 yX5_soon, Cond.instanceMethod yX5_soon, Cond.selects RX5 yX5_soon yX5_soon, Cond.initialized RX5, Cond.code yX5_soon cX5_soon 3 (some .int), Cond.fieldLink RX5 29 "HouseBellsModel" "now" "[I", Cond.methodLink RX5 154 yX5_keep, Cond.instanceMethod yX5_keep, Cond.selects RX5 yX5_keep yX5_keep, Cond.code yX5_keep cX5_keep 1 none, Cond.fieldLink RX5 32 "HouseBellsModel" "kept" "[I", Cond.methodLink RX5 49 arraycopyName, Cond.native arraycopyName, Cond.static arraycopyName, Cond.initialized "java/lang/System", Cond.methodLink RX5 124 yX5_minutesOn, Cond.instanceMethod yX5_minutesOn, Cond.selects RX5 yX5_minutesOn yX5_minutesOn, Cond.code yX5_minutesOn cX5_minutesOn 3 none, Cond.methodLink RX5 100 yX5_minuteOn, Cond.instanceMethod yX5_minuteOn, Cond.selects RX5 yX5_minuteOn yX5_minuteOn, Cond.code yX5_minuteOn cX5_minuteOn 2 none]
def wsX5_best_r2 : List Cond := [Cond.fieldLink RX5 46 "HouseBellsModel" "servants" "I", Cond.methodLink RX5 90 yX5_hold, Cond.instanceMethod yX5_hold, Cond.selects RX5 yX5_hold yX5_hold, Cond.code yX5_hold cX5_hold 2 none, Cond.fieldLink RX5 13 "HouseBellsModel" "patience" "[I", Cond.methodLink RX5 75 yX5_rings, Cond.instanceMethod yX5_rings, Cond.selects RX5 yX5_rings yX5_rings, Cond.code yX5_rings cX5_rings 3 (some .boolean), Cond.fieldLink RX5 22 "HouseBellsModel" "isCut" "[Z", Cond.fieldLink RX5 9 "HouseBellsModel" "floor" "[I", Cond.fieldLink RX5 19 "HouseBellsModel" "drop" "[I", Cond.methodLink RX5 55 yX5_inLine, Cond.instanceMethod yX5_inLine, Cond.selects RX5 yX5_inLine yX5_inLine, Cond.code yX5_inLine cX5_inLine 3 (some .int), Cond.methodLink RX5 93 yX5_work, Cond.instanceMethod yX5_work, Cond.selects RX5 yX5_work yX5_work, Cond.code yX5_work cX5_work 2 none, Cond.methodLink RX5 79 yX5_comeTo, Cond.instanceMethod yX5_comeTo, Cond.selects RX5 yX5_comeTo yX5_comeTo]
def wsX5_best_r3 : List Cond := [Cond.code yX5_comeTo cX5_comeTo 3 none, Cond.fieldLink RX5 16 "HouseBellsModel" "need" "[I", Cond.methodLink RX5 71 yX5_give, Cond.instanceMethod yX5_give, Cond.selects RX5 yX5_give yX5_give, Cond.code yX5_give cX5_give 5 none, Cond.methodLink RX5 96 yX5_sends, Cond.instanceMethod yX5_sends, Cond.selects RX5 yX5_sends yX5_sends, Cond.code yX5_sends cX5_sends 3 (some .boolean), Cond.methodLink RX5 83 yX5_nearest, Cond.instanceMethod yX5_nearest, Cond.selects RX5 yX5_nearest yX5_nearest, Cond.code yX5_nearest cX5_nearest 4 (some .int), Cond.methodLink RX5 68 yX5_way, Cond.instanceMethod yX5_way, Cond.selects RX5 yX5_way yX5_way, Cond.code yX5_way cX5_way 3 (some .int), Cond.methodLink RX5 59 Lib.Math.abs.name, Cond.static Lib.Math.abs.name, Cond.initialized "java/lang/Math", Cond.code Lib.Math.abs.name Lib.Math.abs.code 1 (some .int), Cond.fieldLink RX5 26 "HouseBellsModel" "pace" "[I", Cond.methodLink RX5 64 Lib.Math.max.name]
def wsX5_best_r4 : List Cond := [Cond.static Lib.Math.max.name, Cond.code Lib.Math.max.name Lib.Math.max.code 2 (some .int), Cond.methodLink RX5 86 yX5_takeOut, Cond.instanceMethod yX5_takeOut, Cond.selects RX5 yX5_takeOut yX5_takeOut, Cond.code yX5_takeOut cX5_takeOut 3 none, Cond.methodLink RX5 160 yX5_bringBack, Cond.instanceMethod yX5_bringBack, Cond.selects RX5 yX5_bringBack yX5_bringBack, Cond.code yX5_bringBack cX5_bringBack 1 none, Cond.methodLink RX5 113 yX5_swap, Cond.instanceMethod yX5_swap, Cond.selects RX5 yX5_swap yX5_swap, Cond.code yX5_swap cX5_swap 4 none]
def wsX5_best : List Cond := .code yX5_best cX5_best 6 (some .int) :: ((wsX5_best_r1 ++ (wsX5_best_r2 ++ (wsX5_best_r3 ++ wsX5_best_r4))) ++ wsX50)
def wsX5_bestToCross_r1 : List Cond := [Cond.methodLink RX5 106 yX5_isRoom, Cond.instanceMethod yX5_isRoom, Cond.selects RX5 yX5_isRoom yX5_isRoom, Cond.initialized RX5, Cond.code yX5_isRoom cX5_isRoom 2 (some .boolean), Cond.fieldLink RX5 39 "HouseBellsModel" "rooms" "I", Cond.methodLink RX5 42 yX5_isIn, Cond.static yX5_isIn, Cond.code yX5_isIn cX5_isIn 3 (some .boolean), Cond.methodLink RX5 109 yX5_isKnown, Cond.instanceMethod yX5_isKnown, Cond.selects RX5 yX5_isKnown yX5_isKnown, Cond.code yX5_isKnown cX5_isKnown 2 (some .boolean), Cond.fieldLink RX5 35 "HouseBellsModel" "thrown" "I", Cond.methodLink RX5 169 yX5_best, Cond.instanceMethod yX5_best, Cond.selects RX5 yX5_best yX5_best, Cond.code yX5_best cX5_best 6 (some .int), Cond.methodLink RX5 166 yX5_soon, Cond.instanceMethod yX5_soon, Cond.selects RX5 yX5_soon yX5_soon, Cond.code yX5_soon cX5_soon 3 (some .int), Cond.fieldLink RX5 29 "HouseBellsModel" "now" "[I", Cond.methodLink RX5 154 yX5_keep]
def wsX5_bestToCross_r2 : List Cond := [Cond.instanceMethod yX5_keep, Cond.selects RX5 yX5_keep yX5_keep, Cond.code yX5_keep cX5_keep 1 none, Cond.fieldLink RX5 32 "HouseBellsModel" "kept" "[I", Cond.methodLink RX5 49 arraycopyName, Cond.native arraycopyName, Cond.static arraycopyName, Cond.initialized "java/lang/System", Cond.methodLink RX5 124 yX5_minutesOn, Cond.instanceMethod yX5_minutesOn, Cond.selects RX5 yX5_minutesOn yX5_minutesOn, Cond.code yX5_minutesOn cX5_minutesOn 3 none, Cond.methodLink RX5 100 yX5_minuteOn, Cond.instanceMethod yX5_minuteOn, Cond.selects RX5 yX5_minuteOn yX5_minuteOn, Cond.code yX5_minuteOn cX5_minuteOn 2 none, Cond.fieldLink RX5 46 "HouseBellsModel" "servants" "I", Cond.methodLink RX5 90 yX5_hold, Cond.instanceMethod yX5_hold, Cond.selects RX5 yX5_hold yX5_hold, Cond.code yX5_hold cX5_hold 2 none, Cond.fieldLink RX5 13 "HouseBellsModel" "patience" "[I", Cond.methodLink RX5 75 yX5_rings, Cond.instanceMethod yX5_rings]
def wsX5_bestToCross_r3 : List Cond := [Cond.selects RX5 yX5_rings yX5_rings, Cond.code yX5_rings cX5_rings 3 (some .boolean), Cond.fieldLink RX5 22 "HouseBellsModel" "isCut" "[Z", Cond.fieldLink RX5 9 "HouseBellsModel" "floor" "[I", Cond.fieldLink RX5 19 "HouseBellsModel" "drop" "[I", Cond.methodLink RX5 55 yX5_inLine, Cond.instanceMethod yX5_inLine, Cond.selects RX5 yX5_inLine yX5_inLine, Cond.code yX5_inLine cX5_inLine 3 (some .int), Cond.methodLink RX5 93 yX5_work, Cond.instanceMethod yX5_work, Cond.selects RX5 yX5_work yX5_work, Cond.code yX5_work cX5_work 2 none, Cond.methodLink RX5 79 yX5_comeTo, Cond.instanceMethod yX5_comeTo, Cond.selects RX5 yX5_comeTo yX5_comeTo, Cond.code yX5_comeTo cX5_comeTo 3 none, Cond.fieldLink RX5 16 "HouseBellsModel" "need" "[I", Cond.methodLink RX5 71 yX5_give, Cond.instanceMethod yX5_give, Cond.selects RX5 yX5_give yX5_give, Cond.code yX5_give cX5_give 5 none, Cond.methodLink RX5 96 yX5_sends, Cond.instanceMethod yX5_sends]
def wsX5_bestToCross_r4 : List Cond := [Cond.selects RX5 yX5_sends yX5_sends, Cond.code yX5_sends cX5_sends 3 (some .boolean), Cond.methodLink RX5 83 yX5_nearest, Cond.instanceMethod yX5_nearest, Cond.selects RX5 yX5_nearest yX5_nearest, Cond.code yX5_nearest cX5_nearest 4 (some .int), Cond.methodLink RX5 68 yX5_way, Cond.instanceMethod yX5_way, Cond.selects RX5 yX5_way yX5_way, Cond.code yX5_way cX5_way 3 (some .int), Cond.methodLink RX5 59 Lib.Math.abs.name, Cond.static Lib.Math.abs.name, Cond.initialized "java/lang/Math", Cond.code Lib.Math.abs.name Lib.Math.abs.code 1 (some .int), Cond.fieldLink RX5 26 "HouseBellsModel" "pace" "[I", Cond.methodLink RX5 64 Lib.Math.max.name, Cond.static Lib.Math.max.name, Cond.code Lib.Math.max.name Lib.Math.max.code 2 (some .int), Cond.methodLink RX5 86 yX5_takeOut, Cond.instanceMethod yX5_takeOut, Cond.selects RX5 yX5_takeOut yX5_takeOut, Cond.code yX5_takeOut cX5_takeOut 3 none, Cond.methodLink RX5 160 yX5_bringBack, Cond.instanceMethod yX5_bringBack]
def wsX5_bestToCross_r5 : List Cond := [Cond.selects RX5 yX5_bringBack yX5_bringBack, Cond.code yX5_bringBack cX5_bringBack 1 none, Cond.methodLink RX5 113 yX5_swap, Cond.instanceMethod yX5_swap, Cond.selects RX5 yX5_swap yX5_swap, Cond.code yX5_swap cX5_swap 4 none]
def wsX5_bestToCross : List Cond := .code yX5_bestToCross cX5_bestToCross 2 (some .int) :: ((wsX5_bestToCross_r1 ++ (wsX5_bestToCross_r2 ++ (wsX5_bestToCross_r3 ++ (wsX5_bestToCross_r4 ++ wsX5_bestToCross_r5)))) ++ wsX50)
def wsX5_meanWait : List Cond := .code yX5_meanWait cX5_meanWait 4 (some .double) :: ([.fieldLink RX5 35 "HouseBellsModel" "thrown" "I", .fieldLink RX5 39 "HouseBellsModel" "rooms" "I", .fieldLink RX5 29 "HouseBellsModel" "now" "[I"] ++ wsX50)
def wsX5_digest_r1 : List Cond := [Cond.fieldLink RX5 35 "HouseBellsModel" "thrown" "I", Cond.arrayClass .int, Cond.fieldLink RX5 29 "HouseBellsModel" "now" "[I", Cond.fieldLink RX5 39 "HouseBellsModel" "rooms" "I", Cond.fieldLink RX5 46 "HouseBellsModel" "servants" "I", Cond.constantLong RX5 172 (2377), Cond.constantLong RX5 174 (31), Cond.fieldLink RX5 19 "HouseBellsModel" "drop" "[I", Cond.fieldLink RX5 22 "HouseBellsModel" "isCut" "[Z", Cond.methodLink RX5 133 yX5_longest, Cond.instanceMethod yX5_longest, Cond.selects RX5 yX5_longest yX5_longest, Cond.initialized RX5, Cond.code yX5_longest cX5_longest 3 (some .int), Cond.methodLink RX5 136 yX5_manyCrossed, Cond.instanceMethod yX5_manyCrossed, Cond.selects RX5 yX5_manyCrossed yX5_manyCrossed, Cond.code yX5_manyCrossed cX5_manyCrossed 3 (some .int), Cond.methodLink RX5 139 yX5_crossings, Cond.instanceMethod yX5_crossings, Cond.selects RX5 yX5_crossings yX5_crossings, Cond.code yX5_crossings cX5_crossings 4 (some .int), Cond.methodLink RX5 142 yX5_head, Cond.instanceMethod yX5_head]
def wsX5_digest_r2 : List Cond := [Cond.selects RX5 yX5_head yX5_head, Cond.code yX5_head cX5_head 1 (some .int), Cond.methodLink RX5 166 yX5_soon, Cond.instanceMethod yX5_soon, Cond.selects RX5 yX5_soon yX5_soon, Cond.code yX5_soon cX5_soon 3 (some .int), Cond.methodLink RX5 154 yX5_keep, Cond.instanceMethod yX5_keep, Cond.selects RX5 yX5_keep yX5_keep, Cond.code yX5_keep cX5_keep 1 none, Cond.fieldLink RX5 32 "HouseBellsModel" "kept" "[I", Cond.methodLink RX5 49 arraycopyName, Cond.native arraycopyName, Cond.static arraycopyName, Cond.initialized "java/lang/System", Cond.methodLink RX5 124 yX5_minutesOn, Cond.instanceMethod yX5_minutesOn, Cond.selects RX5 yX5_minutesOn yX5_minutesOn, Cond.code yX5_minutesOn cX5_minutesOn 3 none, Cond.methodLink RX5 100 yX5_minuteOn, Cond.instanceMethod yX5_minuteOn, Cond.selects RX5 yX5_minuteOn yX5_minuteOn, Cond.code yX5_minuteOn cX5_minuteOn 2 none, Cond.methodLink RX5 90 yX5_hold]
def wsX5_digest_r3 : List Cond := [Cond.instanceMethod yX5_hold, Cond.selects RX5 yX5_hold yX5_hold, Cond.code yX5_hold cX5_hold 2 none, Cond.fieldLink RX5 13 "HouseBellsModel" "patience" "[I", Cond.methodLink RX5 75 yX5_rings, Cond.instanceMethod yX5_rings, Cond.selects RX5 yX5_rings yX5_rings, Cond.code yX5_rings cX5_rings 3 (some .boolean), Cond.fieldLink RX5 9 "HouseBellsModel" "floor" "[I", Cond.methodLink RX5 55 yX5_inLine, Cond.instanceMethod yX5_inLine, Cond.selects RX5 yX5_inLine yX5_inLine, Cond.code yX5_inLine cX5_inLine 3 (some .int), Cond.methodLink RX5 93 yX5_work, Cond.instanceMethod yX5_work, Cond.selects RX5 yX5_work yX5_work, Cond.code yX5_work cX5_work 2 none, Cond.methodLink RX5 79 yX5_comeTo, Cond.instanceMethod yX5_comeTo, Cond.selects RX5 yX5_comeTo yX5_comeTo, Cond.code yX5_comeTo cX5_comeTo 3 none, Cond.fieldLink RX5 16 "HouseBellsModel" "need" "[I", Cond.methodLink RX5 71 yX5_give, Cond.instanceMethod yX5_give]
def wsX5_digest_r4 : List Cond := [Cond.selects RX5 yX5_give yX5_give, Cond.code yX5_give cX5_give 5 none, Cond.methodLink RX5 96 yX5_sends, Cond.instanceMethod yX5_sends, Cond.selects RX5 yX5_sends yX5_sends, Cond.code yX5_sends cX5_sends 3 (some .boolean), Cond.methodLink RX5 83 yX5_nearest, Cond.instanceMethod yX5_nearest, Cond.selects RX5 yX5_nearest yX5_nearest, Cond.code yX5_nearest cX5_nearest 4 (some .int), Cond.methodLink RX5 68 yX5_way, Cond.instanceMethod yX5_way, Cond.selects RX5 yX5_way yX5_way, Cond.code yX5_way cX5_way 3 (some .int), Cond.methodLink RX5 59 Lib.Math.abs.name, Cond.static Lib.Math.abs.name, Cond.initialized "java/lang/Math", Cond.code Lib.Math.abs.name Lib.Math.abs.code 1 (some .int), Cond.fieldLink RX5 26 "HouseBellsModel" "pace" "[I", Cond.methodLink RX5 64 Lib.Math.max.name, Cond.static Lib.Math.max.name, Cond.code Lib.Math.max.name Lib.Math.max.code 2 (some .int), Cond.methodLink RX5 86 yX5_takeOut, Cond.instanceMethod yX5_takeOut]
def wsX5_digest_r5 : List Cond := [Cond.selects RX5 yX5_takeOut yX5_takeOut, Cond.code yX5_takeOut cX5_takeOut 3 none, Cond.methodLink RX5 160 yX5_bringBack, Cond.instanceMethod yX5_bringBack, Cond.selects RX5 yX5_bringBack yX5_bringBack, Cond.code yX5_bringBack cX5_bringBack 1 none, Cond.methodLink RX5 130 yX5_leads, Cond.instanceMethod yX5_leads, Cond.selects RX5 yX5_leads yX5_leads, Cond.code yX5_leads cX5_leads 3 (some .int), Cond.methodLink RX5 145 yX5_left, Cond.instanceMethod yX5_left, Cond.selects RX5 yX5_left yX5_left, Cond.code yX5_left cX5_left 2 (some .int), Cond.methodLink RX5 163 yX5_untilServed, Cond.instanceMethod yX5_untilServed, Cond.selects RX5 yX5_untilServed yX5_untilServed, Cond.code yX5_untilServed cX5_untilServed 3 (some .int), Cond.methodLink RX5 157 yX5_isServed, Cond.instanceMethod yX5_isServed, Cond.selects RX5 yX5_isServed yX5_isServed, Cond.code yX5_isServed cX5_isServed 3 (some .boolean), Cond.methodLink RX5 151 yX5_whom, Cond.instanceMethod yX5_whom]
def wsX5_digest_r6 : List Cond := [Cond.selects RX5 yX5_whom yX5_whom, Cond.code yX5_whom cX5_whom 3 (some .int), Cond.methodLink RX5 169 yX5_best, Cond.instanceMethod yX5_best, Cond.selects RX5 yX5_best yX5_best, Cond.code yX5_best cX5_best 6 (some .int), Cond.methodLink RX5 113 yX5_swap, Cond.instanceMethod yX5_swap, Cond.selects RX5 yX5_swap yX5_swap, Cond.code yX5_swap cX5_swap 4 none]
def wsX5_digest : List Cond := .code yX5_digest cX5_digest 10 (some .long) :: ((wsX5_digest_r1 ++ (wsX5_digest_r2 ++ (wsX5_digest_r3 ++ (wsX5_digest_r4 ++ (wsX5_digest_r5 ++ wsX5_digest_r6))))) ++ wsX50)
def wsJ9_abs_0f7a4 : List Cond := .code yJ9_abs_0f7a4 cJ9_abs_0f7a4 1 (some .int) :: ([])
def wsJ9_max_7cf53 : List Cond := .code yJ9_max_7cf53 cJ9_max_7cf53 2 (some .int) :: ([])
def wsL_addRoom_r1 : List Cond := [Cond.classLink RL 13 "java/lang/IllegalArgumentException", Cond.classLink RL 15 "java/lang/IllegalStateException", Cond.methodLink RL 7 yX4_addRoom, Cond.instanceMethod yX4_addRoom, Cond.selects RX4 yX4_addRoom yX4_addRoom, Cond.initialized RX4, Cond.code yX4_addRoom cX4_addRoom 4 (some .int), Cond.classLink RX4 23 "java/lang/IllegalArgumentException", Cond.initialized "java/lang/IllegalArgumentException", Cond.classLink RX4 34 "java/lang/IllegalStateException", Cond.initialized "java/lang/IllegalStateException", Cond.fieldLink RX4 10 "HouseBells" "house" "LHouseBells$House;", Cond.methodLink RX4 19 yX4_isWithin, Cond.static yX4_isWithin, Cond.code yX4_isWithin cX4_isWithin 3 (some .boolean), Cond.methodLink RX4 39 yX0_openRoom, Cond.instanceMethod yX0_openRoom, Cond.selects RX0 yX0_openRoom yX0_openRoom, Cond.initialized RX0, Cond.code yX0_openRoom cX0_openRoom 5 (some .int), Cond.fieldLink RX0 54 "HouseBells$House" "roomCount" "I", Cond.fieldLink RX0 18 "HouseBells$House" "floor" "LHouseBells$Row;", Cond.fieldLink RX0 22 "HouseBells$House" "patience" "LHouseBells$Row;", Cond.fieldLink RX0 25 "HouseBells$House" "need" "LHouseBells$Row;"]
def wsL_addRoom_r2 : List Cond := [Cond.fieldLink RX0 28 "HouseBells$House" "wire" "LHouseBells$Row;", Cond.fieldLink RX0 31 "HouseBells$House" "cut" "LHouseBells$Row;", Cond.fieldLink RX0 34 "HouseBells$House" "waited" "LHouseBells$Row;", Cond.methodLink RX0 79 yX2_set, Cond.instanceMethod yX2_set, Cond.selects RX2 yX2_set yX2_set, Cond.initialized RX2, Cond.code yX2_set cX2_set 3 none, Cond.fieldLink RX2 9 "HouseBells$Row" "cells" "[I"]
def wsL_addRoom : List Cond := .codeWith yL_addRoom cL_addRoom 6 (some .int) [(0, 12, 15, 13), (0, 12, 19, 15)] :: ((wsL_addRoom_r1 ++ wsL_addRoom_r2) ++ wsX40 ++ wsX00 ++ wsX20 ++ (vx_atS RX4 27 "java/lang/IllegalArgumentException" ["java/lang/RuntimeException", "java/lang/Exception"]).filter goodWord ++ (vx_atS RX4 38 "java/lang/IllegalStateException" ["java/lang/RuntimeException", "java/lang/Exception"]).filter goodWord)
def wsL_addServant_r1 : List Cond := [Cond.classLink RL 13 "java/lang/IllegalArgumentException", Cond.classLink RL 15 "java/lang/IllegalStateException", Cond.methodLink RL 17 yX4_addServant, Cond.instanceMethod yX4_addServant, Cond.selects RX4 yX4_addServant yX4_addServant, Cond.initialized RX4, Cond.code yX4_addServant cX4_addServant 2 (some .int), Cond.classLink RX4 23 "java/lang/IllegalArgumentException", Cond.initialized "java/lang/IllegalArgumentException", Cond.classLink RX4 34 "java/lang/IllegalStateException", Cond.initialized "java/lang/IllegalStateException", Cond.fieldLink RX4 10 "HouseBells" "house" "LHouseBells$House;", Cond.methodLink RX4 19 yX4_isWithin, Cond.static yX4_isWithin, Cond.code yX4_isWithin cX4_isWithin 3 (some .boolean), Cond.methodLink RX4 56 yX3_hire, Cond.instanceMethod yX3_hire, Cond.selects RX3 yX3_hire yX3_hire, Cond.initialized RX3, Cond.code yX3_hire cX3_hire 3 (some .int), Cond.fieldLink RX3 30 "HouseBells$Staff" "count" "I", Cond.fieldLink RX3 12 "HouseBells$Staff" "pace" "LHouseBells$Row;", Cond.fieldLink RX3 18 "HouseBells$Staff" "floor" "LHouseBells$Row;", Cond.methodLink RX3 38 yX2_set]
def wsL_addServant_r2 : List Cond := [Cond.instanceMethod yX2_set, Cond.selects RX2 yX2_set yX2_set, Cond.initialized RX2, Cond.code yX2_set cX2_set 3 none, Cond.fieldLink RX2 9 "HouseBells$Row" "cells" "[I", Cond.methodLink RX3 42 yX3_rest, Cond.instanceMethod yX3_rest, Cond.selects RX3 yX3_rest yX3_rest, Cond.code yX3_rest cX3_rest 2 none, Cond.fieldLink RX3 21 "HouseBells$Staff" "goal" "LHouseBells$Row;", Cond.fieldLink RX3 24 "HouseBells$Staff" "guest" "LHouseBells$Row;", Cond.fieldLink RX3 27 "HouseBells$Staff" "left" "LHouseBells$Row;"]
def wsL_addServant : List Cond := .codeWith yL_addServant cL_addServant 4 (some .int) [(0, 9, 12, 13), (0, 9, 15, 15)] :: ((wsL_addServant_r1 ++ wsL_addServant_r2) ++ wsX40 ++ wsX00 ++ wsX30 ++ wsX20 ++ (vx_atS RX4 27 "java/lang/IllegalArgumentException" ["java/lang/RuntimeException", "java/lang/Exception"]).filter goodWord ++ (vx_atS RX4 38 "java/lang/IllegalStateException" ["java/lang/RuntimeException", "java/lang/Exception"]).filter goodWord)
def wsL_ring_r1 : List Cond := [Cond.classLink RL 25 "java/lang/IndexOutOfBoundsException", Cond.methodLink RL 21 yX4_ring, Cond.instanceMethod yX4_ring, Cond.selects RX4 yX4_ring yX4_ring, Cond.initialized RX4, Cond.code yX4_ring cX4_ring 3 (some .boolean), Cond.fieldLink RX4 10 "HouseBells" "house" "LHouseBells$House;", Cond.methodLink RX4 60 yX4_requireRoom, Cond.instanceMethod yX4_requireRoom, Cond.selects RX4 yX4_requireRoom yX4_requireRoom, Cond.code yX4_requireRoom cX4_requireRoom 2 none, Cond.classLink RX4 273 "java/lang/IndexOutOfBoundsException", Cond.initialized "java/lang/IndexOutOfBoundsException", Cond.methodLink RX4 64 yX0_pullBell, Cond.instanceMethod yX0_pullBell, Cond.selects RX0 yX0_pullBell yX0_pullBell, Cond.initialized RX0, Cond.code yX0_pullBell cX0_pullBell 4 (some .boolean), Cond.fieldLink RX0 18 "HouseBells$House" "floor" "LHouseBells$Row;", Cond.fieldLink RX0 31 "HouseBells$House" "cut" "LHouseBells$Row;", Cond.fieldLink RX0 9 "HouseBells$House" "charge" "I", Cond.fieldLink RX0 66 "HouseBells$House" "unheard" "I", Cond.fieldLink RX0 28 "HouseBells$House" "wire" "LHouseBells$Row;", Cond.fieldLink RX0 40 "HouseBells$House" "line" "LHouseBells$Line;"]
def wsL_ring_r2 : List Cond := [Cond.methodLink RX0 83 yX2_get, Cond.instanceMethod yX2_get, Cond.selects RX2 yX2_get yX2_get, Cond.initialized RX2, Cond.code yX2_get cX2_get 2 (some .int), Cond.fieldLink RX2 9 "HouseBells$Row" "cells" "[I", Cond.methodLink RX0 87 yX0_costFrom, Cond.static yX0_costFrom, Cond.code yX0_costFrom cX0_costFrom 1 (some .int), Cond.methodLink RX0 90 yX1_placeOf, Cond.instanceMethod yX1_placeOf, Cond.selects RX1 yX1_placeOf yX1_placeOf, Cond.initialized RX1, Cond.code yX1_placeOf cX1_placeOf 3 (some .int), Cond.fieldLink RX1 15 "HouseBells$Line" "count" "I", Cond.fieldLink RX1 9 "HouseBells$Line" "drops" "[I", Cond.methodLink RX0 93 yX1_append, Cond.instanceMethod yX1_append, Cond.selects RX1 yX1_append yX1_append, Cond.code yX1_append cX1_append 2 none, Cond.methodLink RX4 68 yX0_isWaiting, Cond.instanceMethod yX0_isWaiting, Cond.selects RX0 yX0_isWaiting yX0_isWaiting, Cond.code yX0_isWaiting cX0_isWaiting 2 (some .boolean)]
def wsL_ring_r3 : List Cond := [Cond.fieldLink RX0 34 "HouseBells$House" "waited" "LHouseBells$Row;", Cond.methodLink RX4 75 yX2_set, Cond.instanceMethod yX2_set, Cond.selects RX2 yX2_set yX2_set, Cond.code yX2_set cX2_set 3 none]
def wsL_ring : List Cond := .codeWith yL_ring cL_ring 4 (some .int) [(0, 16, 19, 25)] :: ((wsL_ring_r1 ++ (wsL_ring_r2 ++ wsL_ring_r3)) ++ wsX40 ++ wsX00 ++ wsX20 ++ wsX10 ++ (vx_atS RX4 277 "java/lang/IndexOutOfBoundsException" ["java/lang/RuntimeException", "java/lang/Exception"]).filter goodWord)
def wsL_cross_r1 : List Cond := [Cond.classLink RL 25 "java/lang/IndexOutOfBoundsException", Cond.classLink RL 13 "java/lang/IllegalArgumentException", Cond.methodLink RL 27 yX4_cross, Cond.instanceMethod yX4_cross, Cond.selects RX4 yX4_cross yX4_cross, Cond.initialized RX4, Cond.code yX4_cross cX4_cross 3 (some .int), Cond.classLink RX4 23 "java/lang/IllegalArgumentException", Cond.initialized "java/lang/IllegalArgumentException", Cond.fieldLink RX4 10 "HouseBells" "house" "LHouseBells$House;", Cond.methodLink RX4 60 yX4_requireRoom, Cond.instanceMethod yX4_requireRoom, Cond.selects RX4 yX4_requireRoom yX4_requireRoom, Cond.code yX4_requireRoom cX4_requireRoom 2 none, Cond.classLink RX4 273 "java/lang/IndexOutOfBoundsException", Cond.initialized "java/lang/IndexOutOfBoundsException", Cond.methodLink RX4 83 yX0_swapWires, Cond.instanceMethod yX0_swapWires, Cond.selects RX0 yX0_swapWires yX0_swapWires, Cond.initialized RX0, Cond.code yX0_swapWires cX0_swapWires 4 none, Cond.fieldLink RX0 28 "HouseBells$House" "wire" "LHouseBells$Row;", Cond.methodLink RX0 83 yX2_get, Cond.instanceMethod yX2_get]
def wsL_cross_r2 : List Cond := [Cond.selects RX2 yX2_get yX2_get, Cond.initialized RX2, Cond.code yX2_get cX2_get 2 (some .int), Cond.fieldLink RX2 9 "HouseBells$Row" "cells" "[I", Cond.methodLink RX0 79 yX2_set, Cond.instanceMethod yX2_set, Cond.selects RX2 yX2_set yX2_set, Cond.code yX2_set cX2_set 3 none, Cond.methodLink RX4 89 yX2_get]
def wsL_cross : List Cond := .codeWith yL_cross cL_cross 5 (some .int) [(0, 10, 13, 25), (0, 10, 17, 13)] :: ((wsL_cross_r1 ++ wsL_cross_r2) ++ wsX40 ++ wsX00 ++ wsX20 ++ (vx_atS RX4 27 "java/lang/IllegalArgumentException" ["java/lang/RuntimeException", "java/lang/Exception"]).filter goodWord ++ (vx_atS RX4 277 "java/lang/IndexOutOfBoundsException" ["java/lang/RuntimeException", "java/lang/Exception"]).filter goodWord)
def wsL_cut_r1 : List Cond := [Cond.classLink RL 25 "java/lang/IndexOutOfBoundsException", Cond.classLink RL 15 "java/lang/IllegalStateException", Cond.methodLink RL 31 yX4_cut, Cond.instanceMethod yX4_cut, Cond.selects RX4 yX4_cut yX4_cut, Cond.initialized RX4, Cond.code yX4_cut cX4_cut 2 (some .int), Cond.classLink RX4 34 "java/lang/IllegalStateException", Cond.initialized "java/lang/IllegalStateException", Cond.fieldLink RX4 10 "HouseBells" "house" "LHouseBells$House;", Cond.methodLink RX4 60 yX4_requireRoom, Cond.instanceMethod yX4_requireRoom, Cond.selects RX4 yX4_requireRoom yX4_requireRoom, Cond.code yX4_requireRoom cX4_requireRoom 2 none, Cond.classLink RX4 273 "java/lang/IndexOutOfBoundsException", Cond.initialized "java/lang/IndexOutOfBoundsException", Cond.methodLink RX4 92 yX0_isWireCut, Cond.instanceMethod yX0_isWireCut, Cond.selects RX0 yX0_isWireCut yX0_isWireCut, Cond.initialized RX0, Cond.code yX0_isWireCut cX0_isWireCut 2 (some .boolean), Cond.fieldLink RX0 31 "HouseBells$House" "cut" "LHouseBells$Row;", Cond.methodLink RX0 83 yX2_get, Cond.instanceMethod yX2_get]
def wsL_cut_r2 : List Cond := [Cond.selects RX2 yX2_get yX2_get, Cond.initialized RX2, Cond.code yX2_get cX2_get 2 (some .int), Cond.fieldLink RX2 9 "HouseBells$Row" "cells" "[I", Cond.methodLink RX4 75 yX2_set, Cond.instanceMethod yX2_set, Cond.selects RX2 yX2_set yX2_set, Cond.code yX2_set cX2_set 3 none, Cond.methodLink RX4 100 yX0_countCutWires, Cond.instanceMethod yX0_countCutWires, Cond.selects RX0 yX0_countCutWires yX0_countCutWires, Cond.code yX0_countCutWires cX0_countCutWires 3 (some .int), Cond.fieldLink RX0 54 "HouseBells$House" "roomCount" "I"]
def wsL_cut : List Cond := .codeWith yL_cut cL_cut 4 (some .int) [(0, 9, 12, 25), (0, 9, 15, 15)] :: ((wsL_cut_r1 ++ wsL_cut_r2) ++ wsX40 ++ wsX00 ++ wsX20 ++ (vx_atS RX4 38 "java/lang/IllegalStateException" ["java/lang/RuntimeException", "java/lang/Exception"]).filter goodWord ++ (vx_atS RX4 277 "java/lang/IndexOutOfBoundsException" ["java/lang/RuntimeException", "java/lang/Exception"]).filter goodWord)
def wsL_mend_r1 : List Cond := [Cond.classLink RL 25 "java/lang/IndexOutOfBoundsException", Cond.classLink RL 15 "java/lang/IllegalStateException", Cond.methodLink RL 34 yX4_mend, Cond.instanceMethod yX4_mend, Cond.selects RX4 yX4_mend yX4_mend, Cond.initialized RX4, Cond.code yX4_mend cX4_mend 2 (some .int), Cond.classLink RX4 34 "java/lang/IllegalStateException", Cond.initialized "java/lang/IllegalStateException", Cond.fieldLink RX4 10 "HouseBells" "house" "LHouseBells$House;", Cond.methodLink RX4 60 yX4_requireRoom, Cond.instanceMethod yX4_requireRoom, Cond.selects RX4 yX4_requireRoom yX4_requireRoom, Cond.code yX4_requireRoom cX4_requireRoom 2 none, Cond.classLink RX4 273 "java/lang/IndexOutOfBoundsException", Cond.initialized "java/lang/IndexOutOfBoundsException", Cond.methodLink RX4 92 yX0_isWireCut, Cond.instanceMethod yX0_isWireCut, Cond.selects RX0 yX0_isWireCut yX0_isWireCut, Cond.initialized RX0, Cond.code yX0_isWireCut cX0_isWireCut 2 (some .boolean), Cond.fieldLink RX0 31 "HouseBells$House" "cut" "LHouseBells$Row;", Cond.methodLink RX0 83 yX2_get, Cond.instanceMethod yX2_get]
def wsL_mend_r2 : List Cond := [Cond.selects RX2 yX2_get yX2_get, Cond.initialized RX2, Cond.code yX2_get cX2_get 2 (some .int), Cond.fieldLink RX2 9 "HouseBells$Row" "cells" "[I", Cond.methodLink RX4 75 yX2_set, Cond.instanceMethod yX2_set, Cond.selects RX2 yX2_set yX2_set, Cond.code yX2_set cX2_set 3 none, Cond.methodLink RX4 100 yX0_countCutWires, Cond.instanceMethod yX0_countCutWires, Cond.selects RX0 yX0_countCutWires yX0_countCutWires, Cond.code yX0_countCutWires cX0_countCutWires 3 (some .int), Cond.fieldLink RX0 54 "HouseBells$House" "roomCount" "I"]
def wsL_mend : List Cond := .codeWith yL_mend cL_mend 4 (some .int) [(0, 9, 12, 25), (0, 9, 15, 15)] :: ((wsL_mend_r1 ++ wsL_mend_r2) ++ wsX40 ++ wsX00 ++ wsX20 ++ (vx_atS RX4 38 "java/lang/IllegalStateException" ["java/lang/RuntimeException", "java/lang/Exception"]).filter goodWord ++ (vx_atS RX4 277 "java/lang/IndexOutOfBoundsException" ["java/lang/RuntimeException", "java/lang/Exception"]).filter goodWord)
def wsL_recharge : List Cond := .codeWith yL_recharge cL_recharge 4 (some .int) [(0, 9, 12, 13)] :: ([.classLink RL 13 "java/lang/IllegalArgumentException", .methodLink RL 37 yX4_recharge, .instanceMethod yX4_recharge, .selects RX4 yX4_recharge yX4_recharge, .initialized RX4, .code yX4_recharge cX4_recharge 3 (some .int), .classLink RX4 23 "java/lang/IllegalArgumentException", .initialized "java/lang/IllegalArgumentException", .fieldLink RX4 10 "HouseBells" "house" "LHouseBells$House;", .methodLink RX4 19 yX4_isWithin, .static yX4_isWithin, .code yX4_isWithin cX4_isWithin 3 (some .boolean)] ++ wsX40 ++ wsX00 ++ (vx_atS RX4 27 "java/lang/IllegalArgumentException" ["java/lang/RuntimeException", "java/lang/Exception"]).filter goodWord)
def wsL_putUp_r1 : List Cond := [Cond.classLink RL 25 "java/lang/IndexOutOfBoundsException", Cond.classLink RL 15 "java/lang/IllegalStateException", Cond.methodLink RL 40 yX4_putUp, Cond.instanceMethod yX4_putUp, Cond.selects RX4 yX4_putUp yX4_putUp, Cond.initialized RX4, Cond.code yX4_putUp cX4_putUp 2 (some .int), Cond.classLink RX4 34 "java/lang/IllegalStateException", Cond.initialized "java/lang/IllegalStateException", Cond.fieldLink RX4 10 "HouseBells" "house" "LHouseBells$House;", Cond.methodLink RX4 60 yX4_requireRoom, Cond.instanceMethod yX4_requireRoom, Cond.selects RX4 yX4_requireRoom yX4_requireRoom, Cond.code yX4_requireRoom cX4_requireRoom 2 none, Cond.classLink RX4 273 "java/lang/IndexOutOfBoundsException", Cond.initialized "java/lang/IndexOutOfBoundsException", Cond.methodLink RX4 115 yX1_placeOf, Cond.instanceMethod yX1_placeOf, Cond.selects RX1 yX1_placeOf yX1_placeOf, Cond.initialized RX1, Cond.code yX1_placeOf cX1_placeOf 3 (some .int), Cond.fieldLink RX1 15 "HouseBells$Line" "count" "I", Cond.fieldLink RX1 9 "HouseBells$Line" "drops" "[I", Cond.methodLink RX4 122 yX1_remove]
def wsL_putUp_r2 : List Cond := [Cond.instanceMethod yX1_remove, Cond.selects RX1 yX1_remove yX1_remove, Cond.code yX1_remove cX1_remove 4 none]
def wsL_putUp : List Cond := .codeWith yL_putUp cL_putUp 4 (some .int) [(0, 9, 12, 25), (0, 9, 15, 15)] :: ((wsL_putUp_r1 ++ wsL_putUp_r2) ++ wsX40 ++ wsX00 ++ wsX10 ++ (vx_atS RX4 38 "java/lang/IllegalStateException" ["java/lang/RuntimeException", "java/lang/Exception"]).filter goodWord ++ (vx_atS RX4 277 "java/lang/IndexOutOfBoundsException" ["java/lang/RuntimeException", "java/lang/Exception"]).filter goodWord)
def wsL_pass_r1 : List Cond := [Cond.classLink RL 13 "java/lang/IllegalArgumentException", Cond.methodLink RL 43 yX4_pass, Cond.instanceMethod yX4_pass, Cond.selects RX4 yX4_pass yX4_pass, Cond.initialized RX4, Cond.code yX4_pass cX4_pass 4 (some .int), Cond.fieldLink RX4 10 "HouseBells" "house" "LHouseBells$House;", Cond.methodLink RX4 126 yX4_requireMinutes, Cond.static yX4_requireMinutes, Cond.code yX4_requireMinutes cX4_requireMinutes 1 none, Cond.classLink RX4 23 "java/lang/IllegalArgumentException", Cond.initialized "java/lang/IllegalArgumentException", Cond.methodLink RX4 19 yX4_isWithin, Cond.static yX4_isWithin, Cond.code yX4_isWithin cX4_isWithin 3 (some .boolean), Cond.methodLink RX4 129 yX0_letMinuteGoBy, Cond.instanceMethod yX0_letMinuteGoBy, Cond.selects RX0 yX0_letMinuteGoBy yX0_letMinuteGoBy, Cond.initialized RX0, Cond.code yX0_letMinuteGoBy cX0_letMinuteGoBy 2 (some .int), Cond.fieldLink RX0 57 "HouseBells$House" "served" "I", Cond.fieldLink RX0 51 "HouseBells$House" "minute" "I", Cond.methodLink RX0 97 yX0_letRoomsWait, Cond.instanceMethod yX0_letRoomsWait]
def wsL_pass_r2 : List Cond := [Cond.selects RX0 yX0_letRoomsWait yX0_letRoomsWait, Cond.code yX0_letRoomsWait cX0_letRoomsWait 3 none, Cond.fieldLink RX0 54 "HouseBells$House" "roomCount" "I", Cond.fieldLink RX0 34 "HouseBells$House" "waited" "LHouseBells$Row;", Cond.fieldLink RX0 63 "HouseBells$House" "gaveUp" "I", Cond.fieldLink RX0 22 "HouseBells$House" "patience" "LHouseBells$Row;", Cond.methodLink RX0 83 yX2_get, Cond.instanceMethod yX2_get, Cond.selects RX2 yX2_get yX2_get, Cond.initialized RX2, Cond.code yX2_get cX2_get 2 (some .int), Cond.fieldLink RX2 9 "HouseBells$Row" "cells" "[I", Cond.methodLink RX0 79 yX2_set, Cond.instanceMethod yX2_set, Cond.selects RX2 yX2_set yX2_set, Cond.code yX2_set cX2_set 3 none, Cond.methodLink RX0 106 yX0_isMultiple, Cond.static yX0_isMultiple, Cond.code yX0_isMultiple cX0_isMultiple 2 (some .boolean), Cond.methodLink RX0 110 yX0_pullBell, Cond.instanceMethod yX0_pullBell, Cond.selects RX0 yX0_pullBell yX0_pullBell, Cond.code yX0_pullBell cX0_pullBell 4 (some .boolean), Cond.fieldLink RX0 18 "HouseBells$House" "floor" "LHouseBells$Row;"]
def wsL_pass_r3 : List Cond := [Cond.fieldLink RX0 31 "HouseBells$House" "cut" "LHouseBells$Row;", Cond.fieldLink RX0 9 "HouseBells$House" "charge" "I", Cond.fieldLink RX0 66 "HouseBells$House" "unheard" "I", Cond.fieldLink RX0 28 "HouseBells$House" "wire" "LHouseBells$Row;", Cond.fieldLink RX0 40 "HouseBells$House" "line" "LHouseBells$Line;", Cond.methodLink RX0 87 yX0_costFrom, Cond.static yX0_costFrom, Cond.code yX0_costFrom cX0_costFrom 1 (some .int), Cond.methodLink RX0 90 yX1_placeOf, Cond.instanceMethod yX1_placeOf, Cond.selects RX1 yX1_placeOf yX1_placeOf, Cond.initialized RX1, Cond.code yX1_placeOf cX1_placeOf 3 (some .int), Cond.fieldLink RX1 15 "HouseBells$Line" "count" "I", Cond.fieldLink RX1 9 "HouseBells$Line" "drops" "[I", Cond.methodLink RX0 93 yX1_append, Cond.instanceMethod yX1_append, Cond.selects RX1 yX1_append yX1_append, Cond.code yX1_append cX1_append 2 none, Cond.methodLink RX0 100 yX0_letServantsMove, Cond.instanceMethod yX0_letServantsMove, Cond.selects RX0 yX0_letServantsMove yX0_letServantsMove, Cond.code yX0_letServantsMove cX0_letServantsMove 4 none, Cond.fieldLink RX0 47 "HouseBells$House" "staff" "LHouseBells$Staff;"]
def wsL_pass_r4 : List Cond := [Cond.methodLink RX0 117 yX3_isIdle, Cond.instanceMethod yX3_isIdle, Cond.selects RX3 yX3_isIdle yX3_isIdle, Cond.initialized RX3, Cond.code yX3_isIdle cX3_isIdle 2 (some .boolean), Cond.fieldLink RX3 21 "HouseBells$Staff" "goal" "LHouseBells$Row;", Cond.fieldLink RX3 24 "HouseBells$Staff" "guest" "LHouseBells$Row;", Cond.methodLink RX3 46 yX2_get, Cond.methodLink RX0 126 yX3_rest, Cond.instanceMethod yX3_rest, Cond.selects RX3 yX3_rest yX3_rest, Cond.code yX3_rest cX3_rest 2 none, Cond.fieldLink RX3 27 "HouseBells$Staff" "left" "LHouseBells$Row;", Cond.methodLink RX3 38 yX2_set, Cond.methodLink RX0 129 yX0_arrive, Cond.instanceMethod yX0_arrive, Cond.selects RX0 yX0_arrive yX0_arrive, Cond.code yX0_arrive cX0_arrive 3 none, Cond.fieldLink RX0 60 "HouseBells$House" "inVain" "I", Cond.fieldLink RX0 25 "HouseBells$House" "need" "LHouseBells$Row;", Cond.methodLink RX0 103 yX0_sendIdleServants, Cond.instanceMethod yX0_sendIdleServants, Cond.selects RX0 yX0_sendIdleServants yX0_sendIdleServants, Cond.code yX0_sendIdleServants cX0_sendIdleServants 5 none]
def wsL_pass_r5 : List Cond := [Cond.methodLink RX0 137 yX1_first, Cond.instanceMethod yX1_first, Cond.selects RX1 yX1_first yX1_first, Cond.code yX1_first cX1_first 1 (some .int), Cond.methodLink RX0 141 yX3_nearestTo, Cond.instanceMethod yX3_nearestTo, Cond.selects RX3 yX3_nearestTo yX3_nearestTo, Cond.code yX3_nearestTo cX3_nearestTo 6 (some .int), Cond.fieldLink RX3 30 "HouseBells$Staff" "count" "I", Cond.fieldLink RX3 18 "HouseBells$Staff" "floor" "LHouseBells$Row;", Cond.fieldLink RX3 12 "HouseBells$Staff" "pace" "LHouseBells$Row;", Cond.methodLink RX3 50 yX3_minutesOfWay, Cond.static yX3_minutesOfWay, Cond.code yX3_minutesOfWay cX3_minutesOfWay 5 (some .int), Cond.methodLink RX0 144 yX1_remove, Cond.instanceMethod yX1_remove, Cond.selects RX1 yX1_remove yX1_remove, Cond.code yX1_remove cX1_remove 4 none, Cond.methodLink RX0 147 yX3_wayToFloor, Cond.instanceMethod yX3_wayToFloor, Cond.selects RX3 yX3_wayToFloor yX3_wayToFloor, Cond.code yX3_wayToFloor cX3_wayToFloor 3 (some .int)]
def wsL_pass : List Cond := .codeWith yL_pass cL_pass 4 (some .int) [(0, 9, 12, 13)] :: ((wsL_pass_r1 ++ (wsL_pass_r2 ++ (wsL_pass_r3 ++ (wsL_pass_r4 ++ wsL_pass_r5)))) ++ wsX40 ++ wsX00 ++ wsX20 ++ wsX10 ++ wsX30 ++ (vx_atS RX4 27 "java/lang/IllegalArgumentException" ["java/lang/RuntimeException", "java/lang/Exception"]).filter goodWord)
def wsL_dropOf : List Cond := .codeWith yL_dropOf cL_dropOf 4 (some .int) [(0, 9, 12, 25)] :: ([.classLink RL 25 "java/lang/IndexOutOfBoundsException", .methodLink RL 46 yX4_dropOf, .instanceMethod yX4_dropOf, .selects RX4 yX4_dropOf yX4_dropOf, .initialized RX4, .code yX4_dropOf cX4_dropOf 2 (some .int), .fieldLink RX4 10 "HouseBells" "house" "LHouseBells$House;", .methodLink RX4 60 yX4_requireRoom, .instanceMethod yX4_requireRoom, .selects RX4 yX4_requireRoom yX4_requireRoom, .code yX4_requireRoom cX4_requireRoom 2 none, .classLink RX4 273 "java/lang/IndexOutOfBoundsException", .initialized "java/lang/IndexOutOfBoundsException", .methodLink RX4 89 yX2_get, .instanceMethod yX2_get, .selects RX2 yX2_get yX2_get, .initialized RX2, .code yX2_get cX2_get 2 (some .int), .fieldLink RX2 9 "HouseBells$Row" "cells" "[I"] ++ wsX40 ++ wsX00 ++ wsX20 ++ (vx_atS RX4 277 "java/lang/IndexOutOfBoundsException" ["java/lang/RuntimeException", "java/lang/Exception"]).filter goodWord)
def wsL_roomOf : List Cond := .codeWith yL_roomOf cL_roomOf 4 (some .int) [(0, 9, 12, 25)] :: ([.classLink RL 25 "java/lang/IndexOutOfBoundsException", .methodLink RL 49 yX4_roomOf, .instanceMethod yX4_roomOf, .selects RX4 yX4_roomOf yX4_roomOf, .initialized RX4, .code yX4_roomOf cX4_roomOf 3 (some .int), .fieldLink RX4 10 "HouseBells" "house" "LHouseBells$House;", .methodLink RX4 60 yX4_requireRoom, .instanceMethod yX4_requireRoom, .selects RX4 yX4_requireRoom yX4_requireRoom, .code yX4_requireRoom cX4_requireRoom 2 none, .classLink RX4 273 "java/lang/IndexOutOfBoundsException", .initialized "java/lang/IndexOutOfBoundsException", .methodLink RX4 89 yX2_get, .instanceMethod yX2_get, .selects RX2 yX2_get yX2_get, .initialized RX2, .code yX2_get cX2_get 2 (some .int), .fieldLink RX2 9 "HouseBells$Row" "cells" "[I"] ++ wsX40 ++ wsX00 ++ wsX20 ++ (vx_atS RX4 277 "java/lang/IndexOutOfBoundsException" ["java/lang/RuntimeException", "java/lang/Exception"]).filter goodWord)
def wsL_isCut_r1 : List Cond := [Cond.classLink RL 25 "java/lang/IndexOutOfBoundsException", Cond.methodLink RL 52 yX4_isCut, Cond.instanceMethod yX4_isCut, Cond.selects RX4 yX4_isCut yX4_isCut, Cond.initialized RX4, Cond.code yX4_isCut cX4_isCut 2 (some .boolean), Cond.fieldLink RX4 10 "HouseBells" "house" "LHouseBells$House;", Cond.methodLink RX4 60 yX4_requireRoom, Cond.instanceMethod yX4_requireRoom, Cond.selects RX4 yX4_requireRoom yX4_requireRoom, Cond.code yX4_requireRoom cX4_requireRoom 2 none, Cond.classLink RX4 273 "java/lang/IndexOutOfBoundsException", Cond.initialized "java/lang/IndexOutOfBoundsException", Cond.methodLink RX4 92 yX0_isWireCut, Cond.instanceMethod yX0_isWireCut, Cond.selects RX0 yX0_isWireCut yX0_isWireCut, Cond.initialized RX0, Cond.code yX0_isWireCut cX0_isWireCut 2 (some .boolean), Cond.fieldLink RX0 31 "HouseBells$House" "cut" "LHouseBells$Row;", Cond.methodLink RX0 83 yX2_get, Cond.instanceMethod yX2_get, Cond.selects RX2 yX2_get yX2_get, Cond.initialized RX2, Cond.code yX2_get cX2_get 2 (some .int)]
def wsL_isCut_r2 : List Cond := [Cond.fieldLink RX2 9 "HouseBells$Row" "cells" "[I"]
def wsL_isCut : List Cond := .codeWith yL_isCut cL_isCut 4 (some .int) [(0, 16, 19, 25)] :: ((wsL_isCut_r1 ++ wsL_isCut_r2) ++ wsX40 ++ wsX00 ++ wsX20 ++ (vx_atS RX4 277 "java/lang/IndexOutOfBoundsException" ["java/lang/RuntimeException", "java/lang/Exception"]).filter goodWord)
def wsL_waitedFor : List Cond := .codeWith yL_waitedFor cL_waitedFor 4 (some .int) [(0, 9, 12, 25)] :: ([.classLink RL 25 "java/lang/IndexOutOfBoundsException", .methodLink RL 55 yX4_waitedFor, .instanceMethod yX4_waitedFor, .selects RX4 yX4_waitedFor yX4_waitedFor, .initialized RX4, .code yX4_waitedFor cX4_waitedFor 2 (some .int), .fieldLink RX4 10 "HouseBells" "house" "LHouseBells$House;", .methodLink RX4 60 yX4_requireRoom, .instanceMethod yX4_requireRoom, .selects RX4 yX4_requireRoom yX4_requireRoom, .code yX4_requireRoom cX4_requireRoom 2 none, .classLink RX4 273 "java/lang/IndexOutOfBoundsException", .initialized "java/lang/IndexOutOfBoundsException", .methodLink RX4 89 yX2_get, .instanceMethod yX2_get, .selects RX2 yX2_get yX2_get, .initialized RX2, .code yX2_get cX2_get 2 (some .int), .fieldLink RX2 9 "HouseBells$Row" "cells" "[I"] ++ wsX40 ++ wsX00 ++ wsX20 ++ (vx_atS RX4 277 "java/lang/IndexOutOfBoundsException" ["java/lang/RuntimeException", "java/lang/Exception"]).filter goodWord)
def wsL_hasFallen : List Cond := .codeWith yL_hasFallen cL_hasFallen 4 (some .int) [(0, 16, 19, 25)] :: ([.classLink RL 25 "java/lang/IndexOutOfBoundsException", .methodLink RL 58 yX4_hasFallen, .instanceMethod yX4_hasFallen, .selects RX4 yX4_hasFallen yX4_hasFallen, .initialized RX4, .code yX4_hasFallen cX4_hasFallen 2 (some .boolean), .fieldLink RX4 10 "HouseBells" "house" "LHouseBells$House;", .methodLink RX4 60 yX4_requireRoom, .instanceMethod yX4_requireRoom, .selects RX4 yX4_requireRoom yX4_requireRoom, .code yX4_requireRoom cX4_requireRoom 2 none, .classLink RX4 273 "java/lang/IndexOutOfBoundsException", .initialized "java/lang/IndexOutOfBoundsException", .methodLink RX4 115 yX1_placeOf, .instanceMethod yX1_placeOf, .selects RX1 yX1_placeOf yX1_placeOf, .initialized RX1, .code yX1_placeOf cX1_placeOf 3 (some .int), .fieldLink RX1 15 "HouseBells$Line" "count" "I", .fieldLink RX1 9 "HouseBells$Line" "drops" "[I"] ++ wsX40 ++ wsX00 ++ wsX10 ++ (vx_atS RX4 277 "java/lang/IndexOutOfBoundsException" ["java/lang/RuntimeException", "java/lang/Exception"]).filter goodWord)
def wsL_placeInLine : List Cond := .codeWith yL_placeInLine cL_placeInLine 4 (some .int) [(0, 9, 12, 25)] :: ([.classLink RL 25 "java/lang/IndexOutOfBoundsException", .methodLink RL 61 yX4_placeInLine, .instanceMethod yX4_placeInLine, .selects RX4 yX4_placeInLine yX4_placeInLine, .initialized RX4, .code yX4_placeInLine cX4_placeInLine 2 (some .int), .fieldLink RX4 10 "HouseBells" "house" "LHouseBells$House;", .methodLink RX4 60 yX4_requireRoom, .instanceMethod yX4_requireRoom, .selects RX4 yX4_requireRoom yX4_requireRoom, .code yX4_requireRoom cX4_requireRoom 2 none, .classLink RX4 273 "java/lang/IndexOutOfBoundsException", .initialized "java/lang/IndexOutOfBoundsException", .methodLink RX4 115 yX1_placeOf, .instanceMethod yX1_placeOf, .selects RX1 yX1_placeOf yX1_placeOf, .initialized RX1, .code yX1_placeOf cX1_placeOf 3 (some .int), .fieldLink RX1 15 "HouseBells$Line" "count" "I", .fieldLink RX1 9 "HouseBells$Line" "drops" "[I"] ++ wsX40 ++ wsX00 ++ wsX10 ++ (vx_atS RX4 277 "java/lang/IndexOutOfBoundsException" ["java/lang/RuntimeException", "java/lang/Exception"]).filter goodWord)
def wsL_ringsLeft_r1 : List Cond := [Cond.classLink RL 25 "java/lang/IndexOutOfBoundsException", Cond.methodLink RL 64 yX4_ringsLeft, Cond.instanceMethod yX4_ringsLeft, Cond.selects RX4 yX4_ringsLeft yX4_ringsLeft, Cond.initialized RX4, Cond.code yX4_ringsLeft cX4_ringsLeft 2 (some .int), Cond.fieldLink RX4 10 "HouseBells" "house" "LHouseBells$House;", Cond.methodLink RX4 60 yX4_requireRoom, Cond.instanceMethod yX4_requireRoom, Cond.selects RX4 yX4_requireRoom yX4_requireRoom, Cond.code yX4_requireRoom cX4_requireRoom 2 none, Cond.classLink RX4 273 "java/lang/IndexOutOfBoundsException", Cond.initialized "java/lang/IndexOutOfBoundsException", Cond.methodLink RX4 92 yX0_isWireCut, Cond.instanceMethod yX0_isWireCut, Cond.selects RX0 yX0_isWireCut yX0_isWireCut, Cond.initialized RX0, Cond.code yX0_isWireCut cX0_isWireCut 2 (some .boolean), Cond.fieldLink RX0 31 "HouseBells$House" "cut" "LHouseBells$Row;", Cond.methodLink RX0 83 yX2_get, Cond.instanceMethod yX2_get, Cond.selects RX2 yX2_get yX2_get, Cond.initialized RX2, Cond.code yX2_get cX2_get 2 (some .int)]
def wsL_ringsLeft_r2 : List Cond := [Cond.fieldLink RX2 9 "HouseBells$Row" "cells" "[I", Cond.methodLink RX4 89 yX2_get, Cond.methodLink RX4 156 yX0_costFrom, Cond.static yX0_costFrom, Cond.code yX0_costFrom cX0_costFrom 1 (some .int), Cond.methodLink RX4 159 yX4_quotient, Cond.static yX4_quotient, Cond.code yX4_quotient cX4_quotient 2 (some .int)]
def wsL_ringsLeft : List Cond := .codeWith yL_ringsLeft cL_ringsLeft 4 (some .int) [(0, 9, 12, 25)] :: ((wsL_ringsLeft_r1 ++ wsL_ringsLeft_r2) ++ wsX40 ++ wsX00 ++ wsX20 ++ (vx_atS RX4 277 "java/lang/IndexOutOfBoundsException" ["java/lang/RuntimeException", "java/lang/Exception"]).filter goodWord)
def wsL_floorOf : List Cond := .codeWith yL_floorOf cL_floorOf 4 (some .int) [(0, 9, 12, 25)] :: ([.classLink RL 25 "java/lang/IndexOutOfBoundsException", .methodLink RL 67 yX4_floorOf, .instanceMethod yX4_floorOf, .selects RX4 yX4_floorOf yX4_floorOf, .initialized RX4, .code yX4_floorOf cX4_floorOf 2 (some .int), .fieldLink RX4 10 "HouseBells" "house" "LHouseBells$House;", .methodLink RX4 163 yX4_requireServant, .instanceMethod yX4_requireServant, .selects RX4 yX4_requireServant yX4_requireServant, .code yX4_requireServant cX4_requireServant 2 none, .classLink RX4 273 "java/lang/IndexOutOfBoundsException", .initialized "java/lang/IndexOutOfBoundsException", .methodLink RX4 89 yX2_get, .instanceMethod yX2_get, .selects RX2 yX2_get yX2_get, .initialized RX2, .code yX2_get cX2_get 2 (some .int), .fieldLink RX2 9 "HouseBells$Row" "cells" "[I"] ++ wsX40 ++ wsX00 ++ wsX30 ++ wsX20 ++ (vx_atS RX4 277 "java/lang/IndexOutOfBoundsException" ["java/lang/RuntimeException", "java/lang/Exception"]).filter goodWord)
def wsL_goesTo : List Cond := .codeWith yL_goesTo cL_goesTo 4 (some .int) [(0, 9, 12, 25)] :: ([.classLink RL 25 "java/lang/IndexOutOfBoundsException", .methodLink RL 70 yX4_goesTo, .instanceMethod yX4_goesTo, .selects RX4 yX4_goesTo yX4_goesTo, .initialized RX4, .code yX4_goesTo cX4_goesTo 2 (some .int), .fieldLink RX4 10 "HouseBells" "house" "LHouseBells$House;", .methodLink RX4 163 yX4_requireServant, .instanceMethod yX4_requireServant, .selects RX4 yX4_requireServant yX4_requireServant, .code yX4_requireServant cX4_requireServant 2 none, .classLink RX4 273 "java/lang/IndexOutOfBoundsException", .initialized "java/lang/IndexOutOfBoundsException", .methodLink RX4 89 yX2_get, .instanceMethod yX2_get, .selects RX2 yX2_get yX2_get, .initialized RX2, .code yX2_get cX2_get 2 (some .int), .fieldLink RX2 9 "HouseBells$Row" "cells" "[I"] ++ wsX40 ++ wsX00 ++ wsX30 ++ wsX20 ++ (vx_atS RX4 277 "java/lang/IndexOutOfBoundsException" ["java/lang/RuntimeException", "java/lang/Exception"]).filter goodWord)
def wsL_serves : List Cond := .codeWith yL_serves cL_serves 4 (some .int) [(0, 9, 12, 25)] :: ([.classLink RL 25 "java/lang/IndexOutOfBoundsException", .methodLink RL 73 yX4_serves, .instanceMethod yX4_serves, .selects RX4 yX4_serves yX4_serves, .initialized RX4, .code yX4_serves cX4_serves 2 (some .int), .fieldLink RX4 10 "HouseBells" "house" "LHouseBells$House;", .methodLink RX4 163 yX4_requireServant, .instanceMethod yX4_requireServant, .selects RX4 yX4_requireServant yX4_requireServant, .code yX4_requireServant cX4_requireServant 2 none, .classLink RX4 273 "java/lang/IndexOutOfBoundsException", .initialized "java/lang/IndexOutOfBoundsException", .methodLink RX4 89 yX2_get, .instanceMethod yX2_get, .selects RX2 yX2_get yX2_get, .initialized RX2, .code yX2_get cX2_get 2 (some .int), .fieldLink RX2 9 "HouseBells$Row" "cells" "[I"] ++ wsX40 ++ wsX00 ++ wsX30 ++ wsX20 ++ (vx_atS RX4 277 "java/lang/IndexOutOfBoundsException" ["java/lang/RuntimeException", "java/lang/Exception"]).filter goodWord)
def wsL_minutesLeft : List Cond := .codeWith yL_minutesLeft cL_minutesLeft 4 (some .int) [(0, 9, 12, 25)] :: ([.classLink RL 25 "java/lang/IndexOutOfBoundsException", .methodLink RL 76 yX4_minutesLeft, .instanceMethod yX4_minutesLeft, .selects RX4 yX4_minutesLeft yX4_minutesLeft, .initialized RX4, .code yX4_minutesLeft cX4_minutesLeft 2 (some .int), .fieldLink RX4 10 "HouseBells" "house" "LHouseBells$House;", .methodLink RX4 163 yX4_requireServant, .instanceMethod yX4_requireServant, .selects RX4 yX4_requireServant yX4_requireServant, .code yX4_requireServant cX4_requireServant 2 none, .classLink RX4 273 "java/lang/IndexOutOfBoundsException", .initialized "java/lang/IndexOutOfBoundsException", .methodLink RX4 89 yX2_get, .instanceMethod yX2_get, .selects RX2 yX2_get yX2_get, .initialized RX2, .code yX2_get cX2_get 2 (some .int), .fieldLink RX2 9 "HouseBells$Row" "cells" "[I"] ++ wsX40 ++ wsX00 ++ wsX30 ++ wsX20 ++ (vx_atS RX4 277 "java/lang/IndexOutOfBoundsException" ["java/lang/RuntimeException", "java/lang/Exception"]).filter goodWord)
def wsL_wayTo_r1 : List Cond := [Cond.classLink RL 25 "java/lang/IndexOutOfBoundsException", Cond.methodLink RL 79 yX4_wayTo, Cond.instanceMethod yX4_wayTo, Cond.selects RX4 yX4_wayTo yX4_wayTo, Cond.initialized RX4, Cond.code yX4_wayTo cX4_wayTo 3 (some .int), Cond.fieldLink RX4 10 "HouseBells" "house" "LHouseBells$House;", Cond.methodLink RX4 163 yX4_requireServant, Cond.instanceMethod yX4_requireServant, Cond.selects RX4 yX4_requireServant yX4_requireServant, Cond.code yX4_requireServant cX4_requireServant 2 none, Cond.classLink RX4 273 "java/lang/IndexOutOfBoundsException", Cond.initialized "java/lang/IndexOutOfBoundsException", Cond.methodLink RX4 60 yX4_requireRoom, Cond.instanceMethod yX4_requireRoom, Cond.selects RX4 yX4_requireRoom yX4_requireRoom, Cond.code yX4_requireRoom cX4_requireRoom 2 none, Cond.methodLink RX4 89 yX2_get, Cond.instanceMethod yX2_get, Cond.selects RX2 yX2_get yX2_get, Cond.initialized RX2, Cond.code yX2_get cX2_get 2 (some .int), Cond.fieldLink RX2 9 "HouseBells$Row" "cells" "[I", Cond.methodLink RX4 176 yX3_wayToFloor]
def wsL_wayTo_r2 : List Cond := [Cond.instanceMethod yX3_wayToFloor, Cond.selects RX3 yX3_wayToFloor yX3_wayToFloor, Cond.initialized RX3, Cond.code yX3_wayToFloor cX3_wayToFloor 3 (some .int), Cond.fieldLink RX3 18 "HouseBells$Staff" "floor" "LHouseBells$Row;", Cond.fieldLink RX3 12 "HouseBells$Staff" "pace" "LHouseBells$Row;", Cond.methodLink RX3 46 yX2_get, Cond.methodLink RX3 50 yX3_minutesOfWay, Cond.static yX3_minutesOfWay, Cond.code yX3_minutesOfWay cX3_minutesOfWay 5 (some .int)]
def wsL_wayTo : List Cond := .codeWith yL_wayTo cL_wayTo 5 (some .int) [(0, 10, 13, 25)] :: ((wsL_wayTo_r1 ++ wsL_wayTo_r2) ++ wsX40 ++ wsX00 ++ wsX30 ++ wsX20 ++ (vx_atS RX4 277 "java/lang/IndexOutOfBoundsException" ["java/lang/RuntimeException", "java/lang/Exception"]).filter goodWord)
def wsL_nearestIdle_r1 : List Cond := [Cond.classLink RL 25 "java/lang/IndexOutOfBoundsException", Cond.methodLink RL 82 yX4_nearestIdle, Cond.instanceMethod yX4_nearestIdle, Cond.selects RX4 yX4_nearestIdle yX4_nearestIdle, Cond.initialized RX4, Cond.code yX4_nearestIdle cX4_nearestIdle 2 (some .int), Cond.fieldLink RX4 10 "HouseBells" "house" "LHouseBells$House;", Cond.methodLink RX4 60 yX4_requireRoom, Cond.instanceMethod yX4_requireRoom, Cond.selects RX4 yX4_requireRoom yX4_requireRoom, Cond.code yX4_requireRoom cX4_requireRoom 2 none, Cond.classLink RX4 273 "java/lang/IndexOutOfBoundsException", Cond.initialized "java/lang/IndexOutOfBoundsException", Cond.methodLink RX4 89 yX2_get, Cond.instanceMethod yX2_get, Cond.selects RX2 yX2_get yX2_get, Cond.initialized RX2, Cond.code yX2_get cX2_get 2 (some .int), Cond.fieldLink RX2 9 "HouseBells$Row" "cells" "[I", Cond.methodLink RX4 179 yX3_nearestTo, Cond.instanceMethod yX3_nearestTo, Cond.selects RX3 yX3_nearestTo yX3_nearestTo, Cond.initialized RX3, Cond.code yX3_nearestTo cX3_nearestTo 6 (some .int)]
def wsL_nearestIdle_r2 : List Cond := [Cond.fieldLink RX3 30 "HouseBells$Staff" "count" "I", Cond.fieldLink RX3 21 "HouseBells$Staff" "goal" "LHouseBells$Row;", Cond.fieldLink RX3 24 "HouseBells$Staff" "guest" "LHouseBells$Row;", Cond.fieldLink RX3 18 "HouseBells$Staff" "floor" "LHouseBells$Row;", Cond.fieldLink RX3 12 "HouseBells$Staff" "pace" "LHouseBells$Row;", Cond.methodLink RX3 46 yX2_get, Cond.methodLink RX3 50 yX3_minutesOfWay, Cond.static yX3_minutesOfWay, Cond.code yX3_minutesOfWay cX3_minutesOfWay 5 (some .int)]
def wsL_nearestIdle : List Cond := .codeWith yL_nearestIdle cL_nearestIdle 4 (some .int) [(0, 9, 12, 25)] :: ((wsL_nearestIdle_r1 ++ wsL_nearestIdle_r2) ++ wsX40 ++ wsX00 ++ wsX20 ++ wsX30 ++ (vx_atS RX4 277 "java/lang/IndexOutOfBoundsException" ["java/lang/RuntimeException", "java/lang/Exception"]).filter goodWord)
def wsL_minutesUntilServed_r1 : List Cond := [Cond.classLink RL 25 "java/lang/IndexOutOfBoundsException", Cond.methodLink RL 85 yX4_minutesUntilServed, Cond.instanceMethod yX4_minutesUntilServed, Cond.selects RX4 yX4_minutesUntilServed yX4_minutesUntilServed, Cond.initialized RX4, Cond.code yX4_minutesUntilServed cX4_minutesUntilServed 3 (some .int), Cond.fieldLink RX4 16 "HouseBells" "trial" "LHouseBells$House;", Cond.fieldLink RX4 10 "HouseBells" "house" "LHouseBells$House;", Cond.methodLink RX4 60 yX4_requireRoom, Cond.instanceMethod yX4_requireRoom, Cond.selects RX4 yX4_requireRoom yX4_requireRoom, Cond.code yX4_requireRoom cX4_requireRoom 2 none, Cond.classLink RX4 273 "java/lang/IndexOutOfBoundsException", Cond.initialized "java/lang/IndexOutOfBoundsException", Cond.methodLink RX4 182 yX0_copyFrom, Cond.instanceMethod yX0_copyFrom, Cond.selects RX0 yX0_copyFrom yX0_copyFrom, Cond.initialized RX0, Cond.code yX0_copyFrom cX0_copyFrom 2 none, Cond.fieldLink RX0 51 "HouseBells$House" "minute" "I", Cond.fieldLink RX0 54 "HouseBells$House" "roomCount" "I", Cond.fieldLink RX0 9 "HouseBells$House" "charge" "I", Cond.fieldLink RX0 57 "HouseBells$House" "served" "I", Cond.fieldLink RX0 60 "HouseBells$House" "inVain" "I"]
def wsL_minutesUntilServed_r2 : List Cond := [Cond.fieldLink RX0 63 "HouseBells$House" "gaveUp" "I", Cond.fieldLink RX0 66 "HouseBells$House" "unheard" "I", Cond.fieldLink RX0 18 "HouseBells$House" "floor" "LHouseBells$Row;", Cond.fieldLink RX0 22 "HouseBells$House" "patience" "LHouseBells$Row;", Cond.fieldLink RX0 25 "HouseBells$House" "need" "LHouseBells$Row;", Cond.fieldLink RX0 28 "HouseBells$House" "wire" "LHouseBells$Row;", Cond.fieldLink RX0 31 "HouseBells$House" "cut" "LHouseBells$Row;", Cond.fieldLink RX0 34 "HouseBells$House" "waited" "LHouseBells$Row;", Cond.fieldLink RX0 40 "HouseBells$House" "line" "LHouseBells$Line;", Cond.fieldLink RX0 47 "HouseBells$House" "staff" "LHouseBells$Staff;", Cond.methodLink RX0 69 yX2_copyFrom, Cond.instanceMethod yX2_copyFrom, Cond.selects RX2 yX2_copyFrom yX2_copyFrom, Cond.initialized RX2, Cond.code yX2_copyFrom cX2_copyFrom 3 none, Cond.fieldLink RX2 9 "HouseBells$Row" "cells" "[I", Cond.methodLink RX0 73 yX1_copyFrom, Cond.instanceMethod yX1_copyFrom, Cond.selects RX1 yX1_copyFrom yX1_copyFrom, Cond.initialized RX1, Cond.code yX1_copyFrom cX1_copyFrom 3 none, Cond.fieldLink RX1 15 "HouseBells$Line" "count" "I", Cond.fieldLink RX1 9 "HouseBells$Line" "drops" "[I", Cond.methodLink RX0 76 yX3_copyFrom]
def wsL_minutesUntilServed_r3 : List Cond := [Cond.instanceMethod yX3_copyFrom, Cond.selects RX3 yX3_copyFrom yX3_copyFrom, Cond.initialized RX3, Cond.code yX3_copyFrom cX3_copyFrom 2 none, Cond.fieldLink RX3 30 "HouseBells$Staff" "count" "I", Cond.fieldLink RX3 12 "HouseBells$Staff" "pace" "LHouseBells$Row;", Cond.fieldLink RX3 18 "HouseBells$Staff" "floor" "LHouseBells$Row;", Cond.fieldLink RX3 21 "HouseBells$Staff" "goal" "LHouseBells$Row;", Cond.fieldLink RX3 24 "HouseBells$Staff" "guest" "LHouseBells$Row;", Cond.fieldLink RX3 27 "HouseBells$Staff" "left" "LHouseBells$Row;", Cond.methodLink RX3 34 yX2_copyFrom, Cond.methodLink RX4 186 yX3_isServing, Cond.instanceMethod yX3_isServing, Cond.selects RX3 yX3_isServing yX3_isServing, Cond.code yX3_isServing cX3_isServing 3 (some .boolean), Cond.methodLink RX3 46 yX2_get, Cond.instanceMethod yX2_get, Cond.selects RX2 yX2_get yX2_get, Cond.code yX2_get cX2_get 2 (some .int), Cond.methodLink RX4 68 yX0_isWaiting, Cond.instanceMethod yX0_isWaiting, Cond.selects RX0 yX0_isWaiting yX0_isWaiting, Cond.code yX0_isWaiting cX0_isWaiting 2 (some .boolean), Cond.methodLink RX0 83 yX2_get]
def wsL_minutesUntilServed_r4 : List Cond := [Cond.methodLink RX4 129 yX0_letMinuteGoBy, Cond.instanceMethod yX0_letMinuteGoBy, Cond.selects RX0 yX0_letMinuteGoBy yX0_letMinuteGoBy, Cond.code yX0_letMinuteGoBy cX0_letMinuteGoBy 2 (some .int), Cond.methodLink RX0 97 yX0_letRoomsWait, Cond.instanceMethod yX0_letRoomsWait, Cond.selects RX0 yX0_letRoomsWait yX0_letRoomsWait, Cond.code yX0_letRoomsWait cX0_letRoomsWait 3 none, Cond.methodLink RX0 79 yX2_set, Cond.instanceMethod yX2_set, Cond.selects RX2 yX2_set yX2_set, Cond.code yX2_set cX2_set 3 none, Cond.methodLink RX0 106 yX0_isMultiple, Cond.static yX0_isMultiple, Cond.code yX0_isMultiple cX0_isMultiple 2 (some .boolean), Cond.methodLink RX0 110 yX0_pullBell, Cond.instanceMethod yX0_pullBell, Cond.selects RX0 yX0_pullBell yX0_pullBell, Cond.code yX0_pullBell cX0_pullBell 4 (some .boolean), Cond.methodLink RX0 87 yX0_costFrom, Cond.static yX0_costFrom, Cond.code yX0_costFrom cX0_costFrom 1 (some .int), Cond.methodLink RX0 90 yX1_placeOf, Cond.instanceMethod yX1_placeOf]
def wsL_minutesUntilServed_r5 : List Cond := [Cond.selects RX1 yX1_placeOf yX1_placeOf, Cond.code yX1_placeOf cX1_placeOf 3 (some .int), Cond.methodLink RX0 93 yX1_append, Cond.instanceMethod yX1_append, Cond.selects RX1 yX1_append yX1_append, Cond.code yX1_append cX1_append 2 none, Cond.methodLink RX0 100 yX0_letServantsMove, Cond.instanceMethod yX0_letServantsMove, Cond.selects RX0 yX0_letServantsMove yX0_letServantsMove, Cond.code yX0_letServantsMove cX0_letServantsMove 4 none, Cond.methodLink RX0 117 yX3_isIdle, Cond.instanceMethod yX3_isIdle, Cond.selects RX3 yX3_isIdle yX3_isIdle, Cond.code yX3_isIdle cX3_isIdle 2 (some .boolean), Cond.methodLink RX0 126 yX3_rest, Cond.instanceMethod yX3_rest, Cond.selects RX3 yX3_rest yX3_rest, Cond.code yX3_rest cX3_rest 2 none, Cond.methodLink RX3 38 yX2_set, Cond.methodLink RX0 129 yX0_arrive, Cond.instanceMethod yX0_arrive, Cond.selects RX0 yX0_arrive yX0_arrive, Cond.code yX0_arrive cX0_arrive 3 none, Cond.methodLink RX0 103 yX0_sendIdleServants]
def wsL_minutesUntilServed_r6 : List Cond := [Cond.instanceMethod yX0_sendIdleServants, Cond.selects RX0 yX0_sendIdleServants yX0_sendIdleServants, Cond.code yX0_sendIdleServants cX0_sendIdleServants 5 none, Cond.methodLink RX0 137 yX1_first, Cond.instanceMethod yX1_first, Cond.selects RX1 yX1_first yX1_first, Cond.code yX1_first cX1_first 1 (some .int), Cond.methodLink RX0 141 yX3_nearestTo, Cond.instanceMethod yX3_nearestTo, Cond.selects RX3 yX3_nearestTo yX3_nearestTo, Cond.code yX3_nearestTo cX3_nearestTo 6 (some .int), Cond.methodLink RX3 50 yX3_minutesOfWay, Cond.static yX3_minutesOfWay, Cond.code yX3_minutesOfWay cX3_minutesOfWay 5 (some .int), Cond.methodLink RX0 144 yX1_remove, Cond.instanceMethod yX1_remove, Cond.selects RX1 yX1_remove yX1_remove, Cond.code yX1_remove cX1_remove 4 none, Cond.methodLink RX0 147 yX3_wayToFloor, Cond.instanceMethod yX3_wayToFloor, Cond.selects RX3 yX3_wayToFloor yX3_wayToFloor, Cond.code yX3_wayToFloor cX3_wayToFloor 3 (some .int)]
def wsL_minutesUntilServed : List Cond := .codeWith yL_minutesUntilServed cL_minutesUntilServed 4 (some .int) [(0, 9, 12, 25)] :: ((wsL_minutesUntilServed_r1 ++ (wsL_minutesUntilServed_r2 ++ (wsL_minutesUntilServed_r3 ++ (wsL_minutesUntilServed_r4 ++ (wsL_minutesUntilServed_r5 ++ wsL_minutesUntilServed_r6))))) ++ wsX40 ++ wsX00 ++ wsX20 ++ wsX10 ++ wsX30 ++ (vx_atS RX4 277 "java/lang/IndexOutOfBoundsException" ["java/lang/RuntimeException", "java/lang/Exception"]).filter goodWord)
def wsL_servedIn_r1 : List Cond := [Cond.classLink RL 13 "java/lang/IllegalArgumentException", Cond.methodLink RL 88 yX4_servedIn, Cond.instanceMethod yX4_servedIn, Cond.selects RX4 yX4_servedIn yX4_servedIn, Cond.initialized RX4, Cond.code yX4_servedIn cX4_servedIn 2 (some .int), Cond.fieldLink RX4 16 "HouseBells" "trial" "LHouseBells$House;", Cond.fieldLink RX4 10 "HouseBells" "house" "LHouseBells$House;", Cond.methodLink RX4 126 yX4_requireMinutes, Cond.static yX4_requireMinutes, Cond.code yX4_requireMinutes cX4_requireMinutes 1 none, Cond.classLink RX4 23 "java/lang/IllegalArgumentException", Cond.initialized "java/lang/IllegalArgumentException", Cond.methodLink RX4 19 yX4_isWithin, Cond.static yX4_isWithin, Cond.code yX4_isWithin cX4_isWithin 3 (some .boolean), Cond.methodLink RX4 182 yX0_copyFrom, Cond.instanceMethod yX0_copyFrom, Cond.selects RX0 yX0_copyFrom yX0_copyFrom, Cond.initialized RX0, Cond.code yX0_copyFrom cX0_copyFrom 2 none, Cond.fieldLink RX0 51 "HouseBells$House" "minute" "I", Cond.fieldLink RX0 54 "HouseBells$House" "roomCount" "I", Cond.fieldLink RX0 9 "HouseBells$House" "charge" "I"]
def wsL_servedIn_r2 : List Cond := [Cond.fieldLink RX0 57 "HouseBells$House" "served" "I", Cond.fieldLink RX0 60 "HouseBells$House" "inVain" "I", Cond.fieldLink RX0 63 "HouseBells$House" "gaveUp" "I", Cond.fieldLink RX0 66 "HouseBells$House" "unheard" "I", Cond.fieldLink RX0 18 "HouseBells$House" "floor" "LHouseBells$Row;", Cond.fieldLink RX0 22 "HouseBells$House" "patience" "LHouseBells$Row;", Cond.fieldLink RX0 25 "HouseBells$House" "need" "LHouseBells$Row;", Cond.fieldLink RX0 28 "HouseBells$House" "wire" "LHouseBells$Row;", Cond.fieldLink RX0 31 "HouseBells$House" "cut" "LHouseBells$Row;", Cond.fieldLink RX0 34 "HouseBells$House" "waited" "LHouseBells$Row;", Cond.fieldLink RX0 40 "HouseBells$House" "line" "LHouseBells$Line;", Cond.fieldLink RX0 47 "HouseBells$House" "staff" "LHouseBells$Staff;", Cond.methodLink RX0 69 yX2_copyFrom, Cond.instanceMethod yX2_copyFrom, Cond.selects RX2 yX2_copyFrom yX2_copyFrom, Cond.initialized RX2, Cond.code yX2_copyFrom cX2_copyFrom 3 none, Cond.fieldLink RX2 9 "HouseBells$Row" "cells" "[I", Cond.methodLink RX0 73 yX1_copyFrom, Cond.instanceMethod yX1_copyFrom, Cond.selects RX1 yX1_copyFrom yX1_copyFrom, Cond.initialized RX1, Cond.code yX1_copyFrom cX1_copyFrom 3 none, Cond.fieldLink RX1 15 "HouseBells$Line" "count" "I"]
def wsL_servedIn_r3 : List Cond := [Cond.fieldLink RX1 9 "HouseBells$Line" "drops" "[I", Cond.methodLink RX0 76 yX3_copyFrom, Cond.instanceMethod yX3_copyFrom, Cond.selects RX3 yX3_copyFrom yX3_copyFrom, Cond.initialized RX3, Cond.code yX3_copyFrom cX3_copyFrom 2 none, Cond.fieldLink RX3 30 "HouseBells$Staff" "count" "I", Cond.fieldLink RX3 12 "HouseBells$Staff" "pace" "LHouseBells$Row;", Cond.fieldLink RX3 18 "HouseBells$Staff" "floor" "LHouseBells$Row;", Cond.fieldLink RX3 21 "HouseBells$Staff" "goal" "LHouseBells$Row;", Cond.fieldLink RX3 24 "HouseBells$Staff" "guest" "LHouseBells$Row;", Cond.fieldLink RX3 27 "HouseBells$Staff" "left" "LHouseBells$Row;", Cond.methodLink RX3 34 yX2_copyFrom, Cond.methodLink RX4 189 yX4_serveInTrial, Cond.instanceMethod yX4_serveInTrial, Cond.selects RX4 yX4_serveInTrial yX4_serveInTrial, Cond.code yX4_serveInTrial cX4_serveInTrial 4 (some .int), Cond.methodLink RX4 282 yX0_isAnyoneWaiting, Cond.instanceMethod yX0_isAnyoneWaiting, Cond.selects RX0 yX0_isAnyoneWaiting yX0_isAnyoneWaiting, Cond.code yX0_isAnyoneWaiting cX0_isAnyoneWaiting 2 (some .boolean), Cond.methodLink RX0 83 yX2_get, Cond.instanceMethod yX2_get, Cond.selects RX2 yX2_get yX2_get]
def wsL_servedIn_r4 : List Cond := [Cond.code yX2_get cX2_get 2 (some .int), Cond.methodLink RX4 129 yX0_letMinuteGoBy, Cond.instanceMethod yX0_letMinuteGoBy, Cond.selects RX0 yX0_letMinuteGoBy yX0_letMinuteGoBy, Cond.code yX0_letMinuteGoBy cX0_letMinuteGoBy 2 (some .int), Cond.methodLink RX0 97 yX0_letRoomsWait, Cond.instanceMethod yX0_letRoomsWait, Cond.selects RX0 yX0_letRoomsWait yX0_letRoomsWait, Cond.code yX0_letRoomsWait cX0_letRoomsWait 3 none, Cond.methodLink RX0 79 yX2_set, Cond.instanceMethod yX2_set, Cond.selects RX2 yX2_set yX2_set, Cond.code yX2_set cX2_set 3 none, Cond.methodLink RX0 106 yX0_isMultiple, Cond.static yX0_isMultiple, Cond.code yX0_isMultiple cX0_isMultiple 2 (some .boolean), Cond.methodLink RX0 110 yX0_pullBell, Cond.instanceMethod yX0_pullBell, Cond.selects RX0 yX0_pullBell yX0_pullBell, Cond.code yX0_pullBell cX0_pullBell 4 (some .boolean), Cond.methodLink RX0 87 yX0_costFrom, Cond.static yX0_costFrom, Cond.code yX0_costFrom cX0_costFrom 1 (some .int), Cond.methodLink RX0 90 yX1_placeOf]
def wsL_servedIn_r5 : List Cond := [Cond.instanceMethod yX1_placeOf, Cond.selects RX1 yX1_placeOf yX1_placeOf, Cond.code yX1_placeOf cX1_placeOf 3 (some .int), Cond.methodLink RX0 93 yX1_append, Cond.instanceMethod yX1_append, Cond.selects RX1 yX1_append yX1_append, Cond.code yX1_append cX1_append 2 none, Cond.methodLink RX0 100 yX0_letServantsMove, Cond.instanceMethod yX0_letServantsMove, Cond.selects RX0 yX0_letServantsMove yX0_letServantsMove, Cond.code yX0_letServantsMove cX0_letServantsMove 4 none, Cond.methodLink RX0 117 yX3_isIdle, Cond.instanceMethod yX3_isIdle, Cond.selects RX3 yX3_isIdle yX3_isIdle, Cond.code yX3_isIdle cX3_isIdle 2 (some .boolean), Cond.methodLink RX3 46 yX2_get, Cond.methodLink RX0 126 yX3_rest, Cond.instanceMethod yX3_rest, Cond.selects RX3 yX3_rest yX3_rest, Cond.code yX3_rest cX3_rest 2 none, Cond.methodLink RX3 38 yX2_set, Cond.methodLink RX0 129 yX0_arrive, Cond.instanceMethod yX0_arrive, Cond.selects RX0 yX0_arrive yX0_arrive]
def wsL_servedIn_r6 : List Cond := [Cond.code yX0_arrive cX0_arrive 3 none, Cond.methodLink RX0 103 yX0_sendIdleServants, Cond.instanceMethod yX0_sendIdleServants, Cond.selects RX0 yX0_sendIdleServants yX0_sendIdleServants, Cond.code yX0_sendIdleServants cX0_sendIdleServants 5 none, Cond.methodLink RX0 137 yX1_first, Cond.instanceMethod yX1_first, Cond.selects RX1 yX1_first yX1_first, Cond.code yX1_first cX1_first 1 (some .int), Cond.methodLink RX0 141 yX3_nearestTo, Cond.instanceMethod yX3_nearestTo, Cond.selects RX3 yX3_nearestTo yX3_nearestTo, Cond.code yX3_nearestTo cX3_nearestTo 6 (some .int), Cond.methodLink RX3 50 yX3_minutesOfWay, Cond.static yX3_minutesOfWay, Cond.code yX3_minutesOfWay cX3_minutesOfWay 5 (some .int), Cond.methodLink RX0 144 yX1_remove, Cond.instanceMethod yX1_remove, Cond.selects RX1 yX1_remove yX1_remove, Cond.code yX1_remove cX1_remove 4 none, Cond.methodLink RX0 147 yX3_wayToFloor, Cond.instanceMethod yX3_wayToFloor, Cond.selects RX3 yX3_wayToFloor yX3_wayToFloor, Cond.code yX3_wayToFloor cX3_wayToFloor 3 (some .int)]
def wsL_servedIn : List Cond := .codeWith yL_servedIn cL_servedIn 4 (some .int) [(0, 9, 12, 13)] :: ((wsL_servedIn_r1 ++ (wsL_servedIn_r2 ++ (wsL_servedIn_r3 ++ (wsL_servedIn_r4 ++ (wsL_servedIn_r5 ++ wsL_servedIn_r6))))) ++ wsX40 ++ wsX00 ++ wsX20 ++ wsX10 ++ wsX30 ++ (vx_atS RX4 27 "java/lang/IllegalArgumentException" ["java/lang/RuntimeException", "java/lang/Exception"]).filter goodWord)
def wsL_bestToCross_r1 : List Cond := [Cond.classLink RL 25 "java/lang/IndexOutOfBoundsException", Cond.methodLink RL 91 yX4_bestToCross, Cond.instanceMethod yX4_bestToCross, Cond.selects RX4 yX4_bestToCross yX4_bestToCross, Cond.initialized RX4, Cond.code yX4_bestToCross cX4_bestToCross 6 (some .int), Cond.fieldLink RX4 16 "HouseBells" "trial" "LHouseBells$House;", Cond.fieldLink RX4 10 "HouseBells" "house" "LHouseBells$House;", Cond.methodLink RX4 60 yX4_requireRoom, Cond.instanceMethod yX4_requireRoom, Cond.selects RX4 yX4_requireRoom yX4_requireRoom, Cond.code yX4_requireRoom cX4_requireRoom 2 none, Cond.classLink RX4 273 "java/lang/IndexOutOfBoundsException", Cond.initialized "java/lang/IndexOutOfBoundsException", Cond.methodLink RX4 182 yX0_copyFrom, Cond.instanceMethod yX0_copyFrom, Cond.selects RX0 yX0_copyFrom yX0_copyFrom, Cond.initialized RX0, Cond.code yX0_copyFrom cX0_copyFrom 2 none, Cond.fieldLink RX0 51 "HouseBells$House" "minute" "I", Cond.fieldLink RX0 54 "HouseBells$House" "roomCount" "I", Cond.fieldLink RX0 9 "HouseBells$House" "charge" "I", Cond.fieldLink RX0 57 "HouseBells$House" "served" "I", Cond.fieldLink RX0 60 "HouseBells$House" "inVain" "I"]
def wsL_bestToCross_r2 : List Cond := [Cond.fieldLink RX0 63 "HouseBells$House" "gaveUp" "I", Cond.fieldLink RX0 66 "HouseBells$House" "unheard" "I", Cond.fieldLink RX0 18 "HouseBells$House" "floor" "LHouseBells$Row;", Cond.fieldLink RX0 22 "HouseBells$House" "patience" "LHouseBells$Row;", Cond.fieldLink RX0 25 "HouseBells$House" "need" "LHouseBells$Row;", Cond.fieldLink RX0 28 "HouseBells$House" "wire" "LHouseBells$Row;", Cond.fieldLink RX0 31 "HouseBells$House" "cut" "LHouseBells$Row;", Cond.fieldLink RX0 34 "HouseBells$House" "waited" "LHouseBells$Row;", Cond.fieldLink RX0 40 "HouseBells$House" "line" "LHouseBells$Line;", Cond.fieldLink RX0 47 "HouseBells$House" "staff" "LHouseBells$Staff;", Cond.methodLink RX0 69 yX2_copyFrom, Cond.instanceMethod yX2_copyFrom, Cond.selects RX2 yX2_copyFrom yX2_copyFrom, Cond.initialized RX2, Cond.code yX2_copyFrom cX2_copyFrom 3 none, Cond.fieldLink RX2 9 "HouseBells$Row" "cells" "[I", Cond.methodLink RX0 73 yX1_copyFrom, Cond.instanceMethod yX1_copyFrom, Cond.selects RX1 yX1_copyFrom yX1_copyFrom, Cond.initialized RX1, Cond.code yX1_copyFrom cX1_copyFrom 3 none, Cond.fieldLink RX1 15 "HouseBells$Line" "count" "I", Cond.fieldLink RX1 9 "HouseBells$Line" "drops" "[I", Cond.methodLink RX0 76 yX3_copyFrom]
def wsL_bestToCross_r3 : List Cond := [Cond.instanceMethod yX3_copyFrom, Cond.selects RX3 yX3_copyFrom yX3_copyFrom, Cond.initialized RX3, Cond.code yX3_copyFrom cX3_copyFrom 2 none, Cond.fieldLink RX3 30 "HouseBells$Staff" "count" "I", Cond.fieldLink RX3 12 "HouseBells$Staff" "pace" "LHouseBells$Row;", Cond.fieldLink RX3 18 "HouseBells$Staff" "floor" "LHouseBells$Row;", Cond.fieldLink RX3 21 "HouseBells$Staff" "goal" "LHouseBells$Row;", Cond.fieldLink RX3 24 "HouseBells$Staff" "guest" "LHouseBells$Row;", Cond.fieldLink RX3 27 "HouseBells$Staff" "left" "LHouseBells$Row;", Cond.methodLink RX3 34 yX2_copyFrom, Cond.methodLink RX4 189 yX4_serveInTrial, Cond.instanceMethod yX4_serveInTrial, Cond.selects RX4 yX4_serveInTrial yX4_serveInTrial, Cond.code yX4_serveInTrial cX4_serveInTrial 4 (some .int), Cond.methodLink RX4 282 yX0_isAnyoneWaiting, Cond.instanceMethod yX0_isAnyoneWaiting, Cond.selects RX0 yX0_isAnyoneWaiting yX0_isAnyoneWaiting, Cond.code yX0_isAnyoneWaiting cX0_isAnyoneWaiting 2 (some .boolean), Cond.methodLink RX0 83 yX2_get, Cond.instanceMethod yX2_get, Cond.selects RX2 yX2_get yX2_get, Cond.code yX2_get cX2_get 2 (some .int), Cond.methodLink RX4 129 yX0_letMinuteGoBy]
def wsL_bestToCross_r4 : List Cond := [Cond.instanceMethod yX0_letMinuteGoBy, Cond.selects RX0 yX0_letMinuteGoBy yX0_letMinuteGoBy, Cond.code yX0_letMinuteGoBy cX0_letMinuteGoBy 2 (some .int), Cond.methodLink RX0 97 yX0_letRoomsWait, Cond.instanceMethod yX0_letRoomsWait, Cond.selects RX0 yX0_letRoomsWait yX0_letRoomsWait, Cond.code yX0_letRoomsWait cX0_letRoomsWait 3 none, Cond.methodLink RX0 79 yX2_set, Cond.instanceMethod yX2_set, Cond.selects RX2 yX2_set yX2_set, Cond.code yX2_set cX2_set 3 none, Cond.methodLink RX0 106 yX0_isMultiple, Cond.static yX0_isMultiple, Cond.code yX0_isMultiple cX0_isMultiple 2 (some .boolean), Cond.methodLink RX0 110 yX0_pullBell, Cond.instanceMethod yX0_pullBell, Cond.selects RX0 yX0_pullBell yX0_pullBell, Cond.code yX0_pullBell cX0_pullBell 4 (some .boolean), Cond.methodLink RX0 87 yX0_costFrom, Cond.static yX0_costFrom, Cond.code yX0_costFrom cX0_costFrom 1 (some .int), Cond.methodLink RX0 90 yX1_placeOf, Cond.instanceMethod yX1_placeOf, Cond.selects RX1 yX1_placeOf yX1_placeOf]
def wsL_bestToCross_r5 : List Cond := [Cond.code yX1_placeOf cX1_placeOf 3 (some .int), Cond.methodLink RX0 93 yX1_append, Cond.instanceMethod yX1_append, Cond.selects RX1 yX1_append yX1_append, Cond.code yX1_append cX1_append 2 none, Cond.methodLink RX0 100 yX0_letServantsMove, Cond.instanceMethod yX0_letServantsMove, Cond.selects RX0 yX0_letServantsMove yX0_letServantsMove, Cond.code yX0_letServantsMove cX0_letServantsMove 4 none, Cond.methodLink RX0 117 yX3_isIdle, Cond.instanceMethod yX3_isIdle, Cond.selects RX3 yX3_isIdle yX3_isIdle, Cond.code yX3_isIdle cX3_isIdle 2 (some .boolean), Cond.methodLink RX3 46 yX2_get, Cond.methodLink RX0 126 yX3_rest, Cond.instanceMethod yX3_rest, Cond.selects RX3 yX3_rest yX3_rest, Cond.code yX3_rest cX3_rest 2 none, Cond.methodLink RX3 38 yX2_set, Cond.methodLink RX0 129 yX0_arrive, Cond.instanceMethod yX0_arrive, Cond.selects RX0 yX0_arrive yX0_arrive, Cond.code yX0_arrive cX0_arrive 3 none, Cond.methodLink RX0 103 yX0_sendIdleServants]
def wsL_bestToCross_r6 : List Cond := [Cond.instanceMethod yX0_sendIdleServants, Cond.selects RX0 yX0_sendIdleServants yX0_sendIdleServants, Cond.code yX0_sendIdleServants cX0_sendIdleServants 5 none, Cond.methodLink RX0 137 yX1_first, Cond.instanceMethod yX1_first, Cond.selects RX1 yX1_first yX1_first, Cond.code yX1_first cX1_first 1 (some .int), Cond.methodLink RX0 141 yX3_nearestTo, Cond.instanceMethod yX3_nearestTo, Cond.selects RX3 yX3_nearestTo yX3_nearestTo, Cond.code yX3_nearestTo cX3_nearestTo 6 (some .int), Cond.methodLink RX3 50 yX3_minutesOfWay, Cond.static yX3_minutesOfWay, Cond.code yX3_minutesOfWay cX3_minutesOfWay 5 (some .int), Cond.methodLink RX0 144 yX1_remove, Cond.instanceMethod yX1_remove, Cond.selects RX1 yX1_remove yX1_remove, Cond.code yX1_remove cX1_remove 4 none, Cond.methodLink RX0 147 yX3_wayToFloor, Cond.instanceMethod yX3_wayToFloor, Cond.selects RX3 yX3_wayToFloor yX3_wayToFloor, Cond.code yX3_wayToFloor cX3_wayToFloor 3 (some .int), Cond.methodLink RX4 83 yX0_swapWires, Cond.instanceMethod yX0_swapWires]
def wsL_bestToCross_r7 : List Cond := [Cond.selects RX0 yX0_swapWires yX0_swapWires, Cond.code yX0_swapWires cX0_swapWires 4 none]
def wsL_bestToCross : List Cond := .codeWith yL_bestToCross cL_bestToCross 4 (some .int) [(0, 9, 12, 25)] :: ((wsL_bestToCross_r1 ++ (wsL_bestToCross_r2 ++ (wsL_bestToCross_r3 ++ (wsL_bestToCross_r4 ++ (wsL_bestToCross_r5 ++ (wsL_bestToCross_r6 ++ wsL_bestToCross_r7)))))) ++ wsX40 ++ wsX00 ++ wsX20 ++ wsX10 ++ wsX30 ++ (vx_atS RX4 277 "java/lang/IndexOutOfBoundsException" ["java/lang/RuntimeException", "java/lang/Exception"]).filter goodWord)
def wsL_law0_r1 : List Cond := [Cond.classLink RL 8 RX4, Cond.instantiable RX4 2, Cond.initialized RX4, Cond.classLink RL 95 RX5, Cond.instantiable RX5 11, Cond.initialized RX5, Cond.arrayClass .long, Cond.methodLink RL 94 yX4_init, Cond.instanceMethod yX4_init, Cond.code yX4_init cX4_init 1 none, Cond.methodLink RX4 1 objectInit, Cond.instanceMethod objectInit, Cond.code objectInit ⟨#[0xb1]⟩ 1 none, Cond.classLink RX4 7 RX0, Cond.instantiable RX0 15, Cond.initialized RX0, Cond.fieldLink RX4 10 "HouseBells" "house" "LHouseBells$House;", Cond.fieldLink RX4 16 "HouseBells" "trial" "LHouseBells$House;", Cond.methodLink RX4 9 yX0_init, Cond.instanceMethod yX0_init, Cond.code yX0_init cX0_init 1 none, Cond.methodLink RX0 3 objectInit, Cond.fieldLink RX0 9 "HouseBells$House" "charge" "I", Cond.classLink RX0 15 RX2]
def wsL_law0_r2 : List Cond := [Cond.instantiable RX2 1, Cond.initialized RX2, Cond.fieldLink RX0 18 "HouseBells$House" "floor" "LHouseBells$Row;", Cond.fieldLink RX0 22 "HouseBells$House" "patience" "LHouseBells$Row;", Cond.fieldLink RX0 25 "HouseBells$House" "need" "LHouseBells$Row;", Cond.fieldLink RX0 28 "HouseBells$House" "wire" "LHouseBells$Row;", Cond.fieldLink RX0 31 "HouseBells$House" "cut" "LHouseBells$Row;", Cond.fieldLink RX0 34 "HouseBells$House" "waited" "LHouseBells$Row;", Cond.classLink RX0 37 RX1, Cond.instantiable RX1 2, Cond.initialized RX1, Cond.fieldLink RX0 40 "HouseBells$House" "line" "LHouseBells$Line;", Cond.classLink RX0 44 RX3, Cond.instantiable RX3 6, Cond.initialized RX3, Cond.fieldLink RX0 47 "HouseBells$House" "staff" "LHouseBells$Staff;", Cond.methodLink RX0 17 yX2_init, Cond.instanceMethod yX2_init, Cond.code yX2_init cX2_init 1 none, Cond.methodLink RX2 3 objectInit, Cond.arrayClass .int, Cond.fieldLink RX2 9 "HouseBells$Row" "cells" "[I", Cond.methodLink RX0 39 yX1_init, Cond.instanceMethod yX1_init]
def wsL_law0_r3 : List Cond := [Cond.code yX1_init cX1_init 1 none, Cond.methodLink RX1 3 objectInit, Cond.fieldLink RX1 9 "HouseBells$Line" "drops" "[I", Cond.methodLink RX0 46 yX3_init, Cond.instanceMethod yX3_init, Cond.code yX3_init cX3_init 1 none, Cond.methodLink RX3 3 objectInit, Cond.classLink RX3 9 RX2, Cond.fieldLink RX3 12 "HouseBells$Staff" "pace" "LHouseBells$Row;", Cond.fieldLink RX3 18 "HouseBells$Staff" "floor" "LHouseBells$Row;", Cond.fieldLink RX3 21 "HouseBells$Staff" "goal" "LHouseBells$Row;", Cond.fieldLink RX3 24 "HouseBells$Staff" "guest" "LHouseBells$Row;", Cond.fieldLink RX3 27 "HouseBells$Staff" "left" "LHouseBells$Row;", Cond.methodLink RX3 11 yX2_init, Cond.methodLink RL 97 yX5_init, Cond.instanceMethod yX5_init, Cond.code yX5_init cX5_init 1 none, Cond.methodLink RX5 3 objectInit, Cond.fieldLink RX5 9 "HouseBellsModel" "floor" "[I", Cond.fieldLink RX5 13 "HouseBellsModel" "patience" "[I", Cond.fieldLink RX5 16 "HouseBellsModel" "need" "[I", Cond.fieldLink RX5 19 "HouseBellsModel" "drop" "[I", Cond.arrayClass .boolean, Cond.fieldLink RX5 22 "HouseBellsModel" "isCut" "[Z"]
def wsL_law0_r4 : List Cond := [Cond.fieldLink RX5 26 "HouseBellsModel" "pace" "[I", Cond.fieldLink RX5 29 "HouseBellsModel" "now" "[I", Cond.fieldLink RX5 32 "HouseBellsModel" "kept" "[I", Cond.methodLink RL 98 yL_addRoom, Cond.static yL_addRoom, Cond.initialized RL, Cond.codeWith yL_addRoom cL_addRoom 6 (some .int) [(0, 12, 15, 13), (0, 12, 19, 15)], Cond.classLink RL 13 "java/lang/IllegalArgumentException", Cond.classLink RL 15 "java/lang/IllegalStateException", Cond.methodLink RL 7 yX4_addRoom, Cond.instanceMethod yX4_addRoom, Cond.selects RX4 yX4_addRoom yX4_addRoom, Cond.code yX4_addRoom cX4_addRoom 4 (some .int), Cond.classLink RX4 23 "java/lang/IllegalArgumentException", Cond.initialized "java/lang/IllegalArgumentException", Cond.classLink RX4 34 "java/lang/IllegalStateException", Cond.initialized "java/lang/IllegalStateException", Cond.methodLink RX4 19 yX4_isWithin, Cond.static yX4_isWithin, Cond.code yX4_isWithin cX4_isWithin 3 (some .boolean), Cond.methodLink RX4 39 yX0_openRoom, Cond.instanceMethod yX0_openRoom, Cond.selects RX0 yX0_openRoom yX0_openRoom, Cond.code yX0_openRoom cX0_openRoom 5 (some .int)]
def wsL_law0_r5 : List Cond := [Cond.fieldLink RX0 54 "HouseBells$House" "roomCount" "I", Cond.methodLink RX0 79 yX2_set, Cond.instanceMethod yX2_set, Cond.selects RX2 yX2_set yX2_set, Cond.code yX2_set cX2_set 3 none, Cond.methodLink RL 103 yX5_addRoom, Cond.instanceMethod yX5_addRoom, Cond.selects RX5 yX5_addRoom yX5_addRoom, Cond.code yX5_addRoom cX5_addRoom 4 (some .int), Cond.fieldLink RX5 35 "HouseBellsModel" "thrown" "I", Cond.fieldLink RX5 39 "HouseBellsModel" "rooms" "I", Cond.methodLink RX5 42 yX5_isIn, Cond.static yX5_isIn, Cond.code yX5_isIn cX5_isIn 3 (some .boolean), Cond.methodLink RX5 103 yX5_no, Cond.instanceMethod yX5_no, Cond.selects RX5 yX5_no yX5_no, Cond.code yX5_no cX5_no 2 (some .int), Cond.methodLink RL 104 yX5_thrown, Cond.instanceMethod yX5_thrown, Cond.selects RX5 yX5_thrown yX5_thrown, Cond.code yX5_thrown cX5_thrown 1 (some .int), Cond.methodLink RL 108 yL_addServant, Cond.static yL_addServant]
def wsL_law0_r6 : List Cond := [Cond.codeWith yL_addServant cL_addServant 4 (some .int) [(0, 9, 12, 13), (0, 9, 15, 15)], Cond.methodLink RL 17 yX4_addServant, Cond.instanceMethod yX4_addServant, Cond.selects RX4 yX4_addServant yX4_addServant, Cond.code yX4_addServant cX4_addServant 2 (some .int), Cond.methodLink RX4 56 yX3_hire, Cond.instanceMethod yX3_hire, Cond.selects RX3 yX3_hire yX3_hire, Cond.code yX3_hire cX3_hire 3 (some .int), Cond.fieldLink RX3 30 "HouseBells$Staff" "count" "I", Cond.methodLink RX3 38 yX2_set, Cond.methodLink RX3 42 yX3_rest, Cond.instanceMethod yX3_rest, Cond.selects RX3 yX3_rest yX3_rest, Cond.code yX3_rest cX3_rest 2 none, Cond.methodLink RL 111 yX5_addServant, Cond.instanceMethod yX5_addServant, Cond.selects RX5 yX5_addServant yX5_addServant, Cond.code yX5_addServant cX5_addServant 2 (some .int), Cond.fieldLink RX5 46 "HouseBellsModel" "servants" "I", Cond.methodLink RL 112 yL_ring, Cond.static yL_ring, Cond.codeWith yL_ring cL_ring 4 (some .int) [(0, 16, 19, 25)], Cond.classLink RL 25 "java/lang/IndexOutOfBoundsException"]
def wsL_law0_r7 : List Cond := [Cond.methodLink RL 21 yX4_ring, Cond.instanceMethod yX4_ring, Cond.selects RX4 yX4_ring yX4_ring, Cond.code yX4_ring cX4_ring 3 (some .boolean), Cond.methodLink RX4 60 yX4_requireRoom, Cond.instanceMethod yX4_requireRoom, Cond.selects RX4 yX4_requireRoom yX4_requireRoom, Cond.code yX4_requireRoom cX4_requireRoom 2 none, Cond.classLink RX4 273 "java/lang/IndexOutOfBoundsException", Cond.initialized "java/lang/IndexOutOfBoundsException", Cond.methodLink RX4 64 yX0_pullBell, Cond.instanceMethod yX0_pullBell, Cond.selects RX0 yX0_pullBell yX0_pullBell, Cond.code yX0_pullBell cX0_pullBell 4 (some .boolean), Cond.fieldLink RX0 66 "HouseBells$House" "unheard" "I", Cond.methodLink RX0 83 yX2_get, Cond.instanceMethod yX2_get, Cond.selects RX2 yX2_get yX2_get, Cond.code yX2_get cX2_get 2 (some .int), Cond.methodLink RX0 87 yX0_costFrom, Cond.static yX0_costFrom, Cond.code yX0_costFrom cX0_costFrom 1 (some .int), Cond.methodLink RX0 90 yX1_placeOf, Cond.instanceMethod yX1_placeOf]
def wsL_law0_r8 : List Cond := [Cond.selects RX1 yX1_placeOf yX1_placeOf, Cond.code yX1_placeOf cX1_placeOf 3 (some .int), Cond.fieldLink RX1 15 "HouseBells$Line" "count" "I", Cond.methodLink RX0 93 yX1_append, Cond.instanceMethod yX1_append, Cond.selects RX1 yX1_append yX1_append, Cond.code yX1_append cX1_append 2 none, Cond.methodLink RX4 68 yX0_isWaiting, Cond.instanceMethod yX0_isWaiting, Cond.selects RX0 yX0_isWaiting yX0_isWaiting, Cond.code yX0_isWaiting cX0_isWaiting 2 (some .boolean), Cond.methodLink RX4 75 yX2_set, Cond.methodLink RL 114 yX5_ring, Cond.instanceMethod yX5_ring, Cond.selects RX5 yX5_ring yX5_ring, Cond.code yX5_ring cX5_ring 2 (some .boolean), Cond.methodLink RX5 106 yX5_isRoom, Cond.instanceMethod yX5_isRoom, Cond.selects RX5 yX5_isRoom yX5_isRoom, Cond.code yX5_isRoom cX5_isRoom 2 (some .boolean), Cond.methodLink RX5 109 yX5_isKnown, Cond.instanceMethod yX5_isKnown, Cond.selects RX5 yX5_isKnown yX5_isKnown, Cond.code yX5_isKnown cX5_isKnown 2 (some .boolean)]
def wsL_law0_r9 : List Cond := [Cond.methodLink RX5 75 yX5_rings, Cond.instanceMethod yX5_rings, Cond.selects RX5 yX5_rings yX5_rings, Cond.code yX5_rings cX5_rings 3 (some .boolean), Cond.methodLink RX5 55 yX5_inLine, Cond.instanceMethod yX5_inLine, Cond.selects RX5 yX5_inLine yX5_inLine, Cond.code yX5_inLine cX5_inLine 3 (some .int), Cond.methodLink RL 115 yL_cross, Cond.static yL_cross, Cond.codeWith yL_cross cL_cross 5 (some .int) [(0, 10, 13, 25), (0, 10, 17, 13)], Cond.methodLink RL 27 yX4_cross, Cond.instanceMethod yX4_cross, Cond.selects RX4 yX4_cross yX4_cross, Cond.code yX4_cross cX4_cross 3 (some .int), Cond.methodLink RX4 83 yX0_swapWires, Cond.instanceMethod yX0_swapWires, Cond.selects RX0 yX0_swapWires yX0_swapWires, Cond.code yX0_swapWires cX0_swapWires 4 none, Cond.methodLink RX4 89 yX2_get, Cond.methodLink RL 118 yX5_cross, Cond.instanceMethod yX5_cross, Cond.selects RX5 yX5_cross yX5_cross, Cond.code yX5_cross cX5_cross 3 (some .int)]
def wsL_law0_r10 : List Cond := [Cond.methodLink RX5 113 yX5_swap, Cond.instanceMethod yX5_swap, Cond.selects RX5 yX5_swap yX5_swap, Cond.code yX5_swap cX5_swap 4 none, Cond.methodLink RL 119 yL_cut, Cond.static yL_cut, Cond.codeWith yL_cut cL_cut 4 (some .int) [(0, 9, 12, 25), (0, 9, 15, 15)], Cond.methodLink RL 31 yX4_cut, Cond.instanceMethod yX4_cut, Cond.selects RX4 yX4_cut yX4_cut, Cond.code yX4_cut cX4_cut 2 (some .int), Cond.methodLink RX4 92 yX0_isWireCut, Cond.instanceMethod yX0_isWireCut, Cond.selects RX0 yX0_isWireCut yX0_isWireCut, Cond.code yX0_isWireCut cX0_isWireCut 2 (some .boolean), Cond.methodLink RX4 100 yX0_countCutWires, Cond.instanceMethod yX0_countCutWires, Cond.selects RX0 yX0_countCutWires yX0_countCutWires, Cond.code yX0_countCutWires cX0_countCutWires 3 (some .int), Cond.methodLink RL 121 yX5_cut, Cond.instanceMethod yX5_cut, Cond.selects RX5 yX5_cut yX5_cut, Cond.code yX5_cut cX5_cut 2 (some .int), Cond.methodLink RX5 120 yX5_turn]
def wsL_law0_r11 : List Cond := [Cond.instanceMethod yX5_turn, Cond.selects RX5 yX5_turn yX5_turn, Cond.code yX5_turn cX5_turn 3 (some .int), Cond.methodLink RX5 116 yX5_manyCut, Cond.instanceMethod yX5_manyCut, Cond.selects RX5 yX5_manyCut yX5_manyCut, Cond.code yX5_manyCut cX5_manyCut 3 (some .int), Cond.methodLink RL 122 yL_mend, Cond.static yL_mend, Cond.codeWith yL_mend cL_mend 4 (some .int) [(0, 9, 12, 25), (0, 9, 15, 15)], Cond.methodLink RL 34 yX4_mend, Cond.instanceMethod yX4_mend, Cond.selects RX4 yX4_mend yX4_mend, Cond.code yX4_mend cX4_mend 2 (some .int), Cond.methodLink RL 124 yX5_mend, Cond.instanceMethod yX5_mend, Cond.selects RX5 yX5_mend yX5_mend, Cond.code yX5_mend cX5_mend 2 (some .int), Cond.methodLink RL 125 yL_recharge, Cond.static yL_recharge, Cond.codeWith yL_recharge cL_recharge 4 (some .int) [(0, 9, 12, 13)], Cond.methodLink RL 37 yX4_recharge, Cond.instanceMethod yX4_recharge, Cond.selects RX4 yX4_recharge yX4_recharge]
def wsL_law0_r12 : List Cond := [Cond.code yX4_recharge cX4_recharge 3 (some .int), Cond.methodLink RL 127 yX5_recharge, Cond.instanceMethod yX5_recharge, Cond.selects RX5 yX5_recharge yX5_recharge, Cond.code yX5_recharge cX5_recharge 3 (some .int), Cond.methodLink RL 128 yL_putUp, Cond.static yL_putUp, Cond.codeWith yL_putUp cL_putUp 4 (some .int) [(0, 9, 12, 25), (0, 9, 15, 15)], Cond.methodLink RL 40 yX4_putUp, Cond.instanceMethod yX4_putUp, Cond.selects RX4 yX4_putUp yX4_putUp, Cond.code yX4_putUp cX4_putUp 2 (some .int), Cond.methodLink RX4 115 yX1_placeOf, Cond.methodLink RX4 122 yX1_remove, Cond.instanceMethod yX1_remove, Cond.selects RX1 yX1_remove yX1_remove, Cond.code yX1_remove cX1_remove 4 none, Cond.methodLink RL 130 yX5_putUp, Cond.instanceMethod yX5_putUp, Cond.selects RX5 yX5_putUp yX5_putUp, Cond.code yX5_putUp cX5_putUp 3 (some .int), Cond.methodLink RX5 86 yX5_takeOut, Cond.instanceMethod yX5_takeOut, Cond.selects RX5 yX5_takeOut yX5_takeOut]
def wsL_law0_r13 : List Cond := [Cond.code yX5_takeOut cX5_takeOut 3 none, Cond.methodLink RL 131 yL_pass, Cond.static yL_pass, Cond.codeWith yL_pass cL_pass 4 (some .int) [(0, 9, 12, 13)], Cond.methodLink RL 43 yX4_pass, Cond.instanceMethod yX4_pass, Cond.selects RX4 yX4_pass yX4_pass, Cond.code yX4_pass cX4_pass 4 (some .int), Cond.methodLink RX4 126 yX4_requireMinutes, Cond.static yX4_requireMinutes, Cond.code yX4_requireMinutes cX4_requireMinutes 1 none, Cond.methodLink RX4 129 yX0_letMinuteGoBy, Cond.instanceMethod yX0_letMinuteGoBy, Cond.selects RX0 yX0_letMinuteGoBy yX0_letMinuteGoBy, Cond.code yX0_letMinuteGoBy cX0_letMinuteGoBy 2 (some .int), Cond.fieldLink RX0 57 "HouseBells$House" "served" "I", Cond.fieldLink RX0 51 "HouseBells$House" "minute" "I", Cond.methodLink RX0 97 yX0_letRoomsWait, Cond.instanceMethod yX0_letRoomsWait, Cond.selects RX0 yX0_letRoomsWait yX0_letRoomsWait, Cond.code yX0_letRoomsWait cX0_letRoomsWait 3 none, Cond.fieldLink RX0 63 "HouseBells$House" "gaveUp" "I", Cond.methodLink RX0 106 yX0_isMultiple, Cond.static yX0_isMultiple]
def wsL_law0_r14 : List Cond := [Cond.code yX0_isMultiple cX0_isMultiple 2 (some .boolean), Cond.methodLink RX0 110 yX0_pullBell, Cond.methodLink RX0 100 yX0_letServantsMove, Cond.instanceMethod yX0_letServantsMove, Cond.selects RX0 yX0_letServantsMove yX0_letServantsMove, Cond.code yX0_letServantsMove cX0_letServantsMove 4 none, Cond.methodLink RX0 117 yX3_isIdle, Cond.instanceMethod yX3_isIdle, Cond.selects RX3 yX3_isIdle yX3_isIdle, Cond.code yX3_isIdle cX3_isIdle 2 (some .boolean), Cond.methodLink RX3 46 yX2_get, Cond.methodLink RX0 126 yX3_rest, Cond.methodLink RX0 129 yX0_arrive, Cond.instanceMethod yX0_arrive, Cond.selects RX0 yX0_arrive yX0_arrive, Cond.code yX0_arrive cX0_arrive 3 none, Cond.fieldLink RX0 60 "HouseBells$House" "inVain" "I", Cond.methodLink RX0 103 yX0_sendIdleServants, Cond.instanceMethod yX0_sendIdleServants, Cond.selects RX0 yX0_sendIdleServants yX0_sendIdleServants, Cond.code yX0_sendIdleServants cX0_sendIdleServants 5 none, Cond.methodLink RX0 137 yX1_first, Cond.instanceMethod yX1_first, Cond.selects RX1 yX1_first yX1_first]
def wsL_law0_r15 : List Cond := [Cond.code yX1_first cX1_first 1 (some .int), Cond.methodLink RX0 141 yX3_nearestTo, Cond.instanceMethod yX3_nearestTo, Cond.selects RX3 yX3_nearestTo yX3_nearestTo, Cond.code yX3_nearestTo cX3_nearestTo 6 (some .int), Cond.methodLink RX3 50 yX3_minutesOfWay, Cond.static yX3_minutesOfWay, Cond.code yX3_minutesOfWay cX3_minutesOfWay 5 (some .int), Cond.methodLink RX0 144 yX1_remove, Cond.methodLink RX0 147 yX3_wayToFloor, Cond.instanceMethod yX3_wayToFloor, Cond.selects RX3 yX3_wayToFloor yX3_wayToFloor, Cond.code yX3_wayToFloor cX3_wayToFloor 3 (some .int), Cond.methodLink RL 133 yX5_pass, Cond.instanceMethod yX5_pass, Cond.selects RX5 yX5_pass yX5_pass, Cond.code yX5_pass cX5_pass 3 (some .int), Cond.methodLink RX5 124 yX5_minutesOn, Cond.instanceMethod yX5_minutesOn, Cond.selects RX5 yX5_minutesOn yX5_minutesOn, Cond.code yX5_minutesOn cX5_minutesOn 3 none, Cond.methodLink RX5 100 yX5_minuteOn, Cond.instanceMethod yX5_minuteOn, Cond.selects RX5 yX5_minuteOn yX5_minuteOn]
def wsL_law0_r16 : List Cond := [Cond.code yX5_minuteOn cX5_minuteOn 2 none, Cond.methodLink RX5 90 yX5_hold, Cond.instanceMethod yX5_hold, Cond.selects RX5 yX5_hold yX5_hold, Cond.code yX5_hold cX5_hold 2 none, Cond.methodLink RX5 93 yX5_work, Cond.instanceMethod yX5_work, Cond.selects RX5 yX5_work yX5_work, Cond.code yX5_work cX5_work 2 none, Cond.methodLink RX5 79 yX5_comeTo, Cond.instanceMethod yX5_comeTo, Cond.selects RX5 yX5_comeTo yX5_comeTo, Cond.code yX5_comeTo cX5_comeTo 3 none, Cond.methodLink RX5 71 yX5_give, Cond.instanceMethod yX5_give, Cond.selects RX5 yX5_give yX5_give, Cond.code yX5_give cX5_give 5 none, Cond.methodLink RX5 96 yX5_sends, Cond.instanceMethod yX5_sends, Cond.selects RX5 yX5_sends yX5_sends, Cond.code yX5_sends cX5_sends 3 (some .boolean), Cond.methodLink RX5 83 yX5_nearest, Cond.instanceMethod yX5_nearest, Cond.selects RX5 yX5_nearest yX5_nearest]
def wsL_law0_r17 : List Cond := [Cond.code yX5_nearest cX5_nearest 4 (some .int), Cond.methodLink RX5 68 yX5_way, Cond.instanceMethod yX5_way, Cond.selects RX5 yX5_way yX5_way, Cond.code yX5_way cX5_way 3 (some .int), Cond.methodLink RX5 59 Lib.Math.abs.name, Cond.static Lib.Math.abs.name, Cond.initialized "java/lang/Math", Cond.code Lib.Math.abs.name Lib.Math.abs.code 1 (some .int), Cond.methodLink RX5 64 Lib.Math.max.name, Cond.static Lib.Math.max.name, Cond.code Lib.Math.max.name Lib.Math.max.code 2 (some .int), Cond.methodLink RL 134 yX4_minute, Cond.instanceMethod yX4_minute, Cond.selects RX4 yX4_minute yX4_minute, Cond.code yX4_minute cX4_minute 1 (some .int), Cond.methodLink RL 137 yX5_minute, Cond.instanceMethod yX5_minute, Cond.selects RX5 yX5_minute yX5_minute, Cond.code yX5_minute cX5_minute 1 (some .int), Cond.methodLink RX5 127 yX5_ok, Cond.instanceMethod yX5_ok, Cond.selects RX5 yX5_ok yX5_ok, Cond.code yX5_ok cX5_ok 2 (some .int)]
def wsL_law0_r18 : List Cond := [Cond.methodLink RL 138 yX4_rooms, Cond.instanceMethod yX4_rooms, Cond.selects RX4 yX4_rooms yX4_rooms, Cond.code yX4_rooms cX4_rooms 1 (some .int), Cond.methodLink RL 141 yX5_rooms, Cond.instanceMethod yX5_rooms, Cond.selects RX5 yX5_rooms yX5_rooms, Cond.code yX5_rooms cX5_rooms 1 (some .int), Cond.methodLink RL 142 yX4_servants, Cond.instanceMethod yX4_servants, Cond.selects RX4 yX4_servants yX4_servants, Cond.code yX4_servants cX4_servants 1 (some .int), Cond.methodLink RL 145 yX5_servants, Cond.instanceMethod yX5_servants, Cond.selects RX5 yX5_servants yX5_servants, Cond.code yX5_servants cX5_servants 1 (some .int), Cond.methodLink RL 146 yX4_charge, Cond.instanceMethod yX4_charge, Cond.selects RX4 yX4_charge yX4_charge, Cond.code yX4_charge cX4_charge 1 (some .int), Cond.methodLink RL 149 yX5_charge, Cond.instanceMethod yX5_charge, Cond.selects RX5 yX5_charge yX5_charge, Cond.code yX5_charge cX5_charge 1 (some .int)]
def wsL_law0_r19 : List Cond := [Cond.methodLink RL 150 yX4_served, Cond.instanceMethod yX4_served, Cond.selects RX4 yX4_served yX4_served, Cond.code yX4_served cX4_served 1 (some .int), Cond.methodLink RL 153 yX5_served, Cond.instanceMethod yX5_served, Cond.selects RX5 yX5_served yX5_served, Cond.code yX5_served cX5_served 1 (some .int), Cond.methodLink RL 154 yX4_inVain, Cond.instanceMethod yX4_inVain, Cond.selects RX4 yX4_inVain yX4_inVain, Cond.code yX4_inVain cX4_inVain 1 (some .int), Cond.methodLink RL 157 yX5_inVain, Cond.instanceMethod yX5_inVain, Cond.selects RX5 yX5_inVain yX5_inVain, Cond.code yX5_inVain cX5_inVain 1 (some .int), Cond.methodLink RL 158 yX4_gaveUp, Cond.instanceMethod yX4_gaveUp, Cond.selects RX4 yX4_gaveUp yX4_gaveUp, Cond.code yX4_gaveUp cX4_gaveUp 1 (some .int), Cond.methodLink RL 161 yX5_gaveUp, Cond.instanceMethod yX5_gaveUp, Cond.selects RX5 yX5_gaveUp yX5_gaveUp, Cond.code yX5_gaveUp cX5_gaveUp 1 (some .int)]
def wsL_law0_r20 : List Cond := [Cond.methodLink RL 162 yX4_unheard, Cond.instanceMethod yX4_unheard, Cond.selects RX4 yX4_unheard yX4_unheard, Cond.code yX4_unheard cX4_unheard 1 (some .int), Cond.methodLink RL 165 yX5_unheard, Cond.instanceMethod yX5_unheard, Cond.selects RX5 yX5_unheard yX5_unheard, Cond.code yX5_unheard cX5_unheard 1 (some .int), Cond.methodLink RL 166 yL_dropOf, Cond.static yL_dropOf, Cond.codeWith yL_dropOf cL_dropOf 4 (some .int) [(0, 9, 12, 25)], Cond.methodLink RL 46 yX4_dropOf, Cond.instanceMethod yX4_dropOf, Cond.selects RX4 yX4_dropOf yX4_dropOf, Cond.code yX4_dropOf cX4_dropOf 2 (some .int), Cond.methodLink RL 168 yX5_dropOf, Cond.instanceMethod yX5_dropOf, Cond.selects RX5 yX5_dropOf yX5_dropOf, Cond.code yX5_dropOf cX5_dropOf 2 (some .int), Cond.methodLink RL 169 yL_roomOf, Cond.static yL_roomOf, Cond.codeWith yL_roomOf cL_roomOf 4 (some .int) [(0, 9, 12, 25)], Cond.methodLink RL 49 yX4_roomOf, Cond.instanceMethod yX4_roomOf]
def wsL_law0_r21 : List Cond := [Cond.selects RX4 yX4_roomOf yX4_roomOf, Cond.code yX4_roomOf cX4_roomOf 3 (some .int), Cond.methodLink RL 171 yX5_roomOf, Cond.instanceMethod yX5_roomOf, Cond.selects RX5 yX5_roomOf yX5_roomOf, Cond.code yX5_roomOf cX5_roomOf 2 (some .int), Cond.methodLink RX5 130 yX5_leads, Cond.instanceMethod yX5_leads, Cond.selects RX5 yX5_leads yX5_leads, Cond.code yX5_leads cX5_leads 3 (some .int), Cond.methodLink RL 172 yL_isCut, Cond.static yL_isCut, Cond.codeWith yL_isCut cL_isCut 4 (some .int) [(0, 16, 19, 25)], Cond.methodLink RL 52 yX4_isCut, Cond.instanceMethod yX4_isCut, Cond.selects RX4 yX4_isCut yX4_isCut, Cond.code yX4_isCut cX4_isCut 2 (some .boolean), Cond.methodLink RL 174 yX5_isCut, Cond.instanceMethod yX5_isCut, Cond.selects RX5 yX5_isCut yX5_isCut, Cond.code yX5_isCut cX5_isCut 2 (some .boolean), Cond.methodLink RL 175 yL_waitedFor, Cond.static yL_waitedFor, Cond.codeWith yL_waitedFor cL_waitedFor 4 (some .int) [(0, 9, 12, 25)]]
def wsL_law0_r22 : List Cond := [Cond.methodLink RL 55 yX4_waitedFor, Cond.instanceMethod yX4_waitedFor, Cond.selects RX4 yX4_waitedFor yX4_waitedFor, Cond.code yX4_waitedFor cX4_waitedFor 2 (some .int), Cond.methodLink RL 177 yX5_waitedFor, Cond.instanceMethod yX5_waitedFor, Cond.selects RX5 yX5_waitedFor yX5_waitedFor, Cond.code yX5_waitedFor cX5_waitedFor 2 (some .int), Cond.methodLink RL 178 yX4_longestWaiting, Cond.instanceMethod yX4_longestWaiting, Cond.selects RX4 yX4_longestWaiting yX4_longestWaiting, Cond.code yX4_longestWaiting cX4_longestWaiting 4 (some .int), Cond.methodLink RL 181 yX5_longestWaiting, Cond.instanceMethod yX5_longestWaiting, Cond.selects RX5 yX5_longestWaiting yX5_longestWaiting, Cond.code yX5_longestWaiting cX5_longestWaiting 1 (some .int), Cond.methodLink RX5 133 yX5_longest, Cond.instanceMethod yX5_longest, Cond.selects RX5 yX5_longest yX5_longest, Cond.code yX5_longest cX5_longest 3 (some .int), Cond.methodLink RL 182 yX4_crossed, Cond.instanceMethod yX4_crossed, Cond.selects RX4 yX4_crossed yX4_crossed, Cond.code yX4_crossed cX4_crossed 3 (some .int)]
def wsL_law0_r23 : List Cond := [Cond.methodLink RL 185 yX5_crossed, Cond.instanceMethod yX5_crossed, Cond.selects RX5 yX5_crossed yX5_crossed, Cond.code yX5_crossed cX5_crossed 1 (some .int), Cond.methodLink RX5 136 yX5_manyCrossed, Cond.instanceMethod yX5_manyCrossed, Cond.selects RX5 yX5_manyCrossed yX5_manyCrossed, Cond.code yX5_manyCrossed cX5_manyCrossed 3 (some .int), Cond.methodLink RL 186 yX4_crossingsNeeded, Cond.instanceMethod yX4_crossingsNeeded, Cond.selects RX4 yX4_crossingsNeeded yX4_crossingsNeeded, Cond.code yX4_crossingsNeeded cX4_crossingsNeeded 3 (some .int), Cond.methodLink RX4 147 yX0_isFirstOfItsCircle, Cond.instanceMethod yX0_isFirstOfItsCircle, Cond.selects RX0 yX0_isFirstOfItsCircle yX0_isFirstOfItsCircle, Cond.code yX0_isFirstOfItsCircle cX0_isFirstOfItsCircle 4 (some .boolean), Cond.methodLink RL 189 yX5_crossingsNeeded, Cond.instanceMethod yX5_crossingsNeeded, Cond.selects RX5 yX5_crossingsNeeded yX5_crossingsNeeded, Cond.code yX5_crossingsNeeded cX5_crossingsNeeded 1 (some .int), Cond.methodLink RX5 139 yX5_crossings, Cond.instanceMethod yX5_crossings, Cond.selects RX5 yX5_crossings yX5_crossings, Cond.code yX5_crossings cX5_crossings 4 (some .int)]
def wsL_law0_r24 : List Cond := [Cond.methodLink RL 190 yX4_fallen, Cond.instanceMethod yX4_fallen, Cond.selects RX4 yX4_fallen yX4_fallen, Cond.code yX4_fallen cX4_fallen 1 (some .int), Cond.methodLink RL 193 yX5_fallen, Cond.instanceMethod yX5_fallen, Cond.selects RX5 yX5_fallen yX5_fallen, Cond.code yX5_fallen cX5_fallen 1 (some .int), Cond.methodLink RL 194 yL_hasFallen, Cond.static yL_hasFallen, Cond.codeWith yL_hasFallen cL_hasFallen 4 (some .int) [(0, 16, 19, 25)], Cond.methodLink RL 58 yX4_hasFallen, Cond.instanceMethod yX4_hasFallen, Cond.selects RX4 yX4_hasFallen yX4_hasFallen, Cond.code yX4_hasFallen cX4_hasFallen 2 (some .boolean), Cond.methodLink RL 196 yX5_hasFallen, Cond.instanceMethod yX5_hasFallen, Cond.selects RX5 yX5_hasFallen yX5_hasFallen, Cond.code yX5_hasFallen cX5_hasFallen 2 (some .boolean), Cond.methodLink RL 197 yL_placeInLine, Cond.static yL_placeInLine, Cond.codeWith yL_placeInLine cL_placeInLine 4 (some .int) [(0, 9, 12, 25)], Cond.methodLink RL 61 yX4_placeInLine, Cond.instanceMethod yX4_placeInLine]
def wsL_law0_r25 : List Cond := [Cond.selects RX4 yX4_placeInLine yX4_placeInLine, Cond.code yX4_placeInLine cX4_placeInLine 2 (some .int), Cond.methodLink RL 199 yX5_placeInLine, Cond.instanceMethod yX5_placeInLine, Cond.selects RX5 yX5_placeInLine yX5_placeInLine, Cond.code yX5_placeInLine cX5_placeInLine 2 (some .int), Cond.methodLink RL 200 yX4_nextDrop, Cond.instanceMethod yX4_nextDrop, Cond.selects RX4 yX4_nextDrop yX4_nextDrop, Cond.code yX4_nextDrop cX4_nextDrop 1 (some .int), Cond.methodLink RX4 150 yX1_first, Cond.methodLink RL 203 yX5_nextDrop, Cond.instanceMethod yX5_nextDrop, Cond.selects RX5 yX5_nextDrop yX5_nextDrop, Cond.code yX5_nextDrop cX5_nextDrop 1 (some .int), Cond.methodLink RX5 142 yX5_head, Cond.instanceMethod yX5_head, Cond.selects RX5 yX5_head yX5_head, Cond.code yX5_head cX5_head 1 (some .int), Cond.methodLink RL 204 yL_ringsLeft, Cond.static yL_ringsLeft, Cond.codeWith yL_ringsLeft cL_ringsLeft 4 (some .int) [(0, 9, 12, 25)], Cond.methodLink RL 64 yX4_ringsLeft, Cond.instanceMethod yX4_ringsLeft]
def wsL_law0_r26 : List Cond := [Cond.selects RX4 yX4_ringsLeft yX4_ringsLeft, Cond.code yX4_ringsLeft cX4_ringsLeft 2 (some .int), Cond.methodLink RX4 156 yX0_costFrom, Cond.methodLink RX4 159 yX4_quotient, Cond.static yX4_quotient, Cond.code yX4_quotient cX4_quotient 2 (some .int), Cond.methodLink RL 206 yX5_ringsLeft, Cond.instanceMethod yX5_ringsLeft, Cond.selects RX5 yX5_ringsLeft yX5_ringsLeft, Cond.code yX5_ringsLeft cX5_ringsLeft 2 (some .int), Cond.methodLink RX5 145 yX5_left, Cond.instanceMethod yX5_left, Cond.selects RX5 yX5_left yX5_left, Cond.code yX5_left cX5_left 2 (some .int), Cond.methodLink RL 207 yL_floorOf, Cond.static yL_floorOf, Cond.codeWith yL_floorOf cL_floorOf 4 (some .int) [(0, 9, 12, 25)], Cond.methodLink RL 67 yX4_floorOf, Cond.instanceMethod yX4_floorOf, Cond.selects RX4 yX4_floorOf yX4_floorOf, Cond.code yX4_floorOf cX4_floorOf 2 (some .int), Cond.methodLink RX4 163 yX4_requireServant, Cond.instanceMethod yX4_requireServant, Cond.selects RX4 yX4_requireServant yX4_requireServant]
def wsL_law0_r27 : List Cond := [Cond.code yX4_requireServant cX4_requireServant 2 none, Cond.methodLink RL 209 yX5_floorOf, Cond.instanceMethod yX5_floorOf, Cond.selects RX5 yX5_floorOf yX5_floorOf, Cond.code yX5_floorOf cX5_floorOf 2 (some .int), Cond.methodLink RX5 148 yX5_isServant, Cond.instanceMethod yX5_isServant, Cond.selects RX5 yX5_isServant yX5_isServant, Cond.code yX5_isServant cX5_isServant 2 (some .boolean), Cond.methodLink RL 210 yL_goesTo, Cond.static yL_goesTo, Cond.codeWith yL_goesTo cL_goesTo 4 (some .int) [(0, 9, 12, 25)], Cond.methodLink RL 70 yX4_goesTo, Cond.instanceMethod yX4_goesTo, Cond.selects RX4 yX4_goesTo yX4_goesTo, Cond.code yX4_goesTo cX4_goesTo 2 (some .int), Cond.methodLink RL 212 yX5_goesTo, Cond.instanceMethod yX5_goesTo, Cond.selects RX5 yX5_goesTo yX5_goesTo, Cond.code yX5_goesTo cX5_goesTo 2 (some .int), Cond.methodLink RX5 151 yX5_whom, Cond.instanceMethod yX5_whom, Cond.selects RX5 yX5_whom yX5_whom, Cond.code yX5_whom cX5_whom 3 (some .int)]
def wsL_law0_r28 : List Cond := [Cond.methodLink RL 213 yL_serves, Cond.static yL_serves, Cond.codeWith yL_serves cL_serves 4 (some .int) [(0, 9, 12, 25)], Cond.methodLink RL 73 yX4_serves, Cond.instanceMethod yX4_serves, Cond.selects RX4 yX4_serves yX4_serves, Cond.code yX4_serves cX4_serves 2 (some .int), Cond.methodLink RL 215 yX5_serves, Cond.instanceMethod yX5_serves, Cond.selects RX5 yX5_serves yX5_serves, Cond.code yX5_serves cX5_serves 2 (some .int), Cond.methodLink RL 216 yL_minutesLeft, Cond.static yL_minutesLeft, Cond.codeWith yL_minutesLeft cL_minutesLeft 4 (some .int) [(0, 9, 12, 25)], Cond.methodLink RL 76 yX4_minutesLeft, Cond.instanceMethod yX4_minutesLeft, Cond.selects RX4 yX4_minutesLeft yX4_minutesLeft, Cond.code yX4_minutesLeft cX4_minutesLeft 2 (some .int), Cond.methodLink RL 218 yX5_minutesLeft, Cond.instanceMethod yX5_minutesLeft, Cond.selects RX5 yX5_minutesLeft yX5_minutesLeft, Cond.code yX5_minutesLeft cX5_minutesLeft 2 (some .int), Cond.methodLink RL 219 yL_wayTo, Cond.static yL_wayTo]
def wsL_law0_r29 : List Cond := [Cond.codeWith yL_wayTo cL_wayTo 5 (some .int) [(0, 10, 13, 25)], Cond.methodLink RL 79 yX4_wayTo, Cond.instanceMethod yX4_wayTo, Cond.selects RX4 yX4_wayTo yX4_wayTo, Cond.code yX4_wayTo cX4_wayTo 3 (some .int), Cond.methodLink RX4 176 yX3_wayToFloor, Cond.methodLink RL 221 yX5_wayTo, Cond.instanceMethod yX5_wayTo, Cond.selects RX5 yX5_wayTo yX5_wayTo, Cond.code yX5_wayTo cX5_wayTo 3 (some .int), Cond.methodLink RL 222 yL_nearestIdle, Cond.static yL_nearestIdle, Cond.codeWith yL_nearestIdle cL_nearestIdle 4 (some .int) [(0, 9, 12, 25)], Cond.methodLink RL 82 yX4_nearestIdle, Cond.instanceMethod yX4_nearestIdle, Cond.selects RX4 yX4_nearestIdle yX4_nearestIdle, Cond.code yX4_nearestIdle cX4_nearestIdle 2 (some .int), Cond.methodLink RX4 179 yX3_nearestTo, Cond.methodLink RL 224 yX5_nearestIdle, Cond.instanceMethod yX5_nearestIdle, Cond.selects RX5 yX5_nearestIdle yX5_nearestIdle, Cond.code yX5_nearestIdle cX5_nearestIdle 2 (some .int), Cond.methodLink RL 225 yL_minutesUntilServed, Cond.static yL_minutesUntilServed]
def wsL_law0_r30 : List Cond := [Cond.codeWith yL_minutesUntilServed cL_minutesUntilServed 4 (some .int) [(0, 9, 12, 25)], Cond.methodLink RL 85 yX4_minutesUntilServed, Cond.instanceMethod yX4_minutesUntilServed, Cond.selects RX4 yX4_minutesUntilServed yX4_minutesUntilServed, Cond.code yX4_minutesUntilServed cX4_minutesUntilServed 3 (some .int), Cond.methodLink RX4 182 yX0_copyFrom, Cond.instanceMethod yX0_copyFrom, Cond.selects RX0 yX0_copyFrom yX0_copyFrom, Cond.code yX0_copyFrom cX0_copyFrom 2 none, Cond.methodLink RX0 69 yX2_copyFrom, Cond.instanceMethod yX2_copyFrom, Cond.selects RX2 yX2_copyFrom yX2_copyFrom, Cond.code yX2_copyFrom cX2_copyFrom 3 none, Cond.methodLink RX0 73 yX1_copyFrom, Cond.instanceMethod yX1_copyFrom, Cond.selects RX1 yX1_copyFrom yX1_copyFrom, Cond.code yX1_copyFrom cX1_copyFrom 3 none, Cond.methodLink RX0 76 yX3_copyFrom, Cond.instanceMethod yX3_copyFrom, Cond.selects RX3 yX3_copyFrom yX3_copyFrom, Cond.code yX3_copyFrom cX3_copyFrom 2 none, Cond.methodLink RX3 34 yX2_copyFrom, Cond.methodLink RX4 186 yX3_isServing, Cond.instanceMethod yX3_isServing]
def wsL_law0_r31 : List Cond := [Cond.selects RX3 yX3_isServing yX3_isServing, Cond.code yX3_isServing cX3_isServing 3 (some .boolean), Cond.methodLink RL 227 yX5_minutesUntilServed, Cond.instanceMethod yX5_minutesUntilServed, Cond.selects RX5 yX5_minutesUntilServed yX5_minutesUntilServed, Cond.code yX5_minutesUntilServed cX5_minutesUntilServed 2 (some .int), Cond.methodLink RX5 163 yX5_untilServed, Cond.instanceMethod yX5_untilServed, Cond.selects RX5 yX5_untilServed yX5_untilServed, Cond.code yX5_untilServed cX5_untilServed 3 (some .int), Cond.methodLink RX5 154 yX5_keep, Cond.instanceMethod yX5_keep, Cond.selects RX5 yX5_keep yX5_keep, Cond.code yX5_keep cX5_keep 1 none, Cond.methodLink RX5 49 arraycopyName, Cond.native arraycopyName, Cond.static arraycopyName, Cond.initialized "java/lang/System", Cond.methodLink RX5 157 yX5_isServed, Cond.instanceMethod yX5_isServed, Cond.selects RX5 yX5_isServed yX5_isServed, Cond.code yX5_isServed cX5_isServed 3 (some .boolean), Cond.methodLink RX5 160 yX5_bringBack, Cond.instanceMethod yX5_bringBack]
def wsL_law0_r32 : List Cond := [Cond.selects RX5 yX5_bringBack yX5_bringBack, Cond.code yX5_bringBack cX5_bringBack 1 none, Cond.methodLink RL 228 yL_servedIn, Cond.static yL_servedIn, Cond.codeWith yL_servedIn cL_servedIn 4 (some .int) [(0, 9, 12, 13)], Cond.methodLink RL 88 yX4_servedIn, Cond.instanceMethod yX4_servedIn, Cond.selects RX4 yX4_servedIn yX4_servedIn, Cond.code yX4_servedIn cX4_servedIn 2 (some .int), Cond.methodLink RX4 189 yX4_serveInTrial, Cond.instanceMethod yX4_serveInTrial, Cond.selects RX4 yX4_serveInTrial yX4_serveInTrial, Cond.code yX4_serveInTrial cX4_serveInTrial 4 (some .int), Cond.methodLink RX4 282 yX0_isAnyoneWaiting, Cond.instanceMethod yX0_isAnyoneWaiting, Cond.selects RX0 yX0_isAnyoneWaiting yX0_isAnyoneWaiting, Cond.code yX0_isAnyoneWaiting cX0_isAnyoneWaiting 2 (some .boolean), Cond.methodLink RL 230 yX5_servedIn, Cond.instanceMethod yX5_servedIn, Cond.selects RX5 yX5_servedIn yX5_servedIn, Cond.code yX5_servedIn cX5_servedIn 2 (some .int), Cond.methodLink RX5 166 yX5_soon, Cond.instanceMethod yX5_soon, Cond.selects RX5 yX5_soon yX5_soon]
def wsL_law0_r33 : List Cond := [Cond.code yX5_soon cX5_soon 3 (some .int), Cond.methodLink RL 231 yL_bestToCross, Cond.static yL_bestToCross, Cond.codeWith yL_bestToCross cL_bestToCross 4 (some .int) [(0, 9, 12, 25)], Cond.methodLink RL 91 yX4_bestToCross, Cond.instanceMethod yX4_bestToCross, Cond.selects RX4 yX4_bestToCross yX4_bestToCross, Cond.code yX4_bestToCross cX4_bestToCross 6 (some .int), Cond.methodLink RL 233 yX5_bestToCross, Cond.instanceMethod yX5_bestToCross, Cond.selects RX5 yX5_bestToCross yX5_bestToCross, Cond.code yX5_bestToCross cX5_bestToCross 2 (some .int), Cond.methodLink RX5 169 yX5_best, Cond.instanceMethod yX5_best, Cond.selects RX5 yX5_best yX5_best, Cond.code yX5_best cX5_best 6 (some .int), Cond.methodLink RL 234 yX4_meanWait, Cond.instanceMethod yX4_meanWait, Cond.selects RX4 yX4_meanWait yX4_meanWait, Cond.code yX4_meanWait cX4_meanWait 4 (some .double), Cond.methodLink RL 238 yX5_meanWait, Cond.instanceMethod yX5_meanWait, Cond.selects RX5 yX5_meanWait yX5_meanWait, Cond.code yX5_meanWait cX5_meanWait 4 (some .double)]
def wsL_law0_r34 : List Cond := [Cond.methodLink RL 239 yX4_digest, Cond.instanceMethod yX4_digest, Cond.selects RX4 yX4_digest yX4_digest, Cond.code yX4_digest cX4_digest 4 (some .long), Cond.constantLong RX4 192 (2377), Cond.methodLink RX4 194 yX4_minute, Cond.methodLink RX4 196 yX4_mix, Cond.static yX4_mix, Cond.code yX4_mix cX4_mix 3 (some .long), Cond.constantLong RX4 286 (31), Cond.methodLink RX4 200 yX4_rooms, Cond.methodLink RX4 203 yX4_servants, Cond.methodLink RX4 206 yX4_charge, Cond.methodLink RX4 208 yX4_served, Cond.methodLink RX4 210 yX4_inVain, Cond.methodLink RX4 212 yX4_gaveUp, Cond.methodLink RX4 214 yX4_unheard, Cond.methodLink RX4 216 yX4_longestWaiting, Cond.methodLink RX4 219 yX4_crossed, Cond.methodLink RX4 222 yX4_crossingsNeeded, Cond.methodLink RX4 225 yX4_fallen, Cond.methodLink RX4 228 yX4_nextDrop, Cond.methodLink RX4 231 yX4_servedIn, Cond.methodLink RX4 234 yX4_dropOf]
def wsL_law0_r35 : List Cond := [Cond.methodLink RX4 237 yX4_roomOf, Cond.methodLink RX4 240 yX4_isCut, Cond.methodLink RX4 243 yX4_waitedFor, Cond.methodLink RX4 246 yX4_placeInLine, Cond.methodLink RX4 249 yX4_ringsLeft, Cond.methodLink RX4 252 yX4_nearestIdle, Cond.methodLink RX4 255 yX4_minutesUntilServed, Cond.methodLink RX4 258 yX4_bestToCross, Cond.methodLink RX4 261 yX4_floorOf, Cond.methodLink RX4 264 yX4_goesTo, Cond.methodLink RX4 267 yX4_serves, Cond.methodLink RX4 270 yX4_minutesLeft, Cond.methodLink RL 243 yX5_digest, Cond.instanceMethod yX5_digest, Cond.selects RX5 yX5_digest yX5_digest, Cond.code yX5_digest cX5_digest 10 (some .long), Cond.constantLong RX5 172 (2377), Cond.constantLong RX5 174 (31)]
def wsL_law0 : List Cond := (wsL_law0_r1 ++ (wsL_law0_r2 ++ (wsL_law0_r3 ++ (wsL_law0_r4 ++ (wsL_law0_r5 ++ (wsL_law0_r6 ++ (wsL_law0_r7 ++ (wsL_law0_r8 ++ (wsL_law0_r9 ++ (wsL_law0_r10 ++ (wsL_law0_r11 ++ (wsL_law0_r12 ++ (wsL_law0_r13 ++ (wsL_law0_r14 ++ (wsL_law0_r15 ++ (wsL_law0_r16 ++ (wsL_law0_r17 ++ (wsL_law0_r18 ++ (wsL_law0_r19 ++ (wsL_law0_r20 ++ (wsL_law0_r21 ++ (wsL_law0_r22 ++ (wsL_law0_r23 ++ (wsL_law0_r24 ++ (wsL_law0_r25 ++ (wsL_law0_r26 ++ (wsL_law0_r27 ++ (wsL_law0_r28 ++ (wsL_law0_r29 ++ (wsL_law0_r30 ++ (wsL_law0_r31 ++ (wsL_law0_r32 ++ (wsL_law0_r33 ++ (wsL_law0_r34 ++ wsL_law0_r35)))))))))))))))))))))))))))))))))) ++ wsX40 ++ wsX50 ++ wsX00 ++ wsX20 ++ wsX10 ++ wsX30 ++ ([] : List Cond)
def wsL_law : List Cond := wsL_law0 ++ (vx_atS RX4 27 "java/lang/IllegalArgumentException" ["java/lang/RuntimeException", "java/lang/Exception"]).filter goodWord ++ (vx_atS RX4 38 "java/lang/IllegalStateException" ["java/lang/RuntimeException", "java/lang/Exception"]).filter goodWord ++ (vx_atS RX4 277 "java/lang/IndexOutOfBoundsException" ["java/lang/RuntimeException", "java/lang/Exception"]).filter goodWord
abbrev vwCl : List vw_C := [(RX0, TX0, 15), (RX1, TX1, 2), (RX2, TX2, 1), (RX3, TX3, 6), (RX4, TX4, 2), (RX5, TX5, 11)]
end
section
set_option maxRecDepth 20000 in
theorem ggX0_init_X2_init : GoodIn wsX0_init wsX2_init := goodIn_r _ [24, 25, 2, 3, 26, 27, 59] (by decide +kernel) (by decide +kernel)
set_option maxRecDepth 20000 in
theorem gX0_init_X2_init : GoodIn wsX0_init (wsX2_init) := ggX0_init_X2_init
set_option maxRecDepth 20000 in
theorem ggX0_init_X1_init : GoodIn wsX0_init wsX1_init := goodIn_r _ [30, 31, 2, 3, 26, 32, 60, 61] (by decide +kernel) (by decide +kernel)
set_option maxRecDepth 20000 in
theorem gX0_init_X1_init : GoodIn wsX0_init (wsX1_init) := ggX0_init_X1_init
set_option maxRecDepth 20000 in
theorem ggX0_init_X3_init : GoodIn wsX0_init wsX3_init := goodIn_r _ [35, 36, 2, 3, 37, 6, 7, 38, 39, 40, 41, 42, 43, 23, 24, 25, 26, 27, 59, 62, 63, 64, 65, 66, 67] (by decide +kernel) (by decide +kernel)
set_option maxRecDepth 20000 in
theorem gX0_init_X3_init : GoodIn wsX0_init (wsX3_init) := ggX0_init_X3_init
theorem dX0_init_0 : decode cX0_init 0 = .ok (.aload_n 0, 1) := by decide +kernel
theorem dX0_init_1 : decode cX0_init 1 = .ok (.invokespecial 3, 3) := by decide +kernel
theorem dX0_init_4 : decode cX0_init 4 = .ok (.aload_n 0, 1) := by decide +kernel
theorem dX0_init_5 : decode cX0_init 5 = .ok (.sipush 200, 3) := by decide +kernel
theorem dX0_init_8 : decode cX0_init 8 = .ok (.putfield 9, 3) := by decide +kernel
theorem dX0_init_11 : decode cX0_init 11 = .ok (.aload_n 0, 1) := by decide +kernel
theorem dX0_init_12 : decode cX0_init 12 = .ok (.new 15, 3) := by decide +kernel
theorem dX0_init_15 : decode cX0_init 15 = .ok (.dup, 1) := by decide +kernel
theorem dX0_init_16 : decode cX0_init 16 = .ok (.invokespecial 17, 3) := by decide +kernel
theorem dX0_init_19 : decode cX0_init 19 = .ok (.putfield 18, 3) := by decide +kernel
theorem dX0_init_22 : decode cX0_init 22 = .ok (.aload_n 0, 1) := by decide +kernel
theorem dX0_init_23 : decode cX0_init 23 = .ok (.new 15, 3) := by decide +kernel
theorem dX0_init_26 : decode cX0_init 26 = .ok (.dup, 1) := by decide +kernel
theorem dX0_init_27 : decode cX0_init 27 = .ok (.invokespecial 17, 3) := by decide +kernel
theorem dX0_init_30 : decode cX0_init 30 = .ok (.putfield 22, 3) := by decide +kernel
theorem dX0_init_33 : decode cX0_init 33 = .ok (.aload_n 0, 1) := by decide +kernel
theorem dX0_init_34 : decode cX0_init 34 = .ok (.new 15, 3) := by decide +kernel
theorem dX0_init_37 : decode cX0_init 37 = .ok (.dup, 1) := by decide +kernel
theorem dX0_init_38 : decode cX0_init 38 = .ok (.invokespecial 17, 3) := by decide +kernel
theorem dX0_init_41 : decode cX0_init 41 = .ok (.putfield 25, 3) := by decide +kernel
theorem dX0_init_44 : decode cX0_init 44 = .ok (.aload_n 0, 1) := by decide +kernel
theorem dX0_init_45 : decode cX0_init 45 = .ok (.new 15, 3) := by decide +kernel
theorem dX0_init_48 : decode cX0_init 48 = .ok (.dup, 1) := by decide +kernel
theorem dX0_init_49 : decode cX0_init 49 = .ok (.invokespecial 17, 3) := by decide +kernel
theorem dX0_init_52 : decode cX0_init 52 = .ok (.putfield 28, 3) := by decide +kernel
theorem dX0_init_55 : decode cX0_init 55 = .ok (.aload_n 0, 1) := by decide +kernel
theorem dX0_init_56 : decode cX0_init 56 = .ok (.new 15, 3) := by decide +kernel
theorem dX0_init_59 : decode cX0_init 59 = .ok (.dup, 1) := by decide +kernel
theorem dX0_init_60 : decode cX0_init 60 = .ok (.invokespecial 17, 3) := by decide +kernel
theorem dX0_init_63 : decode cX0_init 63 = .ok (.putfield 31, 3) := by decide +kernel
theorem dX0_init_66 : decode cX0_init 66 = .ok (.aload_n 0, 1) := by decide +kernel
theorem dX0_init_67 : decode cX0_init 67 = .ok (.new 15, 3) := by decide +kernel
theorem dX0_init_70 : decode cX0_init 70 = .ok (.dup, 1) := by decide +kernel
theorem dX0_init_71 : decode cX0_init 71 = .ok (.invokespecial 17, 3) := by decide +kernel
theorem dX0_init_74 : decode cX0_init 74 = .ok (.putfield 34, 3) := by decide +kernel
theorem dX0_init_77 : decode cX0_init 77 = .ok (.aload_n 0, 1) := by decide +kernel
theorem dX0_init_78 : decode cX0_init 78 = .ok (.new 37, 3) := by decide +kernel
theorem dX0_init_81 : decode cX0_init 81 = .ok (.dup, 1) := by decide +kernel
theorem dX0_init_82 : decode cX0_init 82 = .ok (.invokespecial 39, 3) := by decide +kernel
theorem dX0_init_85 : decode cX0_init 85 = .ok (.putfield 40, 3) := by decide +kernel
theorem dX0_init_88 : decode cX0_init 88 = .ok (.aload_n 0, 1) := by decide +kernel
theorem dX0_init_89 : decode cX0_init 89 = .ok (.new 44, 3) := by decide +kernel
theorem dX0_init_92 : decode cX0_init 92 = .ok (.dup, 1) := by decide +kernel
theorem dX0_init_93 : decode cX0_init 93 = .ok (.invokespecial 46, 3) := by decide +kernel
theorem dX0_init_96 : decode cX0_init 96 = .ok (.putfield 47, 3) := by decide +kernel
theorem dX0_init_99 : decode cX0_init 99 = .ok (.return_, 1) := by decide +kernel
set_option maxRecDepth 20000 in
theorem ggX0_copyFrom_X2_copyFrom : GoodIn wsX0_copyFrom wsX2_copyFrom := goodIn_r _ [20, 21, 56] (by decide +kernel) (by decide +kernel)
set_option maxRecDepth 20000 in
theorem gX0_copyFrom_X2_copyFrom : GoodIn wsX0_copyFrom (wsV RX0 69 RX2 yX2_copyFrom wsX2_copyFrom) := goodIn_app (goodIn_of _ (by decide +kernel)) ggX0_copyFrom_X2_copyFrom
set_option maxRecDepth 20000 in
theorem ggX0_copyFrom_X1_copyFrom : GoodIn wsX0_copyFrom wsX1_copyFrom := goodIn_r _ [26, 27, 28, 57, 58] (by decide +kernel) (by decide +kernel)
set_option maxRecDepth 20000 in
theorem gX0_copyFrom_X1_copyFrom : GoodIn wsX0_copyFrom (wsV RX0 73 RX1 yX1_copyFrom wsX1_copyFrom) := goodIn_app (goodIn_of _ (by decide +kernel)) ggX0_copyFrom_X1_copyFrom
set_option maxRecDepth 20000 in
theorem ggX0_copyFrom_X3_copyFrom : GoodIn wsX0_copyFrom wsX3_copyFrom := goodIn_r _ [33, 34, 35, 36, 37, 38, 39, 40, 17, 18, 19, 20, 21, 59, 60, 61, 62, 63, 64, 56] (by decide +kernel) (by decide +kernel)
set_option maxRecDepth 20000 in
theorem gX0_copyFrom_X3_copyFrom : GoodIn wsX0_copyFrom (wsV RX0 76 RX3 yX3_copyFrom wsX3_copyFrom) := goodIn_app (goodIn_of _ (by decide +kernel)) ggX0_copyFrom_X3_copyFrom
theorem dX0_copyFrom_0 : decode cX0_copyFrom 0 = .ok (.aload_n 0, 1) := by decide +kernel
theorem dX0_copyFrom_1 : decode cX0_copyFrom 1 = .ok (.aload_n 1, 1) := by decide +kernel
theorem dX0_copyFrom_2 : decode cX0_copyFrom 2 = .ok (.getfield 51, 3) := by decide +kernel
theorem dX0_copyFrom_5 : decode cX0_copyFrom 5 = .ok (.putfield 51, 3) := by decide +kernel
theorem dX0_copyFrom_8 : decode cX0_copyFrom 8 = .ok (.aload_n 0, 1) := by decide +kernel
theorem dX0_copyFrom_9 : decode cX0_copyFrom 9 = .ok (.aload_n 1, 1) := by decide +kernel
theorem dX0_copyFrom_10 : decode cX0_copyFrom 10 = .ok (.getfield 54, 3) := by decide +kernel
theorem dX0_copyFrom_13 : decode cX0_copyFrom 13 = .ok (.putfield 54, 3) := by decide +kernel
theorem dX0_copyFrom_16 : decode cX0_copyFrom 16 = .ok (.aload_n 0, 1) := by decide +kernel
theorem dX0_copyFrom_17 : decode cX0_copyFrom 17 = .ok (.aload_n 1, 1) := by decide +kernel
theorem dX0_copyFrom_18 : decode cX0_copyFrom 18 = .ok (.getfield 9, 3) := by decide +kernel
theorem dX0_copyFrom_21 : decode cX0_copyFrom 21 = .ok (.putfield 9, 3) := by decide +kernel
theorem dX0_copyFrom_24 : decode cX0_copyFrom 24 = .ok (.aload_n 0, 1) := by decide +kernel
theorem dX0_copyFrom_25 : decode cX0_copyFrom 25 = .ok (.aload_n 1, 1) := by decide +kernel
theorem dX0_copyFrom_26 : decode cX0_copyFrom 26 = .ok (.getfield 57, 3) := by decide +kernel
theorem dX0_copyFrom_29 : decode cX0_copyFrom 29 = .ok (.putfield 57, 3) := by decide +kernel
theorem dX0_copyFrom_32 : decode cX0_copyFrom 32 = .ok (.aload_n 0, 1) := by decide +kernel
theorem dX0_copyFrom_33 : decode cX0_copyFrom 33 = .ok (.aload_n 1, 1) := by decide +kernel
theorem dX0_copyFrom_34 : decode cX0_copyFrom 34 = .ok (.getfield 60, 3) := by decide +kernel
theorem dX0_copyFrom_37 : decode cX0_copyFrom 37 = .ok (.putfield 60, 3) := by decide +kernel
theorem dX0_copyFrom_40 : decode cX0_copyFrom 40 = .ok (.aload_n 0, 1) := by decide +kernel
theorem dX0_copyFrom_41 : decode cX0_copyFrom 41 = .ok (.aload_n 1, 1) := by decide +kernel
theorem dX0_copyFrom_42 : decode cX0_copyFrom 42 = .ok (.getfield 63, 3) := by decide +kernel
theorem dX0_copyFrom_45 : decode cX0_copyFrom 45 = .ok (.putfield 63, 3) := by decide +kernel
theorem dX0_copyFrom_48 : decode cX0_copyFrom 48 = .ok (.aload_n 0, 1) := by decide +kernel
theorem dX0_copyFrom_49 : decode cX0_copyFrom 49 = .ok (.aload_n 1, 1) := by decide +kernel
theorem dX0_copyFrom_50 : decode cX0_copyFrom 50 = .ok (.getfield 66, 3) := by decide +kernel
theorem dX0_copyFrom_53 : decode cX0_copyFrom 53 = .ok (.putfield 66, 3) := by decide +kernel
theorem dX0_copyFrom_56 : decode cX0_copyFrom 56 = .ok (.aload_n 0, 1) := by decide +kernel
theorem dX0_copyFrom_57 : decode cX0_copyFrom 57 = .ok (.getfield 18, 3) := by decide +kernel
theorem dX0_copyFrom_60 : decode cX0_copyFrom 60 = .ok (.aload_n 1, 1) := by decide +kernel
theorem dX0_copyFrom_61 : decode cX0_copyFrom 61 = .ok (.getfield 18, 3) := by decide +kernel
theorem dX0_copyFrom_64 : decode cX0_copyFrom 64 = .ok (.invokevirtual 69, 3) := by decide +kernel
theorem dX0_copyFrom_67 : decode cX0_copyFrom 67 = .ok (.aload_n 0, 1) := by decide +kernel
theorem dX0_copyFrom_68 : decode cX0_copyFrom 68 = .ok (.getfield 22, 3) := by decide +kernel
theorem dX0_copyFrom_71 : decode cX0_copyFrom 71 = .ok (.aload_n 1, 1) := by decide +kernel
theorem dX0_copyFrom_72 : decode cX0_copyFrom 72 = .ok (.getfield 22, 3) := by decide +kernel
theorem dX0_copyFrom_75 : decode cX0_copyFrom 75 = .ok (.invokevirtual 69, 3) := by decide +kernel
theorem dX0_copyFrom_78 : decode cX0_copyFrom 78 = .ok (.aload_n 0, 1) := by decide +kernel
theorem dX0_copyFrom_79 : decode cX0_copyFrom 79 = .ok (.getfield 25, 3) := by decide +kernel
theorem dX0_copyFrom_82 : decode cX0_copyFrom 82 = .ok (.aload_n 1, 1) := by decide +kernel
theorem dX0_copyFrom_83 : decode cX0_copyFrom 83 = .ok (.getfield 25, 3) := by decide +kernel
theorem dX0_copyFrom_86 : decode cX0_copyFrom 86 = .ok (.invokevirtual 69, 3) := by decide +kernel
theorem dX0_copyFrom_89 : decode cX0_copyFrom 89 = .ok (.aload_n 0, 1) := by decide +kernel
theorem dX0_copyFrom_90 : decode cX0_copyFrom 90 = .ok (.getfield 28, 3) := by decide +kernel
theorem dX0_copyFrom_93 : decode cX0_copyFrom 93 = .ok (.aload_n 1, 1) := by decide +kernel
theorem dX0_copyFrom_94 : decode cX0_copyFrom 94 = .ok (.getfield 28, 3) := by decide +kernel
theorem dX0_copyFrom_97 : decode cX0_copyFrom 97 = .ok (.invokevirtual 69, 3) := by decide +kernel
theorem dX0_copyFrom_100 : decode cX0_copyFrom 100 = .ok (.aload_n 0, 1) := by decide +kernel
theorem dX0_copyFrom_101 : decode cX0_copyFrom 101 = .ok (.getfield 31, 3) := by decide +kernel
theorem dX0_copyFrom_104 : decode cX0_copyFrom 104 = .ok (.aload_n 1, 1) := by decide +kernel
theorem dX0_copyFrom_105 : decode cX0_copyFrom 105 = .ok (.getfield 31, 3) := by decide +kernel
theorem dX0_copyFrom_108 : decode cX0_copyFrom 108 = .ok (.invokevirtual 69, 3) := by decide +kernel
theorem dX0_copyFrom_111 : decode cX0_copyFrom 111 = .ok (.aload_n 0, 1) := by decide +kernel
theorem dX0_copyFrom_112 : decode cX0_copyFrom 112 = .ok (.getfield 34, 3) := by decide +kernel
theorem dX0_copyFrom_115 : decode cX0_copyFrom 115 = .ok (.aload_n 1, 1) := by decide +kernel
theorem dX0_copyFrom_116 : decode cX0_copyFrom 116 = .ok (.getfield 34, 3) := by decide +kernel
theorem dX0_copyFrom_119 : decode cX0_copyFrom 119 = .ok (.invokevirtual 69, 3) := by decide +kernel
theorem dX0_copyFrom_122 : decode cX0_copyFrom 122 = .ok (.aload_n 0, 1) := by decide +kernel
theorem dX0_copyFrom_123 : decode cX0_copyFrom 123 = .ok (.getfield 40, 3) := by decide +kernel
theorem dX0_copyFrom_126 : decode cX0_copyFrom 126 = .ok (.aload_n 1, 1) := by decide +kernel
theorem dX0_copyFrom_127 : decode cX0_copyFrom 127 = .ok (.getfield 40, 3) := by decide +kernel
theorem dX0_copyFrom_130 : decode cX0_copyFrom 130 = .ok (.invokevirtual 73, 3) := by decide +kernel
theorem dX0_copyFrom_133 : decode cX0_copyFrom 133 = .ok (.aload_n 0, 1) := by decide +kernel
theorem dX0_copyFrom_134 : decode cX0_copyFrom 134 = .ok (.getfield 47, 3) := by decide +kernel
theorem dX0_copyFrom_137 : decode cX0_copyFrom 137 = .ok (.aload_n 1, 1) := by decide +kernel
theorem dX0_copyFrom_138 : decode cX0_copyFrom 138 = .ok (.getfield 47, 3) := by decide +kernel
theorem dX0_copyFrom_141 : decode cX0_copyFrom 141 = .ok (.invokevirtual 76, 3) := by decide +kernel
theorem dX0_copyFrom_144 : decode cX0_copyFrom 144 = .ok (.return_, 1) := by decide +kernel
set_option maxRecDepth 20000 in
theorem ggX0_openRoom_X2_set : GoodIn wsX0_openRoom wsX2_set := goodIn_r _ [12, 13, 29] (by decide +kernel) (by decide +kernel)
set_option maxRecDepth 20000 in
theorem gX0_openRoom_X2_set : GoodIn wsX0_openRoom (wsV RX0 79 RX2 yX2_set wsX2_set) := goodIn_app (goodIn_of _ (by decide +kernel)) ggX0_openRoom_X2_set
theorem dX0_openRoom_0 : decode cX0_openRoom 0 = .ok (.aload_n 0, 1) := by decide +kernel
theorem dX0_openRoom_1 : decode cX0_openRoom 1 = .ok (.getfield 54, 3) := by decide +kernel
theorem dX0_openRoom_4 : decode cX0_openRoom 4 = .ok (.istore 4, 2) := by decide +kernel
theorem dX0_openRoom_6 : decode cX0_openRoom 6 = .ok (.aload_n 0, 1) := by decide +kernel
theorem dX0_openRoom_7 : decode cX0_openRoom 7 = .ok (.dup, 1) := by decide +kernel
theorem dX0_openRoom_8 : decode cX0_openRoom 8 = .ok (.getfield 54, 3) := by decide +kernel
theorem dX0_openRoom_11 : decode cX0_openRoom 11 = .ok (.iconst 1, 1) := by decide +kernel
theorem dX0_openRoom_12 : decode cX0_openRoom 12 = .ok (.iadd, 1) := by decide +kernel
theorem dX0_openRoom_13 : decode cX0_openRoom 13 = .ok (.putfield 54, 3) := by decide +kernel
theorem dX0_openRoom_16 : decode cX0_openRoom 16 = .ok (.aload_n 0, 1) := by decide +kernel
theorem dX0_openRoom_17 : decode cX0_openRoom 17 = .ok (.getfield 18, 3) := by decide +kernel
theorem dX0_openRoom_20 : decode cX0_openRoom 20 = .ok (.iload 4, 2) := by decide +kernel
theorem dX0_openRoom_22 : decode cX0_openRoom 22 = .ok (.iload_n 1, 1) := by decide +kernel
theorem dX0_openRoom_23 : decode cX0_openRoom 23 = .ok (.invokevirtual 79, 3) := by decide +kernel
theorem dX0_openRoom_26 : decode cX0_openRoom 26 = .ok (.aload_n 0, 1) := by decide +kernel
theorem dX0_openRoom_27 : decode cX0_openRoom 27 = .ok (.getfield 22, 3) := by decide +kernel
theorem dX0_openRoom_30 : decode cX0_openRoom 30 = .ok (.iload 4, 2) := by decide +kernel
theorem dX0_openRoom_32 : decode cX0_openRoom 32 = .ok (.iload_n 2, 1) := by decide +kernel
theorem dX0_openRoom_33 : decode cX0_openRoom 33 = .ok (.invokevirtual 79, 3) := by decide +kernel
theorem dX0_openRoom_36 : decode cX0_openRoom 36 = .ok (.aload_n 0, 1) := by decide +kernel
theorem dX0_openRoom_37 : decode cX0_openRoom 37 = .ok (.getfield 25, 3) := by decide +kernel
theorem dX0_openRoom_40 : decode cX0_openRoom 40 = .ok (.iload 4, 2) := by decide +kernel
theorem dX0_openRoom_42 : decode cX0_openRoom 42 = .ok (.iload_n 3, 1) := by decide +kernel
theorem dX0_openRoom_43 : decode cX0_openRoom 43 = .ok (.invokevirtual 79, 3) := by decide +kernel
theorem dX0_openRoom_46 : decode cX0_openRoom 46 = .ok (.aload_n 0, 1) := by decide +kernel
theorem dX0_openRoom_47 : decode cX0_openRoom 47 = .ok (.getfield 28, 3) := by decide +kernel
theorem dX0_openRoom_50 : decode cX0_openRoom 50 = .ok (.iload 4, 2) := by decide +kernel
theorem dX0_openRoom_52 : decode cX0_openRoom 52 = .ok (.iload 4, 2) := by decide +kernel
theorem dX0_openRoom_54 : decode cX0_openRoom 54 = .ok (.invokevirtual 79, 3) := by decide +kernel
theorem dX0_openRoom_57 : decode cX0_openRoom 57 = .ok (.aload_n 0, 1) := by decide +kernel
theorem dX0_openRoom_58 : decode cX0_openRoom 58 = .ok (.getfield 31, 3) := by decide +kernel
theorem dX0_openRoom_61 : decode cX0_openRoom 61 = .ok (.iload 4, 2) := by decide +kernel
theorem dX0_openRoom_63 : decode cX0_openRoom 63 = .ok (.iconst 0, 1) := by decide +kernel
theorem dX0_openRoom_64 : decode cX0_openRoom 64 = .ok (.invokevirtual 79, 3) := by decide +kernel
theorem dX0_openRoom_67 : decode cX0_openRoom 67 = .ok (.aload_n 0, 1) := by decide +kernel
theorem dX0_openRoom_68 : decode cX0_openRoom 68 = .ok (.getfield 34, 3) := by decide +kernel
theorem dX0_openRoom_71 : decode cX0_openRoom 71 = .ok (.iload 4, 2) := by decide +kernel
theorem dX0_openRoom_73 : decode cX0_openRoom 73 = .ok (.iconst (-1), 1) := by decide +kernel
theorem dX0_openRoom_74 : decode cX0_openRoom 74 = .ok (.invokevirtual 79, 3) := by decide +kernel
theorem dX0_openRoom_77 : decode cX0_openRoom 77 = .ok (.iload 4, 2) := by decide +kernel
theorem dX0_openRoom_79 : decode cX0_openRoom 79 = .ok (.ireturn, 1) := by decide +kernel
set_option maxRecDepth 20000 in
theorem ggX0_isWaiting_X2_get : GoodIn wsX0_isWaiting wsX2_get := goodIn_r _ [6, 7, 23] (by decide +kernel) (by decide +kernel)
set_option maxRecDepth 20000 in
theorem gX0_isWaiting_X2_get : GoodIn wsX0_isWaiting (wsV RX0 83 RX2 yX2_get wsX2_get) := goodIn_app (goodIn_of _ (by decide +kernel)) ggX0_isWaiting_X2_get
theorem dX0_isWaiting_0 : decode cX0_isWaiting 0 = .ok (.aload_n 0, 1) := by decide +kernel
theorem dX0_isWaiting_1 : decode cX0_isWaiting 1 = .ok (.getfield 34, 3) := by decide +kernel
theorem dX0_isWaiting_4 : decode cX0_isWaiting 4 = .ok (.iload_n 1, 1) := by decide +kernel
theorem dX0_isWaiting_5 : decode cX0_isWaiting 5 = .ok (.invokevirtual 83, 3) := by decide +kernel
theorem dX0_isWaiting_8 : decode cX0_isWaiting 8 = .ok (.iconst (-1), 1) := by decide +kernel
theorem dX0_isWaiting_9 : decode cX0_isWaiting 9 = .ok (.if_icmp .eq 7, 3) := by decide +kernel
theorem dX0_isWaiting_12 : decode cX0_isWaiting 12 = .ok (.iconst 1, 1) := by decide +kernel
theorem dX0_isWaiting_13 : decode cX0_isWaiting 13 = .ok (.goto 4, 3) := by decide +kernel
theorem dX0_isWaiting_16 : decode cX0_isWaiting 16 = .ok (.iconst 0, 1) := by decide +kernel
theorem dX0_isWaiting_17 : decode cX0_isWaiting 17 = .ok (.ireturn, 1) := by decide +kernel
set_option maxRecDepth 20000 in
theorem ggX0_isAnyoneWaiting_X2_get : GoodIn wsX0_isAnyoneWaiting wsX2_get := goodIn_r _ [7, 8, 24] (by decide +kernel) (by decide +kernel)
set_option maxRecDepth 20000 in
theorem gX0_isAnyoneWaiting_X2_get : GoodIn wsX0_isAnyoneWaiting (wsV RX0 83 RX2 yX2_get wsX2_get) := goodIn_app (goodIn_of _ (by decide +kernel)) ggX0_isAnyoneWaiting_X2_get
theorem dX0_isAnyoneWaiting_0 : decode cX0_isAnyoneWaiting 0 = .ok (.iconst 0, 1) := by decide +kernel
theorem dX0_isAnyoneWaiting_1 : decode cX0_isAnyoneWaiting 1 = .ok (.istore_n 1, 1) := by decide +kernel
theorem dX0_isAnyoneWaiting_2 : decode cX0_isAnyoneWaiting 2 = .ok (.iload_n 1, 1) := by decide +kernel
theorem dX0_isAnyoneWaiting_3 : decode cX0_isAnyoneWaiting 3 = .ok (.aload_n 0, 1) := by decide +kernel
theorem dX0_isAnyoneWaiting_4 : decode cX0_isAnyoneWaiting 4 = .ok (.getfield 54, 3) := by decide +kernel
theorem dX0_isAnyoneWaiting_7 : decode cX0_isAnyoneWaiting 7 = .ok (.if_icmp .ge 23, 3) := by decide +kernel
theorem dX0_isAnyoneWaiting_10 : decode cX0_isAnyoneWaiting 10 = .ok (.aload_n 0, 1) := by decide +kernel
theorem dX0_isAnyoneWaiting_11 : decode cX0_isAnyoneWaiting 11 = .ok (.getfield 34, 3) := by decide +kernel
theorem dX0_isAnyoneWaiting_14 : decode cX0_isAnyoneWaiting 14 = .ok (.iload_n 1, 1) := by decide +kernel
theorem dX0_isAnyoneWaiting_15 : decode cX0_isAnyoneWaiting 15 = .ok (.invokevirtual 83, 3) := by decide +kernel
theorem dX0_isAnyoneWaiting_18 : decode cX0_isAnyoneWaiting 18 = .ok (.iconst (-1), 1) := by decide +kernel
theorem dX0_isAnyoneWaiting_19 : decode cX0_isAnyoneWaiting 19 = .ok (.if_icmp .eq 5, 3) := by decide +kernel
theorem dX0_isAnyoneWaiting_22 : decode cX0_isAnyoneWaiting 22 = .ok (.iconst 1, 1) := by decide +kernel
theorem dX0_isAnyoneWaiting_23 : decode cX0_isAnyoneWaiting 23 = .ok (.ireturn, 1) := by decide +kernel
theorem dX0_isAnyoneWaiting_24 : decode cX0_isAnyoneWaiting 24 = .ok (.iinc 1 1, 3) := by decide +kernel
theorem dX0_isAnyoneWaiting_27 : decode cX0_isAnyoneWaiting 27 = .ok (.goto (-25), 3) := by decide +kernel
theorem dX0_isAnyoneWaiting_30 : decode cX0_isAnyoneWaiting 30 = .ok (.iconst 0, 1) := by decide +kernel
theorem dX0_isAnyoneWaiting_31 : decode cX0_isAnyoneWaiting 31 = .ok (.ireturn, 1) := by decide +kernel
set_option maxRecDepth 20000 in
theorem ggX0_isWireCut_X2_get : GoodIn wsX0_isWireCut wsX2_get := goodIn_r _ [6, 7, 23] (by decide +kernel) (by decide +kernel)
set_option maxRecDepth 20000 in
theorem gX0_isWireCut_X2_get : GoodIn wsX0_isWireCut (wsV RX0 83 RX2 yX2_get wsX2_get) := goodIn_app (goodIn_of _ (by decide +kernel)) ggX0_isWireCut_X2_get
theorem dX0_isWireCut_0 : decode cX0_isWireCut 0 = .ok (.aload_n 0, 1) := by decide +kernel
theorem dX0_isWireCut_1 : decode cX0_isWireCut 1 = .ok (.getfield 31, 3) := by decide +kernel
theorem dX0_isWireCut_4 : decode cX0_isWireCut 4 = .ok (.iload_n 1, 1) := by decide +kernel
theorem dX0_isWireCut_5 : decode cX0_isWireCut 5 = .ok (.invokevirtual 83, 3) := by decide +kernel
theorem dX0_isWireCut_8 : decode cX0_isWireCut 8 = .ok (.iconst 1, 1) := by decide +kernel
theorem dX0_isWireCut_9 : decode cX0_isWireCut 9 = .ok (.if_icmp .ne 7, 3) := by decide +kernel
theorem dX0_isWireCut_12 : decode cX0_isWireCut 12 = .ok (.iconst 1, 1) := by decide +kernel
theorem dX0_isWireCut_13 : decode cX0_isWireCut 13 = .ok (.goto 4, 3) := by decide +kernel
theorem dX0_isWireCut_16 : decode cX0_isWireCut 16 = .ok (.iconst 0, 1) := by decide +kernel
theorem dX0_isWireCut_17 : decode cX0_isWireCut 17 = .ok (.ireturn, 1) := by decide +kernel
set_option maxRecDepth 20000 in
theorem ggX0_countCutWires_X2_get : GoodIn wsX0_countCutWires wsX2_get := goodIn_r _ [7, 8, 24] (by decide +kernel) (by decide +kernel)
set_option maxRecDepth 20000 in
theorem gX0_countCutWires_X2_get : GoodIn wsX0_countCutWires (wsV RX0 83 RX2 yX2_get wsX2_get) := goodIn_app (goodIn_of _ (by decide +kernel)) ggX0_countCutWires_X2_get
theorem dX0_countCutWires_0 : decode cX0_countCutWires 0 = .ok (.iconst 0, 1) := by decide +kernel
theorem dX0_countCutWires_1 : decode cX0_countCutWires 1 = .ok (.istore_n 1, 1) := by decide +kernel
theorem dX0_countCutWires_2 : decode cX0_countCutWires 2 = .ok (.iconst 0, 1) := by decide +kernel
theorem dX0_countCutWires_3 : decode cX0_countCutWires 3 = .ok (.istore_n 2, 1) := by decide +kernel
theorem dX0_countCutWires_4 : decode cX0_countCutWires 4 = .ok (.iload_n 2, 1) := by decide +kernel
theorem dX0_countCutWires_5 : decode cX0_countCutWires 5 = .ok (.aload_n 0, 1) := by decide +kernel
theorem dX0_countCutWires_6 : decode cX0_countCutWires 6 = .ok (.getfield 54, 3) := by decide +kernel
theorem dX0_countCutWires_9 : decode cX0_countCutWires 9 = .ok (.if_icmp .ge 20, 3) := by decide +kernel
theorem dX0_countCutWires_12 : decode cX0_countCutWires 12 = .ok (.iload_n 1, 1) := by decide +kernel
theorem dX0_countCutWires_13 : decode cX0_countCutWires 13 = .ok (.aload_n 0, 1) := by decide +kernel
theorem dX0_countCutWires_14 : decode cX0_countCutWires 14 = .ok (.getfield 31, 3) := by decide +kernel
theorem dX0_countCutWires_17 : decode cX0_countCutWires 17 = .ok (.iload_n 2, 1) := by decide +kernel
theorem dX0_countCutWires_18 : decode cX0_countCutWires 18 = .ok (.invokevirtual 83, 3) := by decide +kernel
theorem dX0_countCutWires_21 : decode cX0_countCutWires 21 = .ok (.iadd, 1) := by decide +kernel
theorem dX0_countCutWires_22 : decode cX0_countCutWires 22 = .ok (.istore_n 1, 1) := by decide +kernel
theorem dX0_countCutWires_23 : decode cX0_countCutWires 23 = .ok (.iinc 2 1, 3) := by decide +kernel
theorem dX0_countCutWires_26 : decode cX0_countCutWires 26 = .ok (.goto (-22), 3) := by decide +kernel
theorem dX0_countCutWires_29 : decode cX0_countCutWires 29 = .ok (.iload_n 1, 1) := by decide +kernel
theorem dX0_countCutWires_30 : decode cX0_countCutWires 30 = .ok (.ireturn, 1) := by decide +kernel
set_option maxRecDepth 20000 in
theorem ggX0_swapWires_X2_get : GoodIn wsX0_swapWires wsX2_get := goodIn_r _ [6, 7, 27] (by decide +kernel) (by decide +kernel)
set_option maxRecDepth 20000 in
theorem gX0_swapWires_X2_get : GoodIn wsX0_swapWires (wsV RX0 83 RX2 yX2_get wsX2_get) := goodIn_app (goodIn_of _ (by decide +kernel)) ggX0_swapWires_X2_get
set_option maxRecDepth 20000 in
theorem ggX0_swapWires_X2_set : GoodIn wsX0_swapWires wsX2_set := goodIn_r _ [11, 7, 27] (by decide +kernel) (by decide +kernel)
set_option maxRecDepth 20000 in
theorem gX0_swapWires_X2_set : GoodIn wsX0_swapWires (wsV RX0 79 RX2 yX2_set wsX2_set) := goodIn_app (goodIn_of _ (by decide +kernel)) ggX0_swapWires_X2_set
theorem dX0_swapWires_0 : decode cX0_swapWires 0 = .ok (.aload_n 0, 1) := by decide +kernel
theorem dX0_swapWires_1 : decode cX0_swapWires 1 = .ok (.getfield 28, 3) := by decide +kernel
theorem dX0_swapWires_4 : decode cX0_swapWires 4 = .ok (.iload_n 1, 1) := by decide +kernel
theorem dX0_swapWires_5 : decode cX0_swapWires 5 = .ok (.invokevirtual 83, 3) := by decide +kernel
theorem dX0_swapWires_8 : decode cX0_swapWires 8 = .ok (.istore_n 3, 1) := by decide +kernel
theorem dX0_swapWires_9 : decode cX0_swapWires 9 = .ok (.aload_n 0, 1) := by decide +kernel
theorem dX0_swapWires_10 : decode cX0_swapWires 10 = .ok (.getfield 28, 3) := by decide +kernel
theorem dX0_swapWires_13 : decode cX0_swapWires 13 = .ok (.iload_n 1, 1) := by decide +kernel
theorem dX0_swapWires_14 : decode cX0_swapWires 14 = .ok (.aload_n 0, 1) := by decide +kernel
theorem dX0_swapWires_15 : decode cX0_swapWires 15 = .ok (.getfield 28, 3) := by decide +kernel
theorem dX0_swapWires_18 : decode cX0_swapWires 18 = .ok (.iload_n 2, 1) := by decide +kernel
theorem dX0_swapWires_19 : decode cX0_swapWires 19 = .ok (.invokevirtual 83, 3) := by decide +kernel
theorem dX0_swapWires_22 : decode cX0_swapWires 22 = .ok (.invokevirtual 79, 3) := by decide +kernel
theorem dX0_swapWires_25 : decode cX0_swapWires 25 = .ok (.aload_n 0, 1) := by decide +kernel
theorem dX0_swapWires_26 : decode cX0_swapWires 26 = .ok (.getfield 28, 3) := by decide +kernel
theorem dX0_swapWires_29 : decode cX0_swapWires 29 = .ok (.iload_n 2, 1) := by decide +kernel
theorem dX0_swapWires_30 : decode cX0_swapWires 30 = .ok (.iload_n 3, 1) := by decide +kernel
theorem dX0_swapWires_31 : decode cX0_swapWires 31 = .ok (.invokevirtual 79, 3) := by decide +kernel
theorem dX0_swapWires_34 : decode cX0_swapWires 34 = .ok (.return_, 1) := by decide +kernel
set_option maxRecDepth 20000 in
theorem ggX0_isFirstOfItsCircle_X2_get : GoodIn wsX0_isFirstOfItsCircle wsX2_get := goodIn_r _ [7, 8, 24] (by decide +kernel) (by decide +kernel)
set_option maxRecDepth 20000 in
theorem gX0_isFirstOfItsCircle_X2_get : GoodIn wsX0_isFirstOfItsCircle (wsV RX0 83 RX2 yX2_get wsX2_get) := goodIn_app (goodIn_of _ (by decide +kernel)) ggX0_isFirstOfItsCircle_X2_get
theorem dX0_isFirstOfItsCircle_0 : decode cX0_isFirstOfItsCircle 0 = .ok (.aload_n 0, 1) := by decide +kernel
theorem dX0_isFirstOfItsCircle_1 : decode cX0_isFirstOfItsCircle 1 = .ok (.getfield 28, 3) := by decide +kernel
theorem dX0_isFirstOfItsCircle_4 : decode cX0_isFirstOfItsCircle 4 = .ok (.iload_n 1, 1) := by decide +kernel
theorem dX0_isFirstOfItsCircle_5 : decode cX0_isFirstOfItsCircle 5 = .ok (.invokevirtual 83, 3) := by decide +kernel
theorem dX0_isFirstOfItsCircle_8 : decode cX0_isFirstOfItsCircle 8 = .ok (.istore_n 2, 1) := by decide +kernel
theorem dX0_isFirstOfItsCircle_9 : decode cX0_isFirstOfItsCircle 9 = .ok (.iconst 0, 1) := by decide +kernel
theorem dX0_isFirstOfItsCircle_10 : decode cX0_isFirstOfItsCircle 10 = .ok (.istore_n 3, 1) := by decide +kernel
theorem dX0_isFirstOfItsCircle_11 : decode cX0_isFirstOfItsCircle 11 = .ok (.iload_n 3, 1) := by decide +kernel
theorem dX0_isFirstOfItsCircle_12 : decode cX0_isFirstOfItsCircle 12 = .ok (.aload_n 0, 1) := by decide +kernel
theorem dX0_isFirstOfItsCircle_13 : decode cX0_isFirstOfItsCircle 13 = .ok (.getfield 54, 3) := by decide +kernel
theorem dX0_isFirstOfItsCircle_16 : decode cX0_isFirstOfItsCircle 16 = .ok (.if_icmp .ge 30, 3) := by decide +kernel
theorem dX0_isFirstOfItsCircle_19 : decode cX0_isFirstOfItsCircle 19 = .ok (.iload_n 2, 1) := by decide +kernel
theorem dX0_isFirstOfItsCircle_20 : decode cX0_isFirstOfItsCircle 20 = .ok (.iload_n 1, 1) := by decide +kernel
theorem dX0_isFirstOfItsCircle_21 : decode cX0_isFirstOfItsCircle 21 = .ok (.if_icmp .eq 25, 3) := by decide +kernel
theorem dX0_isFirstOfItsCircle_24 : decode cX0_isFirstOfItsCircle 24 = .ok (.iload_n 2, 1) := by decide +kernel
theorem dX0_isFirstOfItsCircle_25 : decode cX0_isFirstOfItsCircle 25 = .ok (.iload_n 1, 1) := by decide +kernel
theorem dX0_isFirstOfItsCircle_26 : decode cX0_isFirstOfItsCircle 26 = .ok (.if_icmp .ge 5, 3) := by decide +kernel
theorem dX0_isFirstOfItsCircle_29 : decode cX0_isFirstOfItsCircle 29 = .ok (.iconst 0, 1) := by decide +kernel
theorem dX0_isFirstOfItsCircle_30 : decode cX0_isFirstOfItsCircle 30 = .ok (.ireturn, 1) := by decide +kernel
theorem dX0_isFirstOfItsCircle_31 : decode cX0_isFirstOfItsCircle 31 = .ok (.aload_n 0, 1) := by decide +kernel
theorem dX0_isFirstOfItsCircle_32 : decode cX0_isFirstOfItsCircle 32 = .ok (.getfield 28, 3) := by decide +kernel
theorem dX0_isFirstOfItsCircle_35 : decode cX0_isFirstOfItsCircle 35 = .ok (.iload_n 2, 1) := by decide +kernel
theorem dX0_isFirstOfItsCircle_36 : decode cX0_isFirstOfItsCircle 36 = .ok (.invokevirtual 83, 3) := by decide +kernel
theorem dX0_isFirstOfItsCircle_39 : decode cX0_isFirstOfItsCircle 39 = .ok (.istore_n 2, 1) := by decide +kernel
theorem dX0_isFirstOfItsCircle_40 : decode cX0_isFirstOfItsCircle 40 = .ok (.iinc 3 1, 3) := by decide +kernel
theorem dX0_isFirstOfItsCircle_43 : decode cX0_isFirstOfItsCircle 43 = .ok (.goto (-32), 3) := by decide +kernel
theorem dX0_isFirstOfItsCircle_46 : decode cX0_isFirstOfItsCircle 46 = .ok (.iconst 1, 1) := by decide +kernel
theorem dX0_isFirstOfItsCircle_47 : decode cX0_isFirstOfItsCircle 47 = .ok (.ireturn, 1) := by decide +kernel
theorem dX0_costFrom_0 : decode cX0_costFrom 0 = .ok (.iload_n 0, 1) := by decide +kernel
theorem dX0_costFrom_1 : decode cX0_costFrom 1 = .ok (.iconst 1, 1) := by decide +kernel
theorem dX0_costFrom_2 : decode cX0_costFrom 2 = .ok (.iadd, 1) := by decide +kernel
theorem dX0_costFrom_3 : decode cX0_costFrom 3 = .ok (.ireturn, 1) := by decide +kernel
set_option maxRecDepth 20000 in
theorem ggX0_pullBell_X2_get : GoodIn wsX0_pullBell wsX2_get := goodIn_r _ [11, 12, 43] (by decide +kernel) (by decide +kernel)
set_option maxRecDepth 20000 in
theorem gX0_pullBell_X2_get : GoodIn wsX0_pullBell (wsV RX0 83 RX2 yX2_get wsX2_get) := goodIn_app (goodIn_of _ (by decide +kernel)) ggX0_pullBell_X2_get
set_option maxRecDepth 20000 in
theorem ggX0_pullBell_X0_costFrom : GoodIn wsX0_pullBell wsX0_costFrom := goodIn_r _ [16] (by decide +kernel) (by decide +kernel)
set_option maxRecDepth 20000 in
theorem gX0_pullBell_X0_costFrom : GoodIn wsX0_pullBell (va_wsS RX0 87 yX0_costFrom wsX0_costFrom) := goodIn_app (goodIn_of _ (by decide +kernel)) ggX0_pullBell_X0_costFrom
set_option maxRecDepth 20000 in
theorem ggX0_pullBell_X1_placeOf : GoodIn wsX0_pullBell wsX1_placeOf := goodIn_r _ [21, 22, 23, 44, 45] (by decide +kernel) (by decide +kernel)
set_option maxRecDepth 20000 in
theorem gX0_pullBell_X1_placeOf : GoodIn wsX0_pullBell (wsV RX0 90 RX1 yX1_placeOf wsX1_placeOf) := goodIn_app (goodIn_of _ (by decide +kernel)) ggX0_pullBell_X1_placeOf
set_option maxRecDepth 20000 in
theorem ggX0_pullBell_X1_append : GoodIn wsX0_pullBell wsX1_append := goodIn_r _ [27, 22, 23, 44, 45] (by decide +kernel) (by decide +kernel)
set_option maxRecDepth 20000 in
theorem gX0_pullBell_X1_append : GoodIn wsX0_pullBell (wsV RX0 93 RX1 yX1_append wsX1_append) := goodIn_app (goodIn_of _ (by decide +kernel)) ggX0_pullBell_X1_append
theorem dX0_pullBell_0 : decode cX0_pullBell 0 = .ok (.aload_n 0, 1) := by decide +kernel
theorem dX0_pullBell_1 : decode cX0_pullBell 1 = .ok (.getfield 18, 3) := by decide +kernel
theorem dX0_pullBell_4 : decode cX0_pullBell 4 = .ok (.iload_n 1, 1) := by decide +kernel
theorem dX0_pullBell_5 : decode cX0_pullBell 5 = .ok (.invokevirtual 83, 3) := by decide +kernel
theorem dX0_pullBell_8 : decode cX0_pullBell 8 = .ok (.invokestatic 87, 3) := by decide +kernel
theorem dX0_pullBell_11 : decode cX0_pullBell 11 = .ok (.istore_n 2, 1) := by decide +kernel
theorem dX0_pullBell_12 : decode cX0_pullBell 12 = .ok (.aload_n 0, 1) := by decide +kernel
theorem dX0_pullBell_13 : decode cX0_pullBell 13 = .ok (.getfield 31, 3) := by decide +kernel
theorem dX0_pullBell_16 : decode cX0_pullBell 16 = .ok (.iload_n 1, 1) := by decide +kernel
theorem dX0_pullBell_17 : decode cX0_pullBell 17 = .ok (.invokevirtual 83, 3) := by decide +kernel
theorem dX0_pullBell_20 : decode cX0_pullBell 20 = .ok (.iconst 1, 1) := by decide +kernel
theorem dX0_pullBell_21 : decode cX0_pullBell 21 = .ok (.if_icmp .eq 11, 3) := by decide +kernel
theorem dX0_pullBell_24 : decode cX0_pullBell 24 = .ok (.aload_n 0, 1) := by decide +kernel
theorem dX0_pullBell_25 : decode cX0_pullBell 25 = .ok (.getfield 9, 3) := by decide +kernel
theorem dX0_pullBell_28 : decode cX0_pullBell 28 = .ok (.iload_n 2, 1) := by decide +kernel
theorem dX0_pullBell_29 : decode cX0_pullBell 29 = .ok (.if_icmp .ge 15, 3) := by decide +kernel
theorem dX0_pullBell_32 : decode cX0_pullBell 32 = .ok (.aload_n 0, 1) := by decide +kernel
theorem dX0_pullBell_33 : decode cX0_pullBell 33 = .ok (.dup, 1) := by decide +kernel
theorem dX0_pullBell_34 : decode cX0_pullBell 34 = .ok (.getfield 66, 3) := by decide +kernel
theorem dX0_pullBell_37 : decode cX0_pullBell 37 = .ok (.iconst 1, 1) := by decide +kernel
theorem dX0_pullBell_38 : decode cX0_pullBell 38 = .ok (.iadd, 1) := by decide +kernel
theorem dX0_pullBell_39 : decode cX0_pullBell 39 = .ok (.putfield 66, 3) := by decide +kernel
theorem dX0_pullBell_42 : decode cX0_pullBell 42 = .ok (.iconst 0, 1) := by decide +kernel
theorem dX0_pullBell_43 : decode cX0_pullBell 43 = .ok (.ireturn, 1) := by decide +kernel
theorem dX0_pullBell_44 : decode cX0_pullBell 44 = .ok (.aload_n 0, 1) := by decide +kernel
theorem dX0_pullBell_45 : decode cX0_pullBell 45 = .ok (.dup, 1) := by decide +kernel
theorem dX0_pullBell_46 : decode cX0_pullBell 46 = .ok (.getfield 9, 3) := by decide +kernel
theorem dX0_pullBell_49 : decode cX0_pullBell 49 = .ok (.iload_n 2, 1) := by decide +kernel
theorem dX0_pullBell_50 : decode cX0_pullBell 50 = .ok (.isub, 1) := by decide +kernel
theorem dX0_pullBell_51 : decode cX0_pullBell 51 = .ok (.putfield 9, 3) := by decide +kernel
theorem dX0_pullBell_54 : decode cX0_pullBell 54 = .ok (.aload_n 0, 1) := by decide +kernel
theorem dX0_pullBell_55 : decode cX0_pullBell 55 = .ok (.getfield 28, 3) := by decide +kernel
theorem dX0_pullBell_58 : decode cX0_pullBell 58 = .ok (.iload_n 1, 1) := by decide +kernel
theorem dX0_pullBell_59 : decode cX0_pullBell 59 = .ok (.invokevirtual 83, 3) := by decide +kernel
theorem dX0_pullBell_62 : decode cX0_pullBell 62 = .ok (.istore_n 3, 1) := by decide +kernel
theorem dX0_pullBell_63 : decode cX0_pullBell 63 = .ok (.aload_n 0, 1) := by decide +kernel
theorem dX0_pullBell_64 : decode cX0_pullBell 64 = .ok (.getfield 40, 3) := by decide +kernel
theorem dX0_pullBell_67 : decode cX0_pullBell 67 = .ok (.iload_n 3, 1) := by decide +kernel
theorem dX0_pullBell_68 : decode cX0_pullBell 68 = .ok (.invokevirtual 90, 3) := by decide +kernel
theorem dX0_pullBell_71 : decode cX0_pullBell 71 = .ok (.iconst (-1), 1) := by decide +kernel
theorem dX0_pullBell_72 : decode cX0_pullBell 72 = .ok (.if_icmp .ne 11, 3) := by decide +kernel
theorem dX0_pullBell_75 : decode cX0_pullBell 75 = .ok (.aload_n 0, 1) := by decide +kernel
theorem dX0_pullBell_76 : decode cX0_pullBell 76 = .ok (.getfield 40, 3) := by decide +kernel
theorem dX0_pullBell_79 : decode cX0_pullBell 79 = .ok (.iload_n 3, 1) := by decide +kernel
theorem dX0_pullBell_80 : decode cX0_pullBell 80 = .ok (.invokevirtual 93, 3) := by decide +kernel
theorem dX0_pullBell_83 : decode cX0_pullBell 83 = .ok (.iconst 1, 1) := by decide +kernel
theorem dX0_pullBell_84 : decode cX0_pullBell 84 = .ok (.ireturn, 1) := by decide +kernel
set_option maxRecDepth 20000 in
theorem ggX0_letMinuteGoBy_X0_letRoomsWait : GoodIn wsX0_letMinuteGoBy wsX0_letRoomsWait := goodIn_r _ [7, 8, 9, 10, 11, 12, 13, 14, 15, 16, 17, 18, 19, 20, 21, 22, 23, 6, 24, 25, 26, 27, 28, 29, 30, 31, 32, 33, 34, 35, 36, 37, 38, 39, 40, 41, 42, 43, 44, 45, 46, 47, 48, 100, 101, 102, 103, 104, 105, 106, 107, 108, 109, 110, 111, 112, 113, 114, 115, 116, 117] (by decide +kernel) (by decide +kernel)
set_option maxRecDepth 20000 in
theorem gX0_letMinuteGoBy_X0_letRoomsWait : GoodIn wsX0_letMinuteGoBy (wsV RX0 97 RX0 yX0_letRoomsWait wsX0_letRoomsWait) := goodIn_app (goodIn_of _ (by decide +kernel)) ggX0_letMinuteGoBy_X0_letRoomsWait
set_option maxRecDepth 20000 in
theorem ggX0_letMinuteGoBy_X0_letServantsMove : GoodIn wsX0_letMinuteGoBy wsX0_letServantsMove := goodIn_r _ [52, 53, 54, 55, 56, 57, 58, 59, 60, 61, 13, 14, 15, 16, 17, 12, 18, 19, 20, 21, 62, 63, 64, 65, 66, 67, 68, 69, 70, 6, 71, 29, 9, 72, 1, 73, 100, 101, 102, 103, 104, 105, 106, 107, 108, 109, 110, 111, 112, 113, 114, 118, 119, 120, 121, 122, 123, 115] (by decide +kernel) (by decide +kernel)
set_option maxRecDepth 20000 in
theorem gX0_letMinuteGoBy_X0_letServantsMove : GoodIn wsX0_letMinuteGoBy (wsV RX0 100 RX0 yX0_letServantsMove wsX0_letServantsMove) := goodIn_app (goodIn_of _ (by decide +kernel)) ggX0_letMinuteGoBy_X0_letServantsMove
set_option maxRecDepth 20000 in
theorem ggX0_letMinuteGoBy_X0_sendIdleServants : GoodIn wsX0_letMinuteGoBy wsX0_sendIdleServants := goodIn_r _ [77, 53, 34, 29, 78, 79, 80, 41, 81, 43, 44, 12, 13, 14, 15, 16, 17, 82, 83, 84, 57, 85, 86, 59, 60, 87, 88, 61, 89, 90, 91, 92, 93, 94, 95, 96, 97, 98, 99, 18, 19, 20, 21, 100, 101, 102, 103, 104, 105, 106, 107, 108, 109, 110, 111, 112, 113, 114, 118, 119, 120, 121, 122, 123, 116, 117, 115] (by decide +kernel) (by decide +kernel)
set_option maxRecDepth 20000 in
theorem gX0_letMinuteGoBy_X0_sendIdleServants : GoodIn wsX0_letMinuteGoBy (wsV RX0 103 RX0 yX0_sendIdleServants wsX0_sendIdleServants) := goodIn_app (goodIn_of _ (by decide +kernel)) ggX0_letMinuteGoBy_X0_sendIdleServants
theorem dX0_letMinuteGoBy_0 : decode cX0_letMinuteGoBy 0 = .ok (.aload_n 0, 1) := by decide +kernel
theorem dX0_letMinuteGoBy_1 : decode cX0_letMinuteGoBy 1 = .ok (.getfield 57, 3) := by decide +kernel
theorem dX0_letMinuteGoBy_4 : decode cX0_letMinuteGoBy 4 = .ok (.istore_n 1, 1) := by decide +kernel
theorem dX0_letMinuteGoBy_5 : decode cX0_letMinuteGoBy 5 = .ok (.aload_n 0, 1) := by decide +kernel
theorem dX0_letMinuteGoBy_6 : decode cX0_letMinuteGoBy 6 = .ok (.invokevirtual 97, 3) := by decide +kernel
theorem dX0_letMinuteGoBy_9 : decode cX0_letMinuteGoBy 9 = .ok (.aload_n 0, 1) := by decide +kernel
theorem dX0_letMinuteGoBy_10 : decode cX0_letMinuteGoBy 10 = .ok (.invokevirtual 100, 3) := by decide +kernel
theorem dX0_letMinuteGoBy_13 : decode cX0_letMinuteGoBy 13 = .ok (.aload_n 0, 1) := by decide +kernel
theorem dX0_letMinuteGoBy_14 : decode cX0_letMinuteGoBy 14 = .ok (.invokevirtual 103, 3) := by decide +kernel
theorem dX0_letMinuteGoBy_17 : decode cX0_letMinuteGoBy 17 = .ok (.aload_n 0, 1) := by decide +kernel
theorem dX0_letMinuteGoBy_18 : decode cX0_letMinuteGoBy 18 = .ok (.dup, 1) := by decide +kernel
theorem dX0_letMinuteGoBy_19 : decode cX0_letMinuteGoBy 19 = .ok (.getfield 51, 3) := by decide +kernel
theorem dX0_letMinuteGoBy_22 : decode cX0_letMinuteGoBy 22 = .ok (.iconst 1, 1) := by decide +kernel
theorem dX0_letMinuteGoBy_23 : decode cX0_letMinuteGoBy 23 = .ok (.iadd, 1) := by decide +kernel
theorem dX0_letMinuteGoBy_24 : decode cX0_letMinuteGoBy 24 = .ok (.putfield 51, 3) := by decide +kernel
theorem dX0_letMinuteGoBy_27 : decode cX0_letMinuteGoBy 27 = .ok (.aload_n 0, 1) := by decide +kernel
theorem dX0_letMinuteGoBy_28 : decode cX0_letMinuteGoBy 28 = .ok (.getfield 57, 3) := by decide +kernel
theorem dX0_letMinuteGoBy_31 : decode cX0_letMinuteGoBy 31 = .ok (.iload_n 1, 1) := by decide +kernel
theorem dX0_letMinuteGoBy_32 : decode cX0_letMinuteGoBy 32 = .ok (.isub, 1) := by decide +kernel
theorem dX0_letMinuteGoBy_33 : decode cX0_letMinuteGoBy 33 = .ok (.ireturn, 1) := by decide +kernel
set_option maxRecDepth 20000 in
theorem ggX0_letRoomsWait_X2_get : GoodIn wsX0_letRoomsWait wsX2_get := goodIn_r _ [9, 10, 58] (by decide +kernel) (by decide +kernel)
set_option maxRecDepth 20000 in
theorem gX0_letRoomsWait_X2_get : GoodIn wsX0_letRoomsWait (wsV RX0 83 RX2 yX2_get wsX2_get) := goodIn_app (goodIn_of _ (by decide +kernel)) ggX0_letRoomsWait_X2_get
set_option maxRecDepth 20000 in
theorem ggX0_letRoomsWait_X2_set : GoodIn wsX0_letRoomsWait wsX2_set := goodIn_r _ [14, 10, 58] (by decide +kernel) (by decide +kernel)
set_option maxRecDepth 20000 in
theorem gX0_letRoomsWait_X2_set : GoodIn wsX0_letRoomsWait (wsV RX0 79 RX2 yX2_set wsX2_set) := goodIn_app (goodIn_of _ (by decide +kernel)) ggX0_letRoomsWait_X2_set
set_option maxRecDepth 20000 in
theorem ggX0_letRoomsWait_X0_isMultiple : GoodIn wsX0_letRoomsWait wsX0_isMultiple := goodIn_r _ [18] (by decide +kernel) (by decide +kernel)
set_option maxRecDepth 20000 in
theorem gX0_letRoomsWait_X0_isMultiple : GoodIn wsX0_letRoomsWait (va_wsS RX0 106 yX0_isMultiple wsX0_isMultiple) := goodIn_app (goodIn_of _ (by decide +kernel)) ggX0_letRoomsWait_X0_isMultiple
set_option maxRecDepth 20000 in
theorem ggX0_letRoomsWait_X0_pullBell : GoodIn wsX0_letRoomsWait wsX0_pullBell := goodIn_r _ [22, 23, 24, 25, 26, 27, 28, 5, 6, 7, 8, 9, 10, 29, 30, 17, 31, 32, 33, 34, 35, 36, 37, 38, 39, 40, 41, 42, 43, 44, 45, 46, 47, 48, 49, 50, 51, 52, 53, 54, 55, 56, 57, 58, 59, 60] (by decide +kernel) (by decide +kernel)
set_option maxRecDepth 20000 in
theorem gX0_letRoomsWait_X0_pullBell : GoodIn wsX0_letRoomsWait (wsV RX0 110 RX0 yX0_pullBell wsX0_pullBell) := goodIn_app (goodIn_of _ (by decide +kernel)) ggX0_letRoomsWait_X0_pullBell
theorem dX0_letRoomsWait_0 : decode cX0_letRoomsWait 0 = .ok (.iconst 0, 1) := by decide +kernel
theorem dX0_letRoomsWait_1 : decode cX0_letRoomsWait 1 = .ok (.istore_n 1, 1) := by decide +kernel
theorem dX0_letRoomsWait_2 : decode cX0_letRoomsWait 2 = .ok (.iload_n 1, 1) := by decide +kernel
theorem dX0_letRoomsWait_3 : decode cX0_letRoomsWait 3 = .ok (.aload_n 0, 1) := by decide +kernel
theorem dX0_letRoomsWait_4 : decode cX0_letRoomsWait 4 = .ok (.getfield 54, 3) := by decide +kernel
theorem dX0_letRoomsWait_7 : decode cX0_letRoomsWait 7 = .ok (.if_icmp .ge 93, 3) := by decide +kernel
theorem dX0_letRoomsWait_10 : decode cX0_letRoomsWait 10 = .ok (.aload_n 0, 1) := by decide +kernel
theorem dX0_letRoomsWait_11 : decode cX0_letRoomsWait 11 = .ok (.getfield 34, 3) := by decide +kernel
theorem dX0_letRoomsWait_14 : decode cX0_letRoomsWait 14 = .ok (.iload_n 1, 1) := by decide +kernel
theorem dX0_letRoomsWait_15 : decode cX0_letRoomsWait 15 = .ok (.invokevirtual 83, 3) := by decide +kernel
theorem dX0_letRoomsWait_18 : decode cX0_letRoomsWait 18 = .ok (.iconst (-1), 1) := by decide +kernel
theorem dX0_letRoomsWait_19 : decode cX0_letRoomsWait 19 = .ok (.if_icmp .ne 6, 3) := by decide +kernel
theorem dX0_letRoomsWait_22 : decode cX0_letRoomsWait 22 = .ok (.goto 72, 3) := by decide +kernel
theorem dX0_letRoomsWait_25 : decode cX0_letRoomsWait 25 = .ok (.aload_n 0, 1) := by decide +kernel
theorem dX0_letRoomsWait_26 : decode cX0_letRoomsWait 26 = .ok (.getfield 34, 3) := by decide +kernel
theorem dX0_letRoomsWait_29 : decode cX0_letRoomsWait 29 = .ok (.iload_n 1, 1) := by decide +kernel
theorem dX0_letRoomsWait_30 : decode cX0_letRoomsWait 30 = .ok (.invokevirtual 83, 3) := by decide +kernel
theorem dX0_letRoomsWait_33 : decode cX0_letRoomsWait 33 = .ok (.iconst 1, 1) := by decide +kernel
theorem dX0_letRoomsWait_34 : decode cX0_letRoomsWait 34 = .ok (.iadd, 1) := by decide +kernel
theorem dX0_letRoomsWait_35 : decode cX0_letRoomsWait 35 = .ok (.istore_n 2, 1) := by decide +kernel
theorem dX0_letRoomsWait_36 : decode cX0_letRoomsWait 36 = .ok (.iload_n 2, 1) := by decide +kernel
theorem dX0_letRoomsWait_37 : decode cX0_letRoomsWait 37 = .ok (.bipush 30, 2) := by decide +kernel
theorem dX0_letRoomsWait_39 : decode cX0_letRoomsWait 39 = .ok (.if_icmp .lt 25, 3) := by decide +kernel
theorem dX0_letRoomsWait_42 : decode cX0_letRoomsWait 42 = .ok (.aload_n 0, 1) := by decide +kernel
theorem dX0_letRoomsWait_43 : decode cX0_letRoomsWait 43 = .ok (.getfield 34, 3) := by decide +kernel
theorem dX0_letRoomsWait_46 : decode cX0_letRoomsWait 46 = .ok (.iload_n 1, 1) := by decide +kernel
theorem dX0_letRoomsWait_47 : decode cX0_letRoomsWait 47 = .ok (.iconst (-1), 1) := by decide +kernel
theorem dX0_letRoomsWait_48 : decode cX0_letRoomsWait 48 = .ok (.invokevirtual 79, 3) := by decide +kernel
theorem dX0_letRoomsWait_51 : decode cX0_letRoomsWait 51 = .ok (.aload_n 0, 1) := by decide +kernel
theorem dX0_letRoomsWait_52 : decode cX0_letRoomsWait 52 = .ok (.dup, 1) := by decide +kernel
theorem dX0_letRoomsWait_53 : decode cX0_letRoomsWait 53 = .ok (.getfield 63, 3) := by decide +kernel
theorem dX0_letRoomsWait_56 : decode cX0_letRoomsWait 56 = .ok (.iconst 1, 1) := by decide +kernel
theorem dX0_letRoomsWait_57 : decode cX0_letRoomsWait 57 = .ok (.iadd, 1) := by decide +kernel
theorem dX0_letRoomsWait_58 : decode cX0_letRoomsWait 58 = .ok (.putfield 63, 3) := by decide +kernel
theorem dX0_letRoomsWait_61 : decode cX0_letRoomsWait 61 = .ok (.goto 33, 3) := by decide +kernel
theorem dX0_letRoomsWait_64 : decode cX0_letRoomsWait 64 = .ok (.aload_n 0, 1) := by decide +kernel
theorem dX0_letRoomsWait_65 : decode cX0_letRoomsWait 65 = .ok (.getfield 34, 3) := by decide +kernel
theorem dX0_letRoomsWait_68 : decode cX0_letRoomsWait 68 = .ok (.iload_n 1, 1) := by decide +kernel
theorem dX0_letRoomsWait_69 : decode cX0_letRoomsWait 69 = .ok (.iload_n 2, 1) := by decide +kernel
theorem dX0_letRoomsWait_70 : decode cX0_letRoomsWait 70 = .ok (.invokevirtual 79, 3) := by decide +kernel
theorem dX0_letRoomsWait_73 : decode cX0_letRoomsWait 73 = .ok (.iload_n 2, 1) := by decide +kernel
theorem dX0_letRoomsWait_74 : decode cX0_letRoomsWait 74 = .ok (.aload_n 0, 1) := by decide +kernel
theorem dX0_letRoomsWait_75 : decode cX0_letRoomsWait 75 = .ok (.getfield 22, 3) := by decide +kernel
theorem dX0_letRoomsWait_78 : decode cX0_letRoomsWait 78 = .ok (.iload_n 1, 1) := by decide +kernel
theorem dX0_letRoomsWait_79 : decode cX0_letRoomsWait 79 = .ok (.invokevirtual 83, 3) := by decide +kernel
theorem dX0_letRoomsWait_82 : decode cX0_letRoomsWait 82 = .ok (.invokestatic 106, 3) := by decide +kernel
theorem dX0_letRoomsWait_85 : decode cX0_letRoomsWait 85 = .ok (.ifCond .eq 9, 3) := by decide +kernel
theorem dX0_letRoomsWait_88 : decode cX0_letRoomsWait 88 = .ok (.aload_n 0, 1) := by decide +kernel
theorem dX0_letRoomsWait_89 : decode cX0_letRoomsWait 89 = .ok (.iload_n 1, 1) := by decide +kernel
theorem dX0_letRoomsWait_90 : decode cX0_letRoomsWait 90 = .ok (.invokevirtual 110, 3) := by decide +kernel
theorem dX0_letRoomsWait_93 : decode cX0_letRoomsWait 93 = .ok (.pop, 1) := by decide +kernel
theorem dX0_letRoomsWait_94 : decode cX0_letRoomsWait 94 = .ok (.iinc 1 1, 3) := by decide +kernel
theorem dX0_letRoomsWait_97 : decode cX0_letRoomsWait 97 = .ok (.goto (-95), 3) := by decide +kernel
theorem dX0_letRoomsWait_100 : decode cX0_letRoomsWait 100 = .ok (.return_, 1) := by decide +kernel
theorem dX0_isMultiple_0 : decode cX0_isMultiple 0 = .ok (.iload_n 1, 1) := by decide +kernel
theorem dX0_isMultiple_1 : decode cX0_isMultiple 1 = .ok (.ifCond .le 13, 3) := by decide +kernel
theorem dX0_isMultiple_4 : decode cX0_isMultiple 4 = .ok (.iload_n 0, 1) := by decide +kernel
theorem dX0_isMultiple_5 : decode cX0_isMultiple 5 = .ok (.iload_n 1, 1) := by decide +kernel
theorem dX0_isMultiple_6 : decode cX0_isMultiple 6 = .ok (.irem, 1) := by decide +kernel
theorem dX0_isMultiple_7 : decode cX0_isMultiple 7 = .ok (.ifCond .ne 7, 3) := by decide +kernel
theorem dX0_isMultiple_10 : decode cX0_isMultiple 10 = .ok (.iconst 1, 1) := by decide +kernel
theorem dX0_isMultiple_11 : decode cX0_isMultiple 11 = .ok (.goto 4, 3) := by decide +kernel
theorem dX0_isMultiple_14 : decode cX0_isMultiple 14 = .ok (.iconst 0, 1) := by decide +kernel
theorem dX0_isMultiple_15 : decode cX0_isMultiple 15 = .ok (.ireturn, 1) := by decide +kernel
set_option maxRecDepth 20000 in
theorem ggX0_letServantsMove_X3_isIdle : GoodIn wsX0_letServantsMove wsX3_isIdle := goodIn_r _ [6, 7, 8, 9, 10, 11, 12, 13, 14, 51, 52, 53, 54, 55, 56, 57] (by decide +kernel) (by decide +kernel)
set_option maxRecDepth 20000 in
theorem gX0_letServantsMove_X3_isIdle : GoodIn wsX0_letServantsMove (wsV RX0 117 RX3 yX3_isIdle wsX3_isIdle) := goodIn_app (goodIn_of _ (by decide +kernel)) ggX0_letServantsMove_X3_isIdle
set_option maxRecDepth 20000 in
theorem ggX0_letServantsMove_X2_get : GoodIn wsX0_letServantsMove wsX2_get := goodIn_r _ [13, 14, 57] (by decide +kernel) (by decide +kernel)
set_option maxRecDepth 20000 in
theorem gX0_letServantsMove_X2_get : GoodIn wsX0_letServantsMove (wsV RX0 83 RX2 yX2_get wsX2_get) := goodIn_app (goodIn_of _ (by decide +kernel)) ggX0_letServantsMove_X2_get
set_option maxRecDepth 20000 in
theorem ggX0_letServantsMove_X2_set : GoodIn wsX0_letServantsMove wsX2_set := goodIn_r _ [19, 14, 57] (by decide +kernel) (by decide +kernel)
set_option maxRecDepth 20000 in
theorem gX0_letServantsMove_X2_set : GoodIn wsX0_letServantsMove (wsV RX0 79 RX2 yX2_set wsX2_set) := goodIn_app (goodIn_of _ (by decide +kernel)) ggX0_letServantsMove_X2_set
set_option maxRecDepth 20000 in
theorem ggX0_letServantsMove_X3_rest : GoodIn wsX0_letServantsMove wsX3_rest := goodIn_r _ [23, 7, 8, 24, 25, 17, 18, 12, 19, 14, 51, 52, 53, 54, 55, 56, 57] (by decide +kernel) (by decide +kernel)
set_option maxRecDepth 20000 in
theorem gX0_letServantsMove_X3_rest : GoodIn wsX0_letServantsMove (wsV RX0 126 RX3 yX3_rest wsX3_rest) := goodIn_app (goodIn_of _ (by decide +kernel)) ggX0_letServantsMove_X3_rest
set_option maxRecDepth 20000 in
theorem ggX0_letServantsMove_X0_arrive : GoodIn wsX0_letServantsMove wsX0_arrive := goodIn_r _ [30, 1, 31, 32, 33, 34, 35, 15, 10, 11, 12, 13, 14, 16, 17, 18, 19, 36, 37, 38, 39, 40, 41, 42, 43, 44, 45, 46, 47, 48, 49, 50, 51, 52, 53, 54, 55, 56, 57] (by decide +kernel) (by decide +kernel)
set_option maxRecDepth 20000 in
theorem gX0_letServantsMove_X0_arrive : GoodIn wsX0_letServantsMove (wsV RX0 129 RX0 yX0_arrive wsX0_arrive) := goodIn_app (goodIn_of _ (by decide +kernel)) ggX0_letServantsMove_X0_arrive
theorem dX0_letServantsMove_0 : decode cX0_letServantsMove 0 = .ok (.iconst 0, 1) := by decide +kernel
theorem dX0_letServantsMove_1 : decode cX0_letServantsMove 1 = .ok (.istore_n 1, 1) := by decide +kernel
theorem dX0_letServantsMove_2 : decode cX0_letServantsMove 2 = .ok (.iload_n 1, 1) := by decide +kernel
theorem dX0_letServantsMove_3 : decode cX0_letServantsMove 3 = .ok (.aload_n 0, 1) := by decide +kernel
theorem dX0_letServantsMove_4 : decode cX0_letServantsMove 4 = .ok (.getfield 47, 3) := by decide +kernel
theorem dX0_letServantsMove_7 : decode cX0_letServantsMove 7 = .ok (.getfield 114, 3) := by decide +kernel
theorem dX0_letServantsMove_10 : decode cX0_letServantsMove 10 = .ok (.if_icmp .ge 87, 3) := by decide +kernel
theorem dX0_letServantsMove_13 : decode cX0_letServantsMove 13 = .ok (.aload_n 0, 1) := by decide +kernel
theorem dX0_letServantsMove_14 : decode cX0_letServantsMove 14 = .ok (.getfield 47, 3) := by decide +kernel
theorem dX0_letServantsMove_17 : decode cX0_letServantsMove 17 = .ok (.iload_n 1, 1) := by decide +kernel
theorem dX0_letServantsMove_18 : decode cX0_letServantsMove 18 = .ok (.invokevirtual 117, 3) := by decide +kernel
theorem dX0_letServantsMove_21 : decode cX0_letServantsMove 21 = .ok (.ifCond .eq 6, 3) := by decide +kernel
theorem dX0_letServantsMove_24 : decode cX0_letServantsMove 24 = .ok (.goto 67, 3) := by decide +kernel
theorem dX0_letServantsMove_27 : decode cX0_letServantsMove 27 = .ok (.aload_n 0, 1) := by decide +kernel
theorem dX0_letServantsMove_28 : decode cX0_letServantsMove 28 = .ok (.getfield 47, 3) := by decide +kernel
theorem dX0_letServantsMove_31 : decode cX0_letServantsMove 31 = .ok (.getfield 120, 3) := by decide +kernel
theorem dX0_letServantsMove_34 : decode cX0_letServantsMove 34 = .ok (.iload_n 1, 1) := by decide +kernel
theorem dX0_letServantsMove_35 : decode cX0_letServantsMove 35 = .ok (.invokevirtual 83, 3) := by decide +kernel
theorem dX0_letServantsMove_38 : decode cX0_letServantsMove 38 = .ok (.iconst 1, 1) := by decide +kernel
theorem dX0_letServantsMove_39 : decode cX0_letServantsMove 39 = .ok (.isub, 1) := by decide +kernel
theorem dX0_letServantsMove_40 : decode cX0_letServantsMove 40 = .ok (.istore_n 2, 1) := by decide +kernel
theorem dX0_letServantsMove_41 : decode cX0_letServantsMove 41 = .ok (.aload_n 0, 1) := by decide +kernel
theorem dX0_letServantsMove_42 : decode cX0_letServantsMove 42 = .ok (.getfield 47, 3) := by decide +kernel
theorem dX0_letServantsMove_45 : decode cX0_letServantsMove 45 = .ok (.getfield 120, 3) := by decide +kernel
theorem dX0_letServantsMove_48 : decode cX0_letServantsMove 48 = .ok (.iload_n 1, 1) := by decide +kernel
theorem dX0_letServantsMove_49 : decode cX0_letServantsMove 49 = .ok (.iload_n 2, 1) := by decide +kernel
theorem dX0_letServantsMove_50 : decode cX0_letServantsMove 50 = .ok (.invokevirtual 79, 3) := by decide +kernel
theorem dX0_letServantsMove_53 : decode cX0_letServantsMove 53 = .ok (.iload_n 2, 1) := by decide +kernel
theorem dX0_letServantsMove_54 : decode cX0_letServantsMove 54 = .ok (.ifCond .le 6, 3) := by decide +kernel
theorem dX0_letServantsMove_57 : decode cX0_letServantsMove 57 = .ok (.goto 34, 3) := by decide +kernel
theorem dX0_letServantsMove_60 : decode cX0_letServantsMove 60 = .ok (.aload_n 0, 1) := by decide +kernel
theorem dX0_letServantsMove_61 : decode cX0_letServantsMove 61 = .ok (.getfield 47, 3) := by decide +kernel
theorem dX0_letServantsMove_64 : decode cX0_letServantsMove 64 = .ok (.getfield 123, 3) := by decide +kernel
theorem dX0_letServantsMove_67 : decode cX0_letServantsMove 67 = .ok (.iload_n 1, 1) := by decide +kernel
theorem dX0_letServantsMove_68 : decode cX0_letServantsMove 68 = .ok (.invokevirtual 83, 3) := by decide +kernel
theorem dX0_letServantsMove_71 : decode cX0_letServantsMove 71 = .ok (.istore_n 3, 1) := by decide +kernel
theorem dX0_letServantsMove_72 : decode cX0_letServantsMove 72 = .ok (.aload_n 0, 1) := by decide +kernel
theorem dX0_letServantsMove_73 : decode cX0_letServantsMove 73 = .ok (.getfield 47, 3) := by decide +kernel
theorem dX0_letServantsMove_76 : decode cX0_letServantsMove 76 = .ok (.iload_n 1, 1) := by decide +kernel
theorem dX0_letServantsMove_77 : decode cX0_letServantsMove 77 = .ok (.invokevirtual 126, 3) := by decide +kernel
theorem dX0_letServantsMove_80 : decode cX0_letServantsMove 80 = .ok (.iload_n 3, 1) := by decide +kernel
theorem dX0_letServantsMove_81 : decode cX0_letServantsMove 81 = .ok (.iconst (-1), 1) := by decide +kernel
theorem dX0_letServantsMove_82 : decode cX0_letServantsMove 82 = .ok (.if_icmp .eq 9, 3) := by decide +kernel
theorem dX0_letServantsMove_85 : decode cX0_letServantsMove 85 = .ok (.aload_n 0, 1) := by decide +kernel
theorem dX0_letServantsMove_86 : decode cX0_letServantsMove 86 = .ok (.iload_n 1, 1) := by decide +kernel
theorem dX0_letServantsMove_87 : decode cX0_letServantsMove 87 = .ok (.iload_n 3, 1) := by decide +kernel
theorem dX0_letServantsMove_88 : decode cX0_letServantsMove 88 = .ok (.invokevirtual 129, 3) := by decide +kernel
theorem dX0_letServantsMove_91 : decode cX0_letServantsMove 91 = .ok (.iinc 1 1, 3) := by decide +kernel
theorem dX0_letServantsMove_94 : decode cX0_letServantsMove 94 = .ok (.goto (-92), 3) := by decide +kernel
theorem dX0_letServantsMove_97 : decode cX0_letServantsMove 97 = .ok (.return_, 1) := by decide +kernel
set_option maxRecDepth 20000 in
theorem ggX0_arrive_X2_get : GoodIn wsX0_arrive wsX2_get := goodIn_r _ [11, 12, 38] (by decide +kernel) (by decide +kernel)
set_option maxRecDepth 20000 in
theorem gX0_arrive_X2_get : GoodIn wsX0_arrive (wsV RX0 83 RX2 yX2_get wsX2_get) := goodIn_app (goodIn_of _ (by decide +kernel)) ggX0_arrive_X2_get
set_option maxRecDepth 20000 in
theorem ggX0_arrive_X2_set : GoodIn wsX0_arrive wsX2_set := goodIn_r _ [16, 12, 38] (by decide +kernel) (by decide +kernel)
set_option maxRecDepth 20000 in
theorem gX0_arrive_X2_set : GoodIn wsX0_arrive (wsV RX0 79 RX2 yX2_set wsX2_set) := goodIn_app (goodIn_of _ (by decide +kernel)) ggX0_arrive_X2_set
theorem dX0_arrive_0 : decode cX0_arrive 0 = .ok (.aload_n 0, 1) := by decide +kernel
theorem dX0_arrive_1 : decode cX0_arrive 1 = .ok (.getfield 47, 3) := by decide +kernel
theorem dX0_arrive_4 : decode cX0_arrive 4 = .ok (.getfield 132, 3) := by decide +kernel
theorem dX0_arrive_7 : decode cX0_arrive 7 = .ok (.iload_n 1, 1) := by decide +kernel
theorem dX0_arrive_8 : decode cX0_arrive 8 = .ok (.aload_n 0, 1) := by decide +kernel
theorem dX0_arrive_9 : decode cX0_arrive 9 = .ok (.getfield 18, 3) := by decide +kernel
theorem dX0_arrive_12 : decode cX0_arrive 12 = .ok (.iload_n 2, 1) := by decide +kernel
theorem dX0_arrive_13 : decode cX0_arrive 13 = .ok (.invokevirtual 83, 3) := by decide +kernel
theorem dX0_arrive_16 : decode cX0_arrive 16 = .ok (.invokevirtual 79, 3) := by decide +kernel
theorem dX0_arrive_19 : decode cX0_arrive 19 = .ok (.aload_n 0, 1) := by decide +kernel
theorem dX0_arrive_20 : decode cX0_arrive 20 = .ok (.getfield 34, 3) := by decide +kernel
theorem dX0_arrive_23 : decode cX0_arrive 23 = .ok (.iload_n 2, 1) := by decide +kernel
theorem dX0_arrive_24 : decode cX0_arrive 24 = .ok (.invokevirtual 83, 3) := by decide +kernel
theorem dX0_arrive_27 : decode cX0_arrive 27 = .ok (.iconst (-1), 1) := by decide +kernel
theorem dX0_arrive_28 : decode cX0_arrive 28 = .ok (.if_icmp .ne 14, 3) := by decide +kernel
theorem dX0_arrive_31 : decode cX0_arrive 31 = .ok (.aload_n 0, 1) := by decide +kernel
theorem dX0_arrive_32 : decode cX0_arrive 32 = .ok (.dup, 1) := by decide +kernel
theorem dX0_arrive_33 : decode cX0_arrive 33 = .ok (.getfield 60, 3) := by decide +kernel
theorem dX0_arrive_36 : decode cX0_arrive 36 = .ok (.iconst 1, 1) := by decide +kernel
theorem dX0_arrive_37 : decode cX0_arrive 37 = .ok (.iadd, 1) := by decide +kernel
theorem dX0_arrive_38 : decode cX0_arrive 38 = .ok (.putfield 60, 3) := by decide +kernel
theorem dX0_arrive_41 : decode cX0_arrive 41 = .ok (.return_, 1) := by decide +kernel
theorem dX0_arrive_42 : decode cX0_arrive 42 = .ok (.aload_n 0, 1) := by decide +kernel
theorem dX0_arrive_43 : decode cX0_arrive 43 = .ok (.getfield 34, 3) := by decide +kernel
theorem dX0_arrive_46 : decode cX0_arrive 46 = .ok (.iload_n 2, 1) := by decide +kernel
theorem dX0_arrive_47 : decode cX0_arrive 47 = .ok (.iconst (-1), 1) := by decide +kernel
theorem dX0_arrive_48 : decode cX0_arrive 48 = .ok (.invokevirtual 79, 3) := by decide +kernel
theorem dX0_arrive_51 : decode cX0_arrive 51 = .ok (.aload_n 0, 1) := by decide +kernel
theorem dX0_arrive_52 : decode cX0_arrive 52 = .ok (.dup, 1) := by decide +kernel
theorem dX0_arrive_53 : decode cX0_arrive 53 = .ok (.getfield 57, 3) := by decide +kernel
theorem dX0_arrive_56 : decode cX0_arrive 56 = .ok (.iconst 1, 1) := by decide +kernel
theorem dX0_arrive_57 : decode cX0_arrive 57 = .ok (.iadd, 1) := by decide +kernel
theorem dX0_arrive_58 : decode cX0_arrive 58 = .ok (.putfield 57, 3) := by decide +kernel
theorem dX0_arrive_61 : decode cX0_arrive 61 = .ok (.aload_n 0, 1) := by decide +kernel
theorem dX0_arrive_62 : decode cX0_arrive 62 = .ok (.getfield 47, 3) := by decide +kernel
theorem dX0_arrive_65 : decode cX0_arrive 65 = .ok (.getfield 133, 3) := by decide +kernel
theorem dX0_arrive_68 : decode cX0_arrive 68 = .ok (.iload_n 1, 1) := by decide +kernel
theorem dX0_arrive_69 : decode cX0_arrive 69 = .ok (.iload_n 2, 1) := by decide +kernel
theorem dX0_arrive_70 : decode cX0_arrive 70 = .ok (.invokevirtual 79, 3) := by decide +kernel
theorem dX0_arrive_73 : decode cX0_arrive 73 = .ok (.aload_n 0, 1) := by decide +kernel
theorem dX0_arrive_74 : decode cX0_arrive 74 = .ok (.getfield 47, 3) := by decide +kernel
theorem dX0_arrive_77 : decode cX0_arrive 77 = .ok (.getfield 120, 3) := by decide +kernel
theorem dX0_arrive_80 : decode cX0_arrive 80 = .ok (.iload_n 1, 1) := by decide +kernel
theorem dX0_arrive_81 : decode cX0_arrive 81 = .ok (.aload_n 0, 1) := by decide +kernel
theorem dX0_arrive_82 : decode cX0_arrive 82 = .ok (.getfield 25, 3) := by decide +kernel
theorem dX0_arrive_85 : decode cX0_arrive 85 = .ok (.iload_n 2, 1) := by decide +kernel
theorem dX0_arrive_86 : decode cX0_arrive 86 = .ok (.invokevirtual 83, 3) := by decide +kernel
theorem dX0_arrive_89 : decode cX0_arrive 89 = .ok (.invokevirtual 79, 3) := by decide +kernel
theorem dX0_arrive_92 : decode cX0_arrive 92 = .ok (.return_, 1) := by decide +kernel
set_option maxRecDepth 20000 in
theorem ggX0_sendIdleServants_X1_first : GoodIn wsX0_sendIdleServants wsX1_first := goodIn_r _ [8, 9, 10, 64, 65] (by decide +kernel) (by decide +kernel)
set_option maxRecDepth 20000 in
theorem gX0_sendIdleServants_X1_first : GoodIn wsX0_sendIdleServants (wsV RX0 137 RX1 yX1_first wsX1_first) := goodIn_app (goodIn_of _ (by decide +kernel)) ggX0_sendIdleServants_X1_first
set_option maxRecDepth 20000 in
theorem ggX0_sendIdleServants_X2_get : GoodIn wsX0_sendIdleServants wsX2_get := goodIn_r _ [15, 16, 66] (by decide +kernel) (by decide +kernel)
set_option maxRecDepth 20000 in
theorem gX0_sendIdleServants_X2_get : GoodIn wsX0_sendIdleServants (wsV RX0 83 RX2 yX2_get wsX2_get) := goodIn_app (goodIn_of _ (by decide +kernel)) ggX0_sendIdleServants_X2_get
set_option maxRecDepth 20000 in
theorem ggX0_sendIdleServants_X3_nearestTo : GoodIn wsX0_sendIdleServants wsX3_nearestTo := goodIn_r _ [21, 22, 23, 24, 25, 26, 27, 12, 13, 14, 15, 16, 28, 29, 20, 30, 58, 59, 60, 61, 62, 63, 66] (by decide +kernel) (by decide +kernel)
set_option maxRecDepth 20000 in
theorem gX0_sendIdleServants_X3_nearestTo : GoodIn wsX0_sendIdleServants (wsV RX0 141 RX3 yX3_nearestTo wsX3_nearestTo) := goodIn_app (goodIn_of _ (by decide +kernel)) ggX0_sendIdleServants_X3_nearestTo
set_option maxRecDepth 20000 in
theorem ggX0_sendIdleServants_X1_remove : GoodIn wsX0_sendIdleServants wsX1_remove := goodIn_r _ [34, 9, 10, 64, 65] (by decide +kernel) (by decide +kernel)
set_option maxRecDepth 20000 in
theorem gX0_sendIdleServants_X1_remove : GoodIn wsX0_sendIdleServants (wsV RX0 144 RX1 yX1_remove wsX1_remove) := goodIn_app (goodIn_of _ (by decide +kernel)) ggX0_sendIdleServants_X1_remove
set_option maxRecDepth 20000 in
theorem ggX0_sendIdleServants_X3_wayToFloor : GoodIn wsX0_sendIdleServants wsX3_wayToFloor := goodIn_r _ [38, 25, 26, 27, 12, 13, 14, 15, 16, 28, 29, 20, 30, 58, 59, 60, 61, 62, 63, 66] (by decide +kernel) (by decide +kernel)
set_option maxRecDepth 20000 in
theorem gX0_sendIdleServants_X3_wayToFloor : GoodIn wsX0_sendIdleServants (wsV RX0 147 RX3 yX3_wayToFloor wsX3_wayToFloor) := goodIn_app (goodIn_of _ (by decide +kernel)) ggX0_sendIdleServants_X3_wayToFloor
set_option maxRecDepth 20000 in
theorem ggX0_sendIdleServants_X2_set : GoodIn wsX0_sendIdleServants wsX2_set := goodIn_r _ [42, 16, 66] (by decide +kernel) (by decide +kernel)
set_option maxRecDepth 20000 in
theorem gX0_sendIdleServants_X2_set : GoodIn wsX0_sendIdleServants (wsV RX0 79 RX2 yX2_set wsX2_set) := goodIn_app (goodIn_of _ (by decide +kernel)) ggX0_sendIdleServants_X2_set
theorem dX0_sendIdleServants_0 : decode cX0_sendIdleServants 0 = .ok (.iconst 0, 1) := by decide +kernel
theorem dX0_sendIdleServants_1 : decode cX0_sendIdleServants 1 = .ok (.istore_n 1, 1) := by decide +kernel
theorem dX0_sendIdleServants_2 : decode cX0_sendIdleServants 2 = .ok (.iload_n 1, 1) := by decide +kernel
theorem dX0_sendIdleServants_3 : decode cX0_sendIdleServants 3 = .ok (.aload_n 0, 1) := by decide +kernel
theorem dX0_sendIdleServants_4 : decode cX0_sendIdleServants 4 = .ok (.getfield 47, 3) := by decide +kernel
theorem dX0_sendIdleServants_7 : decode cX0_sendIdleServants 7 = .ok (.getfield 114, 3) := by decide +kernel
theorem dX0_sendIdleServants_10 : decode cX0_sendIdleServants 10 = .ok (.if_icmp .ge 100, 3) := by decide +kernel
theorem dX0_sendIdleServants_13 : decode cX0_sendIdleServants 13 = .ok (.aload_n 0, 1) := by decide +kernel
theorem dX0_sendIdleServants_14 : decode cX0_sendIdleServants 14 = .ok (.getfield 40, 3) := by decide +kernel
theorem dX0_sendIdleServants_17 : decode cX0_sendIdleServants 17 = .ok (.getfield 136, 3) := by decide +kernel
theorem dX0_sendIdleServants_20 : decode cX0_sendIdleServants 20 = .ok (.ifCond .le 90, 3) := by decide +kernel
theorem dX0_sendIdleServants_23 : decode cX0_sendIdleServants 23 = .ok (.aload_n 0, 1) := by decide +kernel
theorem dX0_sendIdleServants_24 : decode cX0_sendIdleServants 24 = .ok (.getfield 40, 3) := by decide +kernel
theorem dX0_sendIdleServants_27 : decode cX0_sendIdleServants 27 = .ok (.invokevirtual 137, 3) := by decide +kernel
theorem dX0_sendIdleServants_30 : decode cX0_sendIdleServants 30 = .ok (.istore_n 2, 1) := by decide +kernel
theorem dX0_sendIdleServants_31 : decode cX0_sendIdleServants 31 = .ok (.aload_n 0, 1) := by decide +kernel
theorem dX0_sendIdleServants_32 : decode cX0_sendIdleServants 32 = .ok (.getfield 47, 3) := by decide +kernel
theorem dX0_sendIdleServants_35 : decode cX0_sendIdleServants 35 = .ok (.aload_n 0, 1) := by decide +kernel
theorem dX0_sendIdleServants_36 : decode cX0_sendIdleServants 36 = .ok (.getfield 18, 3) := by decide +kernel
theorem dX0_sendIdleServants_39 : decode cX0_sendIdleServants 39 = .ok (.iload_n 2, 1) := by decide +kernel
theorem dX0_sendIdleServants_40 : decode cX0_sendIdleServants 40 = .ok (.invokevirtual 83, 3) := by decide +kernel
theorem dX0_sendIdleServants_43 : decode cX0_sendIdleServants 43 = .ok (.invokevirtual 141, 3) := by decide +kernel
theorem dX0_sendIdleServants_46 : decode cX0_sendIdleServants 46 = .ok (.istore_n 3, 1) := by decide +kernel
theorem dX0_sendIdleServants_47 : decode cX0_sendIdleServants 47 = .ok (.iload_n 3, 1) := by decide +kernel
theorem dX0_sendIdleServants_48 : decode cX0_sendIdleServants 48 = .ok (.iconst (-1), 1) := by decide +kernel
theorem dX0_sendIdleServants_49 : decode cX0_sendIdleServants 49 = .ok (.if_icmp .ne 4, 3) := by decide +kernel
theorem dX0_sendIdleServants_52 : decode cX0_sendIdleServants 52 = .ok (.return_, 1) := by decide +kernel
theorem dX0_sendIdleServants_53 : decode cX0_sendIdleServants 53 = .ok (.aload_n 0, 1) := by decide +kernel
theorem dX0_sendIdleServants_54 : decode cX0_sendIdleServants 54 = .ok (.getfield 40, 3) := by decide +kernel
theorem dX0_sendIdleServants_57 : decode cX0_sendIdleServants 57 = .ok (.iload_n 2, 1) := by decide +kernel
theorem dX0_sendIdleServants_58 : decode cX0_sendIdleServants 58 = .ok (.invokevirtual 144, 3) := by decide +kernel
theorem dX0_sendIdleServants_61 : decode cX0_sendIdleServants 61 = .ok (.aload_n 0, 1) := by decide +kernel
theorem dX0_sendIdleServants_62 : decode cX0_sendIdleServants 62 = .ok (.getfield 47, 3) := by decide +kernel
theorem dX0_sendIdleServants_65 : decode cX0_sendIdleServants 65 = .ok (.iload_n 3, 1) := by decide +kernel
theorem dX0_sendIdleServants_66 : decode cX0_sendIdleServants 66 = .ok (.aload_n 0, 1) := by decide +kernel
theorem dX0_sendIdleServants_67 : decode cX0_sendIdleServants 67 = .ok (.getfield 18, 3) := by decide +kernel
theorem dX0_sendIdleServants_70 : decode cX0_sendIdleServants 70 = .ok (.iload_n 2, 1) := by decide +kernel
theorem dX0_sendIdleServants_71 : decode cX0_sendIdleServants 71 = .ok (.invokevirtual 83, 3) := by decide +kernel
theorem dX0_sendIdleServants_74 : decode cX0_sendIdleServants 74 = .ok (.invokevirtual 147, 3) := by decide +kernel
theorem dX0_sendIdleServants_77 : decode cX0_sendIdleServants 77 = .ok (.istore 4, 2) := by decide +kernel
theorem dX0_sendIdleServants_79 : decode cX0_sendIdleServants 79 = .ok (.aload_n 0, 1) := by decide +kernel
theorem dX0_sendIdleServants_80 : decode cX0_sendIdleServants 80 = .ok (.getfield 47, 3) := by decide +kernel
theorem dX0_sendIdleServants_83 : decode cX0_sendIdleServants 83 = .ok (.getfield 123, 3) := by decide +kernel
theorem dX0_sendIdleServants_86 : decode cX0_sendIdleServants 86 = .ok (.iload_n 3, 1) := by decide +kernel
theorem dX0_sendIdleServants_87 : decode cX0_sendIdleServants 87 = .ok (.iload_n 2, 1) := by decide +kernel
theorem dX0_sendIdleServants_88 : decode cX0_sendIdleServants 88 = .ok (.invokevirtual 79, 3) := by decide +kernel
theorem dX0_sendIdleServants_91 : decode cX0_sendIdleServants 91 = .ok (.aload_n 0, 1) := by decide +kernel
theorem dX0_sendIdleServants_92 : decode cX0_sendIdleServants 92 = .ok (.getfield 47, 3) := by decide +kernel
theorem dX0_sendIdleServants_95 : decode cX0_sendIdleServants 95 = .ok (.getfield 120, 3) := by decide +kernel
theorem dX0_sendIdleServants_98 : decode cX0_sendIdleServants 98 = .ok (.iload_n 3, 1) := by decide +kernel
theorem dX0_sendIdleServants_99 : decode cX0_sendIdleServants 99 = .ok (.iload 4, 2) := by decide +kernel
theorem dX0_sendIdleServants_101 : decode cX0_sendIdleServants 101 = .ok (.invokevirtual 79, 3) := by decide +kernel
theorem dX0_sendIdleServants_104 : decode cX0_sendIdleServants 104 = .ok (.iinc 1 1, 3) := by decide +kernel
theorem dX0_sendIdleServants_107 : decode cX0_sendIdleServants 107 = .ok (.goto (-105), 3) := by decide +kernel
theorem dX0_sendIdleServants_110 : decode cX0_sendIdleServants 110 = .ok (.return_, 1) := by decide +kernel
theorem dX1_init_0 : decode cX1_init 0 = .ok (.aload_n 0, 1) := by decide +kernel
theorem dX1_init_1 : decode cX1_init 1 = .ok (.invokespecial 3, 3) := by decide +kernel
theorem dX1_init_4 : decode cX1_init 4 = .ok (.aload_n 0, 1) := by decide +kernel
theorem dX1_init_5 : decode cX1_init 5 = .ok (.bipush 12, 2) := by decide +kernel
theorem dX1_init_7 : decode cX1_init 7 = .ok (.newarray .int, 2) := by decide +kernel
theorem dX1_init_9 : decode cX1_init 9 = .ok (.putfield 9, 3) := by decide +kernel
theorem dX1_init_12 : decode cX1_init 12 = .ok (.return_, 1) := by decide +kernel
theorem dX1_copyFrom_0 : decode cX1_copyFrom 0 = .ok (.aload_n 0, 1) := by decide +kernel
theorem dX1_copyFrom_1 : decode cX1_copyFrom 1 = .ok (.aload_n 1, 1) := by decide +kernel
theorem dX1_copyFrom_2 : decode cX1_copyFrom 2 = .ok (.getfield 15, 3) := by decide +kernel
theorem dX1_copyFrom_5 : decode cX1_copyFrom 5 = .ok (.putfield 15, 3) := by decide +kernel
theorem dX1_copyFrom_8 : decode cX1_copyFrom 8 = .ok (.iconst 0, 1) := by decide +kernel
theorem dX1_copyFrom_9 : decode cX1_copyFrom 9 = .ok (.istore_n 2, 1) := by decide +kernel
theorem dX1_copyFrom_10 : decode cX1_copyFrom 10 = .ok (.iload_n 2, 1) := by decide +kernel
theorem dX1_copyFrom_11 : decode cX1_copyFrom 11 = .ok (.aload_n 0, 1) := by decide +kernel
theorem dX1_copyFrom_12 : decode cX1_copyFrom 12 = .ok (.getfield 9, 3) := by decide +kernel
theorem dX1_copyFrom_15 : decode cX1_copyFrom 15 = .ok (.arraylength, 1) := by decide +kernel
theorem dX1_copyFrom_16 : decode cX1_copyFrom 16 = .ok (.if_icmp .ge 30, 3) := by decide +kernel
theorem dX1_copyFrom_19 : decode cX1_copyFrom 19 = .ok (.iload_n 2, 1) := by decide +kernel
theorem dX1_copyFrom_20 : decode cX1_copyFrom 20 = .ok (.aload_n 1, 1) := by decide +kernel
theorem dX1_copyFrom_21 : decode cX1_copyFrom 21 = .ok (.getfield 9, 3) := by decide +kernel
theorem dX1_copyFrom_24 : decode cX1_copyFrom 24 = .ok (.arraylength, 1) := by decide +kernel
theorem dX1_copyFrom_25 : decode cX1_copyFrom 25 = .ok (.if_icmp .ge 21, 3) := by decide +kernel
theorem dX1_copyFrom_28 : decode cX1_copyFrom 28 = .ok (.aload_n 0, 1) := by decide +kernel
theorem dX1_copyFrom_29 : decode cX1_copyFrom 29 = .ok (.getfield 9, 3) := by decide +kernel
theorem dX1_copyFrom_32 : decode cX1_copyFrom 32 = .ok (.iload_n 2, 1) := by decide +kernel
theorem dX1_copyFrom_33 : decode cX1_copyFrom 33 = .ok (.aload_n 1, 1) := by decide +kernel
theorem dX1_copyFrom_34 : decode cX1_copyFrom 34 = .ok (.getfield 9, 3) := by decide +kernel
theorem dX1_copyFrom_37 : decode cX1_copyFrom 37 = .ok (.iload_n 2, 1) := by decide +kernel
theorem dX1_copyFrom_38 : decode cX1_copyFrom 38 = .ok (.iaload, 1) := by decide +kernel
theorem dX1_copyFrom_39 : decode cX1_copyFrom 39 = .ok (.iastore, 1) := by decide +kernel
theorem dX1_copyFrom_40 : decode cX1_copyFrom 40 = .ok (.iinc 2 1, 3) := by decide +kernel
theorem dX1_copyFrom_43 : decode cX1_copyFrom 43 = .ok (.goto (-33), 3) := by decide +kernel
theorem dX1_copyFrom_46 : decode cX1_copyFrom 46 = .ok (.return_, 1) := by decide +kernel
theorem dX1_first_0 : decode cX1_first 0 = .ok (.aload_n 0, 1) := by decide +kernel
theorem dX1_first_1 : decode cX1_first 1 = .ok (.getfield 15, 3) := by decide +kernel
theorem dX1_first_4 : decode cX1_first 4 = .ok (.ifCond .le 20, 3) := by decide +kernel
theorem dX1_first_7 : decode cX1_first 7 = .ok (.aload_n 0, 1) := by decide +kernel
theorem dX1_first_8 : decode cX1_first 8 = .ok (.getfield 9, 3) := by decide +kernel
theorem dX1_first_11 : decode cX1_first 11 = .ok (.arraylength, 1) := by decide +kernel
theorem dX1_first_12 : decode cX1_first 12 = .ok (.ifCond .le 12, 3) := by decide +kernel
theorem dX1_first_15 : decode cX1_first 15 = .ok (.aload_n 0, 1) := by decide +kernel
theorem dX1_first_16 : decode cX1_first 16 = .ok (.getfield 9, 3) := by decide +kernel
theorem dX1_first_19 : decode cX1_first 19 = .ok (.iconst 0, 1) := by decide +kernel
theorem dX1_first_20 : decode cX1_first 20 = .ok (.iaload, 1) := by decide +kernel
theorem dX1_first_21 : decode cX1_first 21 = .ok (.goto 4, 3) := by decide +kernel
theorem dX1_first_24 : decode cX1_first 24 = .ok (.iconst (-1), 1) := by decide +kernel
theorem dX1_first_25 : decode cX1_first 25 = .ok (.ireturn, 1) := by decide +kernel
theorem dX1_placeOf_0 : decode cX1_placeOf 0 = .ok (.iconst 0, 1) := by decide +kernel
theorem dX1_placeOf_1 : decode cX1_placeOf 1 = .ok (.istore_n 2, 1) := by decide +kernel
theorem dX1_placeOf_2 : decode cX1_placeOf 2 = .ok (.iload_n 2, 1) := by decide +kernel
theorem dX1_placeOf_3 : decode cX1_placeOf 3 = .ok (.aload_n 0, 1) := by decide +kernel
theorem dX1_placeOf_4 : decode cX1_placeOf 4 = .ok (.getfield 15, 3) := by decide +kernel
theorem dX1_placeOf_7 : decode cX1_placeOf 7 = .ok (.if_icmp .ge 30, 3) := by decide +kernel
theorem dX1_placeOf_10 : decode cX1_placeOf 10 = .ok (.iload_n 2, 1) := by decide +kernel
theorem dX1_placeOf_11 : decode cX1_placeOf 11 = .ok (.aload_n 0, 1) := by decide +kernel
theorem dX1_placeOf_12 : decode cX1_placeOf 12 = .ok (.getfield 9, 3) := by decide +kernel
theorem dX1_placeOf_15 : decode cX1_placeOf 15 = .ok (.arraylength, 1) := by decide +kernel
theorem dX1_placeOf_16 : decode cX1_placeOf 16 = .ok (.if_icmp .ge 21, 3) := by decide +kernel
theorem dX1_placeOf_19 : decode cX1_placeOf 19 = .ok (.aload_n 0, 1) := by decide +kernel
theorem dX1_placeOf_20 : decode cX1_placeOf 20 = .ok (.getfield 9, 3) := by decide +kernel
theorem dX1_placeOf_23 : decode cX1_placeOf 23 = .ok (.iload_n 2, 1) := by decide +kernel
theorem dX1_placeOf_24 : decode cX1_placeOf 24 = .ok (.iaload, 1) := by decide +kernel
theorem dX1_placeOf_25 : decode cX1_placeOf 25 = .ok (.iload_n 1, 1) := by decide +kernel
theorem dX1_placeOf_26 : decode cX1_placeOf 26 = .ok (.if_icmp .ne 5, 3) := by decide +kernel
theorem dX1_placeOf_29 : decode cX1_placeOf 29 = .ok (.iload_n 2, 1) := by decide +kernel
theorem dX1_placeOf_30 : decode cX1_placeOf 30 = .ok (.ireturn, 1) := by decide +kernel
theorem dX1_placeOf_31 : decode cX1_placeOf 31 = .ok (.iinc 2 1, 3) := by decide +kernel
theorem dX1_placeOf_34 : decode cX1_placeOf 34 = .ok (.goto (-32), 3) := by decide +kernel
theorem dX1_placeOf_37 : decode cX1_placeOf 37 = .ok (.iconst (-1), 1) := by decide +kernel
theorem dX1_placeOf_38 : decode cX1_placeOf 38 = .ok (.ireturn, 1) := by decide +kernel
theorem dX1_append_0 : decode cX1_append 0 = .ok (.aload_n 0, 1) := by decide +kernel
theorem dX1_append_1 : decode cX1_append 1 = .ok (.getfield 15, 3) := by decide +kernel
theorem dX1_append_4 : decode cX1_append 4 = .ok (.ifCond .lt 35, 3) := by decide +kernel
theorem dX1_append_7 : decode cX1_append 7 = .ok (.aload_n 0, 1) := by decide +kernel
theorem dX1_append_8 : decode cX1_append 8 = .ok (.getfield 15, 3) := by decide +kernel
theorem dX1_append_11 : decode cX1_append 11 = .ok (.aload_n 0, 1) := by decide +kernel
theorem dX1_append_12 : decode cX1_append 12 = .ok (.getfield 9, 3) := by decide +kernel
theorem dX1_append_15 : decode cX1_append 15 = .ok (.arraylength, 1) := by decide +kernel
theorem dX1_append_16 : decode cX1_append 16 = .ok (.if_icmp .ge 23, 3) := by decide +kernel
theorem dX1_append_19 : decode cX1_append 19 = .ok (.aload_n 0, 1) := by decide +kernel
theorem dX1_append_20 : decode cX1_append 20 = .ok (.getfield 9, 3) := by decide +kernel
theorem dX1_append_23 : decode cX1_append 23 = .ok (.aload_n 0, 1) := by decide +kernel
theorem dX1_append_24 : decode cX1_append 24 = .ok (.getfield 15, 3) := by decide +kernel
theorem dX1_append_27 : decode cX1_append 27 = .ok (.iload_n 1, 1) := by decide +kernel
theorem dX1_append_28 : decode cX1_append 28 = .ok (.iastore, 1) := by decide +kernel
theorem dX1_append_29 : decode cX1_append 29 = .ok (.aload_n 0, 1) := by decide +kernel
theorem dX1_append_30 : decode cX1_append 30 = .ok (.dup, 1) := by decide +kernel
theorem dX1_append_31 : decode cX1_append 31 = .ok (.getfield 15, 3) := by decide +kernel
theorem dX1_append_34 : decode cX1_append 34 = .ok (.iconst 1, 1) := by decide +kernel
theorem dX1_append_35 : decode cX1_append 35 = .ok (.iadd, 1) := by decide +kernel
theorem dX1_append_36 : decode cX1_append 36 = .ok (.putfield 15, 3) := by decide +kernel
theorem dX1_append_39 : decode cX1_append 39 = .ok (.return_, 1) := by decide +kernel
theorem dX1_remove_0 : decode cX1_remove 0 = .ok (.iconst 0, 1) := by decide +kernel
theorem dX1_remove_1 : decode cX1_remove 1 = .ok (.istore_n 2, 1) := by decide +kernel
theorem dX1_remove_2 : decode cX1_remove 2 = .ok (.iconst 0, 1) := by decide +kernel
theorem dX1_remove_3 : decode cX1_remove 3 = .ok (.istore_n 3, 1) := by decide +kernel
theorem dX1_remove_4 : decode cX1_remove 4 = .ok (.iload_n 3, 1) := by decide +kernel
theorem dX1_remove_5 : decode cX1_remove 5 = .ok (.aload_n 0, 1) := by decide +kernel
theorem dX1_remove_6 : decode cX1_remove 6 = .ok (.getfield 15, 3) := by decide +kernel
theorem dX1_remove_9 : decode cX1_remove 9 = .ok (.if_icmp .ge 52, 3) := by decide +kernel
theorem dX1_remove_12 : decode cX1_remove 12 = .ok (.iload_n 3, 1) := by decide +kernel
theorem dX1_remove_13 : decode cX1_remove 13 = .ok (.aload_n 0, 1) := by decide +kernel
theorem dX1_remove_14 : decode cX1_remove 14 = .ok (.getfield 9, 3) := by decide +kernel
theorem dX1_remove_17 : decode cX1_remove 17 = .ok (.arraylength, 1) := by decide +kernel
theorem dX1_remove_18 : decode cX1_remove 18 = .ok (.if_icmp .ge 43, 3) := by decide +kernel
theorem dX1_remove_21 : decode cX1_remove 21 = .ok (.aload_n 0, 1) := by decide +kernel
theorem dX1_remove_22 : decode cX1_remove 22 = .ok (.getfield 9, 3) := by decide +kernel
theorem dX1_remove_25 : decode cX1_remove 25 = .ok (.iload_n 3, 1) := by decide +kernel
theorem dX1_remove_26 : decode cX1_remove 26 = .ok (.iaload, 1) := by decide +kernel
theorem dX1_remove_27 : decode cX1_remove 27 = .ok (.iload_n 1, 1) := by decide +kernel
theorem dX1_remove_28 : decode cX1_remove 28 = .ok (.if_icmp .eq 27, 3) := by decide +kernel
theorem dX1_remove_31 : decode cX1_remove 31 = .ok (.iload_n 2, 1) := by decide +kernel
theorem dX1_remove_32 : decode cX1_remove 32 = .ok (.aload_n 0, 1) := by decide +kernel
theorem dX1_remove_33 : decode cX1_remove 33 = .ok (.getfield 9, 3) := by decide +kernel
theorem dX1_remove_36 : decode cX1_remove 36 = .ok (.arraylength, 1) := by decide +kernel
theorem dX1_remove_37 : decode cX1_remove 37 = .ok (.if_icmp .ge 18, 3) := by decide +kernel
theorem dX1_remove_40 : decode cX1_remove 40 = .ok (.aload_n 0, 1) := by decide +kernel
theorem dX1_remove_41 : decode cX1_remove 41 = .ok (.getfield 9, 3) := by decide +kernel
theorem dX1_remove_44 : decode cX1_remove 44 = .ok (.iload_n 2, 1) := by decide +kernel
theorem dX1_remove_45 : decode cX1_remove 45 = .ok (.aload_n 0, 1) := by decide +kernel
theorem dX1_remove_46 : decode cX1_remove 46 = .ok (.getfield 9, 3) := by decide +kernel
theorem dX1_remove_49 : decode cX1_remove 49 = .ok (.iload_n 3, 1) := by decide +kernel
theorem dX1_remove_50 : decode cX1_remove 50 = .ok (.iaload, 1) := by decide +kernel
theorem dX1_remove_51 : decode cX1_remove 51 = .ok (.iastore, 1) := by decide +kernel
theorem dX1_remove_52 : decode cX1_remove 52 = .ok (.iinc 2 1, 3) := by decide +kernel
theorem dX1_remove_55 : decode cX1_remove 55 = .ok (.iinc 3 1, 3) := by decide +kernel
theorem dX1_remove_58 : decode cX1_remove 58 = .ok (.goto (-54), 3) := by decide +kernel
theorem dX1_remove_61 : decode cX1_remove 61 = .ok (.aload_n 0, 1) := by decide +kernel
theorem dX1_remove_62 : decode cX1_remove 62 = .ok (.iload_n 2, 1) := by decide +kernel
theorem dX1_remove_63 : decode cX1_remove 63 = .ok (.putfield 15, 3) := by decide +kernel
theorem dX1_remove_66 : decode cX1_remove 66 = .ok (.return_, 1) := by decide +kernel
theorem dX2_init_0 : decode cX2_init 0 = .ok (.aload_n 0, 1) := by decide +kernel
theorem dX2_init_1 : decode cX2_init 1 = .ok (.invokespecial 3, 3) := by decide +kernel
theorem dX2_init_4 : decode cX2_init 4 = .ok (.aload_n 0, 1) := by decide +kernel
theorem dX2_init_5 : decode cX2_init 5 = .ok (.bipush 12, 2) := by decide +kernel
theorem dX2_init_7 : decode cX2_init 7 = .ok (.newarray .int, 2) := by decide +kernel
theorem dX2_init_9 : decode cX2_init 9 = .ok (.putfield 9, 3) := by decide +kernel
theorem dX2_init_12 : decode cX2_init 12 = .ok (.return_, 1) := by decide +kernel
theorem dX2_get_0 : decode cX2_get 0 = .ok (.iload_n 1, 1) := by decide +kernel
theorem dX2_get_1 : decode cX2_get 1 = .ok (.ifCond .lt 21, 3) := by decide +kernel
theorem dX2_get_4 : decode cX2_get 4 = .ok (.iload_n 1, 1) := by decide +kernel
theorem dX2_get_5 : decode cX2_get 5 = .ok (.aload_n 0, 1) := by decide +kernel
theorem dX2_get_6 : decode cX2_get 6 = .ok (.getfield 9, 3) := by decide +kernel
theorem dX2_get_9 : decode cX2_get 9 = .ok (.arraylength, 1) := by decide +kernel
theorem dX2_get_10 : decode cX2_get 10 = .ok (.if_icmp .ge 12, 3) := by decide +kernel
theorem dX2_get_13 : decode cX2_get 13 = .ok (.aload_n 0, 1) := by decide +kernel
theorem dX2_get_14 : decode cX2_get 14 = .ok (.getfield 9, 3) := by decide +kernel
theorem dX2_get_17 : decode cX2_get 17 = .ok (.iload_n 1, 1) := by decide +kernel
theorem dX2_get_18 : decode cX2_get 18 = .ok (.iaload, 1) := by decide +kernel
theorem dX2_get_19 : decode cX2_get 19 = .ok (.goto 4, 3) := by decide +kernel
theorem dX2_get_22 : decode cX2_get 22 = .ok (.iconst 0, 1) := by decide +kernel
theorem dX2_get_23 : decode cX2_get 23 = .ok (.ireturn, 1) := by decide +kernel
theorem dX2_set_0 : decode cX2_set 0 = .ok (.iload_n 1, 1) := by decide +kernel
theorem dX2_set_1 : decode cX2_set 1 = .ok (.ifCond .lt 19, 3) := by decide +kernel
theorem dX2_set_4 : decode cX2_set 4 = .ok (.iload_n 1, 1) := by decide +kernel
theorem dX2_set_5 : decode cX2_set 5 = .ok (.aload_n 0, 1) := by decide +kernel
theorem dX2_set_6 : decode cX2_set 6 = .ok (.getfield 9, 3) := by decide +kernel
theorem dX2_set_9 : decode cX2_set 9 = .ok (.arraylength, 1) := by decide +kernel
theorem dX2_set_10 : decode cX2_set 10 = .ok (.if_icmp .ge 10, 3) := by decide +kernel
theorem dX2_set_13 : decode cX2_set 13 = .ok (.aload_n 0, 1) := by decide +kernel
theorem dX2_set_14 : decode cX2_set 14 = .ok (.getfield 9, 3) := by decide +kernel
theorem dX2_set_17 : decode cX2_set 17 = .ok (.iload_n 1, 1) := by decide +kernel
theorem dX2_set_18 : decode cX2_set 18 = .ok (.iload_n 2, 1) := by decide +kernel
theorem dX2_set_19 : decode cX2_set 19 = .ok (.iastore, 1) := by decide +kernel
theorem dX2_set_20 : decode cX2_set 20 = .ok (.return_, 1) := by decide +kernel
theorem dX2_copyFrom_0 : decode cX2_copyFrom 0 = .ok (.iconst 0, 1) := by decide +kernel
theorem dX2_copyFrom_1 : decode cX2_copyFrom 1 = .ok (.istore_n 2, 1) := by decide +kernel
theorem dX2_copyFrom_2 : decode cX2_copyFrom 2 = .ok (.iload_n 2, 1) := by decide +kernel
theorem dX2_copyFrom_3 : decode cX2_copyFrom 3 = .ok (.aload_n 0, 1) := by decide +kernel
theorem dX2_copyFrom_4 : decode cX2_copyFrom 4 = .ok (.getfield 9, 3) := by decide +kernel
theorem dX2_copyFrom_7 : decode cX2_copyFrom 7 = .ok (.arraylength, 1) := by decide +kernel
theorem dX2_copyFrom_8 : decode cX2_copyFrom 8 = .ok (.if_icmp .ge 30, 3) := by decide +kernel
theorem dX2_copyFrom_11 : decode cX2_copyFrom 11 = .ok (.iload_n 2, 1) := by decide +kernel
theorem dX2_copyFrom_12 : decode cX2_copyFrom 12 = .ok (.aload_n 1, 1) := by decide +kernel
theorem dX2_copyFrom_13 : decode cX2_copyFrom 13 = .ok (.getfield 9, 3) := by decide +kernel
theorem dX2_copyFrom_16 : decode cX2_copyFrom 16 = .ok (.arraylength, 1) := by decide +kernel
theorem dX2_copyFrom_17 : decode cX2_copyFrom 17 = .ok (.if_icmp .ge 21, 3) := by decide +kernel
theorem dX2_copyFrom_20 : decode cX2_copyFrom 20 = .ok (.aload_n 0, 1) := by decide +kernel
theorem dX2_copyFrom_21 : decode cX2_copyFrom 21 = .ok (.getfield 9, 3) := by decide +kernel
theorem dX2_copyFrom_24 : decode cX2_copyFrom 24 = .ok (.iload_n 2, 1) := by decide +kernel
theorem dX2_copyFrom_25 : decode cX2_copyFrom 25 = .ok (.aload_n 1, 1) := by decide +kernel
theorem dX2_copyFrom_26 : decode cX2_copyFrom 26 = .ok (.getfield 9, 3) := by decide +kernel
theorem dX2_copyFrom_29 : decode cX2_copyFrom 29 = .ok (.iload_n 2, 1) := by decide +kernel
theorem dX2_copyFrom_30 : decode cX2_copyFrom 30 = .ok (.iaload, 1) := by decide +kernel
theorem dX2_copyFrom_31 : decode cX2_copyFrom 31 = .ok (.iastore, 1) := by decide +kernel
theorem dX2_copyFrom_32 : decode cX2_copyFrom 32 = .ok (.iinc 2 1, 3) := by decide +kernel
theorem dX2_copyFrom_35 : decode cX2_copyFrom 35 = .ok (.goto (-33), 3) := by decide +kernel
theorem dX2_copyFrom_38 : decode cX2_copyFrom 38 = .ok (.return_, 1) := by decide +kernel
set_option maxRecDepth 20000 in
theorem ggX3_init_X2_init : GoodIn wsX3_init wsX2_init := goodIn_r _ [14, 15, 2, 3, 16, 17, 18] (by decide +kernel) (by decide +kernel)
set_option maxRecDepth 20000 in
theorem gX3_init_X2_init : GoodIn wsX3_init (wsX2_init) := ggX3_init_X2_init
theorem dX3_init_0 : decode cX3_init 0 = .ok (.aload_n 0, 1) := by decide +kernel
theorem dX3_init_1 : decode cX3_init 1 = .ok (.invokespecial 3, 3) := by decide +kernel
theorem dX3_init_4 : decode cX3_init 4 = .ok (.aload_n 0, 1) := by decide +kernel
theorem dX3_init_5 : decode cX3_init 5 = .ok (.new 9, 3) := by decide +kernel
theorem dX3_init_8 : decode cX3_init 8 = .ok (.dup, 1) := by decide +kernel
theorem dX3_init_9 : decode cX3_init 9 = .ok (.invokespecial 11, 3) := by decide +kernel
theorem dX3_init_12 : decode cX3_init 12 = .ok (.putfield 12, 3) := by decide +kernel
theorem dX3_init_15 : decode cX3_init 15 = .ok (.aload_n 0, 1) := by decide +kernel
theorem dX3_init_16 : decode cX3_init 16 = .ok (.new 9, 3) := by decide +kernel
theorem dX3_init_19 : decode cX3_init 19 = .ok (.dup, 1) := by decide +kernel
theorem dX3_init_20 : decode cX3_init 20 = .ok (.invokespecial 11, 3) := by decide +kernel
theorem dX3_init_23 : decode cX3_init 23 = .ok (.putfield 18, 3) := by decide +kernel
theorem dX3_init_26 : decode cX3_init 26 = .ok (.aload_n 0, 1) := by decide +kernel
theorem dX3_init_27 : decode cX3_init 27 = .ok (.new 9, 3) := by decide +kernel
theorem dX3_init_30 : decode cX3_init 30 = .ok (.dup, 1) := by decide +kernel
theorem dX3_init_31 : decode cX3_init 31 = .ok (.invokespecial 11, 3) := by decide +kernel
theorem dX3_init_34 : decode cX3_init 34 = .ok (.putfield 21, 3) := by decide +kernel
theorem dX3_init_37 : decode cX3_init 37 = .ok (.aload_n 0, 1) := by decide +kernel
theorem dX3_init_38 : decode cX3_init 38 = .ok (.new 9, 3) := by decide +kernel
theorem dX3_init_41 : decode cX3_init 41 = .ok (.dup, 1) := by decide +kernel
theorem dX3_init_42 : decode cX3_init 42 = .ok (.invokespecial 11, 3) := by decide +kernel
theorem dX3_init_45 : decode cX3_init 45 = .ok (.putfield 24, 3) := by decide +kernel
theorem dX3_init_48 : decode cX3_init 48 = .ok (.aload_n 0, 1) := by decide +kernel
theorem dX3_init_49 : decode cX3_init 49 = .ok (.new 9, 3) := by decide +kernel
theorem dX3_init_52 : decode cX3_init 52 = .ok (.dup, 1) := by decide +kernel
theorem dX3_init_53 : decode cX3_init 53 = .ok (.invokespecial 11, 3) := by decide +kernel
theorem dX3_init_56 : decode cX3_init 56 = .ok (.putfield 27, 3) := by decide +kernel
theorem dX3_init_59 : decode cX3_init 59 = .ok (.return_, 1) := by decide +kernel
set_option maxRecDepth 20000 in
theorem ggX3_copyFrom_X2_copyFrom : GoodIn wsX3_copyFrom wsX2_copyFrom := goodIn_r _ [11, 12, 19] (by decide +kernel) (by decide +kernel)
set_option maxRecDepth 20000 in
theorem gX3_copyFrom_X2_copyFrom : GoodIn wsX3_copyFrom (wsV RX3 34 RX2 yX2_copyFrom wsX2_copyFrom) := goodIn_app (goodIn_of _ (by decide +kernel)) ggX3_copyFrom_X2_copyFrom
theorem dX3_copyFrom_0 : decode cX3_copyFrom 0 = .ok (.aload_n 0, 1) := by decide +kernel
theorem dX3_copyFrom_1 : decode cX3_copyFrom 1 = .ok (.aload_n 1, 1) := by decide +kernel
theorem dX3_copyFrom_2 : decode cX3_copyFrom 2 = .ok (.getfield 30, 3) := by decide +kernel
theorem dX3_copyFrom_5 : decode cX3_copyFrom 5 = .ok (.putfield 30, 3) := by decide +kernel
theorem dX3_copyFrom_8 : decode cX3_copyFrom 8 = .ok (.aload_n 0, 1) := by decide +kernel
theorem dX3_copyFrom_9 : decode cX3_copyFrom 9 = .ok (.getfield 12, 3) := by decide +kernel
theorem dX3_copyFrom_12 : decode cX3_copyFrom 12 = .ok (.aload_n 1, 1) := by decide +kernel
theorem dX3_copyFrom_13 : decode cX3_copyFrom 13 = .ok (.getfield 12, 3) := by decide +kernel
theorem dX3_copyFrom_16 : decode cX3_copyFrom 16 = .ok (.invokevirtual 34, 3) := by decide +kernel
theorem dX3_copyFrom_19 : decode cX3_copyFrom 19 = .ok (.aload_n 0, 1) := by decide +kernel
theorem dX3_copyFrom_20 : decode cX3_copyFrom 20 = .ok (.getfield 18, 3) := by decide +kernel
theorem dX3_copyFrom_23 : decode cX3_copyFrom 23 = .ok (.aload_n 1, 1) := by decide +kernel
theorem dX3_copyFrom_24 : decode cX3_copyFrom 24 = .ok (.getfield 18, 3) := by decide +kernel
theorem dX3_copyFrom_27 : decode cX3_copyFrom 27 = .ok (.invokevirtual 34, 3) := by decide +kernel
theorem dX3_copyFrom_30 : decode cX3_copyFrom 30 = .ok (.aload_n 0, 1) := by decide +kernel
theorem dX3_copyFrom_31 : decode cX3_copyFrom 31 = .ok (.getfield 21, 3) := by decide +kernel
theorem dX3_copyFrom_34 : decode cX3_copyFrom 34 = .ok (.aload_n 1, 1) := by decide +kernel
theorem dX3_copyFrom_35 : decode cX3_copyFrom 35 = .ok (.getfield 21, 3) := by decide +kernel
theorem dX3_copyFrom_38 : decode cX3_copyFrom 38 = .ok (.invokevirtual 34, 3) := by decide +kernel
theorem dX3_copyFrom_41 : decode cX3_copyFrom 41 = .ok (.aload_n 0, 1) := by decide +kernel
theorem dX3_copyFrom_42 : decode cX3_copyFrom 42 = .ok (.getfield 24, 3) := by decide +kernel
theorem dX3_copyFrom_45 : decode cX3_copyFrom 45 = .ok (.aload_n 1, 1) := by decide +kernel
theorem dX3_copyFrom_46 : decode cX3_copyFrom 46 = .ok (.getfield 24, 3) := by decide +kernel
theorem dX3_copyFrom_49 : decode cX3_copyFrom 49 = .ok (.invokevirtual 34, 3) := by decide +kernel
theorem dX3_copyFrom_52 : decode cX3_copyFrom 52 = .ok (.aload_n 0, 1) := by decide +kernel
theorem dX3_copyFrom_53 : decode cX3_copyFrom 53 = .ok (.getfield 27, 3) := by decide +kernel
theorem dX3_copyFrom_56 : decode cX3_copyFrom 56 = .ok (.aload_n 1, 1) := by decide +kernel
theorem dX3_copyFrom_57 : decode cX3_copyFrom 57 = .ok (.getfield 27, 3) := by decide +kernel
theorem dX3_copyFrom_60 : decode cX3_copyFrom 60 = .ok (.invokevirtual 34, 3) := by decide +kernel
theorem dX3_copyFrom_63 : decode cX3_copyFrom 63 = .ok (.return_, 1) := by decide +kernel
set_option maxRecDepth 20000 in
theorem ggX3_hire_X2_set : GoodIn wsX3_hire wsX2_set := goodIn_r _ [8, 9, 24] (by decide +kernel) (by decide +kernel)
set_option maxRecDepth 20000 in
theorem gX3_hire_X2_set : GoodIn wsX3_hire (wsV RX3 38 RX2 yX2_set wsX2_set) := goodIn_app (goodIn_of _ (by decide +kernel)) ggX3_hire_X2_set
set_option maxRecDepth 20000 in
theorem ggX3_hire_X3_rest : GoodIn wsX3_hire wsX3_rest := goodIn_r _ [14, 15, 16, 17, 4, 5, 6, 7, 8, 9, 18, 19, 20, 21, 22, 23, 24] (by decide +kernel) (by decide +kernel)
set_option maxRecDepth 20000 in
theorem gX3_hire_X3_rest : GoodIn wsX3_hire (wsV RX3 42 RX3 yX3_rest wsX3_rest) := goodIn_app (goodIn_of _ (by decide +kernel)) ggX3_hire_X3_rest
theorem dX3_hire_0 : decode cX3_hire 0 = .ok (.aload_n 0, 1) := by decide +kernel
theorem dX3_hire_1 : decode cX3_hire 1 = .ok (.getfield 30, 3) := by decide +kernel
theorem dX3_hire_4 : decode cX3_hire 4 = .ok (.istore_n 2, 1) := by decide +kernel
theorem dX3_hire_5 : decode cX3_hire 5 = .ok (.aload_n 0, 1) := by decide +kernel
theorem dX3_hire_6 : decode cX3_hire 6 = .ok (.dup, 1) := by decide +kernel
theorem dX3_hire_7 : decode cX3_hire 7 = .ok (.getfield 30, 3) := by decide +kernel
theorem dX3_hire_10 : decode cX3_hire 10 = .ok (.iconst 1, 1) := by decide +kernel
theorem dX3_hire_11 : decode cX3_hire 11 = .ok (.iadd, 1) := by decide +kernel
theorem dX3_hire_12 : decode cX3_hire 12 = .ok (.putfield 30, 3) := by decide +kernel
theorem dX3_hire_15 : decode cX3_hire 15 = .ok (.aload_n 0, 1) := by decide +kernel
theorem dX3_hire_16 : decode cX3_hire 16 = .ok (.getfield 12, 3) := by decide +kernel
theorem dX3_hire_19 : decode cX3_hire 19 = .ok (.iload_n 2, 1) := by decide +kernel
theorem dX3_hire_20 : decode cX3_hire 20 = .ok (.iload_n 1, 1) := by decide +kernel
theorem dX3_hire_21 : decode cX3_hire 21 = .ok (.invokevirtual 38, 3) := by decide +kernel
theorem dX3_hire_24 : decode cX3_hire 24 = .ok (.aload_n 0, 1) := by decide +kernel
theorem dX3_hire_25 : decode cX3_hire 25 = .ok (.getfield 18, 3) := by decide +kernel
theorem dX3_hire_28 : decode cX3_hire 28 = .ok (.iload_n 2, 1) := by decide +kernel
theorem dX3_hire_29 : decode cX3_hire 29 = .ok (.iconst 0, 1) := by decide +kernel
theorem dX3_hire_30 : decode cX3_hire 30 = .ok (.invokevirtual 38, 3) := by decide +kernel
theorem dX3_hire_33 : decode cX3_hire 33 = .ok (.aload_n 0, 1) := by decide +kernel
theorem dX3_hire_34 : decode cX3_hire 34 = .ok (.iload_n 2, 1) := by decide +kernel
theorem dX3_hire_35 : decode cX3_hire 35 = .ok (.invokevirtual 42, 3) := by decide +kernel
theorem dX3_hire_38 : decode cX3_hire 38 = .ok (.iload_n 2, 1) := by decide +kernel
theorem dX3_hire_39 : decode cX3_hire 39 = .ok (.ireturn, 1) := by decide +kernel
set_option maxRecDepth 20000 in
theorem ggX3_rest_X2_set : GoodIn wsX3_rest wsX2_set := goodIn_r _ [8, 9, 16] (by decide +kernel) (by decide +kernel)
set_option maxRecDepth 20000 in
theorem gX3_rest_X2_set : GoodIn wsX3_rest (wsV RX3 38 RX2 yX2_set wsX2_set) := goodIn_app (goodIn_of _ (by decide +kernel)) ggX3_rest_X2_set
theorem dX3_rest_0 : decode cX3_rest 0 = .ok (.aload_n 0, 1) := by decide +kernel
theorem dX3_rest_1 : decode cX3_rest 1 = .ok (.getfield 21, 3) := by decide +kernel
theorem dX3_rest_4 : decode cX3_rest 4 = .ok (.iload_n 1, 1) := by decide +kernel
theorem dX3_rest_5 : decode cX3_rest 5 = .ok (.iconst (-1), 1) := by decide +kernel
theorem dX3_rest_6 : decode cX3_rest 6 = .ok (.invokevirtual 38, 3) := by decide +kernel
theorem dX3_rest_9 : decode cX3_rest 9 = .ok (.aload_n 0, 1) := by decide +kernel
theorem dX3_rest_10 : decode cX3_rest 10 = .ok (.getfield 24, 3) := by decide +kernel
theorem dX3_rest_13 : decode cX3_rest 13 = .ok (.iload_n 1, 1) := by decide +kernel
theorem dX3_rest_14 : decode cX3_rest 14 = .ok (.iconst (-1), 1) := by decide +kernel
theorem dX3_rest_15 : decode cX3_rest 15 = .ok (.invokevirtual 38, 3) := by decide +kernel
theorem dX3_rest_18 : decode cX3_rest 18 = .ok (.aload_n 0, 1) := by decide +kernel
theorem dX3_rest_19 : decode cX3_rest 19 = .ok (.getfield 27, 3) := by decide +kernel
theorem dX3_rest_22 : decode cX3_rest 22 = .ok (.iload_n 1, 1) := by decide +kernel
theorem dX3_rest_23 : decode cX3_rest 23 = .ok (.iconst 0, 1) := by decide +kernel
theorem dX3_rest_24 : decode cX3_rest 24 = .ok (.invokevirtual 38, 3) := by decide +kernel
theorem dX3_rest_27 : decode cX3_rest 27 = .ok (.return_, 1) := by decide +kernel
set_option maxRecDepth 20000 in
theorem ggX3_isIdle_X2_get : GoodIn wsX3_isIdle wsX2_get := goodIn_r _ [7, 8, 15] (by decide +kernel) (by decide +kernel)
set_option maxRecDepth 20000 in
theorem gX3_isIdle_X2_get : GoodIn wsX3_isIdle (wsV RX3 46 RX2 yX2_get wsX2_get) := goodIn_app (goodIn_of _ (by decide +kernel)) ggX3_isIdle_X2_get
theorem dX3_isIdle_0 : decode cX3_isIdle 0 = .ok (.aload_n 0, 1) := by decide +kernel
theorem dX3_isIdle_1 : decode cX3_isIdle 1 = .ok (.getfield 21, 3) := by decide +kernel
theorem dX3_isIdle_4 : decode cX3_isIdle 4 = .ok (.iload_n 1, 1) := by decide +kernel
theorem dX3_isIdle_5 : decode cX3_isIdle 5 = .ok (.invokevirtual 46, 3) := by decide +kernel
theorem dX3_isIdle_8 : decode cX3_isIdle 8 = .ok (.iconst (-1), 1) := by decide +kernel
theorem dX3_isIdle_9 : decode cX3_isIdle 9 = .ok (.if_icmp .ne 19, 3) := by decide +kernel
theorem dX3_isIdle_12 : decode cX3_isIdle 12 = .ok (.aload_n 0, 1) := by decide +kernel
theorem dX3_isIdle_13 : decode cX3_isIdle 13 = .ok (.getfield 24, 3) := by decide +kernel
theorem dX3_isIdle_16 : decode cX3_isIdle 16 = .ok (.iload_n 1, 1) := by decide +kernel
theorem dX3_isIdle_17 : decode cX3_isIdle 17 = .ok (.invokevirtual 46, 3) := by decide +kernel
theorem dX3_isIdle_20 : decode cX3_isIdle 20 = .ok (.iconst (-1), 1) := by decide +kernel
theorem dX3_isIdle_21 : decode cX3_isIdle 21 = .ok (.if_icmp .ne 7, 3) := by decide +kernel
theorem dX3_isIdle_24 : decode cX3_isIdle 24 = .ok (.iconst 1, 1) := by decide +kernel
theorem dX3_isIdle_25 : decode cX3_isIdle 25 = .ok (.goto 4, 3) := by decide +kernel
theorem dX3_isIdle_28 : decode cX3_isIdle 28 = .ok (.iconst 0, 1) := by decide +kernel
theorem dX3_isIdle_29 : decode cX3_isIdle 29 = .ok (.ireturn, 1) := by decide +kernel
set_option maxRecDepth 20000 in
theorem ggX3_isServing_X2_get : GoodIn wsX3_isServing wsX2_get := goodIn_r _ [7, 8, 15] (by decide +kernel) (by decide +kernel)
set_option maxRecDepth 20000 in
theorem gX3_isServing_X2_get : GoodIn wsX3_isServing (wsV RX3 46 RX2 yX2_get wsX2_get) := goodIn_app (goodIn_of _ (by decide +kernel)) ggX3_isServing_X2_get
theorem dX3_isServing_0 : decode cX3_isServing 0 = .ok (.iconst 0, 1) := by decide +kernel
theorem dX3_isServing_1 : decode cX3_isServing 1 = .ok (.istore_n 2, 1) := by decide +kernel
theorem dX3_isServing_2 : decode cX3_isServing 2 = .ok (.iload_n 2, 1) := by decide +kernel
theorem dX3_isServing_3 : decode cX3_isServing 3 = .ok (.aload_n 0, 1) := by decide +kernel
theorem dX3_isServing_4 : decode cX3_isServing 4 = .ok (.getfield 30, 3) := by decide +kernel
theorem dX3_isServing_7 : decode cX3_isServing 7 = .ok (.if_icmp .ge 23, 3) := by decide +kernel
theorem dX3_isServing_10 : decode cX3_isServing 10 = .ok (.aload_n 0, 1) := by decide +kernel
theorem dX3_isServing_11 : decode cX3_isServing 11 = .ok (.getfield 24, 3) := by decide +kernel
theorem dX3_isServing_14 : decode cX3_isServing 14 = .ok (.iload_n 2, 1) := by decide +kernel
theorem dX3_isServing_15 : decode cX3_isServing 15 = .ok (.invokevirtual 46, 3) := by decide +kernel
theorem dX3_isServing_18 : decode cX3_isServing 18 = .ok (.iload_n 1, 1) := by decide +kernel
theorem dX3_isServing_19 : decode cX3_isServing 19 = .ok (.if_icmp .ne 5, 3) := by decide +kernel
theorem dX3_isServing_22 : decode cX3_isServing 22 = .ok (.iconst 1, 1) := by decide +kernel
theorem dX3_isServing_23 : decode cX3_isServing 23 = .ok (.ireturn, 1) := by decide +kernel
theorem dX3_isServing_24 : decode cX3_isServing 24 = .ok (.iinc 2 1, 3) := by decide +kernel
theorem dX3_isServing_27 : decode cX3_isServing 27 = .ok (.goto (-25), 3) := by decide +kernel
theorem dX3_isServing_30 : decode cX3_isServing 30 = .ok (.iconst 0, 1) := by decide +kernel
theorem dX3_isServing_31 : decode cX3_isServing 31 = .ok (.ireturn, 1) := by decide +kernel
set_option maxRecDepth 20000 in
theorem ggX3_wayToFloor_X2_get : GoodIn wsX3_wayToFloor wsX2_get := goodIn_r _ [7, 8, 19] (by decide +kernel) (by decide +kernel)
set_option maxRecDepth 20000 in
theorem gX3_wayToFloor_X2_get : GoodIn wsX3_wayToFloor (wsV RX3 46 RX2 yX2_get wsX2_get) := goodIn_app (goodIn_of _ (by decide +kernel)) ggX3_wayToFloor_X2_get
set_option maxRecDepth 20000 in
theorem ggX3_wayToFloor_X3_minutesOfWay : GoodIn wsX3_wayToFloor wsX3_minutesOfWay := goodIn_r _ [12] (by decide +kernel) (by decide +kernel)
set_option maxRecDepth 20000 in
theorem gX3_wayToFloor_X3_minutesOfWay : GoodIn wsX3_wayToFloor (va_wsS RX3 50 yX3_minutesOfWay wsX3_minutesOfWay) := goodIn_app (goodIn_of _ (by decide +kernel)) ggX3_wayToFloor_X3_minutesOfWay
theorem dX3_wayToFloor_0 : decode cX3_wayToFloor 0 = .ok (.aload_n 0, 1) := by decide +kernel
theorem dX3_wayToFloor_1 : decode cX3_wayToFloor 1 = .ok (.getfield 18, 3) := by decide +kernel
theorem dX3_wayToFloor_4 : decode cX3_wayToFloor 4 = .ok (.iload_n 1, 1) := by decide +kernel
theorem dX3_wayToFloor_5 : decode cX3_wayToFloor 5 = .ok (.invokevirtual 46, 3) := by decide +kernel
theorem dX3_wayToFloor_8 : decode cX3_wayToFloor 8 = .ok (.iload_n 2, 1) := by decide +kernel
theorem dX3_wayToFloor_9 : decode cX3_wayToFloor 9 = .ok (.aload_n 0, 1) := by decide +kernel
theorem dX3_wayToFloor_10 : decode cX3_wayToFloor 10 = .ok (.getfield 12, 3) := by decide +kernel
theorem dX3_wayToFloor_13 : decode cX3_wayToFloor 13 = .ok (.iload_n 1, 1) := by decide +kernel
theorem dX3_wayToFloor_14 : decode cX3_wayToFloor 14 = .ok (.invokevirtual 46, 3) := by decide +kernel
theorem dX3_wayToFloor_17 : decode cX3_wayToFloor 17 = .ok (.invokestatic 50, 3) := by decide +kernel
theorem dX3_wayToFloor_20 : decode cX3_wayToFloor 20 = .ok (.ireturn, 1) := by decide +kernel
set_option maxRecDepth 20000 in
theorem ggX3_nearestTo_X2_get : GoodIn wsX3_nearestTo wsX2_get := goodIn_r _ [10, 11, 22] (by decide +kernel) (by decide +kernel)
set_option maxRecDepth 20000 in
theorem gX3_nearestTo_X2_get : GoodIn wsX3_nearestTo (wsV RX3 46 RX2 yX2_get wsX2_get) := goodIn_app (goodIn_of _ (by decide +kernel)) ggX3_nearestTo_X2_get
set_option maxRecDepth 20000 in
theorem ggX3_nearestTo_X3_minutesOfWay : GoodIn wsX3_nearestTo wsX3_minutesOfWay := goodIn_r _ [15] (by decide +kernel) (by decide +kernel)
set_option maxRecDepth 20000 in
theorem gX3_nearestTo_X3_minutesOfWay : GoodIn wsX3_nearestTo (va_wsS RX3 50 yX3_minutesOfWay wsX3_minutesOfWay) := goodIn_app (goodIn_of _ (by decide +kernel)) ggX3_nearestTo_X3_minutesOfWay
theorem dX3_nearestTo_0 : decode cX3_nearestTo 0 = .ok (.iconst (-1), 1) := by decide +kernel
theorem dX3_nearestTo_1 : decode cX3_nearestTo 1 = .ok (.istore_n 2, 1) := by decide +kernel
theorem dX3_nearestTo_2 : decode cX3_nearestTo 2 = .ok (.iconst 0, 1) := by decide +kernel
theorem dX3_nearestTo_3 : decode cX3_nearestTo 3 = .ok (.istore_n 3, 1) := by decide +kernel
theorem dX3_nearestTo_4 : decode cX3_nearestTo 4 = .ok (.iconst 0, 1) := by decide +kernel
theorem dX3_nearestTo_5 : decode cX3_nearestTo 5 = .ok (.istore 4, 2) := by decide +kernel
theorem dX3_nearestTo_7 : decode cX3_nearestTo 7 = .ok (.iload 4, 2) := by decide +kernel
theorem dX3_nearestTo_9 : decode cX3_nearestTo 9 = .ok (.aload_n 0, 1) := by decide +kernel
theorem dX3_nearestTo_10 : decode cX3_nearestTo 10 = .ok (.getfield 30, 3) := by decide +kernel
theorem dX3_nearestTo_13 : decode cX3_nearestTo 13 = .ok (.if_icmp .ge 79, 3) := by decide +kernel
theorem dX3_nearestTo_16 : decode cX3_nearestTo 16 = .ok (.aload_n 0, 1) := by decide +kernel
theorem dX3_nearestTo_17 : decode cX3_nearestTo 17 = .ok (.getfield 21, 3) := by decide +kernel
theorem dX3_nearestTo_20 : decode cX3_nearestTo 20 = .ok (.iload 4, 2) := by decide +kernel
theorem dX3_nearestTo_22 : decode cX3_nearestTo 22 = .ok (.invokevirtual 46, 3) := by decide +kernel
theorem dX3_nearestTo_25 : decode cX3_nearestTo 25 = .ok (.iconst (-1), 1) := by decide +kernel
theorem dX3_nearestTo_26 : decode cX3_nearestTo 26 = .ok (.if_icmp .ne 60, 3) := by decide +kernel
theorem dX3_nearestTo_29 : decode cX3_nearestTo 29 = .ok (.aload_n 0, 1) := by decide +kernel
theorem dX3_nearestTo_30 : decode cX3_nearestTo 30 = .ok (.getfield 24, 3) := by decide +kernel
theorem dX3_nearestTo_33 : decode cX3_nearestTo 33 = .ok (.iload 4, 2) := by decide +kernel
theorem dX3_nearestTo_35 : decode cX3_nearestTo 35 = .ok (.invokevirtual 46, 3) := by decide +kernel
theorem dX3_nearestTo_38 : decode cX3_nearestTo 38 = .ok (.iconst (-1), 1) := by decide +kernel
theorem dX3_nearestTo_39 : decode cX3_nearestTo 39 = .ok (.if_icmp .eq 6, 3) := by decide +kernel
theorem dX3_nearestTo_42 : decode cX3_nearestTo 42 = .ok (.goto 44, 3) := by decide +kernel
theorem dX3_nearestTo_45 : decode cX3_nearestTo 45 = .ok (.aload_n 0, 1) := by decide +kernel
theorem dX3_nearestTo_46 : decode cX3_nearestTo 46 = .ok (.getfield 18, 3) := by decide +kernel
theorem dX3_nearestTo_49 : decode cX3_nearestTo 49 = .ok (.iload 4, 2) := by decide +kernel
theorem dX3_nearestTo_51 : decode cX3_nearestTo 51 = .ok (.invokevirtual 46, 3) := by decide +kernel
theorem dX3_nearestTo_54 : decode cX3_nearestTo 54 = .ok (.iload_n 1, 1) := by decide +kernel
theorem dX3_nearestTo_55 : decode cX3_nearestTo 55 = .ok (.aload_n 0, 1) := by decide +kernel
theorem dX3_nearestTo_56 : decode cX3_nearestTo 56 = .ok (.getfield 12, 3) := by decide +kernel
theorem dX3_nearestTo_59 : decode cX3_nearestTo 59 = .ok (.iload 4, 2) := by decide +kernel
theorem dX3_nearestTo_61 : decode cX3_nearestTo 61 = .ok (.invokevirtual 46, 3) := by decide +kernel
theorem dX3_nearestTo_64 : decode cX3_nearestTo 64 = .ok (.invokestatic 50, 3) := by decide +kernel
theorem dX3_nearestTo_67 : decode cX3_nearestTo 67 = .ok (.istore 5, 2) := by decide +kernel
theorem dX3_nearestTo_69 : decode cX3_nearestTo 69 = .ok (.iload_n 2, 1) := by decide +kernel
theorem dX3_nearestTo_70 : decode cX3_nearestTo 70 = .ok (.iconst (-1), 1) := by decide +kernel
theorem dX3_nearestTo_71 : decode cX3_nearestTo 71 = .ok (.if_icmp .eq 9, 3) := by decide +kernel
theorem dX3_nearestTo_74 : decode cX3_nearestTo 74 = .ok (.iload 5, 2) := by decide +kernel
theorem dX3_nearestTo_76 : decode cX3_nearestTo 76 = .ok (.iload_n 3, 1) := by decide +kernel
theorem dX3_nearestTo_77 : decode cX3_nearestTo 77 = .ok (.if_icmp .ge 9, 3) := by decide +kernel
theorem dX3_nearestTo_80 : decode cX3_nearestTo 80 = .ok (.iload 4, 2) := by decide +kernel
theorem dX3_nearestTo_82 : decode cX3_nearestTo 82 = .ok (.istore_n 2, 1) := by decide +kernel
theorem dX3_nearestTo_83 : decode cX3_nearestTo 83 = .ok (.iload 5, 2) := by decide +kernel
theorem dX3_nearestTo_85 : decode cX3_nearestTo 85 = .ok (.istore_n 3, 1) := by decide +kernel
theorem dX3_nearestTo_86 : decode cX3_nearestTo 86 = .ok (.iinc 4 1, 3) := by decide +kernel
theorem dX3_nearestTo_89 : decode cX3_nearestTo 89 = .ok (.goto (-82), 3) := by decide +kernel
theorem dX3_nearestTo_92 : decode cX3_nearestTo 92 = .ok (.iload_n 2, 1) := by decide +kernel
theorem dX3_nearestTo_93 : decode cX3_nearestTo 93 = .ok (.ireturn, 1) := by decide +kernel
theorem dX3_minutesOfWay_0 : decode cX3_minutesOfWay 0 = .ok (.iload_n 0, 1) := by decide +kernel
theorem dX3_minutesOfWay_1 : decode cX3_minutesOfWay 1 = .ok (.iload_n 1, 1) := by decide +kernel
theorem dX3_minutesOfWay_2 : decode cX3_minutesOfWay 2 = .ok (.if_icmp .ge 9, 3) := by decide +kernel
theorem dX3_minutesOfWay_5 : decode cX3_minutesOfWay 5 = .ok (.iload_n 1, 1) := by decide +kernel
theorem dX3_minutesOfWay_6 : decode cX3_minutesOfWay 6 = .ok (.iload_n 0, 1) := by decide +kernel
theorem dX3_minutesOfWay_7 : decode cX3_minutesOfWay 7 = .ok (.isub, 1) := by decide +kernel
theorem dX3_minutesOfWay_8 : decode cX3_minutesOfWay 8 = .ok (.goto 6, 3) := by decide +kernel
theorem dX3_minutesOfWay_11 : decode cX3_minutesOfWay 11 = .ok (.iload_n 0, 1) := by decide +kernel
theorem dX3_minutesOfWay_12 : decode cX3_minutesOfWay 12 = .ok (.iload_n 1, 1) := by decide +kernel
theorem dX3_minutesOfWay_13 : decode cX3_minutesOfWay 13 = .ok (.isub, 1) := by decide +kernel
theorem dX3_minutesOfWay_14 : decode cX3_minutesOfWay 14 = .ok (.istore_n 3, 1) := by decide +kernel
theorem dX3_minutesOfWay_15 : decode cX3_minutesOfWay 15 = .ok (.iload_n 2, 1) := by decide +kernel
theorem dX3_minutesOfWay_16 : decode cX3_minutesOfWay 16 = .ok (.iconst 1, 1) := by decide +kernel
theorem dX3_minutesOfWay_17 : decode cX3_minutesOfWay 17 = .ok (.if_icmp .ge 7, 3) := by decide +kernel
theorem dX3_minutesOfWay_20 : decode cX3_minutesOfWay 20 = .ok (.iconst 1, 1) := by decide +kernel
theorem dX3_minutesOfWay_21 : decode cX3_minutesOfWay 21 = .ok (.goto 10, 3) := by decide +kernel
theorem dX3_minutesOfWay_24 : decode cX3_minutesOfWay 24 = .ok (.iload_n 3, 1) := by decide +kernel
theorem dX3_minutesOfWay_25 : decode cX3_minutesOfWay 25 = .ok (.iload_n 2, 1) := by decide +kernel
theorem dX3_minutesOfWay_26 : decode cX3_minutesOfWay 26 = .ok (.iadd, 1) := by decide +kernel
theorem dX3_minutesOfWay_27 : decode cX3_minutesOfWay 27 = .ok (.iconst 1, 1) := by decide +kernel
theorem dX3_minutesOfWay_28 : decode cX3_minutesOfWay 28 = .ok (.isub, 1) := by decide +kernel
theorem dX3_minutesOfWay_29 : decode cX3_minutesOfWay 29 = .ok (.iload_n 2, 1) := by decide +kernel
theorem dX3_minutesOfWay_30 : decode cX3_minutesOfWay 30 = .ok (.idiv, 1) := by decide +kernel
theorem dX3_minutesOfWay_31 : decode cX3_minutesOfWay 31 = .ok (.istore 4, 2) := by decide +kernel
theorem dX3_minutesOfWay_33 : decode cX3_minutesOfWay 33 = .ok (.iload 4, 2) := by decide +kernel
theorem dX3_minutesOfWay_35 : decode cX3_minutesOfWay 35 = .ok (.iconst 1, 1) := by decide +kernel
theorem dX3_minutesOfWay_36 : decode cX3_minutesOfWay 36 = .ok (.if_icmp .ge 7, 3) := by decide +kernel
theorem dX3_minutesOfWay_39 : decode cX3_minutesOfWay 39 = .ok (.iconst 1, 1) := by decide +kernel
theorem dX3_minutesOfWay_40 : decode cX3_minutesOfWay 40 = .ok (.goto 5, 3) := by decide +kernel
theorem dX3_minutesOfWay_43 : decode cX3_minutesOfWay 43 = .ok (.iload 4, 2) := by decide +kernel
theorem dX3_minutesOfWay_45 : decode cX3_minutesOfWay 45 = .ok (.ireturn, 1) := by decide +kernel
end
section
-- ===== the state of the system in words of my own; contracts; call rows =====
-- a line: how many, the drops; a staff: how many, rows pace floor goal guest left; a house: scalars minute roomCount charge served inVain gaveUp unheard, rows floor patience need wire cut waited, line, staff; the model: thrown rooms servants, rows floor patience need drop isCut pace now kept
abbrev z_L : Type := Int32 × (Nat → Int32)
abbrev z_G : Type := Int32 × (Nat → Nat → Int32)
abbrev z_H : Type := (Nat → Int32) × (Nat → Nat → Int32) × z_L × z_G
abbrev z_B : Type := z_H × z_H
abbrev z_M : Type := (Nat → Int32) × (Nat → Nat → Int32)
def z_ur (f : Nat → Nat → Int32) (k : Nat) (g : Nat → Int32) : Nat → Nat → Int32 := fun j => if j = k then g else f j
def z_gR (G : z_G) (k : Nat) (g : Nat → Int32) : z_G := (G.1, z_ur G.2 k g)
def z_gC (G : z_G) (v : Int32) : z_G := (v, G.2)
def z_lC (L : z_L) (v : Int32) : z_L := (v, L.2)
def z_lD (L : z_L) (g : Nat → Int32) : z_L := (L.1, g)
def z_hS (h : z_H) (k : Nat) (v : Int32) : z_H := (upd h.1 k v, h.2)
def z_hR (h : z_H) (k : Nat) (g : Nat → Int32) : z_H := (h.1, z_ur h.2.1 k g, h.2.2)
def z_hL (h : z_H) (L : z_L) : z_H := (h.1, h.2.1, L, h.2.2.2)
def z_hG (h : z_H) (G : z_G) : z_H := (h.1, h.2.1, h.2.2.1, G)
def z_mS (M : z_M) (k : Nat) (v : Int32) : z_M := (upd M.1 k v, M.2)
def z_mR (M : z_M) (k : Nat) (g : Nat → Int32) : z_M := (M.1, z_ur M.2 k g)
-- where things are: the classes, the array classes
abbrev z_X : Type := va_G × ClassId × ClassId × ClassId
def z_ty (X : z_X) : List (ClassId × FieldType) := [(X.2.1, .int), (X.2.2.1, .boolean), (X.2.2.2, .long)]
abbrev z_nl : List (String × Nat × String × String × String) := [("HouseBells", 125, "HouseBells$Line", "count", "I"), ("HouseBells$House", 136, "HouseBells$Line", "count", "I"), ("HouseBells", 49, "HouseBells$Staff", "count", "I"), ("HouseBells$House", 114, "HouseBells$Staff", "count", "I"), ("HouseBells$House", 132, "HouseBells$Staff", "floor", "LHouseBells$Row;"), ("HouseBells", 166, "HouseBells$Staff", "floor", "LHouseBells$Row;"), ("HouseBells$House", 123, "HouseBells$Staff", "goal", "LHouseBells$Row;"), ("HouseBells", 167, "HouseBells$Staff", "goal", "LHouseBells$Row;"), ("HouseBells$House", 133, "HouseBells$Staff", "guest", "LHouseBells$Row;"), ("HouseBells", 170, "HouseBells$Staff", "guest", "LHouseBells$Row;"), ("HouseBells$House", 120, "HouseBells$Staff", "left", "LHouseBells$Row;"), ("HouseBells", 173, "HouseBells$Staff", "left", "LHouseBells$Row;"), ("HouseBells", 132, "HouseBells$House", "minute", "I"), ("HouseBells", 30, "HouseBells$House", "roomCount", "I"), ("HouseBells", 108, "HouseBells$House", "charge", "I"), ("HouseBells", 135, "HouseBells$House", "served", "I"), ("HouseBells", 138, "HouseBells$House", "inVain", "I"), ("HouseBells", 141, "HouseBells$House", "gaveUp", "I"), ("HouseBells", 144, "HouseBells$House", "unheard", "I"), ("HouseBells", 153, "HouseBells$House", "floor", "LHouseBells$Row;"), ("HouseBells", 86, "HouseBells$House", "wire", "LHouseBells$Row;"), ("HouseBells", 97, "HouseBells$House", "cut", "LHouseBells$Row;"), ("HouseBells", 71, "HouseBells$House", "waited", "LHouseBells$Row;"), ("HouseBells", 111, "HouseBells$House", "line", "LHouseBells$Line;"), ("HouseBells", 45, "HouseBells$House", "staff", "LHouseBells$Staff;")]
def z_N (U : State) : Prop := ∀ q ∈ z_nl, va_Nw (.fieldLinkNest q.1 q.2.1 q.2.2.1 q.2.2.2.1 q.2.2.2.2 "HouseBells") U
theorem z_N.warm {s U : State} (hW : s.WarmedH U.vm) (h : z_N s) : z_N U := fun q hq => va_Nw.warmF hW (h q hq)
theorem z_N.same {u U : State} (e : u.vm = U.vm) (h : z_N u) : z_N U := fun q hq => va_Nw.same rfl e (h q hq)
theorem z_n0 {s : State} {args : Array Value} (h : z_N s) : (Cond.fieldLinkNest "HouseBells" 125 "HouseBells$Line" "count" "I" "HouseBells").before args s = true := va_Nw.use rfl (h ("HouseBells", 125, "HouseBells$Line", "count", "I") (List.mem_of_getElem? (i := 0) rfl))
theorem z_n1 {s : State} {args : Array Value} (h : z_N s) : (Cond.fieldLinkNest "HouseBells$House" 136 "HouseBells$Line" "count" "I" "HouseBells").before args s = true := va_Nw.use rfl (h ("HouseBells$House", 136, "HouseBells$Line", "count", "I") (List.mem_of_getElem? (i := 1) rfl))
theorem z_n2 {s : State} {args : Array Value} (h : z_N s) : (Cond.fieldLinkNest "HouseBells" 49 "HouseBells$Staff" "count" "I" "HouseBells").before args s = true := va_Nw.use rfl (h ("HouseBells", 49, "HouseBells$Staff", "count", "I") (List.mem_of_getElem? (i := 2) rfl))
theorem z_n3 {s : State} {args : Array Value} (h : z_N s) : (Cond.fieldLinkNest "HouseBells$House" 114 "HouseBells$Staff" "count" "I" "HouseBells").before args s = true := va_Nw.use rfl (h ("HouseBells$House", 114, "HouseBells$Staff", "count", "I") (List.mem_of_getElem? (i := 3) rfl))
theorem z_n4 {s : State} {args : Array Value} (h : z_N s) : (Cond.fieldLinkNest "HouseBells$House" 132 "HouseBells$Staff" "floor" "LHouseBells$Row;" "HouseBells").before args s = true := va_Nw.use rfl (h ("HouseBells$House", 132, "HouseBells$Staff", "floor", "LHouseBells$Row;") (List.mem_of_getElem? (i := 4) rfl))
theorem z_n5 {s : State} {args : Array Value} (h : z_N s) : (Cond.fieldLinkNest "HouseBells" 166 "HouseBells$Staff" "floor" "LHouseBells$Row;" "HouseBells").before args s = true := va_Nw.use rfl (h ("HouseBells", 166, "HouseBells$Staff", "floor", "LHouseBells$Row;") (List.mem_of_getElem? (i := 5) rfl))
theorem z_n6 {s : State} {args : Array Value} (h : z_N s) : (Cond.fieldLinkNest "HouseBells$House" 123 "HouseBells$Staff" "goal" "LHouseBells$Row;" "HouseBells").before args s = true := va_Nw.use rfl (h ("HouseBells$House", 123, "HouseBells$Staff", "goal", "LHouseBells$Row;") (List.mem_of_getElem? (i := 6) rfl))
theorem z_n7 {s : State} {args : Array Value} (h : z_N s) : (Cond.fieldLinkNest "HouseBells" 167 "HouseBells$Staff" "goal" "LHouseBells$Row;" "HouseBells").before args s = true := va_Nw.use rfl (h ("HouseBells", 167, "HouseBells$Staff", "goal", "LHouseBells$Row;") (List.mem_of_getElem? (i := 7) rfl))
theorem z_n8 {s : State} {args : Array Value} (h : z_N s) : (Cond.fieldLinkNest "HouseBells$House" 133 "HouseBells$Staff" "guest" "LHouseBells$Row;" "HouseBells").before args s = true := va_Nw.use rfl (h ("HouseBells$House", 133, "HouseBells$Staff", "guest", "LHouseBells$Row;") (List.mem_of_getElem? (i := 8) rfl))
theorem z_n9 {s : State} {args : Array Value} (h : z_N s) : (Cond.fieldLinkNest "HouseBells" 170 "HouseBells$Staff" "guest" "LHouseBells$Row;" "HouseBells").before args s = true := va_Nw.use rfl (h ("HouseBells", 170, "HouseBells$Staff", "guest", "LHouseBells$Row;") (List.mem_of_getElem? (i := 9) rfl))
theorem z_n10 {s : State} {args : Array Value} (h : z_N s) : (Cond.fieldLinkNest "HouseBells$House" 120 "HouseBells$Staff" "left" "LHouseBells$Row;" "HouseBells").before args s = true := va_Nw.use rfl (h ("HouseBells$House", 120, "HouseBells$Staff", "left", "LHouseBells$Row;") (List.mem_of_getElem? (i := 10) rfl))
theorem z_n11 {s : State} {args : Array Value} (h : z_N s) : (Cond.fieldLinkNest "HouseBells" 173 "HouseBells$Staff" "left" "LHouseBells$Row;" "HouseBells").before args s = true := va_Nw.use rfl (h ("HouseBells", 173, "HouseBells$Staff", "left", "LHouseBells$Row;") (List.mem_of_getElem? (i := 11) rfl))
theorem z_n12 {s : State} {args : Array Value} (h : z_N s) : (Cond.fieldLinkNest "HouseBells" 132 "HouseBells$House" "minute" "I" "HouseBells").before args s = true := va_Nw.use rfl (h ("HouseBells", 132, "HouseBells$House", "minute", "I") (List.mem_of_getElem? (i := 12) rfl))
theorem z_n13 {s : State} {args : Array Value} (h : z_N s) : (Cond.fieldLinkNest "HouseBells" 30 "HouseBells$House" "roomCount" "I" "HouseBells").before args s = true := va_Nw.use rfl (h ("HouseBells", 30, "HouseBells$House", "roomCount", "I") (List.mem_of_getElem? (i := 13) rfl))
theorem z_n14 {s : State} {args : Array Value} (h : z_N s) : (Cond.fieldLinkNest "HouseBells" 108 "HouseBells$House" "charge" "I" "HouseBells").before args s = true := va_Nw.use rfl (h ("HouseBells", 108, "HouseBells$House", "charge", "I") (List.mem_of_getElem? (i := 14) rfl))
theorem z_n15 {s : State} {args : Array Value} (h : z_N s) : (Cond.fieldLinkNest "HouseBells" 135 "HouseBells$House" "served" "I" "HouseBells").before args s = true := va_Nw.use rfl (h ("HouseBells", 135, "HouseBells$House", "served", "I") (List.mem_of_getElem? (i := 15) rfl))
theorem z_n16 {s : State} {args : Array Value} (h : z_N s) : (Cond.fieldLinkNest "HouseBells" 138 "HouseBells$House" "inVain" "I" "HouseBells").before args s = true := va_Nw.use rfl (h ("HouseBells", 138, "HouseBells$House", "inVain", "I") (List.mem_of_getElem? (i := 16) rfl))
theorem z_n17 {s : State} {args : Array Value} (h : z_N s) : (Cond.fieldLinkNest "HouseBells" 141 "HouseBells$House" "gaveUp" "I" "HouseBells").before args s = true := va_Nw.use rfl (h ("HouseBells", 141, "HouseBells$House", "gaveUp", "I") (List.mem_of_getElem? (i := 17) rfl))
theorem z_n18 {s : State} {args : Array Value} (h : z_N s) : (Cond.fieldLinkNest "HouseBells" 144 "HouseBells$House" "unheard" "I" "HouseBells").before args s = true := va_Nw.use rfl (h ("HouseBells", 144, "HouseBells$House", "unheard", "I") (List.mem_of_getElem? (i := 18) rfl))
theorem z_n19 {s : State} {args : Array Value} (h : z_N s) : (Cond.fieldLinkNest "HouseBells" 153 "HouseBells$House" "floor" "LHouseBells$Row;" "HouseBells").before args s = true := va_Nw.use rfl (h ("HouseBells", 153, "HouseBells$House", "floor", "LHouseBells$Row;") (List.mem_of_getElem? (i := 19) rfl))
theorem z_n20 {s : State} {args : Array Value} (h : z_N s) : (Cond.fieldLinkNest "HouseBells" 86 "HouseBells$House" "wire" "LHouseBells$Row;" "HouseBells").before args s = true := va_Nw.use rfl (h ("HouseBells", 86, "HouseBells$House", "wire", "LHouseBells$Row;") (List.mem_of_getElem? (i := 20) rfl))
theorem z_n21 {s : State} {args : Array Value} (h : z_N s) : (Cond.fieldLinkNest "HouseBells" 97 "HouseBells$House" "cut" "LHouseBells$Row;" "HouseBells").before args s = true := va_Nw.use rfl (h ("HouseBells", 97, "HouseBells$House", "cut", "LHouseBells$Row;") (List.mem_of_getElem? (i := 21) rfl))
theorem z_n22 {s : State} {args : Array Value} (h : z_N s) : (Cond.fieldLinkNest "HouseBells" 71 "HouseBells$House" "waited" "LHouseBells$Row;" "HouseBells").before args s = true := va_Nw.use rfl (h ("HouseBells", 71, "HouseBells$House", "waited", "LHouseBells$Row;") (List.mem_of_getElem? (i := 22) rfl))
theorem z_n23 {s : State} {args : Array Value} (h : z_N s) : (Cond.fieldLinkNest "HouseBells" 111 "HouseBells$House" "line" "LHouseBells$Line;" "HouseBells").before args s = true := va_Nw.use rfl (h ("HouseBells", 111, "HouseBells$House", "line", "LHouseBells$Line;") (List.mem_of_getElem? (i := 23) rfl))
theorem z_n24 {s : State} {args : Array Value} (h : z_N s) : (Cond.fieldLinkNest "HouseBells" 45 "HouseBells$House" "staff" "LHouseBells$Staff;" "HouseBells").before args s = true := va_Nw.use rfl (h ("HouseBells", 45, "HouseBells$House", "staff", "LHouseBells$Staff;") (List.mem_of_getElem? (i := 24) rfl))
-- the worlds
def z_wR (X : z_X) (a b : Nat) (f : Nat → Int32) : va_W := [(a, .inr (2, [.ref b])), (b, .inl (X.2.1, 12, .inl f))]
def z_wRR (X : z_X) (a b : Nat) (f : Nat → Int32) (a' b' : Nat) (f' : Nat → Int32) : va_W := [(a, .inr (2, [.ref b])), (b, .inl (X.2.1, 12, .inl f)), (a', .inr (2, [.ref b'])), (b', .inl (X.2.1, 12, .inl f'))]
def z_wL (X : z_X) (d : Nat → Nat) (L : z_L) : va_W := [(d 13, .inr (1, [.int L.1, .ref (d 14)])), (d 14, .inl (X.2.1, 12, .inl L.2))]
def z_wLL (X : z_X) (d : Nat → Nat) (L : z_L) (d' : Nat → Nat) (L' : z_L) : va_W := [(d 13, .inr (1, [.int L.1, .ref (d 14)])), (d 14, .inl (X.2.1, 12, .inl L.2)), (d' 13, .inr (1, [.int L'.1, .ref (d' 14)])), (d' 14, .inl (X.2.1, 12, .inl L'.2))]
def z_wG (X : z_X) (d : Nat → Nat) (G : z_G) : va_W := [(d 15, .inr (3, [.int G.1, .ref (d 16), .ref (d 18), .ref (d 20), .ref (d 22), .ref (d 24)])), (d 16, .inr (2, [.ref (d 17)])), (d 17, .inl (X.2.1, 12, .inl (G.2 0))), (d 18, .inr (2, [.ref (d 19)])), (d 19, .inl (X.2.1, 12, .inl (G.2 1))), (d 20, .inr (2, [.ref (d 21)])), (d 21, .inl (X.2.1, 12, .inl (G.2 2))), (d 22, .inr (2, [.ref (d 23)])), (d 23, .inl (X.2.1, 12, .inl (G.2 3))), (d 24, .inr (2, [.ref (d 25)])), (d 25, .inl (X.2.1, 12, .inl (G.2 4)))]
def z_wGG (X : z_X) (d : Nat → Nat) (G : z_G) (d' : Nat → Nat) (G' : z_G) : va_W := z_wG X d G ++ z_wG X d' G'
def z_wH (X : z_X) (d : Nat → Nat) (h : z_H) : va_W := [(d 0, .inr (0, [.int (h.1 0), .int (h.1 1), .int (h.1 2), .int (h.1 3), .int (h.1 4), .int (h.1 5), .int (h.1 6), .ref (d 1), .ref (d 3), .ref (d 5), .ref (d 7), .ref (d 9), .ref (d 11), .ref (d 13), .ref (d 15)])), (d 1, .inr (2, [.ref (d 2)])), (d 2, .inl (X.2.1, 12, .inl (h.2.1 0))), (d 3, .inr (2, [.ref (d 4)])), (d 4, .inl (X.2.1, 12, .inl (h.2.1 1))), (d 5, .inr (2, [.ref (d 6)])), (d 6, .inl (X.2.1, 12, .inl (h.2.1 2))), (d 7, .inr (2, [.ref (d 8)])), (d 8, .inl (X.2.1, 12, .inl (h.2.1 3))), (d 9, .inr (2, [.ref (d 10)])), (d 10, .inl (X.2.1, 12, .inl (h.2.1 4))), (d 11, .inr (2, [.ref (d 12)])), (d 12, .inl (X.2.1, 12, .inl (h.2.1 5))), (d 13, .inr (1, [.int h.2.2.1.1, .ref (d 14)])), (d 14, .inl (X.2.1, 12, .inl h.2.2.1.2)), (d 15, .inr (3, [.int h.2.2.2.1, .ref (d 16), .ref (d 18), .ref (d 20), .ref (d 22), .ref (d 24)])), (d 16, .inr (2, [.ref (d 17)])), (d 17, .inl (X.2.1, 12, .inl (h.2.2.2.2 0))), (d 18, .inr (2, [.ref (d 19)])), (d 19, .inl (X.2.1, 12, .inl (h.2.2.2.2 1))), (d 20, .inr (2, [.ref (d 21)])), (d 21, .inl (X.2.1, 12, .inl (h.2.2.2.2 2))), (d 22, .inr (2, [.ref (d 23)])), (d 23, .inl (X.2.1, 12, .inl (h.2.2.2.2 3))), (d 24, .inr (2, [.ref (d 25)])), (d 25, .inl (X.2.1, 12, .inl (h.2.2.2.2 4)))]
def z_wHH (X : z_X) (d : Nat → Nat) (h : z_H) (d' : Nat → Nat) (h' : z_H) : va_W := z_wH X d h ++ z_wH X d' h'
def z_wB (X : z_X) (a : Nat) (d d' : Nat → Nat) (B : z_B) : va_W := (a, .inr (4, [.ref (d 0), .ref (d' 0)])) :: (z_wH X d B.1 ++ z_wH X d' B.2)
def z_wM (X : z_X) (d : Nat → Nat) (M : z_M) : va_W := [(d 0, .inr (5, [.int (M.1 0), .int (M.1 1), .int (M.1 2), .ref (d 1), .ref (d 2), .ref (d 3), .ref (d 4), .ref (d 5), .ref (d 6), .ref (d 7), .ref (d 8)])), (d 1, .inl (X.2.1, 12, .inl (M.2 0))), (d 2, .inl (X.2.1, 12, .inl (M.2 1))), (d 3, .inl (X.2.1, 12, .inl (M.2 2))), (d 4, .inl (X.2.1, 12, .inl (M.2 3))), (d 5, .inl (X.2.2.1, 12, .inl (M.2 4))), (d 6, .inl (X.2.1, 6, .inl (M.2 5))), (d 7, .inl (X.2.1, 55, .inl (M.2 6))), (d 8, .inl (X.2.1, 55, .inl (M.2 7)))]
-- contracts: a method that only reads; one that writes
def z_Pp (X : z_X) (w : va_W) : State → Prop := fun U => va_P X.1 vwCl w U.heap ∧ va_K X.1 vwCl (z_ty X) U ∧ z_N U
def z_Pm (X : z_X) (w : va_W) (sz : Nat) : State → Prop := fun U => U.heap.size = sz ∧ va_P X.1 vwCl w U.heap ∧ va_K X.1 vwCl (z_ty X) U ∧ z_N U ∧ va_D (fun _ => True) w
def z_Bm (X : z_X) (A : Nat → Prop) : va_W → State → Prop := fun u t => va_P X.1 vwCl u t.heap ∧ va_D A u
abbrev z_R (fr lo : Nat) : Room := { frames := fr, cells := 0, slots := 0, locals := lo }
def z_pI (l : Launch) (y : MethodName) (ws : List Cond) (fr lo : Nat) (X : z_X) (av : List Value) (w : va_W) (r : Int32) : Prop := Met l y ws (z_R fr lo) (va_Pc av (z_Pp X w)) (vp_Si (fun z => z = r)) 0 0 (fun _ => False)
def z_pL (l : Launch) (y : MethodName) (ws : List Cond) (fr lo : Nat) (X : z_X) (av : List Value) (w : va_W) (r : Int64) : Prop := Met l y ws (z_R fr lo) (va_Pc av (z_Pp X w)) (vp_Sl (fun z => z = r)) 0 0 (fun _ => False)
def z_pD (l : Launch) (y : MethodName) (ws : List Cond) (fr lo : Nat) (X : z_X) (av : List Value) (w : va_W) (r : UInt64) : Prop := Met l y ws (z_R fr lo) (va_Pc av (z_Pp X w)) (vp_Sd (fun z => z = r)) 0 0 (fun _ => False)
def z_pV (l : Launch) (y : MethodName) (ws : List Cond) (fr lo : Nat) (X : z_X) (av : List Value) (w : va_W) : Prop := Met l y ws (z_R fr lo) (va_Pc av (z_Pp X w)) (va_Sv (fun _ => True)) 0 0 (fun _ => False)
def z_mV (l : Launch) (y : MethodName) (ws : List Cond) (fr lo : Nat) (X : z_X) (av : List Value) (w w' : va_W) : Prop := ∀ sz : Nat, Met l y ws (z_R fr lo) (va_Pc av (z_Pm X w sz)) (va_Qv (fun u : va_W => u = w') (z_Bm X (va_A w sz)) (va_A w sz)) 0 0 (va_A w sz)
def z_mI (l : Launch) (y : MethodName) (ws : List Cond) (fr lo : Nat) (X : z_X) (av : List Value) (w : va_W) (r : Int32) (w' : va_W) : Prop := ∀ sz : Nat, Met l y ws (z_R fr lo) (va_Pc av (z_Pm X w sz)) (va_Qi (fun (z : Int32) (u : va_W) => z = r ∧ u = w') (z_Bm X (va_A w sz)) (va_A w sz)) 0 0 (va_A w sz)
def z_mL (l : Launch) (y : MethodName) (ws : List Cond) (fr lo : Nat) (X : z_X) (av : List Value) (w : va_W) (r : Int64) (w' : va_W) : Prop := ∀ sz : Nat, Met l y ws (z_R fr lo) (va_Pc av (z_Pm X w sz)) (va_Ql (fun (z : Int64) (u : va_W) => z = r ∧ u = w') (z_Bm X (va_A w sz)) (va_A w sz)) 0 0 (va_A w sz)
theorem z_bp (av : List Value) (X : z_X) (w : va_W) : FrameBlind (va_Pc av (z_Pp X w)) := fun a U g mk q => by
  obtain ⟨q0, qP, qK, qN⟩ := q
  exact ⟨q0, qP, va_K.moved (u := U) (U := U.calling g mk a) (Vm.Alike.refl U.vm) qK, z_N.same (U := U.calling g mk a) rfl qN⟩
theorem z_bm (av : List Value) (X : z_X) (w : va_W) (sz : Nat) : FrameBlind (va_Pc av (z_Pm X w sz)) := fun a U g mk q => by
  obtain ⟨q0, q1, qP, qK, qN, qD⟩ := q
  exact ⟨q0, q1, qP, va_K.moved (u := U) (U := U.calling g mk a) (Vm.Alike.refl U.vm) qK, z_N.same (U := U.calling g mk a) rfl qN, qD⟩
/-- a part wc of the world W0 becomes wc1, and W0 thereby W1 -/
def z_F (W0 wc W1 wc1 : va_W) : Prop := ∃ (isC isR pm : List Nat) (wr : va_W), isC.map (fun i => W0[i]?) = wc.map some ∧ isR.map (fun i => W0[i]?) = wr.map some ∧ va_nd isR = true ∧ (∀ i ∈ isR, i ∉ isC) ∧ pm.map (fun i => (wr ++ wc1)[i]?) = W1.map some ∧ va_nd pm = true
theorem z_F.part {W0 wc W1 wc1 : va_W} (h : z_F W0 wc W1 wc1) : ∃ isC : List Nat, isC.map (fun i => W0[i]?) = wc.map some := by
  obtain ⟨isC, _, _, _, h, _⟩ := h
  exact ⟨isC, h⟩
theorem z_subP {D : va_G} {cl : List vw_C} {ws ws' : va_W} {H : Heap} (h : va_P D cl ws H) (is : List Nat) (hs : is.map (fun i => ws[i]?) = ws'.map some) : va_P D cl ws' H := by
  intro k q hk
  have h1 : (is.map (fun i => ws[i]?))[k]? = some (some q) := by rw [hs, List.getElem?_map, hk]; rfl
  rw [List.getElem?_map] at h1
  cases hi : is[k]? with
  | none => rw [hi] at h1; cases h1
  | some i => rw [hi] at h1; exact h i q (Option.some.inj h1)
theorem z_subD {ws wc : va_W} (hD : va_D (fun _ => True) ws) (isC : List Nat) (hn : va_nd isC = true) (hC : isC.map (fun i => ws[i]?) = wc.map some) : va_D (fun _ => True) wc := hD.sub isC hn hC
theorem z_join {A0 : Nat → Prop} {D : va_G} {cl : List vw_C} {W0 wc W1 wc1 : va_W} {H H1 : Heap} (hF : z_F W0 wc W1 wc1) (hP : va_P D cl W0 H) (hD : va_D A0 W0) (hk : ∀ q : Nat, q < H.size → ¬ va_A wc H.size q → H1[q]? = H[q]?) (hf : ∀ q, va_A wc H.size q → A0 q) (hP1 : va_P D cl wc1 H1) (hD1 : va_D (va_A wc H.size) wc1) : va_P D cl W1 H1 ∧ va_D A0 W1 := by
  obtain ⟨isC, isR, pm, wr, h1, h2, h3, h4, h5, h6⟩ := hF
  obtain ⟨a, b⟩ := va_join hP hD isC isR h1 h2 h3 h4 hk hf hP1 hD1
  exact ⟨z_subP a pm h5, b.sub pm h6 h5⟩
/-- which part of a world a callee has: its places, all different -/
def z_S (W0 wc : va_W) : Prop := ∃ is : List Nat, is.map (fun i => W0[i]?) = wc.map some ∧ va_nd is = true
theorem z_S.free {A0 : Nat → Prop} {ws wc : va_W} {H0 H : Heap} {locs : List Loc} (h : z_S ws wc) (hD : va_D A0 ws) (hS : va_S A0 H0 H locs) (hA : ∀ q, H0.size ≤ q → A0 q) : ∀ q, va_A wc H.size q → A0 q := by
  obtain ⟨is, h1, -⟩ := h
  exact va_free hD hS hA is h1
theorem s_nil (W0 : va_W) : z_S W0 [] := ⟨[], rfl, rfl⟩
section ZC
variable {p : Program} {l : Launch} {e : Env} {R : Room} {s : State} {m : MethodId} {args : Array Value} {below : List Frame} {meth : Method} {c : Code} {H : Heap} {locs : List Loc} {cells slots : Nat} {Q : State → Prop}
variable {y : MethodName} {bytes cc : ByteArray} {maxL nL n index fr lo : Nat} {ret : Option FieldType} {ws : List Cond} {Ts : List Cond} {own C : String} {b : Addr} {As rest st0 : List Value} {ls : Array Slot} {pc : Nat} {X : z_X} {W0 wc : va_W} {A : Nat → Prop} {H0 : Heap}
theorem z_pre (hP : va_P X.1 vwCl W0 H) (hK : va_K X.1 vwCl (z_ty X) s) (hN : z_N s) (hs : z_S W0 wc) (av : List Value) : ∀ U : State, U.heap = H → s.WarmedH U.vm → va_Pc av (z_Pp X wc) av.toArray U := fun U hU hW => by
  obtain ⟨is, h1, -⟩ := hs
  exact ⟨rfl, by rw [hU]; exact z_subP hP is h1, va_K.moved hW.alike hK, hN.warm hW⟩
theorem z_prem (hP : va_P X.1 vwCl W0 H) (hK : va_K X.1 vwCl (z_ty X) s) (hN : z_N s) (hD : va_D A W0) (hs : z_S W0 wc) (av : List Value) : ∀ U : State, U.heap = H → s.WarmedH U.vm → va_Pc av (z_Pm X wc H.size) av.toArray U := fun U hU hW => by
  obtain ⟨is, h1, h2⟩ := hs
  exact ⟨rfl, by rw [hU], by rw [hU]; exact z_subP hP is h1, va_K.moved hW.alike hK, hN.warm hW, (hD.sub is h2 h1).weaken (fun _ _ _ _ => trivial)⟩
theorem z_recv (hP : va_P X.1 vwCl W0 H) (hK : va_K X.1 vwCl (z_ty X) s) (hN : z_N s) (hs : z_S W0 wc) {ci : Nat} {q : vw_C} {fs : List Value} (hc : vwCl[ci]? = some q) (hq : q.1 = C) (he : wc[0]? = some (b, .inr (ci, fs))) : ∃ cellB : Cell, H[b]? = some cellB ∧ cellB.vm.isStatics = false ∧ s.vm.findClass C = some cellB.cls := by
  obtain ⟨is, h1, -⟩ := hs
  rw [← hq]
  exact va_recv hK (z_subP hP is h1) hc he
theorem z_cpI {r : Int32} {ci : Nat} {q : vw_C} {fs : List Value} (S : CallFix p m c cc nL s args Ts own) (hM : z_pI l y ws fr lo X (.ref b :: As) wc r) (cw : CallW R s args own C index y bytes maxL ret ws (z_R fr lo) 0 0 n) (hP : va_P X.1 vwCl W0 H) (hK : va_K X.1 vwCl (z_ty X) s) (hN : z_N s) (hs : z_S W0 wc) (hc : vwCl[ci]? = some q) (hq : q.1 = C) (he : wc[0]? = some (b, .inr (ci, fs))) (hf : cells ≤ R.cells ∧ slots ≤ R.slots) (hn : As.length = n) (hsz : ls.size = nL) (hst : st0 = As.reverse ++ .ref b :: rest) (hW : (rest.map fun v => v.category).sum ≤ 8) (hdg : decode cc pc = .ok (.invokevirtual index, 3)) (kk : W p l e R s m args below meth c H locs cells slots Q (F0 m (pc + 3) ls (.int r :: rest))) : W p l e R s m args below meth c H locs cells slots Q (F0 m pc ls st0) := by
  refine vp_callSi (W.runV (rest := rest) S hM cw ⟨z_bp _ _ _, z_recv hP hK hN hs hc hq he, z_pre hP hK hN hs _⟩ rfl hn hsz hst (lv_room hW) hdg hf) (fun z hz => ?_)
  rw [hz]; exact kk
theorem z_cpD {r : UInt64} {ci : Nat} {q : vw_C} {fs : List Value} (S : CallFix p m c cc nL s args Ts own) (hM : z_pD l y ws fr lo X (.ref b :: As) wc r) (cw : CallW R s args own C index y bytes maxL ret ws (z_R fr lo) 0 0 n) (hP : va_P X.1 vwCl W0 H) (hK : va_K X.1 vwCl (z_ty X) s) (hN : z_N s) (hs : z_S W0 wc) (hc : vwCl[ci]? = some q) (hq : q.1 = C) (he : wc[0]? = some (b, .inr (ci, fs))) (hf : cells ≤ R.cells ∧ slots ≤ R.slots) (hn : As.length = n) (hsz : ls.size = nL) (hst : st0 = As.reverse ++ .ref b :: rest) (hW : (rest.map fun v => v.category).sum ≤ 8) (hdg : decode cc pc = .ok (.invokevirtual index, 3)) (kk : W p l e R s m args below meth c H locs cells slots Q (F0 m (pc + 3) ls (.double r :: rest))) : W p l e R s m args below meth c H locs cells slots Q (F0 m pc ls st0) := by
  refine vp_callSd (W.runV (rest := rest) S hM cw ⟨z_bp _ _ _, z_recv hP hK hN hs hc hq he, z_pre hP hK hN hs _⟩ rfl hn hsz hst (lv_room hW) hdg hf) (fun z hz => ?_)
  rw [hz]; exact kk
theorem z_cpV {ci : Nat} {q : vw_C} {fs : List Value} (S : CallFix p m c cc nL s args Ts own) (hM : z_pV l y ws fr lo X (.ref b :: As) wc) (cw : CallW R s args own C index y bytes maxL ret ws (z_R fr lo) 0 0 n) (hP : va_P X.1 vwCl W0 H) (hK : va_K X.1 vwCl (z_ty X) s) (hN : z_N s) (hs : z_S W0 wc) (hc : vwCl[ci]? = some q) (hq : q.1 = C) (he : wc[0]? = some (b, .inr (ci, fs))) (hf : cells ≤ R.cells ∧ slots ≤ R.slots) (hn : As.length = n) (hsz : ls.size = nL) (hst : st0 = As.reverse ++ .ref b :: rest) (hW : (rest.map fun v => v.category).sum ≤ 8) (hdg : decode cc pc = .ok (.invokevirtual index, 3)) (kk : W p l e R s m args below meth c H locs cells slots Q (F0 m (pc + 3) ls rest)) : W p l e R s m args below meth c H locs cells slots Q (F0 m pc ls st0) :=
  va_csv (W.runV (rest := rest) S hM cw ⟨z_bp _ _ _, z_recv hP hK hN hs hc hq he, z_pre hP hK hN hs _⟩ rfl hn hsz hst (lv_room hW) hdg hf) (fun _ => kk)
-- static, reading nothing
theorem z_csI {r : Int32} (S : CallFix p m c cc nL s args Ts own) (hM : z_pI l y ws fr lo X As wc r) (cw : CallB R s args own index y bytes maxL ret ws (z_R fr lo) 0 0 n ∧ (Cond.static y).before args s = true) (hP : va_P X.1 vwCl W0 H) (hK : va_K X.1 vwCl (z_ty X) s) (hN : z_N s) (hs : z_S W0 wc) (hf : cells ≤ R.cells ∧ slots ≤ R.slots) (hn : As.length = n) (hsz : ls.size = nL) (hst : st0 = As.reverse ++ rest) (hW : (rest.map fun v => v.category).sum ≤ 8) (hdg : decode cc pc = .ok (.invokestatic index, 3)) (kk : W p l e R s m args below meth c H locs cells slots Q (F0 m (pc + 3) ls (.int r :: rest))) : W p l e R s m args below meth c H locs cells slots Q (F0 m pc ls st0) := by
  refine vp_callSi (W.runS (rest := rest) S hM cw ⟨z_bp _ _ _, z_pre hP hK hN hs _⟩ rfl hn hsz hst (lv_room hW) hdg hf) (fun z hz => ?_)
  rw [hz]; exact kk
theorem z_csL {r : Int64} (S : CallFix p m c cc nL s args Ts own) (hM : z_pL l y ws fr lo X As wc r) (cw : CallB R s args own index y bytes maxL ret ws (z_R fr lo) 0 0 n ∧ (Cond.static y).before args s = true) (hP : va_P X.1 vwCl W0 H) (hK : va_K X.1 vwCl (z_ty X) s) (hN : z_N s) (hs : z_S W0 wc) (hf : cells ≤ R.cells ∧ slots ≤ R.slots) (hn : As.length = n) (hsz : ls.size = nL) (hst : st0 = As.reverse ++ rest) (hW : (rest.map fun v => v.category).sum ≤ 8) (hdg : decode cc pc = .ok (.invokestatic index, 3)) (kk : W p l e R s m args below meth c H locs cells slots Q (F0 m (pc + 3) ls (.long r :: rest))) : W p l e R s m args below meth c H locs cells slots Q (F0 m pc ls st0) := by
  refine vp_callSl (W.runS (rest := rest) S hM cw ⟨z_bp _ _ _, z_pre hP hK hN hs _⟩ rfl hn hsz hst (lv_room hW) hdg hf) (fun z hz => ?_)
  rw [hz]; exact kk
theorem z_csV (S : CallFix p m c cc nL s args Ts own) (hM : z_pV l y ws fr lo X As wc) (cw : CallB R s args own index y bytes maxL ret ws (z_R fr lo) 0 0 n ∧ (Cond.static y).before args s = true) (hP : va_P X.1 vwCl W0 H) (hK : va_K X.1 vwCl (z_ty X) s) (hN : z_N s) (hs : z_S W0 wc) (hf : cells ≤ R.cells ∧ slots ≤ R.slots) (hn : As.length = n) (hsz : ls.size = nL) (hst : st0 = As.reverse ++ rest) (hW : (rest.map fun v => v.category).sum ≤ 8) (hdg : decode cc pc = .ok (.invokestatic index, 3)) (kk : W p l e R s m args below meth c H locs cells slots Q (F0 m (pc + 3) ls rest)) : W p l e R s m args below meth c H locs cells slots Q (F0 m pc ls st0) :=
  va_csv (W.runS (rest := rest) S hM cw ⟨z_bp _ _ _, z_pre hP hK hN hs _⟩ rfl hn hsz hst (lv_room hW) hdg hf) (fun _ => kk)
-- writing
theorem z_cmV {W1 wc1 : va_W} {ci : Nat} {q : vw_C} {fs : List Value} (S : CallFix p m c cc nL s args Ts own) (hM : z_mV l y ws fr lo X (.ref b :: As) wc wc1) (cw : CallW R s args own C index y bytes maxL ret ws (z_R fr lo) 0 0 n) (hP : va_P X.1 vwCl W0 H) (hK : va_K X.1 vwCl (z_ty X) s) (hN : z_N s) (hD : va_D A W0) (hS : va_S A H0 H locs) (hA : ∀ q, H0.size ≤ q → A q) (hs : z_S W0 wc) (hF : z_F W0 wc W1 wc1) (hc : vwCl[ci]? = some q) (hq : q.1 = C) (he : wc[0]? = some (b, .inr (ci, fs))) (hf : cells ≤ R.cells ∧ slots ≤ R.slots) (hn : As.length = n) (hsz : ls.size = nL) (hst : st0 = As.reverse ++ .ref b :: rest) (hW : (rest.map fun v => v.category).sum ≤ 8) (hdg : decode cc pc = .ok (.invokevirtual index, 3)) (kk : ∀ (H1 : Heap) (locs1 : List Loc), va_P X.1 vwCl W1 H1 → va_D A W1 → va_S A H0 H1 locs1 → W p l e R s m args below meth c H1 locs1 cells slots Q (F0 m (pc + 3) ls rest)) : W p l e R s m args below meth c H locs cells slots Q (F0 m pc ls st0) := by
  have hfr := hs.free hD hS hA
  refine va_callv (va_runV (rest := rest) S (hM H.size) cw ⟨z_bm _ _ _ _, z_recv hP hK hN hs hc hq he, z_prem hP hK hN hD hs _⟩ rfl hn hsz hst (lv_room hW) hdg hf) hS (fun q _ h => hfr q h) hfr (fun u t H1 locs1 ht hvm hw hB hz1 hk1 hS1 => ?_)
  subst hw
  obtain ⟨hP1, hD1⟩ := hB
  rw [ht] at hP1
  obtain ⟨a, b⟩ := z_join hF hP hD hk1 hfr hP1 hD1
  exact kk H1 locs1 a b hS1
theorem z_cmI {r : Int32} {W1 wc1 : va_W} {ci : Nat} {q : vw_C} {fs : List Value} (S : CallFix p m c cc nL s args Ts own) (hM : z_mI l y ws fr lo X (.ref b :: As) wc r wc1) (cw : CallW R s args own C index y bytes maxL ret ws (z_R fr lo) 0 0 n) (hP : va_P X.1 vwCl W0 H) (hK : va_K X.1 vwCl (z_ty X) s) (hN : z_N s) (hD : va_D A W0) (hS : va_S A H0 H locs) (hA : ∀ q, H0.size ≤ q → A q) (hs : z_S W0 wc) (hF : z_F W0 wc W1 wc1) (hc : vwCl[ci]? = some q) (hq : q.1 = C) (he : wc[0]? = some (b, .inr (ci, fs))) (hf : cells ≤ R.cells ∧ slots ≤ R.slots) (hn : As.length = n) (hsz : ls.size = nL) (hst : st0 = As.reverse ++ .ref b :: rest) (hW : (rest.map fun v => v.category).sum ≤ 8) (hdg : decode cc pc = .ok (.invokevirtual index, 3)) (kk : ∀ (H1 : Heap) (locs1 : List Loc), va_P X.1 vwCl W1 H1 → va_D A W1 → va_S A H0 H1 locs1 → W p l e R s m args below meth c H1 locs1 cells slots Q (F0 m (pc + 3) ls (.int r :: rest))) : W p l e R s m args below meth c H locs cells slots Q (F0 m pc ls st0) := by
  have hfr := hs.free hD hS hA
  refine va_calli (va_runV (rest := rest) S (hM H.size) cw ⟨z_bm _ _ _ _, z_recv hP hK hN hs hc hq he, z_prem hP hK hN hD hs _⟩ rfl hn hsz hst (lv_room hW) hdg hf) hS (fun q _ h => hfr q h) hfr (fun z u t H1 locs1 ht hvm hw hB hz1 hk1 hS1 => ?_)
  obtain ⟨rfl, rfl⟩ := hw
  obtain ⟨hP1, hD1⟩ := hB
  rw [ht] at hP1
  obtain ⟨a, b⟩ := z_join hF hP hD hk1 hfr hP1 hD1
  exact kk H1 locs1 a b hS1
theorem z_cmL {r : Int64} {W1 wc1 : va_W} {ci : Nat} {q : vw_C} {fs : List Value} (S : CallFix p m c cc nL s args Ts own) (hM : z_mL l y ws fr lo X (.ref b :: As) wc r wc1) (cw : CallW R s args own C index y bytes maxL ret ws (z_R fr lo) 0 0 n) (hP : va_P X.1 vwCl W0 H) (hK : va_K X.1 vwCl (z_ty X) s) (hN : z_N s) (hD : va_D A W0) (hS : va_S A H0 H locs) (hA : ∀ q, H0.size ≤ q → A q) (hs : z_S W0 wc) (hF : z_F W0 wc W1 wc1) (hc : vwCl[ci]? = some q) (hq : q.1 = C) (he : wc[0]? = some (b, .inr (ci, fs))) (hf : cells ≤ R.cells ∧ slots ≤ R.slots) (hn : As.length = n) (hsz : ls.size = nL) (hst : st0 = As.reverse ++ .ref b :: rest) (hW : (rest.map fun v => v.category).sum ≤ 8) (hdg : decode cc pc = .ok (.invokevirtual index, 3)) (kk : ∀ (H1 : Heap) (locs1 : List Loc), va_P X.1 vwCl W1 H1 → va_D A W1 → va_S A H0 H1 locs1 → W p l e R s m args below meth c H1 locs1 cells slots Q (F0 m (pc + 3) ls (.long r :: rest))) : W p l e R s m args below meth c H locs cells slots Q (F0 m pc ls st0) := by
  have hfr := hs.free hD hS hA
  refine va_calll (va_runV (rest := rest) S (hM H.size) cw ⟨z_bm _ _ _ _, z_recv hP hK hN hs hc hq he, z_prem hP hK hN hD hs _⟩ rfl hn hsz hst (lv_room hW) hdg hf) hS (fun q _ h => hfr q h) hfr (fun z u t H1 locs1 ht hvm hw hB hz1 hk1 hS1 => ?_)
  obtain ⟨rfl, rfl⟩ := hw
  obtain ⟨hP1, hD1⟩ := hB
  rw [ht] at hP1
  obtain ⟨a, b⟩ := z_join hF hP hD hk1 hfr hP1 hD1
  exact kk H1 locs1 a b hS1
end ZC
end
section
-- ===== reading and writing with what may fail told by Option; rows over it =====
def z_at (f : Nat → Int32) (i : Int32) (n : Nat) : Option Int32 := if i < 0 ∨ n ≤ i.toNatClampNeg then none else some (f i.toNatClampNeg)
def z_wr (f : Nat → Int32) (i : Int32) (n : Nat) (v : Int32) : Option (Nat → Int32) := if i < 0 ∨ n ≤ i.toNatClampNeg then none else some (upd f i.toNatClampNeg v)
def z_dv (x y : Int32) : Option Int32 := if y = 0 then none else some (x / y)
def z_rm (x y : Int32) : Option Int32 := if y = 0 then none else some (x - x / y * y)
def z_bo (x : Int32) : Option Int32 := if x = 0 ∨ x = 1 then some x else none
def z_FU : Nat := 64
theorem z_bd {α β : Type} {o : Option α} {k : α → Option β} {r : β} (h : o.bind k = some r) : ∃ x, o = some x ∧ k x = some r := by
  cases o with
  | none => cases h
  | some x => exact ⟨x, rfl, h⟩
theorem z_ip {α : Type} {c : Prop} [Decidable c] {a b r : α} (h : c) (hf : (if c then a else b) = r) : a = r := by rw [if_pos h] at hf; exact hf
theorem z_in {α : Type} {c : Prop} [Decidable c] {a b r : α} (h : ¬ c) (hf : (if c then a else b) = r) : b = r := by rw [if_neg h] at hf; exact hf
theorem z_at_s {f : Nat → Int32} {i : Int32} {n : Nat} {x : Int32} (h : z_at f i n = some x) : vp_in i n ∧ f i.toNatClampNeg = x := by
  unfold z_at at h
  by_cases hc : i < 0 ∨ n ≤ i.toNatClampNeg
  · rw [if_pos hc] at h; cases h
  · rw [if_neg hc] at h; exact ⟨hc, Option.some.inj h⟩
theorem z_wr_s {f g : Nat → Int32} {i : Int32} {n : Nat} {v : Int32} (h : z_wr f i n v = some g) : vp_in i n ∧ upd f i.toNatClampNeg v = g := by
  unfold z_wr at h
  by_cases hc : i < 0 ∨ n ≤ i.toNatClampNeg
  · rw [if_pos hc] at h; cases h
  · rw [if_neg hc] at h; exact ⟨hc, Option.some.inj h⟩
theorem z_dv_s {x y z : Int32} (h : z_dv x y = some z) : ¬ y = 0 ∧ x / y = z := by
  unfold z_dv at h
  by_cases hc : y = 0
  · rw [if_pos hc] at h; cases h
  · rw [if_neg hc] at h; exact ⟨hc, Option.some.inj h⟩
theorem z_rm_s {x y z : Int32} (h : z_rm x y = some z) : ¬ y = 0 ∧ x - x / y * y = z := by
  unfold z_rm at h
  by_cases hc : y = 0
  · rw [if_pos hc] at h; cases h
  · rw [if_neg hc] at h; exact ⟨hc, Option.some.inj h⟩
theorem z_bo_s {x z : Int32} (h : z_bo x = some z) : x = z ∧ narrow .boolean (.int x) = .int x := by
  unfold z_bo at h
  by_cases hc : x = 0 ∨ x = 1
  · rw [if_pos hc] at h
    refine ⟨Option.some.inj h, ?_⟩
    rcases hc with rfl | rfl <;> rfl
  · rw [if_neg hc] at h; cases h
def z_rg (f : Nat → Int32) (i : Int32) : Int32 := if i < 0 then 0 else if 12 ≤ i then 0 else f i.toNatClampNeg
def z_rs (f : Nat → Int32) (i v : Int32) : Nat → Int32 := if i < 0 then f else if 12 ≤ i then f else upd f i.toNatClampNeg v
section ZR
variable {p : Program} {l : Launch} {e : Env} {R : Room} {s : State} {m : MethodId} {args : Array Value} {below : List Frame} {meth : Method} {c : Code} {H : Heap} {locs : List Loc} {cells slots : Nat} {Q : State → Prop}
variable {cc : ByteArray} {pc : Nat} {ls : Array Slot} {rest : List Value} {D : va_G} {cl : List vw_C} {A : Nat → Prop} {a : Nat} {tys : List (ClassId × FieldType)} {ws W1 : va_W} {H0 : Heap}
theorem z_iald (hexec : p.tables.exec = Jvm.exec) (hb : c.code = cc) (hK : va_K D cl tys s) (hP : va_P D cl ws H) (q0 t0 : Nat) {cA : ClassId} {n : Nat} {f : Nat → Int32} (ha : ws[q0]? = some (a, .inl (cA, n, .inl f))) (ht : tys[t0]? = some (cA, .int)) {i x : Int32} (hin : z_at f i n = some x) (hdg : decode cc pc = .ok (.iaload, 1)) (kk : W p l e R s m args below meth c H locs cells slots Q (F0 m (pc + 1) ls (.int x :: rest))) : W p l e R s m args below meth c H locs cells slots Q (F0 m pc ls (.int i :: .ref a :: rest)) := by
  obtain ⟨h1, h2⟩ := z_at_s hin
  refine va_iald hexec hb hK hP q0 t0 ha ht h1 hdg ?_
  rw [h2]; exact kk
theorem z_zald (hexec : p.tables.exec = Jvm.exec) (hb : c.code = cc) (hK : va_K D cl tys s) (hP : va_P D cl ws H) (q0 t0 : Nat) {cA : ClassId} {n : Nat} {f : Nat → Int32} (ha : ws[q0]? = some (a, .inl (cA, n, .inl f))) (ht : tys[t0]? = some (cA, .boolean)) {i x : Int32} (hin : z_at f i n = some x) (hdg : decode cc pc = .ok (.baload, 1)) (kk : W p l e R s m args below meth c H locs cells slots Q (F0 m (pc + 1) ls (.int x :: rest))) : W p l e R s m args below meth c H locs cells slots Q (F0 m pc ls (.int i :: .ref a :: rest)) := by
  obtain ⟨h1, h2⟩ := z_at_s hin
  refine va_zald hexec hb hK hP q0 t0 ha ht h1 hdg ?_
  rw [h2]; exact kk
theorem z_iast (hexec : p.tables.exec = Jvm.exec) (hb : c.code = cc) (hK : va_K D cl tys s) (hP : va_P D cl ws H) (hD : va_D A ws) (hS : va_S A H0 H locs) (q0 t0 : Nat) {cA : ClassId} {n : Nat} {f g : Nat → Int32} (ha : ws[q0]? = some (a, .inl (cA, n, .inl f))) (ht : tys[t0]? = some (cA, .int)) {i : Int32} {x : Int32} (hin : z_wr f i n x = some g) (hW : ws.set q0 (a, .inl (cA, n, .inl g)) = W1) (hdg : decode cc pc = .ok (.iastore, 1)) (kk : ∀ (H1 : Heap) (locs1 : List Loc), va_P D cl W1 H1 → va_D A W1 → va_S A H0 H1 locs1 → W p l e R s m args below meth c H1 locs1 cells slots Q (F0 m (pc + 1) ls rest)) : W p l e R s m args below meth c H locs cells slots Q (F0 m pc ls (.int x :: .int i :: .ref a :: rest)) := by
  obtain ⟨h1, h2⟩ := z_wr_s hin
  refine va_iast hexec hb hK hP hD hS q0 t0 ha ht h1 hdg ?_
  rw [h2, hW]; exact kk
theorem z_zast (hexec : p.tables.exec = Jvm.exec) (hb : c.code = cc) (hK : va_K D cl tys s) (hP : va_P D cl ws H) (hD : va_D A ws) (hS : va_S A H0 H locs) (q0 t0 : Nat) {cA : ClassId} {n : Nat} {f g : Nat → Int32} (ha : ws[q0]? = some (a, .inl (cA, n, .inl f))) (ht : tys[t0]? = some (cA, .boolean)) {i : Int32} {x : Int32} (hin : z_wr f i n (vp_nar .boolean x) = some g) (hW : ws.set q0 (a, .inl (cA, n, .inl g)) = W1) (hdg : decode cc pc = .ok (.bastore, 1)) (kk : ∀ (H1 : Heap) (locs1 : List Loc), va_P D cl W1 H1 → va_D A W1 → va_S A H0 H1 locs1 → W p l e R s m args below meth c H1 locs1 cells slots Q (F0 m (pc + 1) ls rest)) : W p l e R s m args below meth c H locs cells slots Q (F0 m pc ls (.int x :: .int i :: .ref a :: rest)) := by
  obtain ⟨h1, h2⟩ := z_wr_s hin
  refine va_zast hexec hb hK hP hD hS q0 t0 ha ht h1 hdg ?_
  rw [h2, hW]; exact kk
theorem z_idiv (hexec : p.tables.exec = Jvm.exec) (hb : c.code = cc) {x y z : Int32} (h : z_dv x y = some z) (hdg : decode cc pc = .ok (.idiv, 1)) (kk : W p l e R s m args below meth c H locs cells slots Q (F0 m (pc + 1) ls (.int z :: rest))) : W p l e R s m args below meth c H locs cells slots Q (F0 m pc ls (.int y :: .int x :: rest)) := by
  obtain ⟨h1, h2⟩ := z_dv_s h
  refine lv_idiv hexec hb hdg h1 ?_
  rw [h2]; exact kk
theorem z_irem (hexec : p.tables.exec = Jvm.exec) (hb : c.code = cc) {x y z : Int32} (h : z_rm x y = some z) (hdg : decode cc pc = .ok (.irem, 1)) (kk : W p l e R s m args below meth c H locs cells slots Q (F0 m (pc + 1) ls (.int z :: rest))) : W p l e R s m args below meth c H locs cells slots Q (F0 m pc ls (.int y :: .int x :: rest)) := by
  obtain ⟨h1, h2⟩ := z_rm_s h
  refine lv_irem hexec hb hdg h1 ?_
  rw [h2]; exact kk
theorem z_put (hexec : p.tables.exec = Jvm.exec) (hb : c.code = cc) {own ref C : String} {T : u_T} {N ci index : Nat} {Ts : List Cond} (hts : ∀ w ∈ Ts, w.before args s = true) (hin : ∀ w ∈ u_ws C T N, w ∈ Ts) (ty0 : Nat → FieldType) (hty : ∀ k, k < N → parseFieldDescriptor (T k).2.2.1 = some (ty0 k)) (hnm : ∀ a, a < N → ∀ b, b < N → a ≠ b → (T a).2.1 ≠ (T b).2.1) (hown : s.vm.findClass own = some m.cls) (hK : va_K D cl tys s) (hP : va_P D cl ws H) (hD : va_D A ws) (hS0 : va_S A H0 H locs) (q0 : Nat) {fs : List Value} (he : ws[q0]? = some (a, .inr (ci, fs))) (hc : cl[ci]? = some (C, T, N)) (k : Nat) (hk : k < N) (hlink : (Cond.fieldLink own index ref (T k).2.1 (T k).2.2.1).before args s = true) (hsame : ∀ x, s.fieldFound? (T k).1 (T k).2.1 (T k).2.2.1 = some x → s.fieldFound? ref (T k).2.1 (T k).2.2.1 = some x) (hfin : (T k).2.2.2 = false) {x : Int32} (hd : parseFieldDescriptor (T k).2.2.1 = some .int) (hlen : k < fs.length) (hdg : decode cc pc = .ok (.putfield index, 3)) (hW : ws.set q0 (a, .inr (ci, fs.set k (.int x))) = W1) (kk : ∀ (H1 : Heap) (locs1 : List Loc), va_P D cl W1 H1 → va_D A W1 → va_S A H0 H1 locs1 → W p l e R s m args below meth c H1 locs1 cells slots Q (F0 m (pc + 3) ls rest)) : W p l e R s m args below meth c H locs cells slots Q (F0 m pc ls (.int x :: .ref a :: rest)) := by
  refine va_put (D := D) (ci := ci) (v := .int x) (ty := .int) (C := C) (T := T) (N := N) hexec hb hts hin ty0 hty hnm hown hK hP hD hS0 q0 he hc k hk hlink hsame hfin hd rfl rfl hlen hdg ?_
  rw [hW]; exact kk
theorem z_putN (hexec : p.tables.exec = Jvm.exec) (hb : c.code = cc) {own ref C host : String} {T : u_T} {N ci index : Nat} {Ts : List Cond} (hts : ∀ w ∈ Ts, w.before args s = true) (hin : ∀ w ∈ u_ws C T N, w ∈ Ts) (ty0 : Nat → FieldType) (hty : ∀ k, k < N → parseFieldDescriptor (T k).2.2.1 = some (ty0 k)) (hnm : ∀ a, a < N → ∀ b, b < N → a ≠ b → (T a).2.1 ≠ (T b).2.1) (hown : s.vm.findClass own = some m.cls) (hK : va_K D cl tys s) (hP : va_P D cl ws H) (hD : va_D A ws) (hS0 : va_S A H0 H locs) (q0 : Nat) {fs : List Value} (he : ws[q0]? = some (a, .inr (ci, fs))) (hc : cl[ci]? = some (C, T, N)) (k : Nat) (hk : k < N) (hlink : (Cond.fieldLinkNest own index ref (T k).2.1 (T k).2.2.1 host).before args s = true) (hsame : ∀ x, s.fieldFound? (T k).1 (T k).2.1 (T k).2.2.1 = some x → s.fieldFound? ref (T k).2.1 (T k).2.2.1 = some x) (hfin : (T k).2.2.2 = false) {x : Int32} (hd : parseFieldDescriptor (T k).2.2.1 = some .int) (hlen : k < fs.length) (hdg : decode cc pc = .ok (.putfield index, 3)) (hW : ws.set q0 (a, .inr (ci, fs.set k (.int x))) = W1) (kk : ∀ (H1 : Heap) (locs1 : List Loc), va_P D cl W1 H1 → va_D A W1 → va_S A H0 H1 locs1 → W p l e R s m args below meth c H1 locs1 cells slots Q (F0 m (pc + 3) ls rest)) : W p l e R s m args below meth c H locs cells slots Q (F0 m pc ls (.int x :: .ref a :: rest)) := by
  refine va_putN (D := D) (ci := ci) (v := .int x) (ty := .int) (C := C) (T := T) (N := N) hexec hb hts hin ty0 hty hnm hown hK hP hD hS0 q0 he hc k hk hlink hsame hfin hd rfl rfl hlen hdg ?_
  rw [hW]; exact kk
end ZR
end
section
-- parts of worlds, descriptors
set_option maxRecDepth 20000 in
theorem s_GG_RR1_12 (X : z_X) (d d2 : Nat → Nat) (G : z_G) (G2 : z_G) : z_S (z_wGG X d G d2 G2) (z_wRR X (d 16) (d 17) (G.2 0) (d2 16) (d2 17) (G2.2 0)) := ⟨[1, 2, 12, 13], rfl, rfl⟩
set_option maxRecDepth 20000 in
theorem f_GG_RR1_12 (X : z_X) (d d2 : Nat → Nat) (G : z_G) (G2 : z_G) (q : (Nat → Int32)) : z_F (z_wGG X d G d2 G2) (z_wRR X (d 16) (d 17) (G.2 0) (d2 16) (d2 17) (G2.2 0)) (z_wGG X d (z_gR G 0 q) d2 G2) (z_wRR X (d 16) (d 17) q (d2 16) (d2 17) (G2.2 0)) := ⟨[1, 2, 12, 13], [0, 3, 4, 5, 6, 7, 8, 9, 10, 11, 14, 15, 16, 17, 18, 19, 20, 21], [0, 18, 19, 1, 2, 3, 4, 5, 6, 7, 8, 9, 20, 21, 10, 11, 12, 13, 14, 15, 16, 17], ([0, 3, 4, 5, 6, 7, 8, 9, 10, 11, 14, 15, 16, 17, 18, 19, 20, 21] : List Nat).filterMap (fun i => (z_wGG X d G d2 G2)[i]?), rfl, rfl, rfl, by decide, rfl, rfl⟩
set_option maxRecDepth 20000 in
theorem s_GG_RR3_14 (X : z_X) (d d2 : Nat → Nat) (G : z_G) (G2 : z_G) : z_S (z_wGG X d G d2 G2) (z_wRR X (d 18) (d 19) (G.2 1) (d2 18) (d2 19) (G2.2 1)) := ⟨[3, 4, 14, 15], rfl, rfl⟩
set_option maxRecDepth 20000 in
theorem f_GG_RR3_14 (X : z_X) (d d2 : Nat → Nat) (G : z_G) (G2 : z_G) (q : (Nat → Int32)) : z_F (z_wGG X d G d2 G2) (z_wRR X (d 18) (d 19) (G.2 1) (d2 18) (d2 19) (G2.2 1)) (z_wGG X d (z_gR G 1 q) d2 G2) (z_wRR X (d 18) (d 19) q (d2 18) (d2 19) (G2.2 1)) := ⟨[3, 4, 14, 15], [0, 1, 2, 5, 6, 7, 8, 9, 10, 11, 12, 13, 16, 17, 18, 19, 20, 21], [0, 1, 2, 18, 19, 3, 4, 5, 6, 7, 8, 9, 10, 11, 20, 21, 12, 13, 14, 15, 16, 17], ([0, 1, 2, 5, 6, 7, 8, 9, 10, 11, 12, 13, 16, 17, 18, 19, 20, 21] : List Nat).filterMap (fun i => (z_wGG X d G d2 G2)[i]?), rfl, rfl, rfl, by decide, rfl, rfl⟩
set_option maxRecDepth 20000 in
theorem s_GG_RR5_16 (X : z_X) (d d2 : Nat → Nat) (G : z_G) (G2 : z_G) : z_S (z_wGG X d G d2 G2) (z_wRR X (d 20) (d 21) (G.2 2) (d2 20) (d2 21) (G2.2 2)) := ⟨[5, 6, 16, 17], rfl, rfl⟩
set_option maxRecDepth 20000 in
theorem f_GG_RR5_16 (X : z_X) (d d2 : Nat → Nat) (G : z_G) (G2 : z_G) (q : (Nat → Int32)) : z_F (z_wGG X d G d2 G2) (z_wRR X (d 20) (d 21) (G.2 2) (d2 20) (d2 21) (G2.2 2)) (z_wGG X d (z_gR G 2 q) d2 G2) (z_wRR X (d 20) (d 21) q (d2 20) (d2 21) (G2.2 2)) := ⟨[5, 6, 16, 17], [0, 1, 2, 3, 4, 7, 8, 9, 10, 11, 12, 13, 14, 15, 18, 19, 20, 21], [0, 1, 2, 3, 4, 18, 19, 5, 6, 7, 8, 9, 10, 11, 12, 13, 20, 21, 14, 15, 16, 17], ([0, 1, 2, 3, 4, 7, 8, 9, 10, 11, 12, 13, 14, 15, 18, 19, 20, 21] : List Nat).filterMap (fun i => (z_wGG X d G d2 G2)[i]?), rfl, rfl, rfl, by decide, rfl, rfl⟩
set_option maxRecDepth 20000 in
theorem s_GG_RR7_18 (X : z_X) (d d2 : Nat → Nat) (G : z_G) (G2 : z_G) : z_S (z_wGG X d G d2 G2) (z_wRR X (d 22) (d 23) (G.2 3) (d2 22) (d2 23) (G2.2 3)) := ⟨[7, 8, 18, 19], rfl, rfl⟩
set_option maxRecDepth 20000 in
theorem f_GG_RR7_18 (X : z_X) (d d2 : Nat → Nat) (G : z_G) (G2 : z_G) (q : (Nat → Int32)) : z_F (z_wGG X d G d2 G2) (z_wRR X (d 22) (d 23) (G.2 3) (d2 22) (d2 23) (G2.2 3)) (z_wGG X d (z_gR G 3 q) d2 G2) (z_wRR X (d 22) (d 23) q (d2 22) (d2 23) (G2.2 3)) := ⟨[7, 8, 18, 19], [0, 1, 2, 3, 4, 5, 6, 9, 10, 11, 12, 13, 14, 15, 16, 17, 20, 21], [0, 1, 2, 3, 4, 5, 6, 18, 19, 7, 8, 9, 10, 11, 12, 13, 14, 15, 20, 21, 16, 17], ([0, 1, 2, 3, 4, 5, 6, 9, 10, 11, 12, 13, 14, 15, 16, 17, 20, 21] : List Nat).filterMap (fun i => (z_wGG X d G d2 G2)[i]?), rfl, rfl, rfl, by decide, rfl, rfl⟩
set_option maxRecDepth 20000 in
theorem s_GG_RR9_20 (X : z_X) (d d2 : Nat → Nat) (G : z_G) (G2 : z_G) : z_S (z_wGG X d G d2 G2) (z_wRR X (d 24) (d 25) (G.2 4) (d2 24) (d2 25) (G2.2 4)) := ⟨[9, 10, 20, 21], rfl, rfl⟩
set_option maxRecDepth 20000 in
theorem f_GG_RR9_20 (X : z_X) (d d2 : Nat → Nat) (G : z_G) (G2 : z_G) (q : (Nat → Int32)) : z_F (z_wGG X d G d2 G2) (z_wRR X (d 24) (d 25) (G.2 4) (d2 24) (d2 25) (G2.2 4)) (z_wGG X d (z_gR G 4 q) d2 G2) (z_wRR X (d 24) (d 25) q (d2 24) (d2 25) (G2.2 4)) := ⟨[9, 10, 20, 21], [0, 1, 2, 3, 4, 5, 6, 7, 8, 11, 12, 13, 14, 15, 16, 17, 18, 19], [0, 1, 2, 3, 4, 5, 6, 7, 8, 18, 19, 9, 10, 11, 12, 13, 14, 15, 16, 17, 20, 21], ([0, 1, 2, 3, 4, 5, 6, 7, 8, 11, 12, 13, 14, 15, 16, 17, 18, 19] : List Nat).filterMap (fun i => (z_wGG X d G d2 G2)[i]?), rfl, rfl, rfl, by decide, rfl, rfl⟩
set_option maxRecDepth 20000 in
theorem s_G_G (X : z_X) (d : Nat → Nat) (G : z_G) : z_S (z_wG X d G) (z_wG X d G) := ⟨[0, 1, 2, 3, 4, 5, 6, 7, 8, 9, 10], rfl, rfl⟩
set_option maxRecDepth 20000 in
theorem f_G_G (X : z_X) (d : Nat → Nat) (G : z_G) (q : z_G) : z_F (z_wG X d G) (z_wG X d G) (z_wG X d q) (z_wG X d q) := ⟨[0, 1, 2, 3, 4, 5, 6, 7, 8, 9, 10], [], [0, 1, 2, 3, 4, 5, 6, 7, 8, 9, 10], ([] : List Nat).filterMap (fun i => (z_wG X d G)[i]?), rfl, rfl, rfl, by decide, rfl, rfl⟩
set_option maxRecDepth 20000 in
theorem s_G_R1 (X : z_X) (d : Nat → Nat) (G : z_G) : z_S (z_wG X d G) (z_wR X (d 16) (d 17) (G.2 0)) := ⟨[1, 2], rfl, rfl⟩
set_option maxRecDepth 20000 in
theorem f_G_R1 (X : z_X) (d : Nat → Nat) (G : z_G) (q : (Nat → Int32)) : z_F (z_wG X d G) (z_wR X (d 16) (d 17) (G.2 0)) (z_wG X d (z_gR G 0 q)) (z_wR X (d 16) (d 17) q) := ⟨[1, 2], [0, 3, 4, 5, 6, 7, 8, 9, 10], [0, 9, 10, 1, 2, 3, 4, 5, 6, 7, 8], ([0, 3, 4, 5, 6, 7, 8, 9, 10] : List Nat).filterMap (fun i => (z_wG X d G)[i]?), rfl, rfl, rfl, by decide, rfl, rfl⟩
set_option maxRecDepth 20000 in
theorem s_G_R3 (X : z_X) (d : Nat → Nat) (G : z_G) : z_S (z_wG X d G) (z_wR X (d 18) (d 19) (G.2 1)) := ⟨[3, 4], rfl, rfl⟩
set_option maxRecDepth 20000 in
theorem f_G_R3 (X : z_X) (d : Nat → Nat) (G : z_G) (q : (Nat → Int32)) : z_F (z_wG X d G) (z_wR X (d 18) (d 19) (G.2 1)) (z_wG X d (z_gR G 1 q)) (z_wR X (d 18) (d 19) q) := ⟨[3, 4], [0, 1, 2, 5, 6, 7, 8, 9, 10], [0, 1, 2, 9, 10, 3, 4, 5, 6, 7, 8], ([0, 1, 2, 5, 6, 7, 8, 9, 10] : List Nat).filterMap (fun i => (z_wG X d G)[i]?), rfl, rfl, rfl, by decide, rfl, rfl⟩
set_option maxRecDepth 20000 in
theorem s_G_R5 (X : z_X) (d : Nat → Nat) (G : z_G) : z_S (z_wG X d G) (z_wR X (d 20) (d 21) (G.2 2)) := ⟨[5, 6], rfl, rfl⟩
set_option maxRecDepth 20000 in
theorem f_G_R5 (X : z_X) (d : Nat → Nat) (G : z_G) (q : (Nat → Int32)) : z_F (z_wG X d G) (z_wR X (d 20) (d 21) (G.2 2)) (z_wG X d (z_gR G 2 q)) (z_wR X (d 20) (d 21) q) := ⟨[5, 6], [0, 1, 2, 3, 4, 7, 8, 9, 10], [0, 1, 2, 3, 4, 9, 10, 5, 6, 7, 8], ([0, 1, 2, 3, 4, 7, 8, 9, 10] : List Nat).filterMap (fun i => (z_wG X d G)[i]?), rfl, rfl, rfl, by decide, rfl, rfl⟩
set_option maxRecDepth 20000 in
theorem s_G_R7 (X : z_X) (d : Nat → Nat) (G : z_G) : z_S (z_wG X d G) (z_wR X (d 22) (d 23) (G.2 3)) := ⟨[7, 8], rfl, rfl⟩
set_option maxRecDepth 20000 in
theorem f_G_R7 (X : z_X) (d : Nat → Nat) (G : z_G) (q : (Nat → Int32)) : z_F (z_wG X d G) (z_wR X (d 22) (d 23) (G.2 3)) (z_wG X d (z_gR G 3 q)) (z_wR X (d 22) (d 23) q) := ⟨[7, 8], [0, 1, 2, 3, 4, 5, 6, 9, 10], [0, 1, 2, 3, 4, 5, 6, 9, 10, 7, 8], ([0, 1, 2, 3, 4, 5, 6, 9, 10] : List Nat).filterMap (fun i => (z_wG X d G)[i]?), rfl, rfl, rfl, by decide, rfl, rfl⟩
set_option maxRecDepth 20000 in
theorem s_G_R9 (X : z_X) (d : Nat → Nat) (G : z_G) : z_S (z_wG X d G) (z_wR X (d 24) (d 25) (G.2 4)) := ⟨[9, 10], rfl, rfl⟩
set_option maxRecDepth 20000 in
theorem f_G_R9 (X : z_X) (d : Nat → Nat) (G : z_G) (q : (Nat → Int32)) : z_F (z_wG X d G) (z_wR X (d 24) (d 25) (G.2 4)) (z_wG X d (z_gR G 4 q)) (z_wR X (d 24) (d 25) q) := ⟨[9, 10], [0, 1, 2, 3, 4, 5, 6, 7, 8], [0, 1, 2, 3, 4, 5, 6, 7, 8, 9, 10], ([0, 1, 2, 3, 4, 5, 6, 7, 8] : List Nat).filterMap (fun i => (z_wG X d G)[i]?), rfl, rfl, rfl, by decide, rfl, rfl⟩
set_option maxRecDepth 20000 in
theorem s_HH_GG15_41 (X : z_X) (d d2 : Nat → Nat) (h : z_H) (h2 : z_H) : z_S (z_wHH X d h d2 h2) (z_wGG X d h.2.2.2 d2 h2.2.2.2) := ⟨[15, 16, 17, 18, 19, 20, 21, 22, 23, 24, 25, 41, 42, 43, 44, 45, 46, 47, 48, 49, 50, 51], rfl, rfl⟩
set_option maxRecDepth 20000 in
theorem f_HH_GG15_41 (X : z_X) (d d2 : Nat → Nat) (h : z_H) (h2 : z_H) (q : z_G) : z_F (z_wHH X d h d2 h2) (z_wGG X d h.2.2.2 d2 h2.2.2.2) (z_wHH X d (z_hG h q) d2 h2) (z_wGG X d q d2 h2.2.2.2) := ⟨[15, 16, 17, 18, 19, 20, 21, 22, 23, 24, 25, 41, 42, 43, 44, 45, 46, 47, 48, 49, 50, 51], [0, 1, 2, 3, 4, 5, 6, 7, 8, 9, 10, 11, 12, 13, 14, 26, 27, 28, 29, 30, 31, 32, 33, 34, 35, 36, 37, 38, 39, 40], [0, 1, 2, 3, 4, 5, 6, 7, 8, 9, 10, 11, 12, 13, 14, 30, 31, 32, 33, 34, 35, 36, 37, 38, 39, 40, 15, 16, 17, 18, 19, 20, 21, 22, 23, 24, 25, 26, 27, 28, 29, 41, 42, 43, 44, 45, 46, 47, 48, 49, 50, 51], ([0, 1, 2, 3, 4, 5, 6, 7, 8, 9, 10, 11, 12, 13, 14, 26, 27, 28, 29, 30, 31, 32, 33, 34, 35, 36, 37, 38, 39, 40] : List Nat).filterMap (fun i => (z_wHH X d h d2 h2)[i]?), rfl, rfl, rfl, by decide, rfl, rfl⟩
set_option maxRecDepth 20000 in
theorem s_HH_LL13_39 (X : z_X) (d d2 : Nat → Nat) (h : z_H) (h2 : z_H) : z_S (z_wHH X d h d2 h2) (z_wLL X d h.2.2.1 d2 h2.2.2.1) := ⟨[13, 14, 39, 40], rfl, rfl⟩
set_option maxRecDepth 20000 in
theorem f_HH_LL13_39 (X : z_X) (d d2 : Nat → Nat) (h : z_H) (h2 : z_H) (q : z_L) : z_F (z_wHH X d h d2 h2) (z_wLL X d h.2.2.1 d2 h2.2.2.1) (z_wHH X d (z_hL h q) d2 h2) (z_wLL X d q d2 h2.2.2.1) := ⟨[13, 14, 39, 40], [0, 1, 2, 3, 4, 5, 6, 7, 8, 9, 10, 11, 12, 15, 16, 17, 18, 19, 20, 21, 22, 23, 24, 25, 26, 27, 28, 29, 30, 31, 32, 33, 34, 35, 36, 37, 38, 41, 42, 43, 44, 45, 46, 47, 48, 49, 50, 51], [0, 1, 2, 3, 4, 5, 6, 7, 8, 9, 10, 11, 12, 48, 49, 13, 14, 15, 16, 17, 18, 19, 20, 21, 22, 23, 24, 25, 26, 27, 28, 29, 30, 31, 32, 33, 34, 35, 36, 50, 51, 37, 38, 39, 40, 41, 42, 43, 44, 45, 46, 47], ([0, 1, 2, 3, 4, 5, 6, 7, 8, 9, 10, 11, 12, 15, 16, 17, 18, 19, 20, 21, 22, 23, 24, 25, 26, 27, 28, 29, 30, 31, 32, 33, 34, 35, 36, 37, 38, 41, 42, 43, 44, 45, 46, 47, 48, 49, 50, 51] : List Nat).filterMap (fun i => (z_wHH X d h d2 h2)[i]?), rfl, rfl, rfl, by decide, rfl, rfl⟩
set_option maxRecDepth 20000 in
theorem s_HH_RR11_37 (X : z_X) (d d2 : Nat → Nat) (h : z_H) (h2 : z_H) : z_S (z_wHH X d h d2 h2) (z_wRR X (d 11) (d 12) (h.2.1 5) (d2 11) (d2 12) (h2.2.1 5)) := ⟨[11, 12, 37, 38], rfl, rfl⟩
set_option maxRecDepth 20000 in
theorem f_HH_RR11_37 (X : z_X) (d d2 : Nat → Nat) (h : z_H) (h2 : z_H) (q : (Nat → Int32)) : z_F (z_wHH X d h d2 h2) (z_wRR X (d 11) (d 12) (h.2.1 5) (d2 11) (d2 12) (h2.2.1 5)) (z_wHH X d (z_hR h 5 q) d2 h2) (z_wRR X (d 11) (d 12) q (d2 11) (d2 12) (h2.2.1 5)) := ⟨[11, 12, 37, 38], [0, 1, 2, 3, 4, 5, 6, 7, 8, 9, 10, 13, 14, 15, 16, 17, 18, 19, 20, 21, 22, 23, 24, 25, 26, 27, 28, 29, 30, 31, 32, 33, 34, 35, 36, 39, 40, 41, 42, 43, 44, 45, 46, 47, 48, 49, 50, 51], [0, 1, 2, 3, 4, 5, 6, 7, 8, 9, 10, 48, 49, 11, 12, 13, 14, 15, 16, 17, 18, 19, 20, 21, 22, 23, 24, 25, 26, 27, 28, 29, 30, 31, 32, 33, 34, 50, 51, 35, 36, 37, 38, 39, 40, 41, 42, 43, 44, 45, 46, 47], ([0, 1, 2, 3, 4, 5, 6, 7, 8, 9, 10, 13, 14, 15, 16, 17, 18, 19, 20, 21, 22, 23, 24, 25, 26, 27, 28, 29, 30, 31, 32, 33, 34, 35, 36, 39, 40, 41, 42, 43, 44, 45, 46, 47, 48, 49, 50, 51] : List Nat).filterMap (fun i => (z_wHH X d h d2 h2)[i]?), rfl, rfl, rfl, by decide, rfl, rfl⟩
set_option maxRecDepth 20000 in
theorem s_HH_RR1_27 (X : z_X) (d d2 : Nat → Nat) (h : z_H) (h2 : z_H) : z_S (z_wHH X d h d2 h2) (z_wRR X (d 1) (d 2) (h.2.1 0) (d2 1) (d2 2) (h2.2.1 0)) := ⟨[1, 2, 27, 28], rfl, rfl⟩
set_option maxRecDepth 20000 in
theorem f_HH_RR1_27 (X : z_X) (d d2 : Nat → Nat) (h : z_H) (h2 : z_H) (q : (Nat → Int32)) : z_F (z_wHH X d h d2 h2) (z_wRR X (d 1) (d 2) (h.2.1 0) (d2 1) (d2 2) (h2.2.1 0)) (z_wHH X d (z_hR h 0 q) d2 h2) (z_wRR X (d 1) (d 2) q (d2 1) (d2 2) (h2.2.1 0)) := ⟨[1, 2, 27, 28], [0, 3, 4, 5, 6, 7, 8, 9, 10, 11, 12, 13, 14, 15, 16, 17, 18, 19, 20, 21, 22, 23, 24, 25, 26, 29, 30, 31, 32, 33, 34, 35, 36, 37, 38, 39, 40, 41, 42, 43, 44, 45, 46, 47, 48, 49, 50, 51], [0, 48, 49, 1, 2, 3, 4, 5, 6, 7, 8, 9, 10, 11, 12, 13, 14, 15, 16, 17, 18, 19, 20, 21, 22, 23, 24, 50, 51, 25, 26, 27, 28, 29, 30, 31, 32, 33, 34, 35, 36, 37, 38, 39, 40, 41, 42, 43, 44, 45, 46, 47], ([0, 3, 4, 5, 6, 7, 8, 9, 10, 11, 12, 13, 14, 15, 16, 17, 18, 19, 20, 21, 22, 23, 24, 25, 26, 29, 30, 31, 32, 33, 34, 35, 36, 37, 38, 39, 40, 41, 42, 43, 44, 45, 46, 47, 48, 49, 50, 51] : List Nat).filterMap (fun i => (z_wHH X d h d2 h2)[i]?), rfl, rfl, rfl, by decide, rfl, rfl⟩
set_option maxRecDepth 20000 in
theorem s_HH_RR3_29 (X : z_X) (d d2 : Nat → Nat) (h : z_H) (h2 : z_H) : z_S (z_wHH X d h d2 h2) (z_wRR X (d 3) (d 4) (h.2.1 1) (d2 3) (d2 4) (h2.2.1 1)) := ⟨[3, 4, 29, 30], rfl, rfl⟩
set_option maxRecDepth 20000 in
theorem f_HH_RR3_29 (X : z_X) (d d2 : Nat → Nat) (h : z_H) (h2 : z_H) (q : (Nat → Int32)) : z_F (z_wHH X d h d2 h2) (z_wRR X (d 3) (d 4) (h.2.1 1) (d2 3) (d2 4) (h2.2.1 1)) (z_wHH X d (z_hR h 1 q) d2 h2) (z_wRR X (d 3) (d 4) q (d2 3) (d2 4) (h2.2.1 1)) := ⟨[3, 4, 29, 30], [0, 1, 2, 5, 6, 7, 8, 9, 10, 11, 12, 13, 14, 15, 16, 17, 18, 19, 20, 21, 22, 23, 24, 25, 26, 27, 28, 31, 32, 33, 34, 35, 36, 37, 38, 39, 40, 41, 42, 43, 44, 45, 46, 47, 48, 49, 50, 51], [0, 1, 2, 48, 49, 3, 4, 5, 6, 7, 8, 9, 10, 11, 12, 13, 14, 15, 16, 17, 18, 19, 20, 21, 22, 23, 24, 25, 26, 50, 51, 27, 28, 29, 30, 31, 32, 33, 34, 35, 36, 37, 38, 39, 40, 41, 42, 43, 44, 45, 46, 47], ([0, 1, 2, 5, 6, 7, 8, 9, 10, 11, 12, 13, 14, 15, 16, 17, 18, 19, 20, 21, 22, 23, 24, 25, 26, 27, 28, 31, 32, 33, 34, 35, 36, 37, 38, 39, 40, 41, 42, 43, 44, 45, 46, 47, 48, 49, 50, 51] : List Nat).filterMap (fun i => (z_wHH X d h d2 h2)[i]?), rfl, rfl, rfl, by decide, rfl, rfl⟩
set_option maxRecDepth 20000 in
theorem s_HH_RR5_31 (X : z_X) (d d2 : Nat → Nat) (h : z_H) (h2 : z_H) : z_S (z_wHH X d h d2 h2) (z_wRR X (d 5) (d 6) (h.2.1 2) (d2 5) (d2 6) (h2.2.1 2)) := ⟨[5, 6, 31, 32], rfl, rfl⟩
set_option maxRecDepth 20000 in
theorem f_HH_RR5_31 (X : z_X) (d d2 : Nat → Nat) (h : z_H) (h2 : z_H) (q : (Nat → Int32)) : z_F (z_wHH X d h d2 h2) (z_wRR X (d 5) (d 6) (h.2.1 2) (d2 5) (d2 6) (h2.2.1 2)) (z_wHH X d (z_hR h 2 q) d2 h2) (z_wRR X (d 5) (d 6) q (d2 5) (d2 6) (h2.2.1 2)) := ⟨[5, 6, 31, 32], [0, 1, 2, 3, 4, 7, 8, 9, 10, 11, 12, 13, 14, 15, 16, 17, 18, 19, 20, 21, 22, 23, 24, 25, 26, 27, 28, 29, 30, 33, 34, 35, 36, 37, 38, 39, 40, 41, 42, 43, 44, 45, 46, 47, 48, 49, 50, 51], [0, 1, 2, 3, 4, 48, 49, 5, 6, 7, 8, 9, 10, 11, 12, 13, 14, 15, 16, 17, 18, 19, 20, 21, 22, 23, 24, 25, 26, 27, 28, 50, 51, 29, 30, 31, 32, 33, 34, 35, 36, 37, 38, 39, 40, 41, 42, 43, 44, 45, 46, 47], ([0, 1, 2, 3, 4, 7, 8, 9, 10, 11, 12, 13, 14, 15, 16, 17, 18, 19, 20, 21, 22, 23, 24, 25, 26, 27, 28, 29, 30, 33, 34, 35, 36, 37, 38, 39, 40, 41, 42, 43, 44, 45, 46, 47, 48, 49, 50, 51] : List Nat).filterMap (fun i => (z_wHH X d h d2 h2)[i]?), rfl, rfl, rfl, by decide, rfl, rfl⟩
set_option maxRecDepth 20000 in
theorem s_HH_RR7_33 (X : z_X) (d d2 : Nat → Nat) (h : z_H) (h2 : z_H) : z_S (z_wHH X d h d2 h2) (z_wRR X (d 7) (d 8) (h.2.1 3) (d2 7) (d2 8) (h2.2.1 3)) := ⟨[7, 8, 33, 34], rfl, rfl⟩
set_option maxRecDepth 20000 in
theorem f_HH_RR7_33 (X : z_X) (d d2 : Nat → Nat) (h : z_H) (h2 : z_H) (q : (Nat → Int32)) : z_F (z_wHH X d h d2 h2) (z_wRR X (d 7) (d 8) (h.2.1 3) (d2 7) (d2 8) (h2.2.1 3)) (z_wHH X d (z_hR h 3 q) d2 h2) (z_wRR X (d 7) (d 8) q (d2 7) (d2 8) (h2.2.1 3)) := ⟨[7, 8, 33, 34], [0, 1, 2, 3, 4, 5, 6, 9, 10, 11, 12, 13, 14, 15, 16, 17, 18, 19, 20, 21, 22, 23, 24, 25, 26, 27, 28, 29, 30, 31, 32, 35, 36, 37, 38, 39, 40, 41, 42, 43, 44, 45, 46, 47, 48, 49, 50, 51], [0, 1, 2, 3, 4, 5, 6, 48, 49, 7, 8, 9, 10, 11, 12, 13, 14, 15, 16, 17, 18, 19, 20, 21, 22, 23, 24, 25, 26, 27, 28, 29, 30, 50, 51, 31, 32, 33, 34, 35, 36, 37, 38, 39, 40, 41, 42, 43, 44, 45, 46, 47], ([0, 1, 2, 3, 4, 5, 6, 9, 10, 11, 12, 13, 14, 15, 16, 17, 18, 19, 20, 21, 22, 23, 24, 25, 26, 27, 28, 29, 30, 31, 32, 35, 36, 37, 38, 39, 40, 41, 42, 43, 44, 45, 46, 47, 48, 49, 50, 51] : List Nat).filterMap (fun i => (z_wHH X d h d2 h2)[i]?), rfl, rfl, rfl, by decide, rfl, rfl⟩
set_option maxRecDepth 20000 in
theorem s_HH_RR9_35 (X : z_X) (d d2 : Nat → Nat) (h : z_H) (h2 : z_H) : z_S (z_wHH X d h d2 h2) (z_wRR X (d 9) (d 10) (h.2.1 4) (d2 9) (d2 10) (h2.2.1 4)) := ⟨[9, 10, 35, 36], rfl, rfl⟩
set_option maxRecDepth 20000 in
theorem f_HH_RR9_35 (X : z_X) (d d2 : Nat → Nat) (h : z_H) (h2 : z_H) (q : (Nat → Int32)) : z_F (z_wHH X d h d2 h2) (z_wRR X (d 9) (d 10) (h.2.1 4) (d2 9) (d2 10) (h2.2.1 4)) (z_wHH X d (z_hR h 4 q) d2 h2) (z_wRR X (d 9) (d 10) q (d2 9) (d2 10) (h2.2.1 4)) := ⟨[9, 10, 35, 36], [0, 1, 2, 3, 4, 5, 6, 7, 8, 11, 12, 13, 14, 15, 16, 17, 18, 19, 20, 21, 22, 23, 24, 25, 26, 27, 28, 29, 30, 31, 32, 33, 34, 37, 38, 39, 40, 41, 42, 43, 44, 45, 46, 47, 48, 49, 50, 51], [0, 1, 2, 3, 4, 5, 6, 7, 8, 48, 49, 9, 10, 11, 12, 13, 14, 15, 16, 17, 18, 19, 20, 21, 22, 23, 24, 25, 26, 27, 28, 29, 30, 31, 32, 50, 51, 33, 34, 35, 36, 37, 38, 39, 40, 41, 42, 43, 44, 45, 46, 47], ([0, 1, 2, 3, 4, 5, 6, 7, 8, 11, 12, 13, 14, 15, 16, 17, 18, 19, 20, 21, 22, 23, 24, 25, 26, 27, 28, 29, 30, 31, 32, 33, 34, 37, 38, 39, 40, 41, 42, 43, 44, 45, 46, 47, 48, 49, 50, 51] : List Nat).filterMap (fun i => (z_wHH X d h d2 h2)[i]?), rfl, rfl, rfl, by decide, rfl, rfl⟩
set_option maxRecDepth 20000 in
theorem s_H_G15 (X : z_X) (d : Nat → Nat) (h : z_H) : z_S (z_wH X d h) (z_wG X d h.2.2.2) := ⟨[15, 16, 17, 18, 19, 20, 21, 22, 23, 24, 25], rfl, rfl⟩
set_option maxRecDepth 20000 in
theorem f_H_G15 (X : z_X) (d : Nat → Nat) (h : z_H) (q : z_G) : z_F (z_wH X d h) (z_wG X d h.2.2.2) (z_wH X d (z_hG h q)) (z_wG X d q) := ⟨[15, 16, 17, 18, 19, 20, 21, 22, 23, 24, 25], [0, 1, 2, 3, 4, 5, 6, 7, 8, 9, 10, 11, 12, 13, 14], [0, 1, 2, 3, 4, 5, 6, 7, 8, 9, 10, 11, 12, 13, 14, 15, 16, 17, 18, 19, 20, 21, 22, 23, 24, 25], ([0, 1, 2, 3, 4, 5, 6, 7, 8, 9, 10, 11, 12, 13, 14] : List Nat).filterMap (fun i => (z_wH X d h)[i]?), rfl, rfl, rfl, by decide, rfl, rfl⟩
set_option maxRecDepth 20000 in
theorem s_H_H (X : z_X) (d : Nat → Nat) (h : z_H) : z_S (z_wH X d h) (z_wH X d h) := ⟨[0, 1, 2, 3, 4, 5, 6, 7, 8, 9, 10, 11, 12, 13, 14, 15, 16, 17, 18, 19, 20, 21, 22, 23, 24, 25], rfl, rfl⟩
set_option maxRecDepth 20000 in
theorem f_H_H (X : z_X) (d : Nat → Nat) (h : z_H) (q : z_H) : z_F (z_wH X d h) (z_wH X d h) (z_wH X d q) (z_wH X d q) := ⟨[0, 1, 2, 3, 4, 5, 6, 7, 8, 9, 10, 11, 12, 13, 14, 15, 16, 17, 18, 19, 20, 21, 22, 23, 24, 25], [], [0, 1, 2, 3, 4, 5, 6, 7, 8, 9, 10, 11, 12, 13, 14, 15, 16, 17, 18, 19, 20, 21, 22, 23, 24, 25], ([] : List Nat).filterMap (fun i => (z_wH X d h)[i]?), rfl, rfl, rfl, by decide, rfl, rfl⟩
set_option maxRecDepth 20000 in
theorem s_H_L13 (X : z_X) (d : Nat → Nat) (h : z_H) : z_S (z_wH X d h) (z_wL X d h.2.2.1) := ⟨[13, 14], rfl, rfl⟩
set_option maxRecDepth 20000 in
theorem f_H_L13 (X : z_X) (d : Nat → Nat) (h : z_H) (q : z_L) : z_F (z_wH X d h) (z_wL X d h.2.2.1) (z_wH X d (z_hL h q)) (z_wL X d q) := ⟨[13, 14], [0, 1, 2, 3, 4, 5, 6, 7, 8, 9, 10, 11, 12, 15, 16, 17, 18, 19, 20, 21, 22, 23, 24, 25], [0, 1, 2, 3, 4, 5, 6, 7, 8, 9, 10, 11, 12, 24, 25, 13, 14, 15, 16, 17, 18, 19, 20, 21, 22, 23], ([0, 1, 2, 3, 4, 5, 6, 7, 8, 9, 10, 11, 12, 15, 16, 17, 18, 19, 20, 21, 22, 23, 24, 25] : List Nat).filterMap (fun i => (z_wH X d h)[i]?), rfl, rfl, rfl, by decide, rfl, rfl⟩
set_option maxRecDepth 20000 in
theorem s_H_R1 (X : z_X) (d : Nat → Nat) (h : z_H) : z_S (z_wH X d h) (z_wR X (d 1) (d 2) (h.2.1 0)) := ⟨[1, 2], rfl, rfl⟩
set_option maxRecDepth 20000 in
theorem f_H_R1 (X : z_X) (d : Nat → Nat) (h : z_H) (q : (Nat → Int32)) : z_F (z_wH X d h) (z_wR X (d 1) (d 2) (h.2.1 0)) (z_wH X d (z_hR h 0 q)) (z_wR X (d 1) (d 2) q) := ⟨[1, 2], [0, 3, 4, 5, 6, 7, 8, 9, 10, 11, 12, 13, 14, 15, 16, 17, 18, 19, 20, 21, 22, 23, 24, 25], [0, 24, 25, 1, 2, 3, 4, 5, 6, 7, 8, 9, 10, 11, 12, 13, 14, 15, 16, 17, 18, 19, 20, 21, 22, 23], ([0, 3, 4, 5, 6, 7, 8, 9, 10, 11, 12, 13, 14, 15, 16, 17, 18, 19, 20, 21, 22, 23, 24, 25] : List Nat).filterMap (fun i => (z_wH X d h)[i]?), rfl, rfl, rfl, by decide, rfl, rfl⟩
set_option maxRecDepth 20000 in
theorem s_H_R11 (X : z_X) (d : Nat → Nat) (h : z_H) : z_S (z_wH X d h) (z_wR X (d 11) (d 12) (h.2.1 5)) := ⟨[11, 12], rfl, rfl⟩
set_option maxRecDepth 20000 in
theorem f_H_R11 (X : z_X) (d : Nat → Nat) (h : z_H) (q : (Nat → Int32)) : z_F (z_wH X d h) (z_wR X (d 11) (d 12) (h.2.1 5)) (z_wH X d (z_hR h 5 q)) (z_wR X (d 11) (d 12) q) := ⟨[11, 12], [0, 1, 2, 3, 4, 5, 6, 7, 8, 9, 10, 13, 14, 15, 16, 17, 18, 19, 20, 21, 22, 23, 24, 25], [0, 1, 2, 3, 4, 5, 6, 7, 8, 9, 10, 24, 25, 11, 12, 13, 14, 15, 16, 17, 18, 19, 20, 21, 22, 23], ([0, 1, 2, 3, 4, 5, 6, 7, 8, 9, 10, 13, 14, 15, 16, 17, 18, 19, 20, 21, 22, 23, 24, 25] : List Nat).filterMap (fun i => (z_wH X d h)[i]?), rfl, rfl, rfl, by decide, rfl, rfl⟩
set_option maxRecDepth 20000 in
theorem s_H_R18 (X : z_X) (d : Nat → Nat) (h : z_H) : z_S (z_wH X d h) (z_wR X (d 18) (d 19) (h.2.2.2.2 1)) := ⟨[18, 19], rfl, rfl⟩
set_option maxRecDepth 20000 in
theorem f_H_R18 (X : z_X) (d : Nat → Nat) (h : z_H) (q : (Nat → Int32)) : z_F (z_wH X d h) (z_wR X (d 18) (d 19) (h.2.2.2.2 1)) (z_wH X d (z_hG h (z_gR h.2.2.2 1 q))) (z_wR X (d 18) (d 19) q) := ⟨[18, 19], [0, 1, 2, 3, 4, 5, 6, 7, 8, 9, 10, 11, 12, 13, 14, 15, 16, 17, 20, 21, 22, 23, 24, 25], [0, 1, 2, 3, 4, 5, 6, 7, 8, 9, 10, 11, 12, 13, 14, 15, 16, 17, 24, 25, 18, 19, 20, 21, 22, 23], ([0, 1, 2, 3, 4, 5, 6, 7, 8, 9, 10, 11, 12, 13, 14, 15, 16, 17, 20, 21, 22, 23, 24, 25] : List Nat).filterMap (fun i => (z_wH X d h)[i]?), rfl, rfl, rfl, by decide, rfl, rfl⟩
set_option maxRecDepth 20000 in
theorem s_H_R20 (X : z_X) (d : Nat → Nat) (h : z_H) : z_S (z_wH X d h) (z_wR X (d 20) (d 21) (h.2.2.2.2 2)) := ⟨[20, 21], rfl, rfl⟩
set_option maxRecDepth 20000 in
theorem f_H_R20 (X : z_X) (d : Nat → Nat) (h : z_H) (q : (Nat → Int32)) : z_F (z_wH X d h) (z_wR X (d 20) (d 21) (h.2.2.2.2 2)) (z_wH X d (z_hG h (z_gR h.2.2.2 2 q))) (z_wR X (d 20) (d 21) q) := ⟨[20, 21], [0, 1, 2, 3, 4, 5, 6, 7, 8, 9, 10, 11, 12, 13, 14, 15, 16, 17, 18, 19, 22, 23, 24, 25], [0, 1, 2, 3, 4, 5, 6, 7, 8, 9, 10, 11, 12, 13, 14, 15, 16, 17, 18, 19, 24, 25, 20, 21, 22, 23], ([0, 1, 2, 3, 4, 5, 6, 7, 8, 9, 10, 11, 12, 13, 14, 15, 16, 17, 18, 19, 22, 23, 24, 25] : List Nat).filterMap (fun i => (z_wH X d h)[i]?), rfl, rfl, rfl, by decide, rfl, rfl⟩
set_option maxRecDepth 20000 in
theorem s_H_R22 (X : z_X) (d : Nat → Nat) (h : z_H) : z_S (z_wH X d h) (z_wR X (d 22) (d 23) (h.2.2.2.2 3)) := ⟨[22, 23], rfl, rfl⟩
set_option maxRecDepth 20000 in
theorem f_H_R22 (X : z_X) (d : Nat → Nat) (h : z_H) (q : (Nat → Int32)) : z_F (z_wH X d h) (z_wR X (d 22) (d 23) (h.2.2.2.2 3)) (z_wH X d (z_hG h (z_gR h.2.2.2 3 q))) (z_wR X (d 22) (d 23) q) := ⟨[22, 23], [0, 1, 2, 3, 4, 5, 6, 7, 8, 9, 10, 11, 12, 13, 14, 15, 16, 17, 18, 19, 20, 21, 24, 25], [0, 1, 2, 3, 4, 5, 6, 7, 8, 9, 10, 11, 12, 13, 14, 15, 16, 17, 18, 19, 20, 21, 24, 25, 22, 23], ([0, 1, 2, 3, 4, 5, 6, 7, 8, 9, 10, 11, 12, 13, 14, 15, 16, 17, 18, 19, 20, 21, 24, 25] : List Nat).filterMap (fun i => (z_wH X d h)[i]?), rfl, rfl, rfl, by decide, rfl, rfl⟩
set_option maxRecDepth 20000 in
theorem s_H_R24 (X : z_X) (d : Nat → Nat) (h : z_H) : z_S (z_wH X d h) (z_wR X (d 24) (d 25) (h.2.2.2.2 4)) := ⟨[24, 25], rfl, rfl⟩
set_option maxRecDepth 20000 in
theorem f_H_R24 (X : z_X) (d : Nat → Nat) (h : z_H) (q : (Nat → Int32)) : z_F (z_wH X d h) (z_wR X (d 24) (d 25) (h.2.2.2.2 4)) (z_wH X d (z_hG h (z_gR h.2.2.2 4 q))) (z_wR X (d 24) (d 25) q) := ⟨[24, 25], [0, 1, 2, 3, 4, 5, 6, 7, 8, 9, 10, 11, 12, 13, 14, 15, 16, 17, 18, 19, 20, 21, 22, 23], [0, 1, 2, 3, 4, 5, 6, 7, 8, 9, 10, 11, 12, 13, 14, 15, 16, 17, 18, 19, 20, 21, 22, 23, 24, 25], ([0, 1, 2, 3, 4, 5, 6, 7, 8, 9, 10, 11, 12, 13, 14, 15, 16, 17, 18, 19, 20, 21, 22, 23] : List Nat).filterMap (fun i => (z_wH X d h)[i]?), rfl, rfl, rfl, by decide, rfl, rfl⟩
set_option maxRecDepth 20000 in
theorem s_H_R3 (X : z_X) (d : Nat → Nat) (h : z_H) : z_S (z_wH X d h) (z_wR X (d 3) (d 4) (h.2.1 1)) := ⟨[3, 4], rfl, rfl⟩
set_option maxRecDepth 20000 in
theorem f_H_R3 (X : z_X) (d : Nat → Nat) (h : z_H) (q : (Nat → Int32)) : z_F (z_wH X d h) (z_wR X (d 3) (d 4) (h.2.1 1)) (z_wH X d (z_hR h 1 q)) (z_wR X (d 3) (d 4) q) := ⟨[3, 4], [0, 1, 2, 5, 6, 7, 8, 9, 10, 11, 12, 13, 14, 15, 16, 17, 18, 19, 20, 21, 22, 23, 24, 25], [0, 1, 2, 24, 25, 3, 4, 5, 6, 7, 8, 9, 10, 11, 12, 13, 14, 15, 16, 17, 18, 19, 20, 21, 22, 23], ([0, 1, 2, 5, 6, 7, 8, 9, 10, 11, 12, 13, 14, 15, 16, 17, 18, 19, 20, 21, 22, 23, 24, 25] : List Nat).filterMap (fun i => (z_wH X d h)[i]?), rfl, rfl, rfl, by decide, rfl, rfl⟩
set_option maxRecDepth 20000 in
theorem s_H_R5 (X : z_X) (d : Nat → Nat) (h : z_H) : z_S (z_wH X d h) (z_wR X (d 5) (d 6) (h.2.1 2)) := ⟨[5, 6], rfl, rfl⟩
set_option maxRecDepth 20000 in
theorem f_H_R5 (X : z_X) (d : Nat → Nat) (h : z_H) (q : (Nat → Int32)) : z_F (z_wH X d h) (z_wR X (d 5) (d 6) (h.2.1 2)) (z_wH X d (z_hR h 2 q)) (z_wR X (d 5) (d 6) q) := ⟨[5, 6], [0, 1, 2, 3, 4, 7, 8, 9, 10, 11, 12, 13, 14, 15, 16, 17, 18, 19, 20, 21, 22, 23, 24, 25], [0, 1, 2, 3, 4, 24, 25, 5, 6, 7, 8, 9, 10, 11, 12, 13, 14, 15, 16, 17, 18, 19, 20, 21, 22, 23], ([0, 1, 2, 3, 4, 7, 8, 9, 10, 11, 12, 13, 14, 15, 16, 17, 18, 19, 20, 21, 22, 23, 24, 25] : List Nat).filterMap (fun i => (z_wH X d h)[i]?), rfl, rfl, rfl, by decide, rfl, rfl⟩
set_option maxRecDepth 20000 in
theorem s_H_R7 (X : z_X) (d : Nat → Nat) (h : z_H) : z_S (z_wH X d h) (z_wR X (d 7) (d 8) (h.2.1 3)) := ⟨[7, 8], rfl, rfl⟩
set_option maxRecDepth 20000 in
theorem f_H_R7 (X : z_X) (d : Nat → Nat) (h : z_H) (q : (Nat → Int32)) : z_F (z_wH X d h) (z_wR X (d 7) (d 8) (h.2.1 3)) (z_wH X d (z_hR h 3 q)) (z_wR X (d 7) (d 8) q) := ⟨[7, 8], [0, 1, 2, 3, 4, 5, 6, 9, 10, 11, 12, 13, 14, 15, 16, 17, 18, 19, 20, 21, 22, 23, 24, 25], [0, 1, 2, 3, 4, 5, 6, 24, 25, 7, 8, 9, 10, 11, 12, 13, 14, 15, 16, 17, 18, 19, 20, 21, 22, 23], ([0, 1, 2, 3, 4, 5, 6, 9, 10, 11, 12, 13, 14, 15, 16, 17, 18, 19, 20, 21, 22, 23, 24, 25] : List Nat).filterMap (fun i => (z_wH X d h)[i]?), rfl, rfl, rfl, by decide, rfl, rfl⟩
set_option maxRecDepth 20000 in
theorem s_H_R9 (X : z_X) (d : Nat → Nat) (h : z_H) : z_S (z_wH X d h) (z_wR X (d 9) (d 10) (h.2.1 4)) := ⟨[9, 10], rfl, rfl⟩
set_option maxRecDepth 20000 in
theorem f_H_R9 (X : z_X) (d : Nat → Nat) (h : z_H) (q : (Nat → Int32)) : z_F (z_wH X d h) (z_wR X (d 9) (d 10) (h.2.1 4)) (z_wH X d (z_hR h 4 q)) (z_wR X (d 9) (d 10) q) := ⟨[9, 10], [0, 1, 2, 3, 4, 5, 6, 7, 8, 11, 12, 13, 14, 15, 16, 17, 18, 19, 20, 21, 22, 23, 24, 25], [0, 1, 2, 3, 4, 5, 6, 7, 8, 24, 25, 9, 10, 11, 12, 13, 14, 15, 16, 17, 18, 19, 20, 21, 22, 23], ([0, 1, 2, 3, 4, 5, 6, 7, 8, 11, 12, 13, 14, 15, 16, 17, 18, 19, 20, 21, 22, 23, 24, 25] : List Nat).filterMap (fun i => (z_wH X d h)[i]?), rfl, rfl, rfl, by decide, rfl, rfl⟩
theorem hdX2_get : yX2_get.cls = RX2 ∧ yX2_get.cls ≠ "java/lang/invoke/MethodHandle" ∧ yX2_get.cls ≠ "java/lang/invoke/VarHandle" ∧ (parseMethodDescriptor yX2_get.desc).map (fun d => d.parameters.length) = some 1 := by decide +kernel
theorem hdX2_set : yX2_set.cls = RX2 ∧ yX2_set.cls ≠ "java/lang/invoke/MethodHandle" ∧ yX2_set.cls ≠ "java/lang/invoke/VarHandle" ∧ (parseMethodDescriptor yX2_set.desc).map (fun d => d.parameters.length) = some 2 := by decide +kernel
theorem hdX2_copyFrom : yX2_copyFrom.cls = RX2 ∧ yX2_copyFrom.cls ≠ "java/lang/invoke/MethodHandle" ∧ yX2_copyFrom.cls ≠ "java/lang/invoke/VarHandle" ∧ (parseMethodDescriptor yX2_copyFrom.desc).map (fun d => d.parameters.length) = some 1 := by decide +kernel
theorem hdX1_copyFrom : yX1_copyFrom.cls = RX1 ∧ yX1_copyFrom.cls ≠ "java/lang/invoke/MethodHandle" ∧ yX1_copyFrom.cls ≠ "java/lang/invoke/VarHandle" ∧ (parseMethodDescriptor yX1_copyFrom.desc).map (fun d => d.parameters.length) = some 1 := by decide +kernel
theorem hdX3_copyFrom : yX3_copyFrom.cls = RX3 ∧ yX3_copyFrom.cls ≠ "java/lang/invoke/MethodHandle" ∧ yX3_copyFrom.cls ≠ "java/lang/invoke/VarHandle" ∧ (parseMethodDescriptor yX3_copyFrom.desc).map (fun d => d.parameters.length) = some 1 := by decide +kernel
theorem hdX0_copyFrom : yX0_copyFrom.cls = RX0 ∧ yX0_copyFrom.cls ≠ "java/lang/invoke/MethodHandle" ∧ yX0_copyFrom.cls ≠ "java/lang/invoke/VarHandle" ∧ (parseMethodDescriptor yX0_copyFrom.desc).map (fun d => d.parameters.length) = some 1 := by decide +kernel
theorem hdX0_openRoom : yX0_openRoom.cls = RX0 ∧ yX0_openRoom.cls ≠ "java/lang/invoke/MethodHandle" ∧ yX0_openRoom.cls ≠ "java/lang/invoke/VarHandle" ∧ (parseMethodDescriptor yX0_openRoom.desc).map (fun d => d.parameters.length) = some 3 := by decide +kernel
theorem hdX0_isWaiting : yX0_isWaiting.cls = RX0 ∧ yX0_isWaiting.cls ≠ "java/lang/invoke/MethodHandle" ∧ yX0_isWaiting.cls ≠ "java/lang/invoke/VarHandle" ∧ (parseMethodDescriptor yX0_isWaiting.desc).map (fun d => d.parameters.length) = some 1 := by decide +kernel
theorem hdX0_isAnyoneWaiting : yX0_isAnyoneWaiting.cls = RX0 ∧ yX0_isAnyoneWaiting.cls ≠ "java/lang/invoke/MethodHandle" ∧ yX0_isAnyoneWaiting.cls ≠ "java/lang/invoke/VarHandle" ∧ (parseMethodDescriptor yX0_isAnyoneWaiting.desc).map (fun d => d.parameters.length) = some 0 := by decide +kernel
theorem hdX0_isWireCut : yX0_isWireCut.cls = RX0 ∧ yX0_isWireCut.cls ≠ "java/lang/invoke/MethodHandle" ∧ yX0_isWireCut.cls ≠ "java/lang/invoke/VarHandle" ∧ (parseMethodDescriptor yX0_isWireCut.desc).map (fun d => d.parameters.length) = some 1 := by decide +kernel
theorem hdX0_countCutWires : yX0_countCutWires.cls = RX0 ∧ yX0_countCutWires.cls ≠ "java/lang/invoke/MethodHandle" ∧ yX0_countCutWires.cls ≠ "java/lang/invoke/VarHandle" ∧ (parseMethodDescriptor yX0_countCutWires.desc).map (fun d => d.parameters.length) = some 0 := by decide +kernel
theorem hdX0_swapWires : yX0_swapWires.cls = RX0 ∧ yX0_swapWires.cls ≠ "java/lang/invoke/MethodHandle" ∧ yX0_swapWires.cls ≠ "java/lang/invoke/VarHandle" ∧ (parseMethodDescriptor yX0_swapWires.desc).map (fun d => d.parameters.length) = some 2 := by decide +kernel
theorem hdX0_isFirstOfItsCircle : yX0_isFirstOfItsCircle.cls = RX0 ∧ yX0_isFirstOfItsCircle.cls ≠ "java/lang/invoke/MethodHandle" ∧ yX0_isFirstOfItsCircle.cls ≠ "java/lang/invoke/VarHandle" ∧ (parseMethodDescriptor yX0_isFirstOfItsCircle.desc).map (fun d => d.parameters.length) = some 1 := by decide +kernel
theorem hdX0_costFrom : yX0_costFrom.cls ≠ "java/lang/invoke/MethodHandle" ∧ yX0_costFrom.cls ≠ "java/lang/invoke/VarHandle" ∧ (parseMethodDescriptor yX0_costFrom.desc).map (fun d => d.parameters.length) = some 1 := by decide +kernel
theorem hdX1_placeOf : yX1_placeOf.cls = RX1 ∧ yX1_placeOf.cls ≠ "java/lang/invoke/MethodHandle" ∧ yX1_placeOf.cls ≠ "java/lang/invoke/VarHandle" ∧ (parseMethodDescriptor yX1_placeOf.desc).map (fun d => d.parameters.length) = some 1 := by decide +kernel
theorem hdX1_append : yX1_append.cls = RX1 ∧ yX1_append.cls ≠ "java/lang/invoke/MethodHandle" ∧ yX1_append.cls ≠ "java/lang/invoke/VarHandle" ∧ (parseMethodDescriptor yX1_append.desc).map (fun d => d.parameters.length) = some 1 := by decide +kernel
theorem hdX0_pullBell : yX0_pullBell.cls = RX0 ∧ yX0_pullBell.cls ≠ "java/lang/invoke/MethodHandle" ∧ yX0_pullBell.cls ≠ "java/lang/invoke/VarHandle" ∧ (parseMethodDescriptor yX0_pullBell.desc).map (fun d => d.parameters.length) = some 1 := by decide +kernel
theorem hdX0_isMultiple : yX0_isMultiple.cls ≠ "java/lang/invoke/MethodHandle" ∧ yX0_isMultiple.cls ≠ "java/lang/invoke/VarHandle" ∧ (parseMethodDescriptor yX0_isMultiple.desc).map (fun d => d.parameters.length) = some 2 := by decide +kernel
theorem hdX0_letRoomsWait : yX0_letRoomsWait.cls = RX0 ∧ yX0_letRoomsWait.cls ≠ "java/lang/invoke/MethodHandle" ∧ yX0_letRoomsWait.cls ≠ "java/lang/invoke/VarHandle" ∧ (parseMethodDescriptor yX0_letRoomsWait.desc).map (fun d => d.parameters.length) = some 0 := by decide +kernel
theorem hdX3_isIdle : yX3_isIdle.cls = RX3 ∧ yX3_isIdle.cls ≠ "java/lang/invoke/MethodHandle" ∧ yX3_isIdle.cls ≠ "java/lang/invoke/VarHandle" ∧ (parseMethodDescriptor yX3_isIdle.desc).map (fun d => d.parameters.length) = some 1 := by decide +kernel
theorem hdX3_rest : yX3_rest.cls = RX3 ∧ yX3_rest.cls ≠ "java/lang/invoke/MethodHandle" ∧ yX3_rest.cls ≠ "java/lang/invoke/VarHandle" ∧ (parseMethodDescriptor yX3_rest.desc).map (fun d => d.parameters.length) = some 1 := by decide +kernel
theorem hdX0_arrive : yX0_arrive.cls = RX0 ∧ yX0_arrive.cls ≠ "java/lang/invoke/MethodHandle" ∧ yX0_arrive.cls ≠ "java/lang/invoke/VarHandle" ∧ (parseMethodDescriptor yX0_arrive.desc).map (fun d => d.parameters.length) = some 2 := by decide +kernel
theorem hdX0_letServantsMove : yX0_letServantsMove.cls = RX0 ∧ yX0_letServantsMove.cls ≠ "java/lang/invoke/MethodHandle" ∧ yX0_letServantsMove.cls ≠ "java/lang/invoke/VarHandle" ∧ (parseMethodDescriptor yX0_letServantsMove.desc).map (fun d => d.parameters.length) = some 0 := by decide +kernel
theorem hdX1_first : yX1_first.cls = RX1 ∧ yX1_first.cls ≠ "java/lang/invoke/MethodHandle" ∧ yX1_first.cls ≠ "java/lang/invoke/VarHandle" ∧ (parseMethodDescriptor yX1_first.desc).map (fun d => d.parameters.length) = some 0 := by decide +kernel
theorem hdX3_minutesOfWay : yX3_minutesOfWay.cls ≠ "java/lang/invoke/MethodHandle" ∧ yX3_minutesOfWay.cls ≠ "java/lang/invoke/VarHandle" ∧ (parseMethodDescriptor yX3_minutesOfWay.desc).map (fun d => d.parameters.length) = some 3 := by decide +kernel
theorem hdX3_nearestTo : yX3_nearestTo.cls = RX3 ∧ yX3_nearestTo.cls ≠ "java/lang/invoke/MethodHandle" ∧ yX3_nearestTo.cls ≠ "java/lang/invoke/VarHandle" ∧ (parseMethodDescriptor yX3_nearestTo.desc).map (fun d => d.parameters.length) = some 1 := by decide +kernel
theorem hdX1_remove : yX1_remove.cls = RX1 ∧ yX1_remove.cls ≠ "java/lang/invoke/MethodHandle" ∧ yX1_remove.cls ≠ "java/lang/invoke/VarHandle" ∧ (parseMethodDescriptor yX1_remove.desc).map (fun d => d.parameters.length) = some 1 := by decide +kernel
theorem hdX3_wayToFloor : yX3_wayToFloor.cls = RX3 ∧ yX3_wayToFloor.cls ≠ "java/lang/invoke/MethodHandle" ∧ yX3_wayToFloor.cls ≠ "java/lang/invoke/VarHandle" ∧ (parseMethodDescriptor yX3_wayToFloor.desc).map (fun d => d.parameters.length) = some 2 := by decide +kernel
theorem hdX0_sendIdleServants : yX0_sendIdleServants.cls = RX0 ∧ yX0_sendIdleServants.cls ≠ "java/lang/invoke/MethodHandle" ∧ yX0_sendIdleServants.cls ≠ "java/lang/invoke/VarHandle" ∧ (parseMethodDescriptor yX0_sendIdleServants.desc).map (fun d => d.parameters.length) = some 0 := by decide +kernel
theorem hdX0_letMinuteGoBy : yX0_letMinuteGoBy.cls = RX0 ∧ yX0_letMinuteGoBy.cls ≠ "java/lang/invoke/MethodHandle" ∧ yX0_letMinuteGoBy.cls ≠ "java/lang/invoke/VarHandle" ∧ (parseMethodDescriptor yX0_letMinuteGoBy.desc).map (fun d => d.parameters.length) = some 0 := by decide +kernel
theorem hdX3_hire : yX3_hire.cls = RX3 ∧ yX3_hire.cls ≠ "java/lang/invoke/MethodHandle" ∧ yX3_hire.cls ≠ "java/lang/invoke/VarHandle" ∧ (parseMethodDescriptor yX3_hire.desc).map (fun d => d.parameters.length) = some 1 := by decide +kernel
theorem hdX3_isServing : yX3_isServing.cls = RX3 ∧ yX3_isServing.cls ≠ "java/lang/invoke/MethodHandle" ∧ yX3_isServing.cls ≠ "java/lang/invoke/VarHandle" ∧ (parseMethodDescriptor yX3_isServing.desc).map (fun d => d.parameters.length) = some 1 := by decide +kernel
theorem z_in12 {i : Int32} (h1 : ¬ i < 0) (h2 : ¬ 12 ≤ i) : vp_in i 12 := by
  rw [vp_in_iff]
  have a : ¬ i.toInt < (0 : Int32).toInt := fun h => h1 (Int32.lt_iff_toInt_lt.mpr h)
  have b : ¬ (12 : Int32).toInt ≤ i.toInt := fun h => h2 (Int32.le_iff_toInt_le.mpr h)
  have c : (0 : Int32).toInt = 0 := by decide
  have d : (12 : Int32).toInt = 12 := by decide
  rw [c] at a; rw [d] at b
  omega
-- a row: read and written behind a look at the place
set_option maxHeartbeats 4000000 in
set_option maxRecDepth 100000 in
theorem m_X2_get (l : Launch) (X : z_X) (a b : Nat) (f : Nat → Int32) (v1 : Int32) : z_pI l yX2_get wsX2_get 0 0 X [.ref a, .int v1] (z_wR X a b f) (z_rg f v1) := by
  refine Met.ofW (cc := cX2_get) (maxL := 2) (ret := (some .int)) (by decide) rfl ?_
  intro p e s m args below meth c s₁ B hml hv
  obtain ⟨rfl, hP, hK, hN⟩ := hv
  have hx := B.exec
  have hb := B.bytes
  have hr := B.returns
  have hts := atoms_spec (ws := wsX2_get) B.pre
  have hown : s.vm.findClass RX2 = some m.cls := findClass_of_methodNamed B.named
  have hlocks := B.notSynchronized
  have S : CallFix p m c cX2_get 2 s _ wsX2_get RX2 := ⟨hx, hb, hml, hown, hts⟩
  have lk_fi9 := hts (.fieldLink RX2 9 "HouseBells$Row" "cells" "[I") (List.mem_of_getElem? (i := 1) rfl)
  have in_X2 : ∀ w ∈ wsX20, w ∈ wsX2_get := fun _ h => (List.mem_cons_of_mem _ (List.mem_append_right _ h))
  have hl := lv_entry ([.ref a, .int v1]) (n := 2) (Nat.le_of_ble_eq_true rfl)
  rw [lg_entry_eq]
  generalize (lg_sl ([.ref a, .int v1]) ++ List.replicate (2 - (lg_sl ([.ref a, .int v1])).length) Slot.unset).toArray = ls at hl ⊢
  have hl : lv_has ls 2 [(0, .ref a), (1, .int v1)] := hl
  refine lv_iload_n (pc := 0) hx hb dX2_get_0 rfl (lv_at hl 1 rfl) ?_
  refine lv_if_lt (pc := 1) (tgt := 22) hx hb dX2_get_1 (by decide) (fun c_1 => ?_) (fun c_1 => ?_)
  · refine lv_iconst (v := 0) (pc := 22) hx hb dX2_get_22 (by decide) ?_
    exact W.iret (pc := 23) (v := 0) hx hb hr (fun t ht hW => ⟨_, rfl, (if_pos c_1).symm, ht⟩) (fun _ h => nomatch h) dX2_get_23
  · refine lv_iload_n (pc := 4) hx hb dX2_get_4 rfl (lv_at hl 1 rfl) ?_
    refine lv_aload_n (pc := 5) hx hb dX2_get_5 rfl (lv_at hl 0 rfl) ?_
    refine va_get (pc := 6) (ci := 2) (C := RX2) (T := TX2) (N := 1) hx hb hts in_X2 hown hK hP 0 rfl rfl 0 (by decide) lk_fi9 (fun _ h9 => h9) rfl dX2_get_6 ?_
    refine va_alen (v := 12) (pc := 9) hx hb hK hP 1 0 rfl rfl rfl dX2_get_9 ?_
    refine lv_icmp_ge (pc := 10) (tgt := 22) hx hb dX2_get_10 (by decide) (fun c_10 => ?_) (fun c_10 => ?_)
    · refine lv_iconst (v := 0) (pc := 22) hx hb dX2_get_22 (by decide) ?_
      exact W.iret (pc := 23) (v := 0) hx hb hr (fun t ht hW => ⟨_, rfl, (show (0 : Int32) = z_rg f v1 by unfold z_rg; rw [if_neg c_1, if_pos c_10]), ht⟩) (fun _ h => nomatch h) dX2_get_23
    · refine lv_aload_n (pc := 13) hx hb dX2_get_13 rfl (lv_at hl 0 rfl) ?_
      refine va_get (pc := 14) (ci := 2) (C := RX2) (T := TX2) (N := 1) hx hb hts in_X2 hown hK hP 0 rfl rfl 0 (by decide) lk_fi9 (fun _ h9 => h9) rfl dX2_get_14 ?_
      refine lv_iload_n (pc := 17) hx hb dX2_get_17 rfl (lv_at hl 1 rfl) ?_
      refine va_iald (pc := 18) hx hb hK hP 1 0 rfl rfl (z_in12 c_1 c_10) dX2_get_18 ?_
      refine lv_goto (pc := 19) (tgt := 23) hx hb dX2_get_19 (by decide) ?_
      exact W.iret (pc := 23) hx hb hr (fun t ht hW => ⟨_, rfl, (show f v1.toNatClampNeg = z_rg f v1 by unfold z_rg; rw [if_neg c_1, if_neg c_10]), ht⟩) (fun _ h => nomatch h) dX2_get_23
set_option maxHeartbeats 4000000 in
set_option maxRecDepth 100000 in
theorem m_X2_set (l : Launch) (X : z_X) (a b : Nat) (f : Nat → Int32) (v1 v2 : Int32) : z_mV l yX2_set wsX2_set 0 0 X [.ref a, .int v1, .int v2] (z_wR X a b f) (z_wR X a b (z_rs f v1 v2)) := by
  intro sz
  refine Met.ofW (cc := cX2_set) (maxL := 3) (ret := none) (by decide) rfl ?_
  intro p e s m args below meth c s₁ B hml hv
  obtain ⟨rfl, hsz, hP, hK, hN, hD0⟩ := hv
  have hx := B.exec
  have hb := B.bytes
  have hr := B.returns
  have hts := atoms_spec (ws := wsX2_set) B.pre
  have hown : s.vm.findClass RX2 = some m.cls := findClass_of_methodNamed B.named
  have hlocks := B.notSynchronized
  have S : CallFix p m c cX2_set 3 s _ wsX2_set RX2 := ⟨hx, hb, hml, hown, hts⟩
  have lk_fi9 := hts (.fieldLink RX2 9 "HouseBells$Row" "cells" "[I") (List.mem_of_getElem? (i := 1) rfl)
  have in_X2 : ∀ w ∈ wsX20, w ∈ wsX2_set := fun _ h => (List.mem_cons_of_mem _ (List.mem_append_right _ h))
  subst hsz
  have hD := hD0.self (sz := s.heap.size)
  generalize hAe : va_A (z_wR X a b f) s.heap.size = A at hD ⊢
  have hA : ∀ q : Nat, s.heap.size ≤ q → A q := fun q h => by rw [← hAe]; exact Or.inr h
  have hS : va_S A s.heap s.heap [] := va_S.rf
  have hl := lv_entry ([.ref a, .int v1, .int v2]) (n := 3) (Nat.le_of_ble_eq_true rfl)
  rw [lg_entry_eq]
  generalize (lg_sl ([.ref a, .int v1, .int v2]) ++ List.replicate (3 - (lg_sl ([.ref a, .int v1, .int v2])).length) Slot.unset).toArray = ls at hl ⊢
  have hl : lv_has ls 3 [(0, .ref a), (1, .int v1), (2, .int v2)] := hl
  suffices hgo : ∀ (H : Heap) (locs : List Loc), va_P X.1 vwCl (z_wR X a b f) H → va_D A (z_wR X a b f) → va_S A s.heap H locs → W p l e (headSpec wsX2_set (z_R 0 0)).room s m ([.ref a, .int v1, .int v2] : List Value).toArray below meth c H locs 0 0 (MQ below (va_Qv (fun u : va_W => u = (z_wR X a b (z_rs f v1 v2))) (z_Bm X A) A) ([.ref a, .int v1, .int v2] : List Value).toArray s 0 0 A) (F0 m 0 ls []) from hgo _ _ hP hD hS
  clear hP hD hS
  intro H locs hP hD hS
  refine lv_iload_n (pc := 0) hx hb dX2_set_0 rfl (lv_at hl 1 rfl) ?_
  refine lv_if_lt (pc := 1) (tgt := 20) hx hb dX2_set_1 (by decide) (fun c_1 => ?_) (fun c_1 => ?_)
  · exact W.vret (pc := 20) hx hb hr (fun t ht hW => ⟨⟨(z_wR X a b f), rfl, by unfold z_rs; rw [if_pos c_1], by rw [ht]; exact hP, hD⟩, hS.F ht⟩) hS.2.2 dX2_set_20
  · refine lv_iload_n (pc := 4) hx hb dX2_set_4 rfl (lv_at hl 1 rfl) ?_
    refine lv_aload_n (pc := 5) hx hb dX2_set_5 rfl (lv_at hl 0 rfl) ?_
    refine va_get (pc := 6) (ci := 2) (C := RX2) (T := TX2) (N := 1) hx hb hts in_X2 hown hK hP 0 rfl rfl 0 (by decide) lk_fi9 (fun _ h9 => h9) rfl dX2_set_6 ?_
    refine va_alen (v := 12) (pc := 9) hx hb hK hP 1 0 rfl rfl rfl dX2_set_9 ?_
    refine lv_icmp_ge (pc := 10) (tgt := 20) hx hb dX2_set_10 (by decide) (fun c_10 => ?_) (fun c_10 => ?_)
    · exact W.vret (pc := 20) hx hb hr (fun t ht hW => ⟨⟨(z_wR X a b f), rfl, by unfold z_rs; rw [if_neg c_1, if_pos c_10], by rw [ht]; exact hP, hD⟩, hS.F ht⟩) hS.2.2 dX2_set_20
    · refine lv_aload_n (pc := 13) hx hb dX2_set_13 rfl (lv_at hl 0 rfl) ?_
      refine va_get (pc := 14) (ci := 2) (C := RX2) (T := TX2) (N := 1) hx hb hts in_X2 hown hK hP 0 rfl rfl 0 (by decide) lk_fi9 (fun _ h9 => h9) rfl dX2_set_14 ?_
      refine lv_iload_n (pc := 17) hx hb dX2_set_17 rfl (lv_at hl 1 rfl) ?_
      refine lv_iload_n (pc := 18) hx hb dX2_set_18 rfl (lv_at hl 2 rfl) ?_
      refine va_iast (pc := 19) hx hb hK hP hD hS 1 0 rfl rfl (z_in12 c_1 c_10) dX2_set_19 (fun H locs hP hD hS => ?_)
      have hP : va_P X.1 vwCl (z_wR X a b (upd f v1.toNatClampNeg v2)) H := hP
      have hD : va_D A (z_wR X a b (upd f v1.toNatClampNeg v2)) := hD
      exact W.vret (pc := 20) hx hb hr (fun t ht hW => ⟨⟨(z_wR X a b (upd f v1.toNatClampNeg v2)), rfl, by unfold z_rs; rw [if_neg c_1, if_neg c_10], by rw [ht]; exact hP, hD⟩, hS.F ht⟩) hS.2.2 dX2_set_20
end
section
def f_X2_copyFrom_L2 (f2 : (Nat → Int32)) : Nat → Int32 → (Nat → Int32) → Option (Nat → Int32)
  | 0, _, _ => none
  | n + 1, u2, f => (if 12 ≤ u2 then some f else (if 12 ≤ u2 then some f else (z_at f2 u2 12).bind (fun x30 => (z_wr f u2 12 x30).bind (fun x31 => f_X2_copyFrom_L2 f2 n (u2 + 1) x31))))
def f_X2_copyFrom (f : (Nat → Int32)) (f2 : (Nat → Int32)) : Option (Nat → Int32) := (f_X2_copyFrom_L2 f2 z_FU 0 f).bind (fun x2 => some x2)
set_option maxHeartbeats 4000000 in
set_option maxRecDepth 100000 in
theorem m_X2_copyFrom (l : Launch) (X : z_X) (a b a2 b2 : Nat) (f : (Nat → Int32)) (f2 : (Nat → Int32)) {RR : (Nat → Int32)} (hf : f_X2_copyFrom f f2 = some RR) : z_mV l yX2_copyFrom wsX2_copyFrom 0 0 X [.ref a, .ref a2] (z_wRR X a b f a2 b2 f2) (z_wRR X a b RR a2 b2 f2) := by
  intro sz
  refine Met.ofW (cc := cX2_copyFrom) (maxL := 3) (ret := none) (by decide) rfl ?_
  intro p e s m args below meth c s₁ B hml hv
  obtain ⟨rfl, hsz, hP, hK, hN, hD0⟩ := hv
  have hx := B.exec
  have hb := B.bytes
  have hr := B.returns
  have hts := atoms_spec (ws := wsX2_copyFrom) B.pre
  have hown : s.vm.findClass RX2 = some m.cls := findClass_of_methodNamed B.named
  have hlocks := B.notSynchronized
  have S : CallFix p m c cX2_copyFrom 3 s _ wsX2_copyFrom RX2 := ⟨hx, hb, hml, hown, hts⟩
  have lk_fi9 := hts (.fieldLink RX2 9 "HouseBells$Row" "cells" "[I") (List.mem_of_getElem? (i := 1) rfl)
  have in_X2 : ∀ w ∈ wsX20, w ∈ wsX2_copyFrom := fun _ h => (List.mem_cons_of_mem _ (List.mem_append_right _ h))
  subst hsz
  have hD := hD0.self (sz := s.heap.size)
  generalize hAe : va_A (z_wRR X a b f a2 b2 f2) s.heap.size = A at hD ⊢
  have hA : ∀ q : Nat, s.heap.size ≤ q → A q := fun q h => by rw [← hAe]; exact Or.inr h
  have hS : va_S A s.heap s.heap [] := va_S.rf
  have hl := lv_entry ([.ref a, .ref a2]) (n := 3) (Nat.le_of_ble_eq_true rfl)
  rw [lg_entry_eq]
  generalize (lg_sl ([.ref a, .ref a2]) ++ List.replicate (3 - (lg_sl ([.ref a, .ref a2])).length) Slot.unset).toArray = ls at hl ⊢
  have hl : lv_has ls 3 [(0, .ref a), (1, .ref a2)] := hl
  have lp_2 : ∀ (n : Nat) (u2 : Int32) (f : (Nat → Int32)) (T : (Nat → Int32)) (H : Heap) (locs : List Loc), va_P X.1 vwCl (z_wRR X a b f a2 b2 f2) H → va_D A (z_wRR X a b f a2 b2 f2) → va_S A s.heap H locs → ∀ (ls : Array Slot), lv_has ls 3 [(0, .ref a), (1, .ref a2), (2, .int u2)] → f_X2_copyFrom_L2 f2 n u2 f = some T → (∀ (H : Heap) (locs : List Loc), va_P X.1 vwCl (z_wRR X a b T a2 b2 f2) H → va_D A (z_wRR X a b T a2 b2 f2) → va_S A s.heap H locs → ∀ (ls : Array Slot), lv_has ls 3 [] → W p l e (headSpec wsX2_copyFrom (z_R 0 0)).room s m ([.ref a, .ref a2] : List Value).toArray below meth c H locs 0 0 (MQ below (va_Qv (fun u : va_W => u = (z_wRR X a b RR a2 b2 f2)) (z_Bm X A) A) ([.ref a, .ref a2] : List Value).toArray s 0 0 A) (F0 m 38 ls [])) → W p l e (headSpec wsX2_copyFrom (z_R 0 0)).room s m ([.ref a, .ref a2] : List Value).toArray below meth c H locs 0 0 (MQ below (va_Qv (fun u : va_W => u = (z_wRR X a b RR a2 b2 f2)) (z_Bm X A) A) ([.ref a, .ref a2] : List Value).toArray s 0 0 A) (F0 m 2 ls []) := by
    intro n
    induction n with
    | zero =>
      intro u2 f T H locs hP hD hS ls hl hf kk
      cases hf
    | succ n ih =>
      intro u2 f T H locs hP hD hS ls hl hf kk
      rw [f_X2_copyFrom_L2] at hf
      refine lv_iload_n (pc := 2) hx hb dX2_copyFrom_2 rfl (lv_at hl 2 rfl) ?_
      refine lv_aload_n (pc := 3) hx hb dX2_copyFrom_3 rfl (lv_at hl 0 rfl) ?_
      refine va_get (pc := 4) (ci := 2) (C := RX2) (T := TX2) (N := 1) hx hb hts in_X2 hown hK hP 0 rfl rfl 0 (by decide) lk_fi9 (fun _ h9 => h9) rfl dX2_copyFrom_4 ?_
      refine va_alen (v := 12) (pc := 7) hx hb hK hP 1 0 rfl rfl rfl dX2_copyFrom_7 ?_
      refine lv_icmp_ge (pc := 8) (tgt := 38) hx hb dX2_copyFrom_8 (by decide) (fun c_8 => ?_) (fun c_8 => ?_)
      · replace hf := z_ip c_8 hf
        obtain rfl := Option.some.inj hf
        exact kk H locs hP hD hS ls (lv_sub hl [] rfl)
      · replace hf := z_in c_8 hf
        refine lv_iload_n (pc := 11) hx hb dX2_copyFrom_11 rfl (lv_at hl 2 rfl) ?_
        refine lv_aload_n (pc := 12) hx hb dX2_copyFrom_12 rfl (lv_at hl 1 rfl) ?_
        refine va_get (pc := 13) (ci := 2) (C := RX2) (T := TX2) (N := 1) hx hb hts in_X2 hown hK hP 2 rfl rfl 0 (by decide) lk_fi9 (fun _ h9 => h9) rfl dX2_copyFrom_13 ?_
        refine va_alen (v := 12) (pc := 16) hx hb hK hP 3 0 rfl rfl rfl dX2_copyFrom_16 ?_
        refine lv_icmp_ge (pc := 17) (tgt := 38) hx hb dX2_copyFrom_17 (by decide) (fun c_17 => ?_) (fun c_17 => ?_)
        · replace hf := z_ip c_17 hf
          obtain rfl := Option.some.inj hf
          exact kk H locs hP hD hS ls (lv_sub hl [] rfl)
        · replace hf := z_in c_17 hf
          refine lv_aload_n (pc := 20) hx hb dX2_copyFrom_20 rfl (lv_at hl 0 rfl) ?_
          refine va_get (pc := 21) (ci := 2) (C := RX2) (T := TX2) (N := 1) hx hb hts in_X2 hown hK hP 0 rfl rfl 0 (by decide) lk_fi9 (fun _ h9 => h9) rfl dX2_copyFrom_21 ?_
          refine lv_iload_n (pc := 24) hx hb dX2_copyFrom_24 rfl (lv_at hl 2 rfl) ?_
          refine lv_aload_n (pc := 25) hx hb dX2_copyFrom_25 rfl (lv_at hl 1 rfl) ?_
          refine va_get (pc := 26) (ci := 2) (C := RX2) (T := TX2) (N := 1) hx hb hts in_X2 hown hK hP 2 rfl rfl 0 (by decide) lk_fi9 (fun _ h9 => h9) rfl dX2_copyFrom_26 ?_
          refine lv_iload_n (pc := 29) hx hb dX2_copyFrom_29 rfl (lv_at hl 2 rfl) ?_
          obtain ⟨x30, e30, hf⟩ := z_bd hf
          refine z_iald (pc := 30) hx hb hK hP 3 0 rfl rfl e30 dX2_copyFrom_30 ?_
          obtain ⟨x31, e31, hf⟩ := z_bd hf
          refine z_iast (pc := 31) (W1 := (z_wRR X a b x31 a2 b2 f2)) hx hb hK hP hD hS 1 0 rfl rfl e31 rfl dX2_copyFrom_31 (fun H locs hP hD hS => ?_)
          refine lv_iinc (pc := 32) (v := (u2 + 1)) (lv' := [(2, .int (u2 + 1)), (0, .ref a), (1, .ref a2)]) hx hb dX2_copyFrom_32 hl (k := 2) rfl rfl (by decide) rfl (fun ls hl => ?_)
          refine lv_goto (pc := 35) (tgt := 2) hx hb dX2_copyFrom_35 (by decide) ?_
          exact ih (u2 + 1) x31 T H locs hP hD hS ls (lv_sub hl [1, 2, 0] rfl) hf kk
  suffices hgo : ∀ (H : Heap) (locs : List Loc), va_P X.1 vwCl (z_wRR X a b f a2 b2 f2) H → va_D A (z_wRR X a b f a2 b2 f2) → va_S A s.heap H locs → W p l e (headSpec wsX2_copyFrom (z_R 0 0)).room s m ([.ref a, .ref a2] : List Value).toArray below meth c H locs 0 0 (MQ below (va_Qv (fun u : va_W => u = (z_wRR X a b RR a2 b2 f2)) (z_Bm X A) A) ([.ref a, .ref a2] : List Value).toArray s 0 0 A) (F0 m 0 ls []) from hgo _ _ hP hD hS
  clear hP hD hS
  intro H locs hP hD hS
  unfold f_X2_copyFrom at hf
  refine lv_iconst (v := 0) (pc := 0) hx hb dX2_copyFrom_0 (by decide) ?_
  refine lv_istore_n (pc := 1) (lv' := [(2, .int 0), (0, .ref a), (1, .ref a2)]) hx hb dX2_copyFrom_1 rfl hl (by decide) rfl (fun ls hl => ?_)
  obtain ⟨x2, e2, hf⟩ := z_bd hf
  refine lp_2 z_FU 0 f x2 H locs hP hD hS ls (lv_sub hl [1, 2, 0] rfl) e2 (fun H locs hP hD hS ls hl => ?_)
  exact W.vret (pc := 38) hx hb hr (fun t ht hW => ⟨⟨(z_wRR X a b x2 a2 b2 f2), rfl, congrArg (fun z => (z_wRR X a b z a2 b2 f2)) (Option.some.inj hf), by rw [ht]; exact hP, hD⟩, hS.F ht⟩) hS.2.2 dX2_copyFrom_38
def f_X1_copyFrom_L10 (L2 : z_L) : Nat → Int32 → z_L → Option z_L
  | 0, _, _ => none
  | n + 1, u2, L => (if 12 ≤ u2 then some L else (if 12 ≤ u2 then some L else (z_at L2.2 u2 12).bind (fun x38 => (z_wr L.2 u2 12 x38).bind (fun x39 => f_X1_copyFrom_L10 L2 n (u2 + 1) (z_lD L x39)))))
def f_X1_copyFrom (L : z_L) (L2 : z_L) : Option z_L := (f_X1_copyFrom_L10 L2 z_FU 0 (z_lC L L2.1)).bind (fun x10 => some x10)
set_option maxHeartbeats 4000000 in
set_option maxRecDepth 100000 in
theorem m_X1_copyFrom (l : Launch) (X : z_X) (d d2 : Nat → Nat) (L : z_L) (L2 : z_L) {RR : z_L} (hf : f_X1_copyFrom L L2 = some RR) : z_mV l yX1_copyFrom wsX1_copyFrom 0 0 X [.ref (d 13), .ref (d2 13)] (z_wLL X d L d2 L2) (z_wLL X d RR d2 L2) := by
  intro sz
  refine Met.ofW (cc := cX1_copyFrom) (maxL := 3) (ret := none) (by decide) rfl ?_
  intro p e s m args below meth c s₁ B hml hv
  obtain ⟨rfl, hsz, hP, hK, hN, hD0⟩ := hv
  have hx := B.exec
  have hb := B.bytes
  have hr := B.returns
  have hts := atoms_spec (ws := wsX1_copyFrom) B.pre
  have hown : s.vm.findClass RX1 = some m.cls := findClass_of_methodNamed B.named
  have hlocks := B.notSynchronized
  have S : CallFix p m c cX1_copyFrom 3 s _ wsX1_copyFrom RX1 := ⟨hx, hb, hml, hown, hts⟩
  have lk_fi15 := hts (.fieldLink RX1 15 "HouseBells$Line" "count" "I") (List.mem_of_getElem? (i := 1) rfl)
  have lk_fi9 := hts (.fieldLink RX1 9 "HouseBells$Line" "drops" "[I") (List.mem_of_getElem? (i := 2) rfl)
  have in_X1 : ∀ w ∈ wsX10, w ∈ wsX1_copyFrom := fun _ h => (List.mem_cons_of_mem _ (List.mem_append_right _ h))
  subst hsz
  have hD := hD0.self (sz := s.heap.size)
  generalize hAe : va_A (z_wLL X d L d2 L2) s.heap.size = A at hD ⊢
  have hA : ∀ q : Nat, s.heap.size ≤ q → A q := fun q h => by rw [← hAe]; exact Or.inr h
  have hS : va_S A s.heap s.heap [] := va_S.rf
  have hl := lv_entry ([.ref (d 13), .ref (d2 13)]) (n := 3) (Nat.le_of_ble_eq_true rfl)
  rw [lg_entry_eq]
  generalize (lg_sl ([.ref (d 13), .ref (d2 13)]) ++ List.replicate (3 - (lg_sl ([.ref (d 13), .ref (d2 13)])).length) Slot.unset).toArray = ls at hl ⊢
  have hl : lv_has ls 3 [(0, .ref (d 13)), (1, .ref (d2 13))] := hl
  have lp_10 : ∀ (n : Nat) (u2 : Int32) (L : z_L) (T : z_L) (H : Heap) (locs : List Loc), va_P X.1 vwCl (z_wLL X d L d2 L2) H → va_D A (z_wLL X d L d2 L2) → va_S A s.heap H locs → ∀ (ls : Array Slot), lv_has ls 3 [(0, .ref (d 13)), (1, .ref (d2 13)), (2, .int u2)] → f_X1_copyFrom_L10 L2 n u2 L = some T → (∀ (H : Heap) (locs : List Loc), va_P X.1 vwCl (z_wLL X d T d2 L2) H → va_D A (z_wLL X d T d2 L2) → va_S A s.heap H locs → ∀ (ls : Array Slot), lv_has ls 3 [] → W p l e (headSpec wsX1_copyFrom (z_R 0 0)).room s m ([.ref (d 13), .ref (d2 13)] : List Value).toArray below meth c H locs 0 0 (MQ below (va_Qv (fun u : va_W => u = (z_wLL X d RR d2 L2)) (z_Bm X A) A) ([.ref (d 13), .ref (d2 13)] : List Value).toArray s 0 0 A) (F0 m 46 ls [])) → W p l e (headSpec wsX1_copyFrom (z_R 0 0)).room s m ([.ref (d 13), .ref (d2 13)] : List Value).toArray below meth c H locs 0 0 (MQ below (va_Qv (fun u : va_W => u = (z_wLL X d RR d2 L2)) (z_Bm X A) A) ([.ref (d 13), .ref (d2 13)] : List Value).toArray s 0 0 A) (F0 m 10 ls []) := by
    intro n
    induction n with
    | zero =>
      intro u2 L T H locs hP hD hS ls hl hf kk
      cases hf
    | succ n ih =>
      intro u2 L T H locs hP hD hS ls hl hf kk
      rw [f_X1_copyFrom_L10] at hf
      refine lv_iload_n (pc := 10) hx hb dX1_copyFrom_10 rfl (lv_at hl 2 rfl) ?_
      refine lv_aload_n (pc := 11) hx hb dX1_copyFrom_11 rfl (lv_at hl 0 rfl) ?_
      refine va_get (pc := 12) (ci := 1) (C := RX1) (T := TX1) (N := 2) hx hb hts in_X1 hown hK hP 0 rfl rfl 1 (by decide) lk_fi9 (fun _ h9 => h9) rfl dX1_copyFrom_12 ?_
      refine va_alen (v := 12) (pc := 15) hx hb hK hP 1 0 rfl rfl rfl dX1_copyFrom_15 ?_
      refine lv_icmp_ge (pc := 16) (tgt := 46) hx hb dX1_copyFrom_16 (by decide) (fun c_16 => ?_) (fun c_16 => ?_)
      · replace hf := z_ip c_16 hf
        obtain rfl := Option.some.inj hf
        exact kk H locs hP hD hS ls (lv_sub hl [] rfl)
      · replace hf := z_in c_16 hf
        refine lv_iload_n (pc := 19) hx hb dX1_copyFrom_19 rfl (lv_at hl 2 rfl) ?_
        refine lv_aload_n (pc := 20) hx hb dX1_copyFrom_20 rfl (lv_at hl 1 rfl) ?_
        refine va_get (pc := 21) (ci := 1) (C := RX1) (T := TX1) (N := 2) hx hb hts in_X1 hown hK hP 2 rfl rfl 1 (by decide) lk_fi9 (fun _ h9 => h9) rfl dX1_copyFrom_21 ?_
        refine va_alen (v := 12) (pc := 24) hx hb hK hP 3 0 rfl rfl rfl dX1_copyFrom_24 ?_
        refine lv_icmp_ge (pc := 25) (tgt := 46) hx hb dX1_copyFrom_25 (by decide) (fun c_25 => ?_) (fun c_25 => ?_)
        · replace hf := z_ip c_25 hf
          obtain rfl := Option.some.inj hf
          exact kk H locs hP hD hS ls (lv_sub hl [] rfl)
        · replace hf := z_in c_25 hf
          refine lv_aload_n (pc := 28) hx hb dX1_copyFrom_28 rfl (lv_at hl 0 rfl) ?_
          refine va_get (pc := 29) (ci := 1) (C := RX1) (T := TX1) (N := 2) hx hb hts in_X1 hown hK hP 0 rfl rfl 1 (by decide) lk_fi9 (fun _ h9 => h9) rfl dX1_copyFrom_29 ?_
          refine lv_iload_n (pc := 32) hx hb dX1_copyFrom_32 rfl (lv_at hl 2 rfl) ?_
          refine lv_aload_n (pc := 33) hx hb dX1_copyFrom_33 rfl (lv_at hl 1 rfl) ?_
          refine va_get (pc := 34) (ci := 1) (C := RX1) (T := TX1) (N := 2) hx hb hts in_X1 hown hK hP 2 rfl rfl 1 (by decide) lk_fi9 (fun _ h9 => h9) rfl dX1_copyFrom_34 ?_
          refine lv_iload_n (pc := 37) hx hb dX1_copyFrom_37 rfl (lv_at hl 2 rfl) ?_
          obtain ⟨x38, e38, hf⟩ := z_bd hf
          refine z_iald (pc := 38) hx hb hK hP 3 0 rfl rfl e38 dX1_copyFrom_38 ?_
          obtain ⟨x39, e39, hf⟩ := z_bd hf
          refine z_iast (pc := 39) (W1 := (z_wLL X d (z_lD L x39) d2 L2)) hx hb hK hP hD hS 1 0 rfl rfl e39 rfl dX1_copyFrom_39 (fun H locs hP hD hS => ?_)
          refine lv_iinc (pc := 40) (v := (u2 + 1)) (lv' := [(2, .int (u2 + 1)), (0, .ref (d 13)), (1, .ref (d2 13))]) hx hb dX1_copyFrom_40 hl (k := 2) rfl rfl (by decide) rfl (fun ls hl => ?_)
          refine lv_goto (pc := 43) (tgt := 10) hx hb dX1_copyFrom_43 (by decide) ?_
          exact ih (u2 + 1) (z_lD L x39) T H locs hP hD hS ls (lv_sub hl [1, 2, 0] rfl) hf kk
  suffices hgo : ∀ (H : Heap) (locs : List Loc), va_P X.1 vwCl (z_wLL X d L d2 L2) H → va_D A (z_wLL X d L d2 L2) → va_S A s.heap H locs → W p l e (headSpec wsX1_copyFrom (z_R 0 0)).room s m ([.ref (d 13), .ref (d2 13)] : List Value).toArray below meth c H locs 0 0 (MQ below (va_Qv (fun u : va_W => u = (z_wLL X d RR d2 L2)) (z_Bm X A) A) ([.ref (d 13), .ref (d2 13)] : List Value).toArray s 0 0 A) (F0 m 0 ls []) from hgo _ _ hP hD hS
  clear hP hD hS
  intro H locs hP hD hS
  unfold f_X1_copyFrom at hf
  refine lv_aload_n (pc := 0) hx hb dX1_copyFrom_0 rfl (lv_at hl 0 rfl) ?_
  refine lv_aload_n (pc := 1) hx hb dX1_copyFrom_1 rfl (lv_at hl 1 rfl) ?_
  refine va_get (pc := 2) (ci := 1) (C := RX1) (T := TX1) (N := 2) hx hb hts in_X1 hown hK hP 2 rfl rfl 0 (by decide) lk_fi15 (fun _ h9 => h9) rfl dX1_copyFrom_2 ?_
  refine z_put (pc := 5) (ci := 1) (C := RX1) (T := TX1) (N := 2) (W1 := (z_wLL X d (z_lC L L2.1) d2 L2)) hx hb hts in_X1 tyX1 tyX1_ok nmX1 hown hK hP hD hS 0 rfl rfl 0 (by decide) lk_fi15 (fun _ h9 => h9) rfl (by decide +kernel) (Nat.le_of_ble_eq_true rfl) dX1_copyFrom_5 rfl (fun H locs hP hD hS => ?_)
  refine lv_iconst (v := 0) (pc := 8) hx hb dX1_copyFrom_8 (by decide) ?_
  refine lv_istore_n (pc := 9) (lv' := [(2, .int 0), (0, .ref (d 13)), (1, .ref (d2 13))]) hx hb dX1_copyFrom_9 rfl hl (by decide) rfl (fun ls hl => ?_)
  obtain ⟨x10, e10, hf⟩ := z_bd hf
  refine lp_10 z_FU 0 (z_lC L L2.1) x10 H locs hP hD hS ls (lv_sub hl [1, 2, 0] rfl) e10 (fun H locs hP hD hS ls hl => ?_)
  exact W.vret (pc := 46) hx hb hr (fun t ht hW => ⟨⟨(z_wLL X d x10 d2 L2), rfl, congrArg (fun z => (z_wLL X d z d2 L2)) (Option.some.inj hf), by rw [ht]; exact hP, hD⟩, hS.F ht⟩) hS.2.2 dX1_copyFrom_46
def f_X1_placeOf_L2 (L : z_L) : Nat → Int32 → Int32 → Option Int32
  | 0, _, _ => none
  | n + 1, u1, u2 => (if L.1 ≤ u2 then some (-1) else (if 12 ≤ u2 then some (-1) else (z_at L.2 u2 12).bind (fun x24 => (if x24 = u1 then some u2 else f_X1_placeOf_L2 L n u1 (u2 + 1)))))
def f_X1_placeOf (L : z_L) (v1 : Int32) : Option Int32 := f_X1_placeOf_L2 L z_FU v1 0
set_option maxHeartbeats 4000000 in
set_option maxRecDepth 100000 in
theorem m_X1_placeOf (l : Launch) (X : z_X) (d : Nat → Nat) (L : z_L) (v1 : Int32) {RR : Int32} (hf : f_X1_placeOf L v1 = some RR) : z_pI l yX1_placeOf wsX1_placeOf 0 0 X [.ref (d 13), .int v1] (z_wL X d L) RR := by
  refine Met.ofW (cc := cX1_placeOf) (maxL := 3) (ret := (some .int)) (by decide) rfl ?_
  intro p e s m args below meth c s₁ B hml hv
  obtain ⟨rfl, hP, hK, hN⟩ := hv
  have hx := B.exec
  have hb := B.bytes
  have hr := B.returns
  have hts := atoms_spec (ws := wsX1_placeOf) B.pre
  have hown : s.vm.findClass RX1 = some m.cls := findClass_of_methodNamed B.named
  have hlocks := B.notSynchronized
  have S : CallFix p m c cX1_placeOf 3 s _ wsX1_placeOf RX1 := ⟨hx, hb, hml, hown, hts⟩
  have lk_fi15 := hts (.fieldLink RX1 15 "HouseBells$Line" "count" "I") (List.mem_of_getElem? (i := 1) rfl)
  have lk_fi9 := hts (.fieldLink RX1 9 "HouseBells$Line" "drops" "[I") (List.mem_of_getElem? (i := 2) rfl)
  have in_X1 : ∀ w ∈ wsX10, w ∈ wsX1_placeOf := fun _ h => (List.mem_cons_of_mem _ (List.mem_append_right _ h))
  have hl := lv_entry ([.ref (d 13), .int v1]) (n := 3) (Nat.le_of_ble_eq_true rfl)
  rw [lg_entry_eq]
  generalize (lg_sl ([.ref (d 13), .int v1]) ++ List.replicate (3 - (lg_sl ([.ref (d 13), .int v1])).length) Slot.unset).toArray = ls at hl ⊢
  have hl : lv_has ls 3 [(0, .ref (d 13)), (1, .int v1)] := hl
  have lp_2 : ∀ (n : Nat) (u1 : Int32) (u2 : Int32) (ls : Array Slot), lv_has ls 3 [(0, .ref (d 13)), (1, .int u1), (2, .int u2)] → f_X1_placeOf_L2 L n u1 u2 = some RR → W p l e (headSpec wsX1_placeOf (z_R 0 0)).room s m ([.ref (d 13), .int v1] : List Value).toArray below meth c s.heap [] 0 0 (MQ below (vp_Si (fun z => z = RR)) ([.ref (d 13), .int v1] : List Value).toArray s 0 0 (fun _ => False)) (F0 m 2 ls []) := by
    intro n
    induction n with
    | zero =>
      intro u1 u2 ls hl hf
      cases hf
    | succ n ih =>
      intro u1 u2 ls hl hf
      rw [f_X1_placeOf_L2] at hf
      refine lv_iload_n (pc := 2) hx hb dX1_placeOf_2 rfl (lv_at hl 2 rfl) ?_
      refine lv_aload_n (pc := 3) hx hb dX1_placeOf_3 rfl (lv_at hl 0 rfl) ?_
      refine va_get (pc := 4) (ci := 1) (C := RX1) (T := TX1) (N := 2) hx hb hts in_X1 hown hK hP 0 rfl rfl 0 (by decide) lk_fi15 (fun _ h9 => h9) rfl dX1_placeOf_4 ?_
      refine lv_icmp_ge (pc := 7) (tgt := 37) hx hb dX1_placeOf_7 (by decide) (fun c_7 => ?_) (fun c_7 => ?_)
      · replace hf := z_ip c_7 hf
        refine lv_iconst (v := (-1)) (pc := 37) hx hb dX1_placeOf_37 (by decide) ?_
        exact W.iret (pc := 38) (v := (-1)) hx hb hr (fun t ht hW => ⟨_, rfl, (Option.some.inj hf), ht⟩) (fun _ h => nomatch h) dX1_placeOf_38
      · replace hf := z_in c_7 hf
        refine lv_iload_n (pc := 10) hx hb dX1_placeOf_10 rfl (lv_at hl 2 rfl) ?_
        refine lv_aload_n (pc := 11) hx hb dX1_placeOf_11 rfl (lv_at hl 0 rfl) ?_
        refine va_get (pc := 12) (ci := 1) (C := RX1) (T := TX1) (N := 2) hx hb hts in_X1 hown hK hP 0 rfl rfl 1 (by decide) lk_fi9 (fun _ h9 => h9) rfl dX1_placeOf_12 ?_
        refine va_alen (v := 12) (pc := 15) hx hb hK hP 1 0 rfl rfl rfl dX1_placeOf_15 ?_
        refine lv_icmp_ge (pc := 16) (tgt := 37) hx hb dX1_placeOf_16 (by decide) (fun c_16 => ?_) (fun c_16 => ?_)
        · replace hf := z_ip c_16 hf
          refine lv_iconst (v := (-1)) (pc := 37) hx hb dX1_placeOf_37 (by decide) ?_
          exact W.iret (pc := 38) (v := (-1)) hx hb hr (fun t ht hW => ⟨_, rfl, (Option.some.inj hf), ht⟩) (fun _ h => nomatch h) dX1_placeOf_38
        · replace hf := z_in c_16 hf
          refine lv_aload_n (pc := 19) hx hb dX1_placeOf_19 rfl (lv_at hl 0 rfl) ?_
          refine va_get (pc := 20) (ci := 1) (C := RX1) (T := TX1) (N := 2) hx hb hts in_X1 hown hK hP 0 rfl rfl 1 (by decide) lk_fi9 (fun _ h9 => h9) rfl dX1_placeOf_20 ?_
          refine lv_iload_n (pc := 23) hx hb dX1_placeOf_23 rfl (lv_at hl 2 rfl) ?_
          obtain ⟨x24, e24, hf⟩ := z_bd hf
          refine z_iald (pc := 24) hx hb hK hP 1 0 rfl rfl e24 dX1_placeOf_24 ?_
          refine lv_iload_n (pc := 25) hx hb dX1_placeOf_25 rfl (lv_at hl 1 rfl) ?_
          refine lv_icmp_ne (pc := 26) (tgt := 31) hx hb dX1_placeOf_26 (by decide) (fun c_26 => ?_) (fun c_26 => ?_)
          · replace hf := z_in c_26 hf
            refine lv_iinc (pc := 31) (v := (u2 + 1)) (lv' := [(2, .int (u2 + 1)), (0, .ref (d 13)), (1, .int u1)]) hx hb dX1_placeOf_31 hl (k := 2) rfl rfl (by decide) rfl (fun ls hl => ?_)
            refine lv_goto (pc := 34) (tgt := 2) hx hb dX1_placeOf_34 (by decide) ?_
            exact ih u1 (u2 + 1) ls (lv_sub hl [1, 2, 0] rfl) hf
          · replace hf := z_ip c_26 hf
            refine lv_iload_n (pc := 29) hx hb dX1_placeOf_29 rfl (lv_at hl 2 rfl) ?_
            exact W.iret (pc := 30) (v := u2) hx hb hr (fun t ht hW => ⟨_, rfl, (Option.some.inj hf), ht⟩) (fun _ h => nomatch h) dX1_placeOf_30
  unfold f_X1_placeOf at hf
  refine lv_iconst (v := 0) (pc := 0) hx hb dX1_placeOf_0 (by decide) ?_
  refine lv_istore_n (pc := 1) (lv' := [(2, .int 0), (0, .ref (d 13)), (1, .int v1)]) hx hb dX1_placeOf_1 rfl hl (by decide) rfl (fun ls hl => ?_)
  exact lp_2 z_FU v1 0 ls (lv_sub hl [1, 2, 0] rfl) hf
def f_X1_append (L : z_L) (v1 : Int32) : Option z_L := (if L.1 < 0 then some L else (if 12 ≤ L.1 then some L else (z_wr L.2 L.1 12 v1).bind (fun x28 => some (z_lD (z_lC L (L.1 + 1)) x28))))
set_option maxHeartbeats 4000000 in
set_option maxRecDepth 100000 in
theorem m_X1_append (l : Launch) (X : z_X) (d : Nat → Nat) (L : z_L) (v1 : Int32) {RR : z_L} (hf : f_X1_append L v1 = some RR) : z_mV l yX1_append wsX1_append 0 0 X [.ref (d 13), .int v1] (z_wL X d L) (z_wL X d RR) := by
  intro sz
  refine Met.ofW (cc := cX1_append) (maxL := 2) (ret := none) (by decide) rfl ?_
  intro p e s m args below meth c s₁ B hml hv
  obtain ⟨rfl, hsz, hP, hK, hN, hD0⟩ := hv
  have hx := B.exec
  have hb := B.bytes
  have hr := B.returns
  have hts := atoms_spec (ws := wsX1_append) B.pre
  have hown : s.vm.findClass RX1 = some m.cls := findClass_of_methodNamed B.named
  have hlocks := B.notSynchronized
  have S : CallFix p m c cX1_append 2 s _ wsX1_append RX1 := ⟨hx, hb, hml, hown, hts⟩
  have lk_fi15 := hts (.fieldLink RX1 15 "HouseBells$Line" "count" "I") (List.mem_of_getElem? (i := 1) rfl)
  have lk_fi9 := hts (.fieldLink RX1 9 "HouseBells$Line" "drops" "[I") (List.mem_of_getElem? (i := 2) rfl)
  have in_X1 : ∀ w ∈ wsX10, w ∈ wsX1_append := fun _ h => (List.mem_cons_of_mem _ (List.mem_append_right _ h))
  subst hsz
  have hD := hD0.self (sz := s.heap.size)
  generalize hAe : va_A (z_wL X d L) s.heap.size = A at hD ⊢
  have hA : ∀ q : Nat, s.heap.size ≤ q → A q := fun q h => by rw [← hAe]; exact Or.inr h
  have hS : va_S A s.heap s.heap [] := va_S.rf
  have hl := lv_entry ([.ref (d 13), .int v1]) (n := 2) (Nat.le_of_ble_eq_true rfl)
  rw [lg_entry_eq]
  generalize (lg_sl ([.ref (d 13), .int v1]) ++ List.replicate (2 - (lg_sl ([.ref (d 13), .int v1])).length) Slot.unset).toArray = ls at hl ⊢
  have hl : lv_has ls 2 [(0, .ref (d 13)), (1, .int v1)] := hl
  suffices hgo : ∀ (H : Heap) (locs : List Loc), va_P X.1 vwCl (z_wL X d L) H → va_D A (z_wL X d L) → va_S A s.heap H locs → W p l e (headSpec wsX1_append (z_R 0 0)).room s m ([.ref (d 13), .int v1] : List Value).toArray below meth c H locs 0 0 (MQ below (va_Qv (fun u : va_W => u = (z_wL X d RR)) (z_Bm X A) A) ([.ref (d 13), .int v1] : List Value).toArray s 0 0 A) (F0 m 0 ls []) from hgo _ _ hP hD hS
  clear hP hD hS
  intro H locs hP hD hS
  unfold f_X1_append at hf
  refine lv_aload_n (pc := 0) hx hb dX1_append_0 rfl (lv_at hl 0 rfl) ?_
  refine va_get (pc := 1) (ci := 1) (C := RX1) (T := TX1) (N := 2) hx hb hts in_X1 hown hK hP 0 rfl rfl 0 (by decide) lk_fi15 (fun _ h9 => h9) rfl dX1_append_1 ?_
  refine lv_if_lt (pc := 4) (tgt := 39) hx hb dX1_append_4 (by decide) (fun c_4 => ?_) (fun c_4 => ?_)
  · replace hf := z_ip c_4 hf
    exact W.vret (pc := 39) hx hb hr (fun t ht hW => ⟨⟨(z_wL X d L), rfl, congrArg (fun z => (z_wL X d z)) (Option.some.inj hf), by rw [ht]; exact hP, hD⟩, hS.F ht⟩) hS.2.2 dX1_append_39
  · replace hf := z_in c_4 hf
    refine lv_aload_n (pc := 7) hx hb dX1_append_7 rfl (lv_at hl 0 rfl) ?_
    refine va_get (pc := 8) (ci := 1) (C := RX1) (T := TX1) (N := 2) hx hb hts in_X1 hown hK hP 0 rfl rfl 0 (by decide) lk_fi15 (fun _ h9 => h9) rfl dX1_append_8 ?_
    refine lv_aload_n (pc := 11) hx hb dX1_append_11 rfl (lv_at hl 0 rfl) ?_
    refine va_get (pc := 12) (ci := 1) (C := RX1) (T := TX1) (N := 2) hx hb hts in_X1 hown hK hP 0 rfl rfl 1 (by decide) lk_fi9 (fun _ h9 => h9) rfl dX1_append_12 ?_
    refine va_alen (v := 12) (pc := 15) hx hb hK hP 1 0 rfl rfl rfl dX1_append_15 ?_
    refine lv_icmp_ge (pc := 16) (tgt := 39) hx hb dX1_append_16 (by decide) (fun c_16 => ?_) (fun c_16 => ?_)
    · replace hf := z_ip c_16 hf
      exact W.vret (pc := 39) hx hb hr (fun t ht hW => ⟨⟨(z_wL X d L), rfl, congrArg (fun z => (z_wL X d z)) (Option.some.inj hf), by rw [ht]; exact hP, hD⟩, hS.F ht⟩) hS.2.2 dX1_append_39
    · replace hf := z_in c_16 hf
      refine lv_aload_n (pc := 19) hx hb dX1_append_19 rfl (lv_at hl 0 rfl) ?_
      refine va_get (pc := 20) (ci := 1) (C := RX1) (T := TX1) (N := 2) hx hb hts in_X1 hown hK hP 0 rfl rfl 1 (by decide) lk_fi9 (fun _ h9 => h9) rfl dX1_append_20 ?_
      refine lv_aload_n (pc := 23) hx hb dX1_append_23 rfl (lv_at hl 0 rfl) ?_
      refine va_get (pc := 24) (ci := 1) (C := RX1) (T := TX1) (N := 2) hx hb hts in_X1 hown hK hP 0 rfl rfl 0 (by decide) lk_fi15 (fun _ h9 => h9) rfl dX1_append_24 ?_
      refine lv_iload_n (pc := 27) hx hb dX1_append_27 rfl (lv_at hl 1 rfl) ?_
      obtain ⟨x28, e28, hf⟩ := z_bd hf
      refine z_iast (pc := 28) (W1 := (z_wL X d (z_lD L x28))) hx hb hK hP hD hS 1 0 rfl rfl e28 rfl dX1_append_28 (fun H locs hP hD hS => ?_)
      refine lv_aload_n (pc := 29) hx hb dX1_append_29 rfl (lv_at hl 0 rfl) ?_
      refine lv_dup (pc := 30) hx hb dX1_append_30 rfl ?_
      refine va_get (pc := 31) (ci := 1) (C := RX1) (T := TX1) (N := 2) hx hb hts in_X1 hown hK hP 0 rfl rfl 0 (by decide) lk_fi15 (fun _ h9 => h9) rfl dX1_append_31 ?_
      refine lv_iconst (v := 1) (pc := 34) hx hb dX1_append_34 (by decide) ?_
      refine lv_iadd (pc := 35) hx hb dX1_append_35 ?_
      refine z_put (pc := 36) (ci := 1) (C := RX1) (T := TX1) (N := 2) (W1 := (z_wL X d (z_lD (z_lC L (L.1 + 1)) x28))) hx hb hts in_X1 tyX1 tyX1_ok nmX1 hown hK hP hD hS 0 rfl rfl 0 (by decide) lk_fi15 (fun _ h9 => h9) rfl (by decide +kernel) (Nat.le_of_ble_eq_true rfl) dX1_append_36 rfl (fun H locs hP hD hS => ?_)
      exact W.vret (pc := 39) hx hb hr (fun t ht hW => ⟨⟨(z_wL X d (z_lD (z_lC L (L.1 + 1)) x28)), rfl, congrArg (fun z => (z_wL X d z)) (Option.some.inj hf), by rw [ht]; exact hP, hD⟩, hS.F ht⟩) hS.2.2 dX1_append_39
def f_X1_first (L : z_L) : Option Int32 := (if L.1 ≤ 0 then some (-1) else (if (12 : Int32) ≤ 0 then some (-1) else (z_at L.2 0 12).bind (fun x20 => some x20)))
set_option maxHeartbeats 4000000 in
set_option maxRecDepth 100000 in
theorem m_X1_first (l : Launch) (X : z_X) (d : Nat → Nat) (L : z_L) {RR : Int32} (hf : f_X1_first L = some RR) : z_pI l yX1_first wsX1_first 0 0 X [.ref (d 13)] (z_wL X d L) RR := by
  refine Met.ofW (cc := cX1_first) (maxL := 1) (ret := (some .int)) (by decide) rfl ?_
  intro p e s m args below meth c s₁ B hml hv
  obtain ⟨rfl, hP, hK, hN⟩ := hv
  have hx := B.exec
  have hb := B.bytes
  have hr := B.returns
  have hts := atoms_spec (ws := wsX1_first) B.pre
  have hown : s.vm.findClass RX1 = some m.cls := findClass_of_methodNamed B.named
  have hlocks := B.notSynchronized
  have S : CallFix p m c cX1_first 1 s _ wsX1_first RX1 := ⟨hx, hb, hml, hown, hts⟩
  have lk_fi15 := hts (.fieldLink RX1 15 "HouseBells$Line" "count" "I") (List.mem_of_getElem? (i := 1) rfl)
  have lk_fi9 := hts (.fieldLink RX1 9 "HouseBells$Line" "drops" "[I") (List.mem_of_getElem? (i := 2) rfl)
  have in_X1 : ∀ w ∈ wsX10, w ∈ wsX1_first := fun _ h => (List.mem_cons_of_mem _ (List.mem_append_right _ h))
  have hl := lv_entry ([.ref (d 13)]) (n := 1) (Nat.le_of_ble_eq_true rfl)
  rw [lg_entry_eq]
  generalize (lg_sl ([.ref (d 13)]) ++ List.replicate (1 - (lg_sl ([.ref (d 13)])).length) Slot.unset).toArray = ls at hl ⊢
  have hl : lv_has ls 1 [(0, .ref (d 13))] := hl
  unfold f_X1_first at hf
  refine lv_aload_n (pc := 0) hx hb dX1_first_0 rfl (lv_at hl 0 rfl) ?_
  refine va_get (pc := 1) (ci := 1) (C := RX1) (T := TX1) (N := 2) hx hb hts in_X1 hown hK hP 0 rfl rfl 0 (by decide) lk_fi15 (fun _ h9 => h9) rfl dX1_first_1 ?_
  refine lv_if_le (pc := 4) (tgt := 24) hx hb dX1_first_4 (by decide) (fun c_4 => ?_) (fun c_4 => ?_)
  · replace hf := z_ip c_4 hf
    refine lv_iconst (v := (-1)) (pc := 24) hx hb dX1_first_24 (by decide) ?_
    exact W.iret (pc := 25) (v := (-1)) hx hb hr (fun t ht hW => ⟨_, rfl, (Option.some.inj hf), ht⟩) (fun _ h => nomatch h) dX1_first_25
  · replace hf := z_in c_4 hf
    refine lv_aload_n (pc := 7) hx hb dX1_first_7 rfl (lv_at hl 0 rfl) ?_
    refine va_get (pc := 8) (ci := 1) (C := RX1) (T := TX1) (N := 2) hx hb hts in_X1 hown hK hP 0 rfl rfl 1 (by decide) lk_fi9 (fun _ h9 => h9) rfl dX1_first_8 ?_
    refine va_alen (v := 12) (pc := 11) hx hb hK hP 1 0 rfl rfl rfl dX1_first_11 ?_
    refine lv_if_le (pc := 12) (tgt := 24) hx hb dX1_first_12 (by decide) (fun c_12 => ?_) (fun c_12 => ?_)
    · replace hf := z_ip c_12 hf
      refine lv_iconst (v := (-1)) (pc := 24) hx hb dX1_first_24 (by decide) ?_
      exact W.iret (pc := 25) (v := (-1)) hx hb hr (fun t ht hW => ⟨_, rfl, (Option.some.inj hf), ht⟩) (fun _ h => nomatch h) dX1_first_25
    · replace hf := z_in c_12 hf
      refine lv_aload_n (pc := 15) hx hb dX1_first_15 rfl (lv_at hl 0 rfl) ?_
      refine va_get (pc := 16) (ci := 1) (C := RX1) (T := TX1) (N := 2) hx hb hts in_X1 hown hK hP 0 rfl rfl 1 (by decide) lk_fi9 (fun _ h9 => h9) rfl dX1_first_16 ?_
      refine lv_iconst (v := 0) (pc := 19) hx hb dX1_first_19 (by decide) ?_
      obtain ⟨x20, e20, hf⟩ := z_bd hf
      refine z_iald (pc := 20) hx hb hK hP 1 0 rfl rfl e20 dX1_first_20 ?_
      refine lv_goto (pc := 21) (tgt := 25) hx hb dX1_first_21 (by decide) ?_
      exact W.iret (pc := 25) (v := x20) hx hb hr (fun t ht hW => ⟨_, rfl, (Option.some.inj hf), ht⟩) (fun _ h => nomatch h) dX1_first_25
def f_X1_remove_L4  : Nat → Int32 → Int32 → Int32 → z_L → Option (Int32 × z_L)
  | 0, _, _, _, _ => none
  | n + 1, u1, u2, u3, L => (if L.1 ≤ u3 then some (u2, L) else (if 12 ≤ u3 then some (u2, L) else (z_at L.2 u3 12).bind (fun x26 => (if x26 = u1 then f_X1_remove_L4 n u1 u2 (u3 + 1) L else (if 12 ≤ u2 then f_X1_remove_L4 n u1 u2 (u3 + 1) L else (z_at L.2 u3 12).bind (fun x50 => (z_wr L.2 u2 12 x50).bind (fun x51 => f_X1_remove_L4 n u1 (u2 + 1) (u3 + 1) (z_lD L x51))))))))
def f_X1_remove (L : z_L) (v1 : Int32) : Option z_L := (f_X1_remove_L4 z_FU v1 0 0 L).bind (fun x4 => some (z_lC x4.2 x4.1))
set_option maxHeartbeats 4000000 in
set_option maxRecDepth 100000 in
theorem m_X1_remove (l : Launch) (X : z_X) (d : Nat → Nat) (L : z_L) (v1 : Int32) {RR : z_L} (hf : f_X1_remove L v1 = some RR) : z_mV l yX1_remove wsX1_remove 0 0 X [.ref (d 13), .int v1] (z_wL X d L) (z_wL X d RR) := by
  intro sz
  refine Met.ofW (cc := cX1_remove) (maxL := 4) (ret := none) (by decide) rfl ?_
  intro p e s m args below meth c s₁ B hml hv
  obtain ⟨rfl, hsz, hP, hK, hN, hD0⟩ := hv
  have hx := B.exec
  have hb := B.bytes
  have hr := B.returns
  have hts := atoms_spec (ws := wsX1_remove) B.pre
  have hown : s.vm.findClass RX1 = some m.cls := findClass_of_methodNamed B.named
  have hlocks := B.notSynchronized
  have S : CallFix p m c cX1_remove 4 s _ wsX1_remove RX1 := ⟨hx, hb, hml, hown, hts⟩
  have lk_fi15 := hts (.fieldLink RX1 15 "HouseBells$Line" "count" "I") (List.mem_of_getElem? (i := 1) rfl)
  have lk_fi9 := hts (.fieldLink RX1 9 "HouseBells$Line" "drops" "[I") (List.mem_of_getElem? (i := 2) rfl)
  have in_X1 : ∀ w ∈ wsX10, w ∈ wsX1_remove := fun _ h => (List.mem_cons_of_mem _ (List.mem_append_right _ h))
  subst hsz
  have hD := hD0.self (sz := s.heap.size)
  generalize hAe : va_A (z_wL X d L) s.heap.size = A at hD ⊢
  have hA : ∀ q : Nat, s.heap.size ≤ q → A q := fun q h => by rw [← hAe]; exact Or.inr h
  have hS : va_S A s.heap s.heap [] := va_S.rf
  have hl := lv_entry ([.ref (d 13), .int v1]) (n := 4) (Nat.le_of_ble_eq_true rfl)
  rw [lg_entry_eq]
  generalize (lg_sl ([.ref (d 13), .int v1]) ++ List.replicate (4 - (lg_sl ([.ref (d 13), .int v1])).length) Slot.unset).toArray = ls at hl ⊢
  have hl : lv_has ls 4 [(0, .ref (d 13)), (1, .int v1)] := hl
  have lp_4 : ∀ (n : Nat) (u1 : Int32) (u2 : Int32) (u3 : Int32) (L : z_L) (T : (Int32 × z_L)) (H : Heap) (locs : List Loc), va_P X.1 vwCl (z_wL X d L) H → va_D A (z_wL X d L) → va_S A s.heap H locs → ∀ (ls : Array Slot), lv_has ls 4 [(0, .ref (d 13)), (1, .int u1), (2, .int u2), (3, .int u3)] → f_X1_remove_L4 n u1 u2 u3 L = some T → (∀ (H : Heap) (locs : List Loc), va_P X.1 vwCl (z_wL X d T.2) H → va_D A (z_wL X d T.2) → va_S A s.heap H locs → ∀ (ls : Array Slot), lv_has ls 4 [(0, .ref (d 13)), (2, .int T.1)] → W p l e (headSpec wsX1_remove (z_R 0 0)).room s m ([.ref (d 13), .int v1] : List Value).toArray below meth c H locs 0 0 (MQ below (va_Qv (fun u : va_W => u = (z_wL X d RR)) (z_Bm X A) A) ([.ref (d 13), .int v1] : List Value).toArray s 0 0 A) (F0 m 61 ls [])) → W p l e (headSpec wsX1_remove (z_R 0 0)).room s m ([.ref (d 13), .int v1] : List Value).toArray below meth c H locs 0 0 (MQ below (va_Qv (fun u : va_W => u = (z_wL X d RR)) (z_Bm X A) A) ([.ref (d 13), .int v1] : List Value).toArray s 0 0 A) (F0 m 4 ls []) := by
    intro n
    induction n with
    | zero =>
      intro u1 u2 u3 L T H locs hP hD hS ls hl hf kk
      cases hf
    | succ n ih =>
      intro u1 u2 u3 L T H locs hP hD hS ls hl hf kk
      rw [f_X1_remove_L4] at hf
      refine lv_iload_n (pc := 4) hx hb dX1_remove_4 rfl (lv_at hl 3 rfl) ?_
      refine lv_aload_n (pc := 5) hx hb dX1_remove_5 rfl (lv_at hl 0 rfl) ?_
      refine va_get (pc := 6) (ci := 1) (C := RX1) (T := TX1) (N := 2) hx hb hts in_X1 hown hK hP 0 rfl rfl 0 (by decide) lk_fi15 (fun _ h9 => h9) rfl dX1_remove_6 ?_
      refine lv_icmp_ge (pc := 9) (tgt := 61) hx hb dX1_remove_9 (by decide) (fun c_9 => ?_) (fun c_9 => ?_)
      · replace hf := z_ip c_9 hf
        obtain rfl := Option.some.inj hf
        exact kk H locs hP hD hS ls (lv_sub hl [0, 2] rfl)
      · replace hf := z_in c_9 hf
        refine lv_iload_n (pc := 12) hx hb dX1_remove_12 rfl (lv_at hl 3 rfl) ?_
        refine lv_aload_n (pc := 13) hx hb dX1_remove_13 rfl (lv_at hl 0 rfl) ?_
        refine va_get (pc := 14) (ci := 1) (C := RX1) (T := TX1) (N := 2) hx hb hts in_X1 hown hK hP 0 rfl rfl 1 (by decide) lk_fi9 (fun _ h9 => h9) rfl dX1_remove_14 ?_
        refine va_alen (v := 12) (pc := 17) hx hb hK hP 1 0 rfl rfl rfl dX1_remove_17 ?_
        refine lv_icmp_ge (pc := 18) (tgt := 61) hx hb dX1_remove_18 (by decide) (fun c_18 => ?_) (fun c_18 => ?_)
        · replace hf := z_ip c_18 hf
          obtain rfl := Option.some.inj hf
          exact kk H locs hP hD hS ls (lv_sub hl [0, 2] rfl)
        · replace hf := z_in c_18 hf
          refine lv_aload_n (pc := 21) hx hb dX1_remove_21 rfl (lv_at hl 0 rfl) ?_
          refine va_get (pc := 22) (ci := 1) (C := RX1) (T := TX1) (N := 2) hx hb hts in_X1 hown hK hP 0 rfl rfl 1 (by decide) lk_fi9 (fun _ h9 => h9) rfl dX1_remove_22 ?_
          refine lv_iload_n (pc := 25) hx hb dX1_remove_25 rfl (lv_at hl 3 rfl) ?_
          obtain ⟨x26, e26, hf⟩ := z_bd hf
          refine z_iald (pc := 26) hx hb hK hP 1 0 rfl rfl e26 dX1_remove_26 ?_
          refine lv_iload_n (pc := 27) hx hb dX1_remove_27 rfl (lv_at hl 1 rfl) ?_
          refine lv_icmp_eq (pc := 28) (tgt := 55) hx hb dX1_remove_28 (by decide) (fun c_28 => ?_) (fun c_28 => ?_)
          · replace hf := z_ip c_28 hf
            refine lv_iinc (pc := 55) (v := (u3 + 1)) (lv' := [(3, .int (u3 + 1)), (0, .ref (d 13)), (1, .int u1), (2, .int u2)]) hx hb dX1_remove_55 hl (k := 3) rfl rfl (by decide) rfl (fun ls hl => ?_)
            refine lv_goto (pc := 58) (tgt := 4) hx hb dX1_remove_58 (by decide) ?_
            exact ih u1 u2 (u3 + 1) L T H locs hP hD hS ls (lv_sub hl [1, 2, 3, 0] rfl) hf kk
          · replace hf := z_in c_28 hf
            refine lv_iload_n (pc := 31) hx hb dX1_remove_31 rfl (lv_at hl 2 rfl) ?_
            refine lv_aload_n (pc := 32) hx hb dX1_remove_32 rfl (lv_at hl 0 rfl) ?_
            refine va_get (pc := 33) (ci := 1) (C := RX1) (T := TX1) (N := 2) hx hb hts in_X1 hown hK hP 0 rfl rfl 1 (by decide) lk_fi9 (fun _ h9 => h9) rfl dX1_remove_33 ?_
            refine va_alen (v := 12) (pc := 36) hx hb hK hP 1 0 rfl rfl rfl dX1_remove_36 ?_
            refine lv_icmp_ge (pc := 37) (tgt := 55) hx hb dX1_remove_37 (by decide) (fun c_37 => ?_) (fun c_37 => ?_)
            · replace hf := z_ip c_37 hf
              refine lv_iinc (pc := 55) (v := (u3 + 1)) (lv' := [(3, .int (u3 + 1)), (0, .ref (d 13)), (1, .int u1), (2, .int u2)]) hx hb dX1_remove_55 hl (k := 3) rfl rfl (by decide) rfl (fun ls hl => ?_)
              refine lv_goto (pc := 58) (tgt := 4) hx hb dX1_remove_58 (by decide) ?_
              exact ih u1 u2 (u3 + 1) L T H locs hP hD hS ls (lv_sub hl [1, 2, 3, 0] rfl) hf kk
            · replace hf := z_in c_37 hf
              refine lv_aload_n (pc := 40) hx hb dX1_remove_40 rfl (lv_at hl 0 rfl) ?_
              refine va_get (pc := 41) (ci := 1) (C := RX1) (T := TX1) (N := 2) hx hb hts in_X1 hown hK hP 0 rfl rfl 1 (by decide) lk_fi9 (fun _ h9 => h9) rfl dX1_remove_41 ?_
              refine lv_iload_n (pc := 44) hx hb dX1_remove_44 rfl (lv_at hl 2 rfl) ?_
              refine lv_aload_n (pc := 45) hx hb dX1_remove_45 rfl (lv_at hl 0 rfl) ?_
              refine va_get (pc := 46) (ci := 1) (C := RX1) (T := TX1) (N := 2) hx hb hts in_X1 hown hK hP 0 rfl rfl 1 (by decide) lk_fi9 (fun _ h9 => h9) rfl dX1_remove_46 ?_
              refine lv_iload_n (pc := 49) hx hb dX1_remove_49 rfl (lv_at hl 3 rfl) ?_
              obtain ⟨x50, e50, hf⟩ := z_bd hf
              refine z_iald (pc := 50) hx hb hK hP 1 0 rfl rfl e50 dX1_remove_50 ?_
              obtain ⟨x51, e51, hf⟩ := z_bd hf
              refine z_iast (pc := 51) (W1 := (z_wL X d (z_lD L x51))) hx hb hK hP hD hS 1 0 rfl rfl e51 rfl dX1_remove_51 (fun H locs hP hD hS => ?_)
              refine lv_iinc (pc := 52) (v := (u2 + 1)) (lv' := [(2, .int (u2 + 1)), (0, .ref (d 13)), (1, .int u1), (3, .int u3)]) hx hb dX1_remove_52 hl (k := 2) rfl rfl (by decide) rfl (fun ls hl => ?_)
              refine lv_iinc (pc := 55) (v := (u3 + 1)) (lv' := [(3, .int (u3 + 1)), (2, .int (u2 + 1)), (0, .ref (d 13)), (1, .int u1)]) hx hb dX1_remove_55 hl (k := 3) rfl rfl (by decide) rfl (fun ls hl => ?_)
              refine lv_goto (pc := 58) (tgt := 4) hx hb dX1_remove_58 (by decide) ?_
              exact ih u1 (u2 + 1) (u3 + 1) (z_lD L x51) T H locs hP hD hS ls (lv_sub hl [2, 3, 1, 0] rfl) hf kk
  suffices hgo : ∀ (H : Heap) (locs : List Loc), va_P X.1 vwCl (z_wL X d L) H → va_D A (z_wL X d L) → va_S A s.heap H locs → W p l e (headSpec wsX1_remove (z_R 0 0)).room s m ([.ref (d 13), .int v1] : List Value).toArray below meth c H locs 0 0 (MQ below (va_Qv (fun u : va_W => u = (z_wL X d RR)) (z_Bm X A) A) ([.ref (d 13), .int v1] : List Value).toArray s 0 0 A) (F0 m 0 ls []) from hgo _ _ hP hD hS
  clear hP hD hS
  intro H locs hP hD hS
  unfold f_X1_remove at hf
  refine lv_iconst (v := 0) (pc := 0) hx hb dX1_remove_0 (by decide) ?_
  refine lv_istore_n (pc := 1) (lv' := [(2, .int 0), (0, .ref (d 13)), (1, .int v1)]) hx hb dX1_remove_1 rfl hl (by decide) rfl (fun ls hl => ?_)
  refine lv_iconst (v := 0) (pc := 2) hx hb dX1_remove_2 (by decide) ?_
  refine lv_istore_n (pc := 3) (lv' := [(3, .int 0), (2, .int 0), (0, .ref (d 13)), (1, .int v1)]) hx hb dX1_remove_3 rfl hl (by decide) rfl (fun ls hl => ?_)
  obtain ⟨x4, e4, hf⟩ := z_bd hf
  refine lp_4 z_FU v1 0 0 L x4 H locs hP hD hS ls (lv_sub hl [2, 3, 1, 0] rfl) e4 (fun H locs hP hD hS ls hl => ?_)
  refine lv_aload_n (pc := 61) hx hb dX1_remove_61 rfl (lv_at hl 0 rfl) ?_
  refine lv_iload_n (pc := 62) hx hb dX1_remove_62 rfl (lv_at hl 1 rfl) ?_
  refine z_put (pc := 63) (ci := 1) (C := RX1) (T := TX1) (N := 2) (W1 := (z_wL X d (z_lC x4.2 x4.1))) hx hb hts in_X1 tyX1 tyX1_ok nmX1 hown hK hP hD hS 0 rfl rfl 0 (by decide) lk_fi15 (fun _ h9 => h9) rfl (by decide +kernel) (Nat.le_of_ble_eq_true rfl) dX1_remove_63 rfl (fun H locs hP hD hS => ?_)
  exact W.vret (pc := 66) hx hb hr (fun t ht hW => ⟨⟨(z_wL X d (z_lC x4.2 x4.1)), rfl, congrArg (fun z => (z_wL X d z)) (Option.some.inj hf), by rw [ht]; exact hP, hD⟩, hS.F ht⟩) hS.2.2 dX1_remove_66
end
section
def f_X3_copyFrom (G : z_G) (G2 : z_G) : Option z_G := (f_X2_copyFrom (G.2 0) (G2.2 0)).bind (fun x16 => (f_X2_copyFrom (G.2 1) (G2.2 1)).bind (fun x27 => (f_X2_copyFrom (G.2 2) (G2.2 2)).bind (fun x38 => (f_X2_copyFrom (G.2 3) (G2.2 3)).bind (fun x49 => (f_X2_copyFrom (G.2 4) (G2.2 4)).bind (fun x60 => some (z_gR (z_gR (z_gR (z_gR (z_gR (z_gC G G2.1) 0 x16) 1 x27) 2 x38) 3 x49) 4 x60))))))
set_option maxHeartbeats 4000000 in
set_option maxRecDepth 100000 in
theorem m_X3_copyFrom (l : Launch) (X : z_X) (d d2 : Nat → Nat) (G : z_G) (G2 : z_G) {RR : z_G} (hf : f_X3_copyFrom G G2 = some RR) : z_mV l yX3_copyFrom wsX3_copyFrom 1 22 X [.ref (d 15), .ref (d2 15)] (z_wGG X d G d2 G2) (z_wGG X d RR d2 G2) := by
  intro sz
  refine Met.ofW (cc := cX3_copyFrom) (maxL := 2) (ret := none) (by decide) rfl ?_
  intro p e s m args below meth c s₁ B hml hv
  obtain ⟨rfl, hsz, hP, hK, hN, hD0⟩ := hv
  have hx := B.exec
  have hb := B.bytes
  have hr := B.returns
  have hts := atoms_spec (ws := wsX3_copyFrom) B.pre
  have hown : s.vm.findClass RX3 = some m.cls := findClass_of_methodNamed B.named
  have hlocks := B.notSynchronized
  have S : CallFix p m c cX3_copyFrom 2 s _ wsX3_copyFrom RX3 := ⟨hx, hb, hml, hown, hts⟩
  have lk_fi30 := hts (.fieldLink RX3 30 "HouseBells$Staff" "count" "I") (List.mem_of_getElem? (i := 1) rfl)
  have lk_fi12 := hts (.fieldLink RX3 12 "HouseBells$Staff" "pace" "LHouseBells$Row;") (List.mem_of_getElem? (i := 2) rfl)
  have lk_fi18 := hts (.fieldLink RX3 18 "HouseBells$Staff" "floor" "LHouseBells$Row;") (List.mem_of_getElem? (i := 3) rfl)
  have lk_fi21 := hts (.fieldLink RX3 21 "HouseBells$Staff" "goal" "LHouseBells$Row;") (List.mem_of_getElem? (i := 4) rfl)
  have lk_fi24 := hts (.fieldLink RX3 24 "HouseBells$Staff" "guest" "LHouseBells$Row;") (List.mem_of_getElem? (i := 5) rfl)
  have lk_fi27 := hts (.fieldLink RX3 27 "HouseBells$Staff" "left" "LHouseBells$Row;") (List.mem_of_getElem? (i := 6) rfl)
  have in_X3 : ∀ w ∈ wsX30, w ∈ wsX3_copyFrom := fun _ h => (List.mem_cons_of_mem _ (List.mem_append_left _ (List.mem_append_right _ h)))
  subst hsz
  have hD := hD0.self (sz := s.heap.size)
  generalize hAe : va_A (z_wGG X d G d2 G2) s.heap.size = A at hD ⊢
  have hA : ∀ q : Nat, s.heap.size ≤ q → A q := fun q h => by rw [← hAe]; exact Or.inr h
  have hS : va_S A s.heap s.heap [] := va_S.rf
  have hl := lv_entry ([.ref (d 15), .ref (d2 15)]) (n := 2) (Nat.le_of_ble_eq_true rfl)
  rw [lg_entry_eq]
  generalize (lg_sl ([.ref (d 15), .ref (d2 15)]) ++ List.replicate (2 - (lg_sl ([.ref (d 15), .ref (d2 15)])).length) Slot.unset).toArray = ls at hl ⊢
  have hl : lv_has ls 2 [(0, .ref (d 15)), (1, .ref (d2 15))] := hl
  suffices hgo : ∀ (H : Heap) (locs : List Loc), va_P X.1 vwCl (z_wGG X d G d2 G2) H → va_D A (z_wGG X d G d2 G2) → va_S A s.heap H locs → W p l e (headSpec wsX3_copyFrom (z_R 1 22)).room s m ([.ref (d 15), .ref (d2 15)] : List Value).toArray below meth c H locs 0 0 (MQ below (va_Qv (fun u : va_W => u = (z_wGG X d RR d2 G2)) (z_Bm X A) A) ([.ref (d 15), .ref (d2 15)] : List Value).toArray s 0 0 A) (F0 m 0 ls []) from hgo _ _ hP hD hS
  clear hP hD hS
  intro H locs hP hD hS
  unfold f_X3_copyFrom at hf
  refine lv_aload_n (pc := 0) hx hb dX3_copyFrom_0 rfl (lv_at hl 0 rfl) ?_
  refine lv_aload_n (pc := 1) hx hb dX3_copyFrom_1 rfl (lv_at hl 1 rfl) ?_
  refine va_get (pc := 2) (ci := 3) (C := RX3) (T := TX3) (N := 6) hx hb hts in_X3 hown hK hP 11 rfl rfl 0 (by decide) lk_fi30 (fun _ h9 => h9) rfl dX3_copyFrom_2 ?_
  refine z_put (pc := 5) (ci := 3) (C := RX3) (T := TX3) (N := 6) (W1 := (z_wGG X d (z_gC G G2.1) d2 G2)) hx hb hts in_X3 tyX3 tyX3_ok nmX3 hown hK hP hD hS 0 rfl rfl 0 (by decide) lk_fi30 (fun _ h9 => h9) rfl (by decide +kernel) (Nat.le_of_ble_eq_true rfl) dX3_copyFrom_5 rfl (fun H locs hP hD hS => ?_)
  refine lv_aload_n (pc := 8) hx hb dX3_copyFrom_8 rfl (lv_at hl 0 rfl) ?_
  refine va_get (pc := 9) (ci := 3) (C := RX3) (T := TX3) (N := 6) hx hb hts in_X3 hown hK hP 0 rfl rfl 1 (by decide) lk_fi12 (fun _ h9 => h9) rfl dX3_copyFrom_9 ?_
  refine lv_aload_n (pc := 12) hx hb dX3_copyFrom_12 rfl (lv_at hl 1 rfl) ?_
  refine va_get (pc := 13) (ci := 3) (C := RX3) (T := TX3) (N := 6) hx hb hts in_X3 hown hK hP 11 rfl rfl 1 (by decide) lk_fi12 (fun _ h9 => h9) rfl dX3_copyFrom_13 ?_
  obtain ⟨x16, e16, hf⟩ := z_bd hf
  refine z_cmV (pc := 16) (W1 := (z_wGG X d (z_gR (z_gC G G2.1) 0 x16) d2 G2)) S (m_X2_copyFrom l X (d 16) (d 17) (d2 16) (d2 17) (G.2 0) (G2.2 0) e16) (cwV 1 hts gX3_copyFrom_X2_copyFrom rfl rfl rfl hdX2_copyFrom ⟨Nat.le_of_ble_eq_true rfl, Nat.le_of_ble_eq_true rfl⟩) hP hK hN hD hS hA (s_GG_RR1_12 X d d2 (z_gC G G2.1) G2) (f_GG_RR1_12 X d d2 (z_gC G G2.1) G2 x16) (ci := 2) rfl rfl rfl ⟨Nat.le_of_ble_eq_true rfl, Nat.le_of_ble_eq_true rfl⟩ rfl hl.1 rfl (Nat.le_of_ble_eq_true rfl) dX3_copyFrom_16 (fun H locs hP hD hS => ?_)
  refine lv_aload_n (pc := 19) hx hb dX3_copyFrom_19 rfl (lv_at hl 0 rfl) ?_
  refine va_get (pc := 20) (ci := 3) (C := RX3) (T := TX3) (N := 6) hx hb hts in_X3 hown hK hP 0 rfl rfl 2 (by decide) lk_fi18 (fun _ h9 => h9) rfl dX3_copyFrom_20 ?_
  refine lv_aload_n (pc := 23) hx hb dX3_copyFrom_23 rfl (lv_at hl 1 rfl) ?_
  refine va_get (pc := 24) (ci := 3) (C := RX3) (T := TX3) (N := 6) hx hb hts in_X3 hown hK hP 11 rfl rfl 2 (by decide) lk_fi18 (fun _ h9 => h9) rfl dX3_copyFrom_24 ?_
  obtain ⟨x27, e27, hf⟩ := z_bd hf
  refine z_cmV (pc := 27) (W1 := (z_wGG X d (z_gR (z_gR (z_gC G G2.1) 0 x16) 1 x27) d2 G2)) S (m_X2_copyFrom l X (d 18) (d 19) (d2 18) (d2 19) (G.2 1) (G2.2 1) e27) (cwV 1 hts gX3_copyFrom_X2_copyFrom rfl rfl rfl hdX2_copyFrom ⟨Nat.le_of_ble_eq_true rfl, Nat.le_of_ble_eq_true rfl⟩) hP hK hN hD hS hA (s_GG_RR3_14 X d d2 (z_gR (z_gC G G2.1) 0 x16) G2) (f_GG_RR3_14 X d d2 (z_gR (z_gC G G2.1) 0 x16) G2 x27) (ci := 2) rfl rfl rfl ⟨Nat.le_of_ble_eq_true rfl, Nat.le_of_ble_eq_true rfl⟩ rfl hl.1 rfl (Nat.le_of_ble_eq_true rfl) dX3_copyFrom_27 (fun H locs hP hD hS => ?_)
  refine lv_aload_n (pc := 30) hx hb dX3_copyFrom_30 rfl (lv_at hl 0 rfl) ?_
  refine va_get (pc := 31) (ci := 3) (C := RX3) (T := TX3) (N := 6) hx hb hts in_X3 hown hK hP 0 rfl rfl 3 (by decide) lk_fi21 (fun _ h9 => h9) rfl dX3_copyFrom_31 ?_
  refine lv_aload_n (pc := 34) hx hb dX3_copyFrom_34 rfl (lv_at hl 1 rfl) ?_
  refine va_get (pc := 35) (ci := 3) (C := RX3) (T := TX3) (N := 6) hx hb hts in_X3 hown hK hP 11 rfl rfl 3 (by decide) lk_fi21 (fun _ h9 => h9) rfl dX3_copyFrom_35 ?_
  obtain ⟨x38, e38, hf⟩ := z_bd hf
  refine z_cmV (pc := 38) (W1 := (z_wGG X d (z_gR (z_gR (z_gR (z_gC G G2.1) 0 x16) 1 x27) 2 x38) d2 G2)) S (m_X2_copyFrom l X (d 20) (d 21) (d2 20) (d2 21) (G.2 2) (G2.2 2) e38) (cwV 1 hts gX3_copyFrom_X2_copyFrom rfl rfl rfl hdX2_copyFrom ⟨Nat.le_of_ble_eq_true rfl, Nat.le_of_ble_eq_true rfl⟩) hP hK hN hD hS hA (s_GG_RR5_16 X d d2 (z_gR (z_gR (z_gC G G2.1) 0 x16) 1 x27) G2) (f_GG_RR5_16 X d d2 (z_gR (z_gR (z_gC G G2.1) 0 x16) 1 x27) G2 x38) (ci := 2) rfl rfl rfl ⟨Nat.le_of_ble_eq_true rfl, Nat.le_of_ble_eq_true rfl⟩ rfl hl.1 rfl (Nat.le_of_ble_eq_true rfl) dX3_copyFrom_38 (fun H locs hP hD hS => ?_)
  refine lv_aload_n (pc := 41) hx hb dX3_copyFrom_41 rfl (lv_at hl 0 rfl) ?_
  refine va_get (pc := 42) (ci := 3) (C := RX3) (T := TX3) (N := 6) hx hb hts in_X3 hown hK hP 0 rfl rfl 4 (by decide) lk_fi24 (fun _ h9 => h9) rfl dX3_copyFrom_42 ?_
  refine lv_aload_n (pc := 45) hx hb dX3_copyFrom_45 rfl (lv_at hl 1 rfl) ?_
  refine va_get (pc := 46) (ci := 3) (C := RX3) (T := TX3) (N := 6) hx hb hts in_X3 hown hK hP 11 rfl rfl 4 (by decide) lk_fi24 (fun _ h9 => h9) rfl dX3_copyFrom_46 ?_
  obtain ⟨x49, e49, hf⟩ := z_bd hf
  refine z_cmV (pc := 49) (W1 := (z_wGG X d (z_gR (z_gR (z_gR (z_gR (z_gC G G2.1) 0 x16) 1 x27) 2 x38) 3 x49) d2 G2)) S (m_X2_copyFrom l X (d 22) (d 23) (d2 22) (d2 23) (G.2 3) (G2.2 3) e49) (cwV 1 hts gX3_copyFrom_X2_copyFrom rfl rfl rfl hdX2_copyFrom ⟨Nat.le_of_ble_eq_true rfl, Nat.le_of_ble_eq_true rfl⟩) hP hK hN hD hS hA (s_GG_RR7_18 X d d2 (z_gR (z_gR (z_gR (z_gC G G2.1) 0 x16) 1 x27) 2 x38) G2) (f_GG_RR7_18 X d d2 (z_gR (z_gR (z_gR (z_gC G G2.1) 0 x16) 1 x27) 2 x38) G2 x49) (ci := 2) rfl rfl rfl ⟨Nat.le_of_ble_eq_true rfl, Nat.le_of_ble_eq_true rfl⟩ rfl hl.1 rfl (Nat.le_of_ble_eq_true rfl) dX3_copyFrom_49 (fun H locs hP hD hS => ?_)
  refine lv_aload_n (pc := 52) hx hb dX3_copyFrom_52 rfl (lv_at hl 0 rfl) ?_
  refine va_get (pc := 53) (ci := 3) (C := RX3) (T := TX3) (N := 6) hx hb hts in_X3 hown hK hP 0 rfl rfl 5 (by decide) lk_fi27 (fun _ h9 => h9) rfl dX3_copyFrom_53 ?_
  refine lv_aload_n (pc := 56) hx hb dX3_copyFrom_56 rfl (lv_at hl 1 rfl) ?_
  refine va_get (pc := 57) (ci := 3) (C := RX3) (T := TX3) (N := 6) hx hb hts in_X3 hown hK hP 11 rfl rfl 5 (by decide) lk_fi27 (fun _ h9 => h9) rfl dX3_copyFrom_57 ?_
  obtain ⟨x60, e60, hf⟩ := z_bd hf
  refine z_cmV (pc := 60) (W1 := (z_wGG X d (z_gR (z_gR (z_gR (z_gR (z_gR (z_gC G G2.1) 0 x16) 1 x27) 2 x38) 3 x49) 4 x60) d2 G2)) S (m_X2_copyFrom l X (d 24) (d 25) (d2 24) (d2 25) (G.2 4) (G2.2 4) e60) (cwV 1 hts gX3_copyFrom_X2_copyFrom rfl rfl rfl hdX2_copyFrom ⟨Nat.le_of_ble_eq_true rfl, Nat.le_of_ble_eq_true rfl⟩) hP hK hN hD hS hA (s_GG_RR9_20 X d d2 (z_gR (z_gR (z_gR (z_gR (z_gC G G2.1) 0 x16) 1 x27) 2 x38) 3 x49) G2) (f_GG_RR9_20 X d d2 (z_gR (z_gR (z_gR (z_gR (z_gC G G2.1) 0 x16) 1 x27) 2 x38) 3 x49) G2 x60) (ci := 2) rfl rfl rfl ⟨Nat.le_of_ble_eq_true rfl, Nat.le_of_ble_eq_true rfl⟩ rfl hl.1 rfl (Nat.le_of_ble_eq_true rfl) dX3_copyFrom_60 (fun H locs hP hD hS => ?_)
  exact W.vret (pc := 63) hx hb hr (fun t ht hW => ⟨⟨(z_wGG X d (z_gR (z_gR (z_gR (z_gR (z_gR (z_gC G G2.1) 0 x16) 1 x27) 2 x38) 3 x49) 4 x60) d2 G2), rfl, congrArg (fun z => (z_wGG X d z d2 G2)) (Option.some.inj hf), by rw [ht]; exact hP, hD⟩, hS.F ht⟩) hS.2.2 dX3_copyFrom_63
def f_X3_isIdle (G : z_G) (v1 : Int32) : Int32 := (if (z_rg (G.2 2) v1) = (-1) then (if (z_rg (G.2 3) v1) = (-1) then 1 else 0) else 0)
set_option maxHeartbeats 4000000 in
set_option maxRecDepth 100000 in
theorem m_X3_isIdle (l : Launch) (X : z_X) (d : Nat → Nat) (G : z_G) (v1 : Int32) {RR : Int32} (hf : f_X3_isIdle G v1 = RR) : z_pI l yX3_isIdle wsX3_isIdle 1 21 X [.ref (d 15), .int v1] (z_wG X d G) RR := by
  refine Met.ofW (cc := cX3_isIdle) (maxL := 2) (ret := (some .boolean)) (by decide) rfl ?_
  intro p e s m args below meth c s₁ B hml hv
  obtain ⟨rfl, hP, hK, hN⟩ := hv
  have hx := B.exec
  have hb := B.bytes
  have hr := B.returns
  have hts := atoms_spec (ws := wsX3_isIdle) B.pre
  have hown : s.vm.findClass RX3 = some m.cls := findClass_of_methodNamed B.named
  have hlocks := B.notSynchronized
  have S : CallFix p m c cX3_isIdle 2 s _ wsX3_isIdle RX3 := ⟨hx, hb, hml, hown, hts⟩
  have lk_fi21 := hts (.fieldLink RX3 21 "HouseBells$Staff" "goal" "LHouseBells$Row;") (List.mem_of_getElem? (i := 1) rfl)
  have lk_fi24 := hts (.fieldLink RX3 24 "HouseBells$Staff" "guest" "LHouseBells$Row;") (List.mem_of_getElem? (i := 2) rfl)
  have in_X3 : ∀ w ∈ wsX30, w ∈ wsX3_isIdle := fun _ h => (List.mem_cons_of_mem _ (List.mem_append_left _ (List.mem_append_right _ h)))
  have hl := lv_entry ([.ref (d 15), .int v1]) (n := 2) (Nat.le_of_ble_eq_true rfl)
  rw [lg_entry_eq]
  generalize (lg_sl ([.ref (d 15), .int v1]) ++ List.replicate (2 - (lg_sl ([.ref (d 15), .int v1])).length) Slot.unset).toArray = ls at hl ⊢
  have hl : lv_has ls 2 [(0, .ref (d 15)), (1, .int v1)] := hl
  unfold f_X3_isIdle at hf
  refine lv_aload_n (pc := 0) hx hb dX3_isIdle_0 rfl (lv_at hl 0 rfl) ?_
  refine va_get (pc := 1) (ci := 3) (C := RX3) (T := TX3) (N := 6) hx hb hts in_X3 hown hK hP 0 rfl rfl 3 (by decide) lk_fi21 (fun _ h9 => h9) rfl dX3_isIdle_1 ?_
  refine lv_iload_n (pc := 4) hx hb dX3_isIdle_4 rfl (lv_at hl 1 rfl) ?_
  refine z_cpI (pc := 5) S (m_X2_get l X (d 20) (d 21) (G.2 2) v1) (cwV 1 hts gX3_isIdle_X2_get rfl rfl rfl hdX2_get ⟨Nat.le_of_ble_eq_true rfl, Nat.le_of_ble_eq_true rfl⟩) hP hK hN (s_G_R5 X d G) (ci := 2) rfl rfl rfl ⟨Nat.le_of_ble_eq_true rfl, Nat.le_of_ble_eq_true rfl⟩ rfl hl.1 rfl (Nat.le_of_ble_eq_true rfl) dX3_isIdle_5 ?_
  refine lv_iconst (v := (-1)) (pc := 8) hx hb dX3_isIdle_8 (by decide) ?_
  refine lv_icmp_ne (pc := 9) (tgt := 28) hx hb dX3_isIdle_9 (by decide) (fun c_9 => ?_) (fun c_9 => ?_)
  · replace hf := z_in c_9 hf
    refine lv_iconst (v := 0) (pc := 28) hx hb dX3_isIdle_28 (by decide) ?_
    exact W.zret (pc := 29) (v := 0) hx hb hr rfl (fun t ht hW => ⟨_, rfl, hf, ht⟩) (fun _ h => nomatch h) dX3_isIdle_29
  · replace hf := z_ip c_9 hf
    refine lv_aload_n (pc := 12) hx hb dX3_isIdle_12 rfl (lv_at hl 0 rfl) ?_
    refine va_get (pc := 13) (ci := 3) (C := RX3) (T := TX3) (N := 6) hx hb hts in_X3 hown hK hP 0 rfl rfl 4 (by decide) lk_fi24 (fun _ h9 => h9) rfl dX3_isIdle_13 ?_
    refine lv_iload_n (pc := 16) hx hb dX3_isIdle_16 rfl (lv_at hl 1 rfl) ?_
    refine z_cpI (pc := 17) S (m_X2_get l X (d 22) (d 23) (G.2 3) v1) (cwV 1 hts gX3_isIdle_X2_get rfl rfl rfl hdX2_get ⟨Nat.le_of_ble_eq_true rfl, Nat.le_of_ble_eq_true rfl⟩) hP hK hN (s_G_R7 X d G) (ci := 2) rfl rfl rfl ⟨Nat.le_of_ble_eq_true rfl, Nat.le_of_ble_eq_true rfl⟩ rfl hl.1 rfl (Nat.le_of_ble_eq_true rfl) dX3_isIdle_17 ?_
    refine lv_iconst (v := (-1)) (pc := 20) hx hb dX3_isIdle_20 (by decide) ?_
    refine lv_icmp_ne (pc := 21) (tgt := 28) hx hb dX3_isIdle_21 (by decide) (fun c_21 => ?_) (fun c_21 => ?_)
    · replace hf := z_in c_21 hf
      refine lv_iconst (v := 0) (pc := 28) hx hb dX3_isIdle_28 (by decide) ?_
      exact W.zret (pc := 29) (v := 0) hx hb hr rfl (fun t ht hW => ⟨_, rfl, hf, ht⟩) (fun _ h => nomatch h) dX3_isIdle_29
    · replace hf := z_ip c_21 hf
      refine lv_iconst (v := 1) (pc := 24) hx hb dX3_isIdle_24 (by decide) ?_
      refine lv_goto (pc := 25) (tgt := 29) hx hb dX3_isIdle_25 (by decide) ?_
      exact W.zret (pc := 29) (v := 1) hx hb hr rfl (fun t ht hW => ⟨_, rfl, hf, ht⟩) (fun _ h => nomatch h) dX3_isIdle_29
def f_X3_rest (G : z_G) (v1 : Int32) : z_G := (z_gR (z_gR (z_gR G 2 (z_rs (G.2 2) v1 (-1))) 3 (z_rs (G.2 3) v1 (-1))) 4 (z_rs (G.2 4) v1 0))
set_option maxHeartbeats 4000000 in
set_option maxRecDepth 100000 in
theorem m_X3_rest (l : Launch) (X : z_X) (d : Nat → Nat) (G : z_G) (v1 : Int32) {RR : z_G} (hf : f_X3_rest G v1 = RR) : z_mV l yX3_rest wsX3_rest 1 22 X [.ref (d 15), .int v1] (z_wG X d G) (z_wG X d RR) := by
  intro sz
  refine Met.ofW (cc := cX3_rest) (maxL := 2) (ret := none) (by decide) rfl ?_
  intro p e s m args below meth c s₁ B hml hv
  obtain ⟨rfl, hsz, hP, hK, hN, hD0⟩ := hv
  have hx := B.exec
  have hb := B.bytes
  have hr := B.returns
  have hts := atoms_spec (ws := wsX3_rest) B.pre
  have hown : s.vm.findClass RX3 = some m.cls := findClass_of_methodNamed B.named
  have hlocks := B.notSynchronized
  have S : CallFix p m c cX3_rest 2 s _ wsX3_rest RX3 := ⟨hx, hb, hml, hown, hts⟩
  have lk_fi21 := hts (.fieldLink RX3 21 "HouseBells$Staff" "goal" "LHouseBells$Row;") (List.mem_of_getElem? (i := 1) rfl)
  have lk_fi24 := hts (.fieldLink RX3 24 "HouseBells$Staff" "guest" "LHouseBells$Row;") (List.mem_of_getElem? (i := 2) rfl)
  have lk_fi27 := hts (.fieldLink RX3 27 "HouseBells$Staff" "left" "LHouseBells$Row;") (List.mem_of_getElem? (i := 3) rfl)
  have in_X3 : ∀ w ∈ wsX30, w ∈ wsX3_rest := fun _ h => (List.mem_cons_of_mem _ (List.mem_append_left _ (List.mem_append_right _ h)))
  subst hsz
  have hD := hD0.self (sz := s.heap.size)
  generalize hAe : va_A (z_wG X d G) s.heap.size = A at hD ⊢
  have hA : ∀ q : Nat, s.heap.size ≤ q → A q := fun q h => by rw [← hAe]; exact Or.inr h
  have hS : va_S A s.heap s.heap [] := va_S.rf
  have hl := lv_entry ([.ref (d 15), .int v1]) (n := 2) (Nat.le_of_ble_eq_true rfl)
  rw [lg_entry_eq]
  generalize (lg_sl ([.ref (d 15), .int v1]) ++ List.replicate (2 - (lg_sl ([.ref (d 15), .int v1])).length) Slot.unset).toArray = ls at hl ⊢
  have hl : lv_has ls 2 [(0, .ref (d 15)), (1, .int v1)] := hl
  suffices hgo : ∀ (H : Heap) (locs : List Loc), va_P X.1 vwCl (z_wG X d G) H → va_D A (z_wG X d G) → va_S A s.heap H locs → W p l e (headSpec wsX3_rest (z_R 1 22)).room s m ([.ref (d 15), .int v1] : List Value).toArray below meth c H locs 0 0 (MQ below (va_Qv (fun u : va_W => u = (z_wG X d RR)) (z_Bm X A) A) ([.ref (d 15), .int v1] : List Value).toArray s 0 0 A) (F0 m 0 ls []) from hgo _ _ hP hD hS
  clear hP hD hS
  intro H locs hP hD hS
  unfold f_X3_rest at hf
  refine lv_aload_n (pc := 0) hx hb dX3_rest_0 rfl (lv_at hl 0 rfl) ?_
  refine va_get (pc := 1) (ci := 3) (C := RX3) (T := TX3) (N := 6) hx hb hts in_X3 hown hK hP 0 rfl rfl 3 (by decide) lk_fi21 (fun _ h9 => h9) rfl dX3_rest_1 ?_
  refine lv_iload_n (pc := 4) hx hb dX3_rest_4 rfl (lv_at hl 1 rfl) ?_
  refine lv_iconst (v := (-1)) (pc := 5) hx hb dX3_rest_5 (by decide) ?_
  refine z_cmV (pc := 6) (W1 := (z_wG X d (z_gR G 2 (z_rs (G.2 2) v1 (-1))))) S (m_X2_set l X (d 20) (d 21) (G.2 2) v1 (-1)) (cwV 2 hts gX3_rest_X2_set rfl rfl rfl hdX2_set ⟨Nat.le_of_ble_eq_true rfl, Nat.le_of_ble_eq_true rfl⟩) hP hK hN hD hS hA (s_G_R5 X d G) (f_G_R5 X d G (z_rs (G.2 2) v1 (-1))) (ci := 2) rfl rfl rfl ⟨Nat.le_of_ble_eq_true rfl, Nat.le_of_ble_eq_true rfl⟩ rfl hl.1 rfl (Nat.le_of_ble_eq_true rfl) dX3_rest_6 (fun H locs hP hD hS => ?_)
  refine lv_aload_n (pc := 9) hx hb dX3_rest_9 rfl (lv_at hl 0 rfl) ?_
  refine va_get (pc := 10) (ci := 3) (C := RX3) (T := TX3) (N := 6) hx hb hts in_X3 hown hK hP 0 rfl rfl 4 (by decide) lk_fi24 (fun _ h9 => h9) rfl dX3_rest_10 ?_
  refine lv_iload_n (pc := 13) hx hb dX3_rest_13 rfl (lv_at hl 1 rfl) ?_
  refine lv_iconst (v := (-1)) (pc := 14) hx hb dX3_rest_14 (by decide) ?_
  refine z_cmV (pc := 15) (W1 := (z_wG X d (z_gR (z_gR G 2 (z_rs (G.2 2) v1 (-1))) 3 (z_rs (G.2 3) v1 (-1))))) S (m_X2_set l X (d 22) (d 23) (G.2 3) v1 (-1)) (cwV 2 hts gX3_rest_X2_set rfl rfl rfl hdX2_set ⟨Nat.le_of_ble_eq_true rfl, Nat.le_of_ble_eq_true rfl⟩) hP hK hN hD hS hA (s_G_R7 X d (z_gR G 2 (z_rs (G.2 2) v1 (-1)))) (f_G_R7 X d (z_gR G 2 (z_rs (G.2 2) v1 (-1))) (z_rs (G.2 3) v1 (-1))) (ci := 2) rfl rfl rfl ⟨Nat.le_of_ble_eq_true rfl, Nat.le_of_ble_eq_true rfl⟩ rfl hl.1 rfl (Nat.le_of_ble_eq_true rfl) dX3_rest_15 (fun H locs hP hD hS => ?_)
  refine lv_aload_n (pc := 18) hx hb dX3_rest_18 rfl (lv_at hl 0 rfl) ?_
  refine va_get (pc := 19) (ci := 3) (C := RX3) (T := TX3) (N := 6) hx hb hts in_X3 hown hK hP 0 rfl rfl 5 (by decide) lk_fi27 (fun _ h9 => h9) rfl dX3_rest_19 ?_
  refine lv_iload_n (pc := 22) hx hb dX3_rest_22 rfl (lv_at hl 1 rfl) ?_
  refine lv_iconst (v := 0) (pc := 23) hx hb dX3_rest_23 (by decide) ?_
  refine z_cmV (pc := 24) (W1 := (z_wG X d (z_gR (z_gR (z_gR G 2 (z_rs (G.2 2) v1 (-1))) 3 (z_rs (G.2 3) v1 (-1))) 4 (z_rs (G.2 4) v1 0)))) S (m_X2_set l X (d 24) (d 25) (G.2 4) v1 0) (cwV 2 hts gX3_rest_X2_set rfl rfl rfl hdX2_set ⟨Nat.le_of_ble_eq_true rfl, Nat.le_of_ble_eq_true rfl⟩) hP hK hN hD hS hA (s_G_R9 X d (z_gR (z_gR G 2 (z_rs (G.2 2) v1 (-1))) 3 (z_rs (G.2 3) v1 (-1)))) (f_G_R9 X d (z_gR (z_gR G 2 (z_rs (G.2 2) v1 (-1))) 3 (z_rs (G.2 3) v1 (-1))) (z_rs (G.2 4) v1 0)) (ci := 2) rfl rfl rfl ⟨Nat.le_of_ble_eq_true rfl, Nat.le_of_ble_eq_true rfl⟩ rfl hl.1 rfl (Nat.le_of_ble_eq_true rfl) dX3_rest_24 (fun H locs hP hD hS => ?_)
  exact W.vret (pc := 27) hx hb hr (fun t ht hW => ⟨⟨(z_wG X d (z_gR (z_gR (z_gR G 2 (z_rs (G.2 2) v1 (-1))) 3 (z_rs (G.2 3) v1 (-1))) 4 (z_rs (G.2 4) v1 0))), rfl, congrArg (fun z => (z_wG X d z)) hf, by rw [ht]; exact hP, hD⟩, hS.F ht⟩) hS.2.2 dX3_rest_27
def f_X3_minutesOfWay (v0 : Int32) (v1 : Int32) (v2 : Int32) : Option Int32 := (if v1 ≤ v0 then (if 1 ≤ v2 then (z_dv (((v0 - v1) + v2) - 1) v2).bind (fun x30 => (if 1 ≤ x30 then some x30 else some 1)) else (if 1 ≤ (1 : Int32) then some 1 else some 1)) else (if 1 ≤ v2 then (z_dv (((v1 - v0) + v2) - 1) v2).bind (fun x30 => (if 1 ≤ x30 then some x30 else some 1)) else (if 1 ≤ (1 : Int32) then some 1 else some 1)))
set_option maxHeartbeats 4000000 in
set_option maxRecDepth 100000 in
theorem m_X3_minutesOfWay (l : Launch) (X : z_X) (v0 : Int32) (v1 : Int32) (v2 : Int32) {RR : Int32} (hf : f_X3_minutesOfWay v0 v1 v2 = some RR) : z_pI l yX3_minutesOfWay wsX3_minutesOfWay 0 0 X [.int v0, .int v1, .int v2] ([] : va_W) RR := by
  refine Met.ofW (cc := cX3_minutesOfWay) (maxL := 5) (ret := (some .int)) (by decide) rfl ?_
  intro p e s m args below meth c s₁ B hml hv
  obtain ⟨rfl, hP, hK, hN⟩ := hv
  have hx := B.exec
  have hb := B.bytes
  have hr := B.returns
  have hts := atoms_spec (ws := wsX3_minutesOfWay) B.pre
  have hown : s.vm.findClass RX3 = some m.cls := findClass_of_methodNamed B.named
  have hlocks := B.notSynchronized
  have S : CallFix p m c cX3_minutesOfWay 5 s _ wsX3_minutesOfWay RX3 := ⟨hx, hb, hml, hown, hts⟩
  have hl := lv_entry ([.int v0, .int v1, .int v2]) (n := 5) (Nat.le_of_ble_eq_true rfl)
  rw [lg_entry_eq]
  generalize (lg_sl ([.int v0, .int v1, .int v2]) ++ List.replicate (5 - (lg_sl ([.int v0, .int v1, .int v2])).length) Slot.unset).toArray = ls at hl ⊢
  have hl : lv_has ls 5 [(0, .int v0), (1, .int v1), (2, .int v2)] := hl
  unfold f_X3_minutesOfWay at hf
  refine lv_iload_n (pc := 0) hx hb dX3_minutesOfWay_0 rfl (lv_at hl 0 rfl) ?_
  refine lv_iload_n (pc := 1) hx hb dX3_minutesOfWay_1 rfl (lv_at hl 1 rfl) ?_
  refine lv_icmp_ge (pc := 2) (tgt := 11) hx hb dX3_minutesOfWay_2 (by decide) (fun c_2 => ?_) (fun c_2 => ?_)
  · replace hf := z_ip c_2 hf
    refine lv_iload_n (pc := 11) hx hb dX3_minutesOfWay_11 rfl (lv_at hl 0 rfl) ?_
    refine lv_iload_n (pc := 12) hx hb dX3_minutesOfWay_12 rfl (lv_at hl 1 rfl) ?_
    refine lv_isub (pc := 13) hx hb dX3_minutesOfWay_13 ?_
    refine lv_istore_n (pc := 14) (lv' := [(3, .int (v0 - v1)), (0, .int v0), (1, .int v1), (2, .int v2)]) hx hb dX3_minutesOfWay_14 rfl hl (by decide) rfl (fun ls hl => ?_)
    refine lv_iload_n (pc := 15) hx hb dX3_minutesOfWay_15 rfl (lv_at hl 3 rfl) ?_
    refine lv_iconst (v := 1) (pc := 16) hx hb dX3_minutesOfWay_16 (by decide) ?_
    refine lv_icmp_ge (pc := 17) (tgt := 24) hx hb dX3_minutesOfWay_17 (by decide) (fun c_17 => ?_) (fun c_17 => ?_)
    · replace hf := z_ip c_17 hf
      refine lv_iload_n (pc := 24) hx hb dX3_minutesOfWay_24 rfl (lv_at hl 0 rfl) ?_
      refine lv_iload_n (pc := 25) hx hb dX3_minutesOfWay_25 rfl (lv_at hl 3 rfl) ?_
      refine lv_iadd (pc := 26) hx hb dX3_minutesOfWay_26 ?_
      refine lv_iconst (v := 1) (pc := 27) hx hb dX3_minutesOfWay_27 (by decide) ?_
      refine lv_isub (pc := 28) hx hb dX3_minutesOfWay_28 ?_
      refine lv_iload_n (pc := 29) hx hb dX3_minutesOfWay_29 rfl (lv_at hl 3 rfl) ?_
      obtain ⟨x30, e30, hf⟩ := z_bd hf
      refine z_idiv (pc := 30) hx hb e30 dX3_minutesOfWay_30 ?_
      refine lv_istore (pc := 31) (lv' := [(4, .int x30), (3, .int (v0 - v1)), (0, .int v0), (1, .int v1), (2, .int v2)]) hx hb dX3_minutesOfWay_31 hl (by decide) rfl (fun ls hl => ?_)
      refine lv_iload (pc := 33) hx hb dX3_minutesOfWay_33 (lv_at hl 0 rfl) ?_
      refine lv_iconst (v := 1) (pc := 35) hx hb dX3_minutesOfWay_35 (by decide) ?_
      refine lv_icmp_ge (pc := 36) (tgt := 43) hx hb dX3_minutesOfWay_36 (by decide) (fun c_36 => ?_) (fun c_36 => ?_)
      · replace hf := z_ip c_36 hf
        refine lv_iload (pc := 43) hx hb dX3_minutesOfWay_43 (lv_at hl 0 rfl) ?_
        exact W.iret (pc := 45) (v := x30) hx hb hr (fun t ht hW => ⟨_, rfl, (Option.some.inj hf), ht⟩) (fun _ h => nomatch h) dX3_minutesOfWay_45
      · replace hf := z_in c_36 hf
        refine lv_iconst (v := 1) (pc := 39) hx hb dX3_minutesOfWay_39 (by decide) ?_
        refine lv_goto (pc := 40) (tgt := 45) hx hb dX3_minutesOfWay_40 (by decide) ?_
        exact W.iret (pc := 45) (v := 1) hx hb hr (fun t ht hW => ⟨_, rfl, (Option.some.inj hf), ht⟩) (fun _ h => nomatch h) dX3_minutesOfWay_45
    · replace hf := z_in c_17 hf
      refine lv_iconst (v := 1) (pc := 20) hx hb dX3_minutesOfWay_20 (by decide) ?_
      refine lv_goto (pc := 21) (tgt := 31) hx hb dX3_minutesOfWay_21 (by decide) ?_
      refine lv_istore (pc := 31) (lv' := [(4, .int 1), (3, .int (v0 - v1)), (0, .int v0), (1, .int v1), (2, .int v2)]) hx hb dX3_minutesOfWay_31 hl (by decide) rfl (fun ls hl => ?_)
      refine lv_iload (pc := 33) hx hb dX3_minutesOfWay_33 (lv_at hl 0 rfl) ?_
      refine lv_iconst (v := 1) (pc := 35) hx hb dX3_minutesOfWay_35 (by decide) ?_
      refine lv_icmp_ge (pc := 36) (tgt := 43) hx hb dX3_minutesOfWay_36 (by decide) (fun c_36 => ?_) (fun c_36 => ?_)
      · replace hf := z_ip c_36 hf
        refine lv_iload (pc := 43) hx hb dX3_minutesOfWay_43 (lv_at hl 0 rfl) ?_
        exact W.iret (pc := 45) (v := 1) hx hb hr (fun t ht hW => ⟨_, rfl, (Option.some.inj hf), ht⟩) (fun _ h => nomatch h) dX3_minutesOfWay_45
      · replace hf := z_in c_36 hf
        refine lv_iconst (v := 1) (pc := 39) hx hb dX3_minutesOfWay_39 (by decide) ?_
        refine lv_goto (pc := 40) (tgt := 45) hx hb dX3_minutesOfWay_40 (by decide) ?_
        exact W.iret (pc := 45) (v := 1) hx hb hr (fun t ht hW => ⟨_, rfl, (Option.some.inj hf), ht⟩) (fun _ h => nomatch h) dX3_minutesOfWay_45
  · replace hf := z_in c_2 hf
    refine lv_iload_n (pc := 5) hx hb dX3_minutesOfWay_5 rfl (lv_at hl 1 rfl) ?_
    refine lv_iload_n (pc := 6) hx hb dX3_minutesOfWay_6 rfl (lv_at hl 0 rfl) ?_
    refine lv_isub (pc := 7) hx hb dX3_minutesOfWay_7 ?_
    refine lv_goto (pc := 8) (tgt := 14) hx hb dX3_minutesOfWay_8 (by decide) ?_
    refine lv_istore_n (pc := 14) (lv' := [(3, .int (v1 - v0)), (0, .int v0), (1, .int v1), (2, .int v2)]) hx hb dX3_minutesOfWay_14 rfl hl (by decide) rfl (fun ls hl => ?_)
    refine lv_iload_n (pc := 15) hx hb dX3_minutesOfWay_15 rfl (lv_at hl 3 rfl) ?_
    refine lv_iconst (v := 1) (pc := 16) hx hb dX3_minutesOfWay_16 (by decide) ?_
    refine lv_icmp_ge (pc := 17) (tgt := 24) hx hb dX3_minutesOfWay_17 (by decide) (fun c_17 => ?_) (fun c_17 => ?_)
    · replace hf := z_ip c_17 hf
      refine lv_iload_n (pc := 24) hx hb dX3_minutesOfWay_24 rfl (lv_at hl 0 rfl) ?_
      refine lv_iload_n (pc := 25) hx hb dX3_minutesOfWay_25 rfl (lv_at hl 3 rfl) ?_
      refine lv_iadd (pc := 26) hx hb dX3_minutesOfWay_26 ?_
      refine lv_iconst (v := 1) (pc := 27) hx hb dX3_minutesOfWay_27 (by decide) ?_
      refine lv_isub (pc := 28) hx hb dX3_minutesOfWay_28 ?_
      refine lv_iload_n (pc := 29) hx hb dX3_minutesOfWay_29 rfl (lv_at hl 3 rfl) ?_
      obtain ⟨x30, e30, hf⟩ := z_bd hf
      refine z_idiv (pc := 30) hx hb e30 dX3_minutesOfWay_30 ?_
      refine lv_istore (pc := 31) (lv' := [(4, .int x30), (3, .int (v1 - v0)), (0, .int v0), (1, .int v1), (2, .int v2)]) hx hb dX3_minutesOfWay_31 hl (by decide) rfl (fun ls hl => ?_)
      refine lv_iload (pc := 33) hx hb dX3_minutesOfWay_33 (lv_at hl 0 rfl) ?_
      refine lv_iconst (v := 1) (pc := 35) hx hb dX3_minutesOfWay_35 (by decide) ?_
      refine lv_icmp_ge (pc := 36) (tgt := 43) hx hb dX3_minutesOfWay_36 (by decide) (fun c_36 => ?_) (fun c_36 => ?_)
      · replace hf := z_ip c_36 hf
        refine lv_iload (pc := 43) hx hb dX3_minutesOfWay_43 (lv_at hl 0 rfl) ?_
        exact W.iret (pc := 45) (v := x30) hx hb hr (fun t ht hW => ⟨_, rfl, (Option.some.inj hf), ht⟩) (fun _ h => nomatch h) dX3_minutesOfWay_45
      · replace hf := z_in c_36 hf
        refine lv_iconst (v := 1) (pc := 39) hx hb dX3_minutesOfWay_39 (by decide) ?_
        refine lv_goto (pc := 40) (tgt := 45) hx hb dX3_minutesOfWay_40 (by decide) ?_
        exact W.iret (pc := 45) (v := 1) hx hb hr (fun t ht hW => ⟨_, rfl, (Option.some.inj hf), ht⟩) (fun _ h => nomatch h) dX3_minutesOfWay_45
    · replace hf := z_in c_17 hf
      refine lv_iconst (v := 1) (pc := 20) hx hb dX3_minutesOfWay_20 (by decide) ?_
      refine lv_goto (pc := 21) (tgt := 31) hx hb dX3_minutesOfWay_21 (by decide) ?_
      refine lv_istore (pc := 31) (lv' := [(4, .int 1), (3, .int (v1 - v0)), (0, .int v0), (1, .int v1), (2, .int v2)]) hx hb dX3_minutesOfWay_31 hl (by decide) rfl (fun ls hl => ?_)
      refine lv_iload (pc := 33) hx hb dX3_minutesOfWay_33 (lv_at hl 0 rfl) ?_
      refine lv_iconst (v := 1) (pc := 35) hx hb dX3_minutesOfWay_35 (by decide) ?_
      refine lv_icmp_ge (pc := 36) (tgt := 43) hx hb dX3_minutesOfWay_36 (by decide) (fun c_36 => ?_) (fun c_36 => ?_)
      · replace hf := z_ip c_36 hf
        refine lv_iload (pc := 43) hx hb dX3_minutesOfWay_43 (lv_at hl 0 rfl) ?_
        exact W.iret (pc := 45) (v := 1) hx hb hr (fun t ht hW => ⟨_, rfl, (Option.some.inj hf), ht⟩) (fun _ h => nomatch h) dX3_minutesOfWay_45
      · replace hf := z_in c_36 hf
        refine lv_iconst (v := 1) (pc := 39) hx hb dX3_minutesOfWay_39 (by decide) ?_
        refine lv_goto (pc := 40) (tgt := 45) hx hb dX3_minutesOfWay_40 (by decide) ?_
        exact W.iret (pc := 45) (v := 1) hx hb hr (fun t ht hW => ⟨_, rfl, (Option.some.inj hf), ht⟩) (fun _ h => nomatch h) dX3_minutesOfWay_45
def f_X3_nearestTo_L7 (G : z_G) : Nat → Int32 → Int32 → Int32 → Int32 → Option Int32
  | 0, _, _, _, _ => none
  | n + 1, u1, u2, u3, u4 => (if G.1 ≤ u4 then some u2 else (if (z_rg (G.2 2) u4) = (-1) then (if (z_rg (G.2 3) u4) = (-1) then (f_X3_minutesOfWay (z_rg (G.2 1) u4) u1 (z_rg (G.2 0) u4)).bind (fun x64 => (if u2 = (-1) then f_X3_nearestTo_L7 G n u1 u4 x64 (u4 + 1) else (if u3 ≤ x64 then f_X3_nearestTo_L7 G n u1 u2 u3 (u4 + 1) else f_X3_nearestTo_L7 G n u1 u4 x64 (u4 + 1)))) else f_X3_nearestTo_L7 G n u1 u2 u3 (u4 + 1)) else f_X3_nearestTo_L7 G n u1 u2 u3 (u4 + 1)))
def f_X3_nearestTo (G : z_G) (v1 : Int32) : Option Int32 := (f_X3_nearestTo_L7 G z_FU v1 (-1) 0 0).bind (fun x7 => some x7)
set_option maxHeartbeats 4000000 in
set_option maxRecDepth 100000 in
theorem m_X3_nearestTo (l : Launch) (X : z_X) (d : Nat → Nat) (G : z_G) (v1 : Int32) {RR : Int32} (hf : f_X3_nearestTo G v1 = some RR) : z_pI l yX3_nearestTo wsX3_nearestTo 1 24 X [.ref (d 15), .int v1] (z_wG X d G) RR := by
  refine Met.ofW (cc := cX3_nearestTo) (maxL := 6) (ret := (some .int)) (by decide) rfl ?_
  intro p e s m args below meth c s₁ B hml hv
  obtain ⟨rfl, hP, hK, hN⟩ := hv
  have hx := B.exec
  have hb := B.bytes
  have hr := B.returns
  have hts := atoms_spec (ws := wsX3_nearestTo) B.pre
  have hown : s.vm.findClass RX3 = some m.cls := findClass_of_methodNamed B.named
  have hlocks := B.notSynchronized
  have S : CallFix p m c cX3_nearestTo 6 s _ wsX3_nearestTo RX3 := ⟨hx, hb, hml, hown, hts⟩
  have lk_fi30 := hts (.fieldLink RX3 30 "HouseBells$Staff" "count" "I") (List.mem_of_getElem? (i := 1) rfl)
  have lk_fi21 := hts (.fieldLink RX3 21 "HouseBells$Staff" "goal" "LHouseBells$Row;") (List.mem_of_getElem? (i := 2) rfl)
  have lk_fi24 := hts (.fieldLink RX3 24 "HouseBells$Staff" "guest" "LHouseBells$Row;") (List.mem_of_getElem? (i := 3) rfl)
  have lk_fi18 := hts (.fieldLink RX3 18 "HouseBells$Staff" "floor" "LHouseBells$Row;") (List.mem_of_getElem? (i := 4) rfl)
  have lk_fi12 := hts (.fieldLink RX3 12 "HouseBells$Staff" "pace" "LHouseBells$Row;") (List.mem_of_getElem? (i := 5) rfl)
  have in_X3 : ∀ w ∈ wsX30, w ∈ wsX3_nearestTo := fun _ h => (List.mem_cons_of_mem _ (List.mem_append_left _ (List.mem_append_right _ h)))
  have hl := lv_entry ([.ref (d 15), .int v1]) (n := 6) (Nat.le_of_ble_eq_true rfl)
  rw [lg_entry_eq]
  generalize (lg_sl ([.ref (d 15), .int v1]) ++ List.replicate (6 - (lg_sl ([.ref (d 15), .int v1])).length) Slot.unset).toArray = ls at hl ⊢
  have hl : lv_has ls 6 [(0, .ref (d 15)), (1, .int v1)] := hl
  have lp_7 : ∀ (n : Nat) (u1 : Int32) (u2 : Int32) (u3 : Int32) (u4 : Int32) (T : Int32) (ls : Array Slot), lv_has ls 6 [(0, .ref (d 15)), (1, .int u1), (2, .int u2), (3, .int u3), (4, .int u4)] → f_X3_nearestTo_L7 G n u1 u2 u3 u4 = some T → (∀ (ls : Array Slot), lv_has ls 6 [(2, .int T)] → W p l e (headSpec wsX3_nearestTo (z_R 1 24)).room s m ([.ref (d 15), .int v1] : List Value).toArray below meth c s.heap [] 0 0 (MQ below (vp_Si (fun z => z = RR)) ([.ref (d 15), .int v1] : List Value).toArray s 0 0 (fun _ => False)) (F0 m 92 ls [])) → W p l e (headSpec wsX3_nearestTo (z_R 1 24)).room s m ([.ref (d 15), .int v1] : List Value).toArray below meth c s.heap [] 0 0 (MQ below (vp_Si (fun z => z = RR)) ([.ref (d 15), .int v1] : List Value).toArray s 0 0 (fun _ => False)) (F0 m 7 ls []) := by
    intro n
    induction n with
    | zero =>
      intro u1 u2 u3 u4 T ls hl hf kk
      cases hf
    | succ n ih =>
      intro u1 u2 u3 u4 T ls hl hf kk
      rw [f_X3_nearestTo_L7] at hf
      refine lv_iload (pc := 7) hx hb dX3_nearestTo_7 (lv_at hl 4 rfl) ?_
      refine lv_aload_n (pc := 9) hx hb dX3_nearestTo_9 rfl (lv_at hl 0 rfl) ?_
      refine va_get (pc := 10) (ci := 3) (C := RX3) (T := TX3) (N := 6) hx hb hts in_X3 hown hK hP 0 rfl rfl 0 (by decide) lk_fi30 (fun _ h9 => h9) rfl dX3_nearestTo_10 ?_
      refine lv_icmp_ge (pc := 13) (tgt := 92) hx hb dX3_nearestTo_13 (by decide) (fun c_13 => ?_) (fun c_13 => ?_)
      · replace hf := z_ip c_13 hf
        obtain rfl := Option.some.inj hf
        exact kk ls (lv_sub hl [2] rfl)
      · replace hf := z_in c_13 hf
        refine lv_aload_n (pc := 16) hx hb dX3_nearestTo_16 rfl (lv_at hl 0 rfl) ?_
        refine va_get (pc := 17) (ci := 3) (C := RX3) (T := TX3) (N := 6) hx hb hts in_X3 hown hK hP 0 rfl rfl 3 (by decide) lk_fi21 (fun _ h9 => h9) rfl dX3_nearestTo_17 ?_
        refine lv_iload (pc := 20) hx hb dX3_nearestTo_20 (lv_at hl 4 rfl) ?_
        refine z_cpI (pc := 22) S (m_X2_get l X (d 20) (d 21) (G.2 2) u4) (cwV 1 hts gX3_nearestTo_X2_get rfl rfl rfl hdX2_get ⟨Nat.le_of_ble_eq_true rfl, Nat.le_of_ble_eq_true rfl⟩) hP hK hN (s_G_R5 X d G) (ci := 2) rfl rfl rfl ⟨Nat.le_of_ble_eq_true rfl, Nat.le_of_ble_eq_true rfl⟩ rfl hl.1 rfl (Nat.le_of_ble_eq_true rfl) dX3_nearestTo_22 ?_
        refine lv_iconst (v := (-1)) (pc := 25) hx hb dX3_nearestTo_25 (by decide) ?_
        refine lv_icmp_ne (pc := 26) (tgt := 86) hx hb dX3_nearestTo_26 (by decide) (fun c_26 => ?_) (fun c_26 => ?_)
        · replace hf := z_in c_26 hf
          refine lv_iinc (pc := 86) (v := (u4 + 1)) (lv' := [(4, .int (u4 + 1)), (0, .ref (d 15)), (1, .int u1), (2, .int u2), (3, .int u3)]) hx hb dX3_nearestTo_86 hl (k := 4) rfl rfl (by decide) rfl (fun ls hl => ?_)
          refine lv_goto (pc := 89) (tgt := 7) hx hb dX3_nearestTo_89 (by decide) ?_
          exact ih u1 u2 u3 (u4 + 1) T ls (lv_sub hl [1, 2, 3, 4, 0] rfl) hf kk
        · replace hf := z_ip c_26 hf
          refine lv_aload_n (pc := 29) hx hb dX3_nearestTo_29 rfl (lv_at hl 0 rfl) ?_
          refine va_get (pc := 30) (ci := 3) (C := RX3) (T := TX3) (N := 6) hx hb hts in_X3 hown hK hP 0 rfl rfl 4 (by decide) lk_fi24 (fun _ h9 => h9) rfl dX3_nearestTo_30 ?_
          refine lv_iload (pc := 33) hx hb dX3_nearestTo_33 (lv_at hl 4 rfl) ?_
          refine z_cpI (pc := 35) S (m_X2_get l X (d 22) (d 23) (G.2 3) u4) (cwV 1 hts gX3_nearestTo_X2_get rfl rfl rfl hdX2_get ⟨Nat.le_of_ble_eq_true rfl, Nat.le_of_ble_eq_true rfl⟩) hP hK hN (s_G_R7 X d G) (ci := 2) rfl rfl rfl ⟨Nat.le_of_ble_eq_true rfl, Nat.le_of_ble_eq_true rfl⟩ rfl hl.1 rfl (Nat.le_of_ble_eq_true rfl) dX3_nearestTo_35 ?_
          refine lv_iconst (v := (-1)) (pc := 38) hx hb dX3_nearestTo_38 (by decide) ?_
          refine lv_icmp_eq (pc := 39) (tgt := 45) hx hb dX3_nearestTo_39 (by decide) (fun c_39 => ?_) (fun c_39 => ?_)
          · replace hf := z_ip c_39 hf
            refine lv_aload_n (pc := 45) hx hb dX3_nearestTo_45 rfl (lv_at hl 0 rfl) ?_
            refine va_get (pc := 46) (ci := 3) (C := RX3) (T := TX3) (N := 6) hx hb hts in_X3 hown hK hP 0 rfl rfl 2 (by decide) lk_fi18 (fun _ h9 => h9) rfl dX3_nearestTo_46 ?_
            refine lv_iload (pc := 49) hx hb dX3_nearestTo_49 (lv_at hl 4 rfl) ?_
            refine z_cpI (pc := 51) S (m_X2_get l X (d 18) (d 19) (G.2 1) u4) (cwV 1 hts gX3_nearestTo_X2_get rfl rfl rfl hdX2_get ⟨Nat.le_of_ble_eq_true rfl, Nat.le_of_ble_eq_true rfl⟩) hP hK hN (s_G_R3 X d G) (ci := 2) rfl rfl rfl ⟨Nat.le_of_ble_eq_true rfl, Nat.le_of_ble_eq_true rfl⟩ rfl hl.1 rfl (Nat.le_of_ble_eq_true rfl) dX3_nearestTo_51 ?_
            refine lv_iload_n (pc := 54) hx hb dX3_nearestTo_54 rfl (lv_at hl 1 rfl) ?_
            refine lv_aload_n (pc := 55) hx hb dX3_nearestTo_55 rfl (lv_at hl 0 rfl) ?_
            refine va_get (pc := 56) (ci := 3) (C := RX3) (T := TX3) (N := 6) hx hb hts in_X3 hown hK hP 0 rfl rfl 1 (by decide) lk_fi12 (fun _ h9 => h9) rfl dX3_nearestTo_56 ?_
            refine lv_iload (pc := 59) hx hb dX3_nearestTo_59 (lv_at hl 4 rfl) ?_
            refine z_cpI (pc := 61) S (m_X2_get l X (d 16) (d 17) (G.2 0) u4) (cwV 1 hts gX3_nearestTo_X2_get rfl rfl rfl hdX2_get ⟨Nat.le_of_ble_eq_true rfl, Nat.le_of_ble_eq_true rfl⟩) hP hK hN (s_G_R1 X d G) (ci := 2) rfl rfl rfl ⟨Nat.le_of_ble_eq_true rfl, Nat.le_of_ble_eq_true rfl⟩ rfl hl.1 rfl (Nat.le_of_ble_eq_true rfl) dX3_nearestTo_61 ?_
            obtain ⟨x64, e64, hf⟩ := z_bd hf
            refine z_csI (pc := 64) S (m_X3_minutesOfWay l X (z_rg (G.2 1) u4) u1 (z_rg (G.2 0) u4) e64) (va_cwS 3 hts gX3_nearestTo_X3_minutesOfWay rfl rfl rfl hdX3_minutesOfWay ⟨Nat.le_of_ble_eq_true rfl, Nat.le_of_ble_eq_true rfl⟩) hP hK hN (s_nil _) ⟨Nat.le_of_ble_eq_true rfl, Nat.le_of_ble_eq_true rfl⟩ rfl hl.1 rfl (Nat.le_of_ble_eq_true rfl) dX3_nearestTo_64 ?_
            refine lv_istore (pc := 67) (lv' := [(5, .int x64), (0, .ref (d 15)), (1, .int u1), (2, .int u2), (3, .int u3), (4, .int u4)]) hx hb dX3_nearestTo_67 hl (by decide) rfl (fun ls hl => ?_)
            refine lv_iload_n (pc := 69) hx hb dX3_nearestTo_69 rfl (lv_at hl 3 rfl) ?_
            refine lv_iconst (v := (-1)) (pc := 70) hx hb dX3_nearestTo_70 (by decide) ?_
            refine lv_icmp_eq (pc := 71) (tgt := 80) hx hb dX3_nearestTo_71 (by decide) (fun c_71 => ?_) (fun c_71 => ?_)
            · replace hf := z_ip c_71 hf
              refine lv_iload (pc := 80) hx hb dX3_nearestTo_80 (lv_at hl 5 rfl) ?_
              refine lv_istore_n (pc := 82) (lv' := [(2, .int u4), (5, .int x64), (0, .ref (d 15)), (1, .int u1), (3, .int u3), (4, .int u4)]) hx hb dX3_nearestTo_82 rfl hl (by decide) rfl (fun ls hl => ?_)
              refine lv_iload (pc := 83) hx hb dX3_nearestTo_83 (lv_at hl 1 rfl) ?_
              refine lv_istore_n (pc := 85) (lv' := [(3, .int x64), (2, .int u4), (5, .int x64), (0, .ref (d 15)), (1, .int u1), (4, .int u4)]) hx hb dX3_nearestTo_85 rfl hl (by decide) rfl (fun ls hl => ?_)
              refine lv_iinc (pc := 86) (v := (u4 + 1)) (lv' := [(4, .int (u4 + 1)), (3, .int x64), (2, .int u4), (5, .int x64), (0, .ref (d 15)), (1, .int u1)]) hx hb dX3_nearestTo_86 hl (k := 5) rfl rfl (by decide) rfl (fun ls hl => ?_)
              refine lv_goto (pc := 89) (tgt := 7) hx hb dX3_nearestTo_89 (by decide) ?_
              exact ih u1 u4 x64 (u4 + 1) T ls (lv_sub hl [4, 5, 2, 1, 0] rfl) hf kk
            · replace hf := z_in c_71 hf
              refine lv_iload (pc := 74) hx hb dX3_nearestTo_74 (lv_at hl 0 rfl) ?_
              refine lv_iload_n (pc := 76) hx hb dX3_nearestTo_76 rfl (lv_at hl 4 rfl) ?_
              refine lv_icmp_ge (pc := 77) (tgt := 86) hx hb dX3_nearestTo_77 (by decide) (fun c_77 => ?_) (fun c_77 => ?_)
              · replace hf := z_ip c_77 hf
                refine lv_iinc (pc := 86) (v := (u4 + 1)) (lv' := [(4, .int (u4 + 1)), (5, .int x64), (0, .ref (d 15)), (1, .int u1), (2, .int u2), (3, .int u3)]) hx hb dX3_nearestTo_86 hl (k := 5) rfl rfl (by decide) rfl (fun ls hl => ?_)
                refine lv_goto (pc := 89) (tgt := 7) hx hb dX3_nearestTo_89 (by decide) ?_
                exact ih u1 u2 u3 (u4 + 1) T ls (lv_sub hl [2, 3, 4, 5, 0] rfl) hf kk
              · replace hf := z_in c_77 hf
                refine lv_iload (pc := 80) hx hb dX3_nearestTo_80 (lv_at hl 5 rfl) ?_
                refine lv_istore_n (pc := 82) (lv' := [(2, .int u4), (5, .int x64), (0, .ref (d 15)), (1, .int u1), (3, .int u3), (4, .int u4)]) hx hb dX3_nearestTo_82 rfl hl (by decide) rfl (fun ls hl => ?_)
                refine lv_iload (pc := 83) hx hb dX3_nearestTo_83 (lv_at hl 1 rfl) ?_
                refine lv_istore_n (pc := 85) (lv' := [(3, .int x64), (2, .int u4), (5, .int x64), (0, .ref (d 15)), (1, .int u1), (4, .int u4)]) hx hb dX3_nearestTo_85 rfl hl (by decide) rfl (fun ls hl => ?_)
                refine lv_iinc (pc := 86) (v := (u4 + 1)) (lv' := [(4, .int (u4 + 1)), (3, .int x64), (2, .int u4), (5, .int x64), (0, .ref (d 15)), (1, .int u1)]) hx hb dX3_nearestTo_86 hl (k := 5) rfl rfl (by decide) rfl (fun ls hl => ?_)
                refine lv_goto (pc := 89) (tgt := 7) hx hb dX3_nearestTo_89 (by decide) ?_
                exact ih u1 u4 x64 (u4 + 1) T ls (lv_sub hl [4, 5, 2, 1, 0] rfl) hf kk
          · replace hf := z_in c_39 hf
            refine lv_goto (pc := 42) (tgt := 86) hx hb dX3_nearestTo_42 (by decide) ?_
            refine lv_iinc (pc := 86) (v := (u4 + 1)) (lv' := [(4, .int (u4 + 1)), (0, .ref (d 15)), (1, .int u1), (2, .int u2), (3, .int u3)]) hx hb dX3_nearestTo_86 hl (k := 4) rfl rfl (by decide) rfl (fun ls hl => ?_)
            refine lv_goto (pc := 89) (tgt := 7) hx hb dX3_nearestTo_89 (by decide) ?_
            exact ih u1 u2 u3 (u4 + 1) T ls (lv_sub hl [1, 2, 3, 4, 0] rfl) hf kk
  unfold f_X3_nearestTo at hf
  refine lv_iconst (v := (-1)) (pc := 0) hx hb dX3_nearestTo_0 (by decide) ?_
  refine lv_istore_n (pc := 1) (lv' := [(2, .int (-1)), (0, .ref (d 15)), (1, .int v1)]) hx hb dX3_nearestTo_1 rfl hl (by decide) rfl (fun ls hl => ?_)
  refine lv_iconst (v := 0) (pc := 2) hx hb dX3_nearestTo_2 (by decide) ?_
  refine lv_istore_n (pc := 3) (lv' := [(3, .int 0), (2, .int (-1)), (0, .ref (d 15)), (1, .int v1)]) hx hb dX3_nearestTo_3 rfl hl (by decide) rfl (fun ls hl => ?_)
  refine lv_iconst (v := 0) (pc := 4) hx hb dX3_nearestTo_4 (by decide) ?_
  refine lv_istore (pc := 5) (lv' := [(4, .int 0), (3, .int 0), (2, .int (-1)), (0, .ref (d 15)), (1, .int v1)]) hx hb dX3_nearestTo_5 hl (by decide) rfl (fun ls hl => ?_)
  obtain ⟨x7, e7, hf⟩ := z_bd hf
  refine lp_7 z_FU v1 (-1) 0 0 x7 ls (lv_sub hl [3, 4, 2, 1, 0] rfl) e7 (fun ls hl => ?_)
  refine lv_iload_n (pc := 92) hx hb dX3_nearestTo_92 rfl (lv_at hl 0 rfl) ?_
  exact W.iret (pc := 93) (v := x7) hx hb hr (fun t ht hW => ⟨_, rfl, (Option.some.inj hf), ht⟩) (fun _ h => nomatch h) dX3_nearestTo_93
def f_X3_wayToFloor (G : z_G) (v1 : Int32) (v2 : Int32) : Option Int32 := (f_X3_minutesOfWay (z_rg (G.2 1) v1) v2 (z_rg (G.2 0) v1)).bind (fun x17 => some x17)
set_option maxHeartbeats 4000000 in
set_option maxRecDepth 100000 in
theorem m_X3_wayToFloor (l : Launch) (X : z_X) (d : Nat → Nat) (G : z_G) (v1 : Int32) (v2 : Int32) {RR : Int32} (hf : f_X3_wayToFloor G v1 v2 = some RR) : z_pI l yX3_wayToFloor wsX3_wayToFloor 1 24 X [.ref (d 15), .int v1, .int v2] (z_wG X d G) RR := by
  refine Met.ofW (cc := cX3_wayToFloor) (maxL := 3) (ret := (some .int)) (by decide) rfl ?_
  intro p e s m args below meth c s₁ B hml hv
  obtain ⟨rfl, hP, hK, hN⟩ := hv
  have hx := B.exec
  have hb := B.bytes
  have hr := B.returns
  have hts := atoms_spec (ws := wsX3_wayToFloor) B.pre
  have hown : s.vm.findClass RX3 = some m.cls := findClass_of_methodNamed B.named
  have hlocks := B.notSynchronized
  have S : CallFix p m c cX3_wayToFloor 3 s _ wsX3_wayToFloor RX3 := ⟨hx, hb, hml, hown, hts⟩
  have lk_fi18 := hts (.fieldLink RX3 18 "HouseBells$Staff" "floor" "LHouseBells$Row;") (List.mem_of_getElem? (i := 1) rfl)
  have lk_fi12 := hts (.fieldLink RX3 12 "HouseBells$Staff" "pace" "LHouseBells$Row;") (List.mem_of_getElem? (i := 2) rfl)
  have in_X3 : ∀ w ∈ wsX30, w ∈ wsX3_wayToFloor := fun _ h => (List.mem_cons_of_mem _ (List.mem_append_left _ (List.mem_append_right _ h)))
  have hl := lv_entry ([.ref (d 15), .int v1, .int v2]) (n := 3) (Nat.le_of_ble_eq_true rfl)
  rw [lg_entry_eq]
  generalize (lg_sl ([.ref (d 15), .int v1, .int v2]) ++ List.replicate (3 - (lg_sl ([.ref (d 15), .int v1, .int v2])).length) Slot.unset).toArray = ls at hl ⊢
  have hl : lv_has ls 3 [(0, .ref (d 15)), (1, .int v1), (2, .int v2)] := hl
  unfold f_X3_wayToFloor at hf
  refine lv_aload_n (pc := 0) hx hb dX3_wayToFloor_0 rfl (lv_at hl 0 rfl) ?_
  refine va_get (pc := 1) (ci := 3) (C := RX3) (T := TX3) (N := 6) hx hb hts in_X3 hown hK hP 0 rfl rfl 2 (by decide) lk_fi18 (fun _ h9 => h9) rfl dX3_wayToFloor_1 ?_
  refine lv_iload_n (pc := 4) hx hb dX3_wayToFloor_4 rfl (lv_at hl 1 rfl) ?_
  refine z_cpI (pc := 5) S (m_X2_get l X (d 18) (d 19) (G.2 1) v1) (cwV 1 hts gX3_wayToFloor_X2_get rfl rfl rfl hdX2_get ⟨Nat.le_of_ble_eq_true rfl, Nat.le_of_ble_eq_true rfl⟩) hP hK hN (s_G_R3 X d G) (ci := 2) rfl rfl rfl ⟨Nat.le_of_ble_eq_true rfl, Nat.le_of_ble_eq_true rfl⟩ rfl hl.1 rfl (Nat.le_of_ble_eq_true rfl) dX3_wayToFloor_5 ?_
  refine lv_iload_n (pc := 8) hx hb dX3_wayToFloor_8 rfl (lv_at hl 2 rfl) ?_
  refine lv_aload_n (pc := 9) hx hb dX3_wayToFloor_9 rfl (lv_at hl 0 rfl) ?_
  refine va_get (pc := 10) (ci := 3) (C := RX3) (T := TX3) (N := 6) hx hb hts in_X3 hown hK hP 0 rfl rfl 1 (by decide) lk_fi12 (fun _ h9 => h9) rfl dX3_wayToFloor_10 ?_
  refine lv_iload_n (pc := 13) hx hb dX3_wayToFloor_13 rfl (lv_at hl 1 rfl) ?_
  refine z_cpI (pc := 14) S (m_X2_get l X (d 16) (d 17) (G.2 0) v1) (cwV 1 hts gX3_wayToFloor_X2_get rfl rfl rfl hdX2_get ⟨Nat.le_of_ble_eq_true rfl, Nat.le_of_ble_eq_true rfl⟩) hP hK hN (s_G_R1 X d G) (ci := 2) rfl rfl rfl ⟨Nat.le_of_ble_eq_true rfl, Nat.le_of_ble_eq_true rfl⟩ rfl hl.1 rfl (Nat.le_of_ble_eq_true rfl) dX3_wayToFloor_14 ?_
  obtain ⟨x17, e17, hf⟩ := z_bd hf
  refine z_csI (pc := 17) S (m_X3_minutesOfWay l X (z_rg (G.2 1) v1) v2 (z_rg (G.2 0) v1) e17) (va_cwS 3 hts gX3_wayToFloor_X3_minutesOfWay rfl rfl rfl hdX3_minutesOfWay ⟨Nat.le_of_ble_eq_true rfl, Nat.le_of_ble_eq_true rfl⟩) hP hK hN (s_nil _) ⟨Nat.le_of_ble_eq_true rfl, Nat.le_of_ble_eq_true rfl⟩ rfl hl.1 rfl (Nat.le_of_ble_eq_true rfl) dX3_wayToFloor_17 ?_
  exact W.iret (pc := 20) (v := x17) hx hb hr (fun t ht hW => ⟨_, rfl, (Option.some.inj hf), ht⟩) (fun _ h => nomatch h) dX3_wayToFloor_20
def f_X3_hire (G : z_G) (v1 : Int32) : (Int32 × z_G) := (G.1, (f_X3_rest (z_gR (z_gR (z_gC G (G.1 + 1)) 0 (z_rs (G.2 0) G.1 v1)) 1 (z_rs (G.2 1) G.1 0)) G.1))
set_option maxHeartbeats 4000000 in
set_option maxRecDepth 100000 in
theorem m_X3_hire (l : Launch) (X : z_X) (d : Nat → Nat) (G : z_G) (v1 : Int32) {RR : (Int32 × z_G)} (hf : f_X3_hire G v1 = RR) : z_mI l yX3_hire wsX3_hire 2 43 X [.ref (d 15), .int v1] (z_wG X d G) RR.1 (z_wG X d RR.2) := by
  intro sz
  refine Met.ofW (cc := cX3_hire) (maxL := 3) (ret := (some .int)) (by decide) rfl ?_
  intro p e s m args below meth c s₁ B hml hv
  obtain ⟨rfl, hsz, hP, hK, hN, hD0⟩ := hv
  have hx := B.exec
  have hb := B.bytes
  have hr := B.returns
  have hts := atoms_spec (ws := wsX3_hire) B.pre
  have hown : s.vm.findClass RX3 = some m.cls := findClass_of_methodNamed B.named
  have hlocks := B.notSynchronized
  have S : CallFix p m c cX3_hire 3 s _ wsX3_hire RX3 := ⟨hx, hb, hml, hown, hts⟩
  have lk_fi30 := hts (.fieldLink RX3 30 "HouseBells$Staff" "count" "I") (List.mem_of_getElem? (i := 1) rfl)
  have lk_fi12 := hts (.fieldLink RX3 12 "HouseBells$Staff" "pace" "LHouseBells$Row;") (List.mem_of_getElem? (i := 2) rfl)
  have lk_fi18 := hts (.fieldLink RX3 18 "HouseBells$Staff" "floor" "LHouseBells$Row;") (List.mem_of_getElem? (i := 3) rfl)
  have in_X3 : ∀ w ∈ wsX30, w ∈ wsX3_hire := fun _ h => (List.mem_cons_of_mem _ (List.mem_append_left _ (List.mem_append_right _ h)))
  subst hsz
  have hD := hD0.self (sz := s.heap.size)
  generalize hAe : va_A (z_wG X d G) s.heap.size = A at hD ⊢
  have hA : ∀ q : Nat, s.heap.size ≤ q → A q := fun q h => by rw [← hAe]; exact Or.inr h
  have hS : va_S A s.heap s.heap [] := va_S.rf
  have hl := lv_entry ([.ref (d 15), .int v1]) (n := 3) (Nat.le_of_ble_eq_true rfl)
  rw [lg_entry_eq]
  generalize (lg_sl ([.ref (d 15), .int v1]) ++ List.replicate (3 - (lg_sl ([.ref (d 15), .int v1])).length) Slot.unset).toArray = ls at hl ⊢
  have hl : lv_has ls 3 [(0, .ref (d 15)), (1, .int v1)] := hl
  suffices hgo : ∀ (H : Heap) (locs : List Loc), va_P X.1 vwCl (z_wG X d G) H → va_D A (z_wG X d G) → va_S A s.heap H locs → W p l e (headSpec wsX3_hire (z_R 2 43)).room s m ([.ref (d 15), .int v1] : List Value).toArray below meth c H locs 0 0 (MQ below (va_Qi (fun (z : Int32) (u : va_W) => z = RR.1 ∧ u = (z_wG X d RR.2)) (z_Bm X A) A) ([.ref (d 15), .int v1] : List Value).toArray s 0 0 A) (F0 m 0 ls []) from hgo _ _ hP hD hS
  clear hP hD hS
  intro H locs hP hD hS
  unfold f_X3_hire at hf
  refine lv_aload_n (pc := 0) hx hb dX3_hire_0 rfl (lv_at hl 0 rfl) ?_
  refine va_get (pc := 1) (ci := 3) (C := RX3) (T := TX3) (N := 6) hx hb hts in_X3 hown hK hP 0 rfl rfl 0 (by decide) lk_fi30 (fun _ h9 => h9) rfl dX3_hire_1 ?_
  refine lv_istore_n (pc := 4) (lv' := [(2, .int G.1), (0, .ref (d 15)), (1, .int v1)]) hx hb dX3_hire_4 rfl hl (by decide) rfl (fun ls hl => ?_)
  refine lv_aload_n (pc := 5) hx hb dX3_hire_5 rfl (lv_at hl 1 rfl) ?_
  refine lv_dup (pc := 6) hx hb dX3_hire_6 rfl ?_
  refine va_get (pc := 7) (ci := 3) (C := RX3) (T := TX3) (N := 6) hx hb hts in_X3 hown hK hP 0 rfl rfl 0 (by decide) lk_fi30 (fun _ h9 => h9) rfl dX3_hire_7 ?_
  refine lv_iconst (v := 1) (pc := 10) hx hb dX3_hire_10 (by decide) ?_
  refine lv_iadd (pc := 11) hx hb dX3_hire_11 ?_
  refine z_put (pc := 12) (ci := 3) (C := RX3) (T := TX3) (N := 6) (W1 := (z_wG X d (z_gC G (G.1 + 1)))) hx hb hts in_X3 tyX3 tyX3_ok nmX3 hown hK hP hD hS 0 rfl rfl 0 (by decide) lk_fi30 (fun _ h9 => h9) rfl (by decide +kernel) (Nat.le_of_ble_eq_true rfl) dX3_hire_12 rfl (fun H locs hP hD hS => ?_)
  refine lv_aload_n (pc := 15) hx hb dX3_hire_15 rfl (lv_at hl 1 rfl) ?_
  refine va_get (pc := 16) (ci := 3) (C := RX3) (T := TX3) (N := 6) hx hb hts in_X3 hown hK hP 0 rfl rfl 1 (by decide) lk_fi12 (fun _ h9 => h9) rfl dX3_hire_16 ?_
  refine lv_iload_n (pc := 19) hx hb dX3_hire_19 rfl (lv_at hl 0 rfl) ?_
  refine lv_iload_n (pc := 20) hx hb dX3_hire_20 rfl (lv_at hl 2 rfl) ?_
  refine z_cmV (pc := 21) (W1 := (z_wG X d (z_gR (z_gC G (G.1 + 1)) 0 (z_rs (G.2 0) G.1 v1)))) S (m_X2_set l X (d 16) (d 17) (G.2 0) G.1 v1) (cwV 2 hts gX3_hire_X2_set rfl rfl rfl hdX2_set ⟨Nat.le_of_ble_eq_true rfl, Nat.le_of_ble_eq_true rfl⟩) hP hK hN hD hS hA (s_G_R1 X d (z_gC G (G.1 + 1))) (f_G_R1 X d (z_gC G (G.1 + 1)) (z_rs (G.2 0) G.1 v1)) (ci := 2) rfl rfl rfl ⟨Nat.le_of_ble_eq_true rfl, Nat.le_of_ble_eq_true rfl⟩ rfl hl.1 rfl (Nat.le_of_ble_eq_true rfl) dX3_hire_21 (fun H locs hP hD hS => ?_)
  refine lv_aload_n (pc := 24) hx hb dX3_hire_24 rfl (lv_at hl 1 rfl) ?_
  refine va_get (pc := 25) (ci := 3) (C := RX3) (T := TX3) (N := 6) hx hb hts in_X3 hown hK hP 0 rfl rfl 2 (by decide) lk_fi18 (fun _ h9 => h9) rfl dX3_hire_25 ?_
  refine lv_iload_n (pc := 28) hx hb dX3_hire_28 rfl (lv_at hl 0 rfl) ?_
  refine lv_iconst (v := 0) (pc := 29) hx hb dX3_hire_29 (by decide) ?_
  refine z_cmV (pc := 30) (W1 := (z_wG X d (z_gR (z_gR (z_gC G (G.1 + 1)) 0 (z_rs (G.2 0) G.1 v1)) 1 (z_rs (G.2 1) G.1 0)))) S (m_X2_set l X (d 18) (d 19) (G.2 1) G.1 0) (cwV 2 hts gX3_hire_X2_set rfl rfl rfl hdX2_set ⟨Nat.le_of_ble_eq_true rfl, Nat.le_of_ble_eq_true rfl⟩) hP hK hN hD hS hA (s_G_R3 X d (z_gR (z_gC G (G.1 + 1)) 0 (z_rs (G.2 0) G.1 v1))) (f_G_R3 X d (z_gR (z_gC G (G.1 + 1)) 0 (z_rs (G.2 0) G.1 v1)) (z_rs (G.2 1) G.1 0)) (ci := 2) rfl rfl rfl ⟨Nat.le_of_ble_eq_true rfl, Nat.le_of_ble_eq_true rfl⟩ rfl hl.1 rfl (Nat.le_of_ble_eq_true rfl) dX3_hire_30 (fun H locs hP hD hS => ?_)
  refine lv_aload_n (pc := 33) hx hb dX3_hire_33 rfl (lv_at hl 1 rfl) ?_
  refine lv_iload_n (pc := 34) hx hb dX3_hire_34 rfl (lv_at hl 0 rfl) ?_
  refine z_cmV (pc := 35) (W1 := (z_wG X d (f_X3_rest (z_gR (z_gR (z_gC G (G.1 + 1)) 0 (z_rs (G.2 0) G.1 v1)) 1 (z_rs (G.2 1) G.1 0)) G.1))) S (m_X3_rest l X d (z_gR (z_gR (z_gC G (G.1 + 1)) 0 (z_rs (G.2 0) G.1 v1)) 1 (z_rs (G.2 1) G.1 0)) G.1 rfl) (cwV 1 hts gX3_hire_X3_rest rfl rfl rfl hdX3_rest ⟨Nat.le_of_ble_eq_true rfl, Nat.le_of_ble_eq_true rfl⟩) hP hK hN hD hS hA (s_G_G X d (z_gR (z_gR (z_gC G (G.1 + 1)) 0 (z_rs (G.2 0) G.1 v1)) 1 (z_rs (G.2 1) G.1 0))) (f_G_G X d (z_gR (z_gR (z_gC G (G.1 + 1)) 0 (z_rs (G.2 0) G.1 v1)) 1 (z_rs (G.2 1) G.1 0)) (f_X3_rest (z_gR (z_gR (z_gC G (G.1 + 1)) 0 (z_rs (G.2 0) G.1 v1)) 1 (z_rs (G.2 1) G.1 0)) G.1)) (ci := 3) rfl rfl rfl ⟨Nat.le_of_ble_eq_true rfl, Nat.le_of_ble_eq_true rfl⟩ rfl hl.1 rfl (Nat.le_of_ble_eq_true rfl) dX3_hire_35 (fun H locs hP hD hS => ?_)
  refine lv_iload_n (pc := 38) hx hb dX3_hire_38 rfl (lv_at hl 0 rfl) ?_
  exact W.iret (pc := 39) (v := G.1) hx hb hr (fun t ht hW => ⟨⟨_, (z_wG X d (f_X3_rest (z_gR (z_gR (z_gC G (G.1 + 1)) 0 (z_rs (G.2 0) G.1 v1)) 1 (z_rs (G.2 1) G.1 0)) G.1)), rfl, ⟨congrArg Prod.fst hf, congrArg (fun z => (z_wG X d z.2)) hf⟩, by rw [ht]; exact hP, hD⟩, hS.F ht⟩) hS.2.2 dX3_hire_39
def f_X3_isServing_L2 (G : z_G) : Nat → Int32 → Int32 → Option Int32
  | 0, _, _ => none
  | n + 1, u1, u2 => (if G.1 ≤ u2 then some 0 else (if (z_rg (G.2 3) u2) = u1 then some 1 else f_X3_isServing_L2 G n u1 (u2 + 1)))
def f_X3_isServing (G : z_G) (v1 : Int32) : Option Int32 := f_X3_isServing_L2 G z_FU v1 0
set_option maxHeartbeats 4000000 in
set_option maxRecDepth 100000 in
theorem m_X3_isServing (l : Launch) (X : z_X) (d : Nat → Nat) (G : z_G) (v1 : Int32) {RR : Int32} (hf : f_X3_isServing G v1 = some RR) : z_pI l yX3_isServing wsX3_isServing 1 21 X [.ref (d 15), .int v1] (z_wG X d G) RR := by
  refine Met.ofW (cc := cX3_isServing) (maxL := 3) (ret := (some .boolean)) (by decide) rfl ?_
  intro p e s m args below meth c s₁ B hml hv
  obtain ⟨rfl, hP, hK, hN⟩ := hv
  have hx := B.exec
  have hb := B.bytes
  have hr := B.returns
  have hts := atoms_spec (ws := wsX3_isServing) B.pre
  have hown : s.vm.findClass RX3 = some m.cls := findClass_of_methodNamed B.named
  have hlocks := B.notSynchronized
  have S : CallFix p m c cX3_isServing 3 s _ wsX3_isServing RX3 := ⟨hx, hb, hml, hown, hts⟩
  have lk_fi30 := hts (.fieldLink RX3 30 "HouseBells$Staff" "count" "I") (List.mem_of_getElem? (i := 1) rfl)
  have lk_fi24 := hts (.fieldLink RX3 24 "HouseBells$Staff" "guest" "LHouseBells$Row;") (List.mem_of_getElem? (i := 2) rfl)
  have in_X3 : ∀ w ∈ wsX30, w ∈ wsX3_isServing := fun _ h => (List.mem_cons_of_mem _ (List.mem_append_left _ (List.mem_append_right _ h)))
  have hl := lv_entry ([.ref (d 15), .int v1]) (n := 3) (Nat.le_of_ble_eq_true rfl)
  rw [lg_entry_eq]
  generalize (lg_sl ([.ref (d 15), .int v1]) ++ List.replicate (3 - (lg_sl ([.ref (d 15), .int v1])).length) Slot.unset).toArray = ls at hl ⊢
  have hl : lv_has ls 3 [(0, .ref (d 15)), (1, .int v1)] := hl
  have lp_2 : ∀ (n : Nat) (u1 : Int32) (u2 : Int32) (ls : Array Slot), lv_has ls 3 [(0, .ref (d 15)), (1, .int u1), (2, .int u2)] → f_X3_isServing_L2 G n u1 u2 = some RR → W p l e (headSpec wsX3_isServing (z_R 1 21)).room s m ([.ref (d 15), .int v1] : List Value).toArray below meth c s.heap [] 0 0 (MQ below (vp_Si (fun z => z = RR)) ([.ref (d 15), .int v1] : List Value).toArray s 0 0 (fun _ => False)) (F0 m 2 ls []) := by
    intro n
    induction n with
    | zero =>
      intro u1 u2 ls hl hf
      cases hf
    | succ n ih =>
      intro u1 u2 ls hl hf
      rw [f_X3_isServing_L2] at hf
      refine lv_iload_n (pc := 2) hx hb dX3_isServing_2 rfl (lv_at hl 2 rfl) ?_
      refine lv_aload_n (pc := 3) hx hb dX3_isServing_3 rfl (lv_at hl 0 rfl) ?_
      refine va_get (pc := 4) (ci := 3) (C := RX3) (T := TX3) (N := 6) hx hb hts in_X3 hown hK hP 0 rfl rfl 0 (by decide) lk_fi30 (fun _ h9 => h9) rfl dX3_isServing_4 ?_
      refine lv_icmp_ge (pc := 7) (tgt := 30) hx hb dX3_isServing_7 (by decide) (fun c_7 => ?_) (fun c_7 => ?_)
      · replace hf := z_ip c_7 hf
        refine lv_iconst (v := 0) (pc := 30) hx hb dX3_isServing_30 (by decide) ?_
        exact W.zret (pc := 31) (v := 0) hx hb hr rfl (fun t ht hW => ⟨_, rfl, (Option.some.inj hf), ht⟩) (fun _ h => nomatch h) dX3_isServing_31
      · replace hf := z_in c_7 hf
        refine lv_aload_n (pc := 10) hx hb dX3_isServing_10 rfl (lv_at hl 0 rfl) ?_
        refine va_get (pc := 11) (ci := 3) (C := RX3) (T := TX3) (N := 6) hx hb hts in_X3 hown hK hP 0 rfl rfl 4 (by decide) lk_fi24 (fun _ h9 => h9) rfl dX3_isServing_11 ?_
        refine lv_iload_n (pc := 14) hx hb dX3_isServing_14 rfl (lv_at hl 2 rfl) ?_
        refine z_cpI (pc := 15) S (m_X2_get l X (d 22) (d 23) (G.2 3) u2) (cwV 1 hts gX3_isServing_X2_get rfl rfl rfl hdX2_get ⟨Nat.le_of_ble_eq_true rfl, Nat.le_of_ble_eq_true rfl⟩) hP hK hN (s_G_R7 X d G) (ci := 2) rfl rfl rfl ⟨Nat.le_of_ble_eq_true rfl, Nat.le_of_ble_eq_true rfl⟩ rfl hl.1 rfl (Nat.le_of_ble_eq_true rfl) dX3_isServing_15 ?_
        refine lv_iload_n (pc := 18) hx hb dX3_isServing_18 rfl (lv_at hl 1 rfl) ?_
        refine lv_icmp_ne (pc := 19) (tgt := 24) hx hb dX3_isServing_19 (by decide) (fun c_19 => ?_) (fun c_19 => ?_)
        · replace hf := z_in c_19 hf
          refine lv_iinc (pc := 24) (v := (u2 + 1)) (lv' := [(2, .int (u2 + 1)), (0, .ref (d 15)), (1, .int u1)]) hx hb dX3_isServing_24 hl (k := 2) rfl rfl (by decide) rfl (fun ls hl => ?_)
          refine lv_goto (pc := 27) (tgt := 2) hx hb dX3_isServing_27 (by decide) ?_
          exact ih u1 (u2 + 1) ls (lv_sub hl [1, 2, 0] rfl) hf
        · replace hf := z_ip c_19 hf
          refine lv_iconst (v := 1) (pc := 22) hx hb dX3_isServing_22 (by decide) ?_
          exact W.zret (pc := 23) (v := 1) hx hb hr rfl (fun t ht hW => ⟨_, rfl, (Option.some.inj hf), ht⟩) (fun _ h => nomatch h) dX3_isServing_23
  unfold f_X3_isServing at hf
  refine lv_iconst (v := 0) (pc := 0) hx hb dX3_isServing_0 (by decide) ?_
  refine lv_istore_n (pc := 1) (lv' := [(2, .int 0), (0, .ref (d 15)), (1, .int v1)]) hx hb dX3_isServing_1 rfl hl (by decide) rfl (fun ls hl => ?_)
  exact lp_2 z_FU v1 0 ls (lv_sub hl [1, 2, 0] rfl) hf
end
section
def f_X0_copyFrom (h : z_H) (h2 : z_H) : Option z_H := (f_X2_copyFrom (h.2.1 0) (h2.2.1 0)).bind (fun x64 => (f_X2_copyFrom (h.2.1 1) (h2.2.1 1)).bind (fun x75 => (f_X2_copyFrom (h.2.1 2) (h2.2.1 2)).bind (fun x86 => (f_X2_copyFrom (h.2.1 3) (h2.2.1 3)).bind (fun x97 => (f_X2_copyFrom (h.2.1 4) (h2.2.1 4)).bind (fun x108 => (f_X2_copyFrom (h.2.1 5) (h2.2.1 5)).bind (fun x119 => (f_X1_copyFrom h.2.2.1 h2.2.2.1).bind (fun x130 => (f_X3_copyFrom h.2.2.2 h2.2.2.2).bind (fun x141 => some (z_hG (z_hL (z_hR (z_hR (z_hR (z_hR (z_hR (z_hR (z_hS (z_hS (z_hS (z_hS (z_hS (z_hS (z_hS h 0 (h2.1 0)) 1 (h2.1 1)) 2 (h2.1 2)) 3 (h2.1 3)) 4 (h2.1 4)) 5 (h2.1 5)) 6 (h2.1 6)) 0 x64) 1 x75) 2 x86) 3 x97) 4 x108) 5 x119) x130) x141)))))))))
set_option maxHeartbeats 4000000 in
set_option maxRecDepth 100000 in
theorem m_X0_copyFrom (l : Launch) (X : z_X) (d d2 : Nat → Nat) (h : z_H) (h2 : z_H) {RR : z_H} (hf : f_X0_copyFrom h h2 = some RR) : z_mV l yX0_copyFrom wsX0_copyFrom 2 43 X [.ref (d 0), .ref (d2 0)] (z_wHH X d h d2 h2) (z_wHH X d RR d2 h2) := by
  intro sz
  refine Met.ofW (cc := cX0_copyFrom) (maxL := 2) (ret := none) (by decide) rfl ?_
  intro p e s m args below meth c s₁ B hml hv
  obtain ⟨rfl, hsz, hP, hK, hN, hD0⟩ := hv
  have hx := B.exec
  have hb := B.bytes
  have hr := B.returns
  have hts := atoms_spec (ws := wsX0_copyFrom) B.pre
  have hown : s.vm.findClass RX0 = some m.cls := findClass_of_methodNamed B.named
  have hlocks := B.notSynchronized
  have S : CallFix p m c cX0_copyFrom 2 s _ wsX0_copyFrom RX0 := ⟨hx, hb, hml, hown, hts⟩
  have lk_fi51 := hts (.fieldLink RX0 51 "HouseBells$House" "minute" "I") (List.mem_of_getElem? (i := 1) rfl)
  have lk_fi54 := hts (.fieldLink RX0 54 "HouseBells$House" "roomCount" "I") (List.mem_of_getElem? (i := 2) rfl)
  have lk_fi9 := hts (.fieldLink RX0 9 "HouseBells$House" "charge" "I") (List.mem_of_getElem? (i := 3) rfl)
  have lk_fi57 := hts (.fieldLink RX0 57 "HouseBells$House" "served" "I") (List.mem_of_getElem? (i := 4) rfl)
  have lk_fi60 := hts (.fieldLink RX0 60 "HouseBells$House" "inVain" "I") (List.mem_of_getElem? (i := 5) rfl)
  have lk_fi63 := hts (.fieldLink RX0 63 "HouseBells$House" "gaveUp" "I") (List.mem_of_getElem? (i := 6) rfl)
  have lk_fi66 := hts (.fieldLink RX0 66 "HouseBells$House" "unheard" "I") (List.mem_of_getElem? (i := 7) rfl)
  have lk_fi18 := hts (.fieldLink RX0 18 "HouseBells$House" "floor" "LHouseBells$Row;") (List.mem_of_getElem? (i := 8) rfl)
  have lk_fi22 := hts (.fieldLink RX0 22 "HouseBells$House" "patience" "LHouseBells$Row;") (List.mem_of_getElem? (i := 9) rfl)
  have lk_fi25 := hts (.fieldLink RX0 25 "HouseBells$House" "need" "LHouseBells$Row;") (List.mem_of_getElem? (i := 10) rfl)
  have lk_fi28 := hts (.fieldLink RX0 28 "HouseBells$House" "wire" "LHouseBells$Row;") (List.mem_of_getElem? (i := 11) rfl)
  have lk_fi31 := hts (.fieldLink RX0 31 "HouseBells$House" "cut" "LHouseBells$Row;") (List.mem_of_getElem? (i := 12) rfl)
  have lk_fi34 := hts (.fieldLink RX0 34 "HouseBells$House" "waited" "LHouseBells$Row;") (List.mem_of_getElem? (i := 13) rfl)
  have lk_fi40 := hts (.fieldLink RX0 40 "HouseBells$House" "line" "LHouseBells$Line;") (List.mem_of_getElem? (i := 14) rfl)
  have lk_fi47 := hts (.fieldLink RX0 47 "HouseBells$House" "staff" "LHouseBells$Staff;") (List.mem_of_getElem? (i := 15) rfl)
  have in_X0 : ∀ w ∈ wsX00, w ∈ wsX0_copyFrom := fun _ h => (List.mem_cons_of_mem _ (List.mem_append_left _ (List.mem_append_left _ (List.mem_append_left _ (List.mem_append_right _ h)))))
  subst hsz
  have hD := hD0.self (sz := s.heap.size)
  generalize hAe : va_A (z_wHH X d h d2 h2) s.heap.size = A at hD ⊢
  have hA : ∀ q : Nat, s.heap.size ≤ q → A q := fun q h => by rw [← hAe]; exact Or.inr h
  have hS : va_S A s.heap s.heap [] := va_S.rf
  have hl := lv_entry ([.ref (d 0), .ref (d2 0)]) (n := 2) (Nat.le_of_ble_eq_true rfl)
  rw [lg_entry_eq]
  generalize (lg_sl ([.ref (d 0), .ref (d2 0)]) ++ List.replicate (2 - (lg_sl ([.ref (d 0), .ref (d2 0)])).length) Slot.unset).toArray = ls at hl ⊢
  have hl : lv_has ls 2 [(0, .ref (d 0)), (1, .ref (d2 0))] := hl
  suffices hgo : ∀ (H : Heap) (locs : List Loc), va_P X.1 vwCl (z_wHH X d h d2 h2) H → va_D A (z_wHH X d h d2 h2) → va_S A s.heap H locs → W p l e (headSpec wsX0_copyFrom (z_R 2 43)).room s m ([.ref (d 0), .ref (d2 0)] : List Value).toArray below meth c H locs 0 0 (MQ below (va_Qv (fun u : va_W => u = (z_wHH X d RR d2 h2)) (z_Bm X A) A) ([.ref (d 0), .ref (d2 0)] : List Value).toArray s 0 0 A) (F0 m 0 ls []) from hgo _ _ hP hD hS
  clear hP hD hS
  intro H locs hP hD hS
  unfold f_X0_copyFrom at hf
  refine lv_aload_n (pc := 0) hx hb dX0_copyFrom_0 rfl (lv_at hl 0 rfl) ?_
  refine lv_aload_n (pc := 1) hx hb dX0_copyFrom_1 rfl (lv_at hl 1 rfl) ?_
  refine va_get (pc := 2) (ci := 0) (C := RX0) (T := TX0) (N := 15) hx hb hts in_X0 hown hK hP 26 rfl rfl 0 (by decide) lk_fi51 (fun _ h9 => h9) rfl dX0_copyFrom_2 ?_
  refine z_put (pc := 5) (ci := 0) (C := RX0) (T := TX0) (N := 15) (W1 := (z_wHH X d (z_hS h 0 (h2.1 0)) d2 h2)) hx hb hts in_X0 tyX0 tyX0_ok nmX0 hown hK hP hD hS 0 rfl rfl 0 (by decide) lk_fi51 (fun _ h9 => h9) rfl (by decide +kernel) (Nat.le_of_ble_eq_true rfl) dX0_copyFrom_5 rfl (fun H locs hP hD hS => ?_)
  refine lv_aload_n (pc := 8) hx hb dX0_copyFrom_8 rfl (lv_at hl 0 rfl) ?_
  refine lv_aload_n (pc := 9) hx hb dX0_copyFrom_9 rfl (lv_at hl 1 rfl) ?_
  refine va_get (pc := 10) (ci := 0) (C := RX0) (T := TX0) (N := 15) hx hb hts in_X0 hown hK hP 26 rfl rfl 1 (by decide) lk_fi54 (fun _ h9 => h9) rfl dX0_copyFrom_10 ?_
  refine z_put (pc := 13) (ci := 0) (C := RX0) (T := TX0) (N := 15) (W1 := (z_wHH X d (z_hS (z_hS h 0 (h2.1 0)) 1 (h2.1 1)) d2 h2)) hx hb hts in_X0 tyX0 tyX0_ok nmX0 hown hK hP hD hS 0 rfl rfl 1 (by decide) lk_fi54 (fun _ h9 => h9) rfl (by decide +kernel) (Nat.le_of_ble_eq_true rfl) dX0_copyFrom_13 rfl (fun H locs hP hD hS => ?_)
  refine lv_aload_n (pc := 16) hx hb dX0_copyFrom_16 rfl (lv_at hl 0 rfl) ?_
  refine lv_aload_n (pc := 17) hx hb dX0_copyFrom_17 rfl (lv_at hl 1 rfl) ?_
  refine va_get (pc := 18) (ci := 0) (C := RX0) (T := TX0) (N := 15) hx hb hts in_X0 hown hK hP 26 rfl rfl 2 (by decide) lk_fi9 (fun _ h9 => h9) rfl dX0_copyFrom_18 ?_
  refine z_put (pc := 21) (ci := 0) (C := RX0) (T := TX0) (N := 15) (W1 := (z_wHH X d (z_hS (z_hS (z_hS h 0 (h2.1 0)) 1 (h2.1 1)) 2 (h2.1 2)) d2 h2)) hx hb hts in_X0 tyX0 tyX0_ok nmX0 hown hK hP hD hS 0 rfl rfl 2 (by decide) lk_fi9 (fun _ h9 => h9) rfl (by decide +kernel) (Nat.le_of_ble_eq_true rfl) dX0_copyFrom_21 rfl (fun H locs hP hD hS => ?_)
  refine lv_aload_n (pc := 24) hx hb dX0_copyFrom_24 rfl (lv_at hl 0 rfl) ?_
  refine lv_aload_n (pc := 25) hx hb dX0_copyFrom_25 rfl (lv_at hl 1 rfl) ?_
  refine va_get (pc := 26) (ci := 0) (C := RX0) (T := TX0) (N := 15) hx hb hts in_X0 hown hK hP 26 rfl rfl 3 (by decide) lk_fi57 (fun _ h9 => h9) rfl dX0_copyFrom_26 ?_
  refine z_put (pc := 29) (ci := 0) (C := RX0) (T := TX0) (N := 15) (W1 := (z_wHH X d (z_hS (z_hS (z_hS (z_hS h 0 (h2.1 0)) 1 (h2.1 1)) 2 (h2.1 2)) 3 (h2.1 3)) d2 h2)) hx hb hts in_X0 tyX0 tyX0_ok nmX0 hown hK hP hD hS 0 rfl rfl 3 (by decide) lk_fi57 (fun _ h9 => h9) rfl (by decide +kernel) (Nat.le_of_ble_eq_true rfl) dX0_copyFrom_29 rfl (fun H locs hP hD hS => ?_)
  refine lv_aload_n (pc := 32) hx hb dX0_copyFrom_32 rfl (lv_at hl 0 rfl) ?_
  refine lv_aload_n (pc := 33) hx hb dX0_copyFrom_33 rfl (lv_at hl 1 rfl) ?_
  refine va_get (pc := 34) (ci := 0) (C := RX0) (T := TX0) (N := 15) hx hb hts in_X0 hown hK hP 26 rfl rfl 4 (by decide) lk_fi60 (fun _ h9 => h9) rfl dX0_copyFrom_34 ?_
  refine z_put (pc := 37) (ci := 0) (C := RX0) (T := TX0) (N := 15) (W1 := (z_wHH X d (z_hS (z_hS (z_hS (z_hS (z_hS h 0 (h2.1 0)) 1 (h2.1 1)) 2 (h2.1 2)) 3 (h2.1 3)) 4 (h2.1 4)) d2 h2)) hx hb hts in_X0 tyX0 tyX0_ok nmX0 hown hK hP hD hS 0 rfl rfl 4 (by decide) lk_fi60 (fun _ h9 => h9) rfl (by decide +kernel) (Nat.le_of_ble_eq_true rfl) dX0_copyFrom_37 rfl (fun H locs hP hD hS => ?_)
  refine lv_aload_n (pc := 40) hx hb dX0_copyFrom_40 rfl (lv_at hl 0 rfl) ?_
  refine lv_aload_n (pc := 41) hx hb dX0_copyFrom_41 rfl (lv_at hl 1 rfl) ?_
  refine va_get (pc := 42) (ci := 0) (C := RX0) (T := TX0) (N := 15) hx hb hts in_X0 hown hK hP 26 rfl rfl 5 (by decide) lk_fi63 (fun _ h9 => h9) rfl dX0_copyFrom_42 ?_
  refine z_put (pc := 45) (ci := 0) (C := RX0) (T := TX0) (N := 15) (W1 := (z_wHH X d (z_hS (z_hS (z_hS (z_hS (z_hS (z_hS h 0 (h2.1 0)) 1 (h2.1 1)) 2 (h2.1 2)) 3 (h2.1 3)) 4 (h2.1 4)) 5 (h2.1 5)) d2 h2)) hx hb hts in_X0 tyX0 tyX0_ok nmX0 hown hK hP hD hS 0 rfl rfl 5 (by decide) lk_fi63 (fun _ h9 => h9) rfl (by decide +kernel) (Nat.le_of_ble_eq_true rfl) dX0_copyFrom_45 rfl (fun H locs hP hD hS => ?_)
  refine lv_aload_n (pc := 48) hx hb dX0_copyFrom_48 rfl (lv_at hl 0 rfl) ?_
  refine lv_aload_n (pc := 49) hx hb dX0_copyFrom_49 rfl (lv_at hl 1 rfl) ?_
  refine va_get (pc := 50) (ci := 0) (C := RX0) (T := TX0) (N := 15) hx hb hts in_X0 hown hK hP 26 rfl rfl 6 (by decide) lk_fi66 (fun _ h9 => h9) rfl dX0_copyFrom_50 ?_
  refine z_put (pc := 53) (ci := 0) (C := RX0) (T := TX0) (N := 15) (W1 := (z_wHH X d (z_hS (z_hS (z_hS (z_hS (z_hS (z_hS (z_hS h 0 (h2.1 0)) 1 (h2.1 1)) 2 (h2.1 2)) 3 (h2.1 3)) 4 (h2.1 4)) 5 (h2.1 5)) 6 (h2.1 6)) d2 h2)) hx hb hts in_X0 tyX0 tyX0_ok nmX0 hown hK hP hD hS 0 rfl rfl 6 (by decide) lk_fi66 (fun _ h9 => h9) rfl (by decide +kernel) (Nat.le_of_ble_eq_true rfl) dX0_copyFrom_53 rfl (fun H locs hP hD hS => ?_)
  refine lv_aload_n (pc := 56) hx hb dX0_copyFrom_56 rfl (lv_at hl 0 rfl) ?_
  refine va_get (pc := 57) (ci := 0) (C := RX0) (T := TX0) (N := 15) hx hb hts in_X0 hown hK hP 0 rfl rfl 7 (by decide) lk_fi18 (fun _ h9 => h9) rfl dX0_copyFrom_57 ?_
  refine lv_aload_n (pc := 60) hx hb dX0_copyFrom_60 rfl (lv_at hl 1 rfl) ?_
  refine va_get (pc := 61) (ci := 0) (C := RX0) (T := TX0) (N := 15) hx hb hts in_X0 hown hK hP 26 rfl rfl 7 (by decide) lk_fi18 (fun _ h9 => h9) rfl dX0_copyFrom_61 ?_
  obtain ⟨x64, e64, hf⟩ := z_bd hf
  refine z_cmV (pc := 64) (W1 := (z_wHH X d (z_hR (z_hS (z_hS (z_hS (z_hS (z_hS (z_hS (z_hS h 0 (h2.1 0)) 1 (h2.1 1)) 2 (h2.1 2)) 3 (h2.1 3)) 4 (h2.1 4)) 5 (h2.1 5)) 6 (h2.1 6)) 0 x64) d2 h2)) S (m_X2_copyFrom l X (d 1) (d 2) (d2 1) (d2 2) (h.2.1 0) (h2.2.1 0) e64) (cwV 1 hts gX0_copyFrom_X2_copyFrom rfl rfl rfl hdX2_copyFrom ⟨Nat.le_of_ble_eq_true rfl, Nat.le_of_ble_eq_true rfl⟩) hP hK hN hD hS hA (s_HH_RR1_27 X d d2 (z_hS (z_hS (z_hS (z_hS (z_hS (z_hS (z_hS h 0 (h2.1 0)) 1 (h2.1 1)) 2 (h2.1 2)) 3 (h2.1 3)) 4 (h2.1 4)) 5 (h2.1 5)) 6 (h2.1 6)) h2) (f_HH_RR1_27 X d d2 (z_hS (z_hS (z_hS (z_hS (z_hS (z_hS (z_hS h 0 (h2.1 0)) 1 (h2.1 1)) 2 (h2.1 2)) 3 (h2.1 3)) 4 (h2.1 4)) 5 (h2.1 5)) 6 (h2.1 6)) h2 x64) (ci := 2) rfl rfl rfl ⟨Nat.le_of_ble_eq_true rfl, Nat.le_of_ble_eq_true rfl⟩ rfl hl.1 rfl (Nat.le_of_ble_eq_true rfl) dX0_copyFrom_64 (fun H locs hP hD hS => ?_)
  refine lv_aload_n (pc := 67) hx hb dX0_copyFrom_67 rfl (lv_at hl 0 rfl) ?_
  refine va_get (pc := 68) (ci := 0) (C := RX0) (T := TX0) (N := 15) hx hb hts in_X0 hown hK hP 0 rfl rfl 8 (by decide) lk_fi22 (fun _ h9 => h9) rfl dX0_copyFrom_68 ?_
  refine lv_aload_n (pc := 71) hx hb dX0_copyFrom_71 rfl (lv_at hl 1 rfl) ?_
  refine va_get (pc := 72) (ci := 0) (C := RX0) (T := TX0) (N := 15) hx hb hts in_X0 hown hK hP 26 rfl rfl 8 (by decide) lk_fi22 (fun _ h9 => h9) rfl dX0_copyFrom_72 ?_
  obtain ⟨x75, e75, hf⟩ := z_bd hf
  refine z_cmV (pc := 75) (W1 := (z_wHH X d (z_hR (z_hR (z_hS (z_hS (z_hS (z_hS (z_hS (z_hS (z_hS h 0 (h2.1 0)) 1 (h2.1 1)) 2 (h2.1 2)) 3 (h2.1 3)) 4 (h2.1 4)) 5 (h2.1 5)) 6 (h2.1 6)) 0 x64) 1 x75) d2 h2)) S (m_X2_copyFrom l X (d 3) (d 4) (d2 3) (d2 4) (h.2.1 1) (h2.2.1 1) e75) (cwV 1 hts gX0_copyFrom_X2_copyFrom rfl rfl rfl hdX2_copyFrom ⟨Nat.le_of_ble_eq_true rfl, Nat.le_of_ble_eq_true rfl⟩) hP hK hN hD hS hA (s_HH_RR3_29 X d d2 (z_hR (z_hS (z_hS (z_hS (z_hS (z_hS (z_hS (z_hS h 0 (h2.1 0)) 1 (h2.1 1)) 2 (h2.1 2)) 3 (h2.1 3)) 4 (h2.1 4)) 5 (h2.1 5)) 6 (h2.1 6)) 0 x64) h2) (f_HH_RR3_29 X d d2 (z_hR (z_hS (z_hS (z_hS (z_hS (z_hS (z_hS (z_hS h 0 (h2.1 0)) 1 (h2.1 1)) 2 (h2.1 2)) 3 (h2.1 3)) 4 (h2.1 4)) 5 (h2.1 5)) 6 (h2.1 6)) 0 x64) h2 x75) (ci := 2) rfl rfl rfl ⟨Nat.le_of_ble_eq_true rfl, Nat.le_of_ble_eq_true rfl⟩ rfl hl.1 rfl (Nat.le_of_ble_eq_true rfl) dX0_copyFrom_75 (fun H locs hP hD hS => ?_)
  refine lv_aload_n (pc := 78) hx hb dX0_copyFrom_78 rfl (lv_at hl 0 rfl) ?_
  refine va_get (pc := 79) (ci := 0) (C := RX0) (T := TX0) (N := 15) hx hb hts in_X0 hown hK hP 0 rfl rfl 9 (by decide) lk_fi25 (fun _ h9 => h9) rfl dX0_copyFrom_79 ?_
  refine lv_aload_n (pc := 82) hx hb dX0_copyFrom_82 rfl (lv_at hl 1 rfl) ?_
  refine va_get (pc := 83) (ci := 0) (C := RX0) (T := TX0) (N := 15) hx hb hts in_X0 hown hK hP 26 rfl rfl 9 (by decide) lk_fi25 (fun _ h9 => h9) rfl dX0_copyFrom_83 ?_
  obtain ⟨x86, e86, hf⟩ := z_bd hf
  refine z_cmV (pc := 86) (W1 := (z_wHH X d (z_hR (z_hR (z_hR (z_hS (z_hS (z_hS (z_hS (z_hS (z_hS (z_hS h 0 (h2.1 0)) 1 (h2.1 1)) 2 (h2.1 2)) 3 (h2.1 3)) 4 (h2.1 4)) 5 (h2.1 5)) 6 (h2.1 6)) 0 x64) 1 x75) 2 x86) d2 h2)) S (m_X2_copyFrom l X (d 5) (d 6) (d2 5) (d2 6) (h.2.1 2) (h2.2.1 2) e86) (cwV 1 hts gX0_copyFrom_X2_copyFrom rfl rfl rfl hdX2_copyFrom ⟨Nat.le_of_ble_eq_true rfl, Nat.le_of_ble_eq_true rfl⟩) hP hK hN hD hS hA (s_HH_RR5_31 X d d2 (z_hR (z_hR (z_hS (z_hS (z_hS (z_hS (z_hS (z_hS (z_hS h 0 (h2.1 0)) 1 (h2.1 1)) 2 (h2.1 2)) 3 (h2.1 3)) 4 (h2.1 4)) 5 (h2.1 5)) 6 (h2.1 6)) 0 x64) 1 x75) h2) (f_HH_RR5_31 X d d2 (z_hR (z_hR (z_hS (z_hS (z_hS (z_hS (z_hS (z_hS (z_hS h 0 (h2.1 0)) 1 (h2.1 1)) 2 (h2.1 2)) 3 (h2.1 3)) 4 (h2.1 4)) 5 (h2.1 5)) 6 (h2.1 6)) 0 x64) 1 x75) h2 x86) (ci := 2) rfl rfl rfl ⟨Nat.le_of_ble_eq_true rfl, Nat.le_of_ble_eq_true rfl⟩ rfl hl.1 rfl (Nat.le_of_ble_eq_true rfl) dX0_copyFrom_86 (fun H locs hP hD hS => ?_)
  refine lv_aload_n (pc := 89) hx hb dX0_copyFrom_89 rfl (lv_at hl 0 rfl) ?_
  refine va_get (pc := 90) (ci := 0) (C := RX0) (T := TX0) (N := 15) hx hb hts in_X0 hown hK hP 0 rfl rfl 10 (by decide) lk_fi28 (fun _ h9 => h9) rfl dX0_copyFrom_90 ?_
  refine lv_aload_n (pc := 93) hx hb dX0_copyFrom_93 rfl (lv_at hl 1 rfl) ?_
  refine va_get (pc := 94) (ci := 0) (C := RX0) (T := TX0) (N := 15) hx hb hts in_X0 hown hK hP 26 rfl rfl 10 (by decide) lk_fi28 (fun _ h9 => h9) rfl dX0_copyFrom_94 ?_
  obtain ⟨x97, e97, hf⟩ := z_bd hf
  refine z_cmV (pc := 97) (W1 := (z_wHH X d (z_hR (z_hR (z_hR (z_hR (z_hS (z_hS (z_hS (z_hS (z_hS (z_hS (z_hS h 0 (h2.1 0)) 1 (h2.1 1)) 2 (h2.1 2)) 3 (h2.1 3)) 4 (h2.1 4)) 5 (h2.1 5)) 6 (h2.1 6)) 0 x64) 1 x75) 2 x86) 3 x97) d2 h2)) S (m_X2_copyFrom l X (d 7) (d 8) (d2 7) (d2 8) (h.2.1 3) (h2.2.1 3) e97) (cwV 1 hts gX0_copyFrom_X2_copyFrom rfl rfl rfl hdX2_copyFrom ⟨Nat.le_of_ble_eq_true rfl, Nat.le_of_ble_eq_true rfl⟩) hP hK hN hD hS hA (s_HH_RR7_33 X d d2 (z_hR (z_hR (z_hR (z_hS (z_hS (z_hS (z_hS (z_hS (z_hS (z_hS h 0 (h2.1 0)) 1 (h2.1 1)) 2 (h2.1 2)) 3 (h2.1 3)) 4 (h2.1 4)) 5 (h2.1 5)) 6 (h2.1 6)) 0 x64) 1 x75) 2 x86) h2) (f_HH_RR7_33 X d d2 (z_hR (z_hR (z_hR (z_hS (z_hS (z_hS (z_hS (z_hS (z_hS (z_hS h 0 (h2.1 0)) 1 (h2.1 1)) 2 (h2.1 2)) 3 (h2.1 3)) 4 (h2.1 4)) 5 (h2.1 5)) 6 (h2.1 6)) 0 x64) 1 x75) 2 x86) h2 x97) (ci := 2) rfl rfl rfl ⟨Nat.le_of_ble_eq_true rfl, Nat.le_of_ble_eq_true rfl⟩ rfl hl.1 rfl (Nat.le_of_ble_eq_true rfl) dX0_copyFrom_97 (fun H locs hP hD hS => ?_)
  refine lv_aload_n (pc := 100) hx hb dX0_copyFrom_100 rfl (lv_at hl 0 rfl) ?_
  refine va_get (pc := 101) (ci := 0) (C := RX0) (T := TX0) (N := 15) hx hb hts in_X0 hown hK hP 0 rfl rfl 11 (by decide) lk_fi31 (fun _ h9 => h9) rfl dX0_copyFrom_101 ?_
  refine lv_aload_n (pc := 104) hx hb dX0_copyFrom_104 rfl (lv_at hl 1 rfl) ?_
  refine va_get (pc := 105) (ci := 0) (C := RX0) (T := TX0) (N := 15) hx hb hts in_X0 hown hK hP 26 rfl rfl 11 (by decide) lk_fi31 (fun _ h9 => h9) rfl dX0_copyFrom_105 ?_
  obtain ⟨x108, e108, hf⟩ := z_bd hf
  refine z_cmV (pc := 108) (W1 := (z_wHH X d (z_hR (z_hR (z_hR (z_hR (z_hR (z_hS (z_hS (z_hS (z_hS (z_hS (z_hS (z_hS h 0 (h2.1 0)) 1 (h2.1 1)) 2 (h2.1 2)) 3 (h2.1 3)) 4 (h2.1 4)) 5 (h2.1 5)) 6 (h2.1 6)) 0 x64) 1 x75) 2 x86) 3 x97) 4 x108) d2 h2)) S (m_X2_copyFrom l X (d 9) (d 10) (d2 9) (d2 10) (h.2.1 4) (h2.2.1 4) e108) (cwV 1 hts gX0_copyFrom_X2_copyFrom rfl rfl rfl hdX2_copyFrom ⟨Nat.le_of_ble_eq_true rfl, Nat.le_of_ble_eq_true rfl⟩) hP hK hN hD hS hA (s_HH_RR9_35 X d d2 (z_hR (z_hR (z_hR (z_hR (z_hS (z_hS (z_hS (z_hS (z_hS (z_hS (z_hS h 0 (h2.1 0)) 1 (h2.1 1)) 2 (h2.1 2)) 3 (h2.1 3)) 4 (h2.1 4)) 5 (h2.1 5)) 6 (h2.1 6)) 0 x64) 1 x75) 2 x86) 3 x97) h2) (f_HH_RR9_35 X d d2 (z_hR (z_hR (z_hR (z_hR (z_hS (z_hS (z_hS (z_hS (z_hS (z_hS (z_hS h 0 (h2.1 0)) 1 (h2.1 1)) 2 (h2.1 2)) 3 (h2.1 3)) 4 (h2.1 4)) 5 (h2.1 5)) 6 (h2.1 6)) 0 x64) 1 x75) 2 x86) 3 x97) h2 x108) (ci := 2) rfl rfl rfl ⟨Nat.le_of_ble_eq_true rfl, Nat.le_of_ble_eq_true rfl⟩ rfl hl.1 rfl (Nat.le_of_ble_eq_true rfl) dX0_copyFrom_108 (fun H locs hP hD hS => ?_)
  refine lv_aload_n (pc := 111) hx hb dX0_copyFrom_111 rfl (lv_at hl 0 rfl) ?_
  refine va_get (pc := 112) (ci := 0) (C := RX0) (T := TX0) (N := 15) hx hb hts in_X0 hown hK hP 0 rfl rfl 12 (by decide) lk_fi34 (fun _ h9 => h9) rfl dX0_copyFrom_112 ?_
  refine lv_aload_n (pc := 115) hx hb dX0_copyFrom_115 rfl (lv_at hl 1 rfl) ?_
  refine va_get (pc := 116) (ci := 0) (C := RX0) (T := TX0) (N := 15) hx hb hts in_X0 hown hK hP 26 rfl rfl 12 (by decide) lk_fi34 (fun _ h9 => h9) rfl dX0_copyFrom_116 ?_
  obtain ⟨x119, e119, hf⟩ := z_bd hf
  refine z_cmV (pc := 119) (W1 := (z_wHH X d (z_hR (z_hR (z_hR (z_hR (z_hR (z_hR (z_hS (z_hS (z_hS (z_hS (z_hS (z_hS (z_hS h 0 (h2.1 0)) 1 (h2.1 1)) 2 (h2.1 2)) 3 (h2.1 3)) 4 (h2.1 4)) 5 (h2.1 5)) 6 (h2.1 6)) 0 x64) 1 x75) 2 x86) 3 x97) 4 x108) 5 x119) d2 h2)) S (m_X2_copyFrom l X (d 11) (d 12) (d2 11) (d2 12) (h.2.1 5) (h2.2.1 5) e119) (cwV 1 hts gX0_copyFrom_X2_copyFrom rfl rfl rfl hdX2_copyFrom ⟨Nat.le_of_ble_eq_true rfl, Nat.le_of_ble_eq_true rfl⟩) hP hK hN hD hS hA (s_HH_RR11_37 X d d2 (z_hR (z_hR (z_hR (z_hR (z_hR (z_hS (z_hS (z_hS (z_hS (z_hS (z_hS (z_hS h 0 (h2.1 0)) 1 (h2.1 1)) 2 (h2.1 2)) 3 (h2.1 3)) 4 (h2.1 4)) 5 (h2.1 5)) 6 (h2.1 6)) 0 x64) 1 x75) 2 x86) 3 x97) 4 x108) h2) (f_HH_RR11_37 X d d2 (z_hR (z_hR (z_hR (z_hR (z_hR (z_hS (z_hS (z_hS (z_hS (z_hS (z_hS (z_hS h 0 (h2.1 0)) 1 (h2.1 1)) 2 (h2.1 2)) 3 (h2.1 3)) 4 (h2.1 4)) 5 (h2.1 5)) 6 (h2.1 6)) 0 x64) 1 x75) 2 x86) 3 x97) 4 x108) h2 x119) (ci := 2) rfl rfl rfl ⟨Nat.le_of_ble_eq_true rfl, Nat.le_of_ble_eq_true rfl⟩ rfl hl.1 rfl (Nat.le_of_ble_eq_true rfl) dX0_copyFrom_119 (fun H locs hP hD hS => ?_)
  refine lv_aload_n (pc := 122) hx hb dX0_copyFrom_122 rfl (lv_at hl 0 rfl) ?_
  refine va_get (pc := 123) (ci := 0) (C := RX0) (T := TX0) (N := 15) hx hb hts in_X0 hown hK hP 0 rfl rfl 13 (by decide) lk_fi40 (fun _ h9 => h9) rfl dX0_copyFrom_123 ?_
  refine lv_aload_n (pc := 126) hx hb dX0_copyFrom_126 rfl (lv_at hl 1 rfl) ?_
  refine va_get (pc := 127) (ci := 0) (C := RX0) (T := TX0) (N := 15) hx hb hts in_X0 hown hK hP 26 rfl rfl 13 (by decide) lk_fi40 (fun _ h9 => h9) rfl dX0_copyFrom_127 ?_
  obtain ⟨x130, e130, hf⟩ := z_bd hf
  refine z_cmV (pc := 130) (W1 := (z_wHH X d (z_hL (z_hR (z_hR (z_hR (z_hR (z_hR (z_hR (z_hS (z_hS (z_hS (z_hS (z_hS (z_hS (z_hS h 0 (h2.1 0)) 1 (h2.1 1)) 2 (h2.1 2)) 3 (h2.1 3)) 4 (h2.1 4)) 5 (h2.1 5)) 6 (h2.1 6)) 0 x64) 1 x75) 2 x86) 3 x97) 4 x108) 5 x119) x130) d2 h2)) S (m_X1_copyFrom l X d d2 h.2.2.1 h2.2.2.1 e130) (cwV 1 hts gX0_copyFrom_X1_copyFrom rfl rfl rfl hdX1_copyFrom ⟨Nat.le_of_ble_eq_true rfl, Nat.le_of_ble_eq_true rfl⟩) hP hK hN hD hS hA (s_HH_LL13_39 X d d2 (z_hR (z_hR (z_hR (z_hR (z_hR (z_hR (z_hS (z_hS (z_hS (z_hS (z_hS (z_hS (z_hS h 0 (h2.1 0)) 1 (h2.1 1)) 2 (h2.1 2)) 3 (h2.1 3)) 4 (h2.1 4)) 5 (h2.1 5)) 6 (h2.1 6)) 0 x64) 1 x75) 2 x86) 3 x97) 4 x108) 5 x119) h2) (f_HH_LL13_39 X d d2 (z_hR (z_hR (z_hR (z_hR (z_hR (z_hR (z_hS (z_hS (z_hS (z_hS (z_hS (z_hS (z_hS h 0 (h2.1 0)) 1 (h2.1 1)) 2 (h2.1 2)) 3 (h2.1 3)) 4 (h2.1 4)) 5 (h2.1 5)) 6 (h2.1 6)) 0 x64) 1 x75) 2 x86) 3 x97) 4 x108) 5 x119) h2 x130) (ci := 1) rfl rfl rfl ⟨Nat.le_of_ble_eq_true rfl, Nat.le_of_ble_eq_true rfl⟩ rfl hl.1 rfl (Nat.le_of_ble_eq_true rfl) dX0_copyFrom_130 (fun H locs hP hD hS => ?_)
  refine lv_aload_n (pc := 133) hx hb dX0_copyFrom_133 rfl (lv_at hl 0 rfl) ?_
  refine va_get (pc := 134) (ci := 0) (C := RX0) (T := TX0) (N := 15) hx hb hts in_X0 hown hK hP 0 rfl rfl 14 (by decide) lk_fi47 (fun _ h9 => h9) rfl dX0_copyFrom_134 ?_
  refine lv_aload_n (pc := 137) hx hb dX0_copyFrom_137 rfl (lv_at hl 1 rfl) ?_
  refine va_get (pc := 138) (ci := 0) (C := RX0) (T := TX0) (N := 15) hx hb hts in_X0 hown hK hP 26 rfl rfl 14 (by decide) lk_fi47 (fun _ h9 => h9) rfl dX0_copyFrom_138 ?_
  obtain ⟨x141, e141, hf⟩ := z_bd hf
  refine z_cmV (pc := 141) (W1 := (z_wHH X d (z_hG (z_hL (z_hR (z_hR (z_hR (z_hR (z_hR (z_hR (z_hS (z_hS (z_hS (z_hS (z_hS (z_hS (z_hS h 0 (h2.1 0)) 1 (h2.1 1)) 2 (h2.1 2)) 3 (h2.1 3)) 4 (h2.1 4)) 5 (h2.1 5)) 6 (h2.1 6)) 0 x64) 1 x75) 2 x86) 3 x97) 4 x108) 5 x119) x130) x141) d2 h2)) S (m_X3_copyFrom l X d d2 h.2.2.2 h2.2.2.2 e141) (cwV 1 hts gX0_copyFrom_X3_copyFrom rfl rfl rfl hdX3_copyFrom ⟨Nat.le_of_ble_eq_true rfl, Nat.le_of_ble_eq_true rfl⟩) hP hK hN hD hS hA (s_HH_GG15_41 X d d2 (z_hL (z_hR (z_hR (z_hR (z_hR (z_hR (z_hR (z_hS (z_hS (z_hS (z_hS (z_hS (z_hS (z_hS h 0 (h2.1 0)) 1 (h2.1 1)) 2 (h2.1 2)) 3 (h2.1 3)) 4 (h2.1 4)) 5 (h2.1 5)) 6 (h2.1 6)) 0 x64) 1 x75) 2 x86) 3 x97) 4 x108) 5 x119) x130) h2) (f_HH_GG15_41 X d d2 (z_hL (z_hR (z_hR (z_hR (z_hR (z_hR (z_hR (z_hS (z_hS (z_hS (z_hS (z_hS (z_hS (z_hS h 0 (h2.1 0)) 1 (h2.1 1)) 2 (h2.1 2)) 3 (h2.1 3)) 4 (h2.1 4)) 5 (h2.1 5)) 6 (h2.1 6)) 0 x64) 1 x75) 2 x86) 3 x97) 4 x108) 5 x119) x130) h2 x141) (ci := 3) rfl rfl rfl ⟨Nat.le_of_ble_eq_true rfl, Nat.le_of_ble_eq_true rfl⟩ rfl hl.1 rfl (Nat.le_of_ble_eq_true rfl) dX0_copyFrom_141 (fun H locs hP hD hS => ?_)
  exact W.vret (pc := 144) hx hb hr (fun t ht hW => ⟨⟨(z_wHH X d (z_hG (z_hL (z_hR (z_hR (z_hR (z_hR (z_hR (z_hR (z_hS (z_hS (z_hS (z_hS (z_hS (z_hS (z_hS h 0 (h2.1 0)) 1 (h2.1 1)) 2 (h2.1 2)) 3 (h2.1 3)) 4 (h2.1 4)) 5 (h2.1 5)) 6 (h2.1 6)) 0 x64) 1 x75) 2 x86) 3 x97) 4 x108) 5 x119) x130) x141) d2 h2), rfl, congrArg (fun z => (z_wHH X d z d2 h2)) (Option.some.inj hf), by rw [ht]; exact hP, hD⟩, hS.F ht⟩) hS.2.2 dX0_copyFrom_144
def f_X0_openRoom (h : z_H) (v1 : Int32) (v2 : Int32) (v3 : Int32) : (Int32 × z_H) := ((h.1 1), (z_hR (z_hR (z_hR (z_hR (z_hR (z_hR (z_hS h 1 ((h.1 1) + 1)) 0 (z_rs (h.2.1 0) (h.1 1) v1)) 1 (z_rs (h.2.1 1) (h.1 1) v2)) 2 (z_rs (h.2.1 2) (h.1 1) v3)) 3 (z_rs (h.2.1 3) (h.1 1) (h.1 1))) 4 (z_rs (h.2.1 4) (h.1 1) 0)) 5 (z_rs (h.2.1 5) (h.1 1) (-1))))
set_option maxHeartbeats 4000000 in
set_option maxRecDepth 100000 in
theorem m_X0_openRoom (l : Launch) (X : z_X) (d : Nat → Nat) (h : z_H) (v1 : Int32) (v2 : Int32) (v3 : Int32) {RR : (Int32 × z_H)} (hf : f_X0_openRoom h v1 v2 v3 = RR) : z_mI l yX0_openRoom wsX0_openRoom 1 22 X [.ref (d 0), .int v1, .int v2, .int v3] (z_wH X d h) RR.1 (z_wH X d RR.2) := by
  intro sz
  refine Met.ofW (cc := cX0_openRoom) (maxL := 5) (ret := (some .int)) (by decide) rfl ?_
  intro p e s m args below meth c s₁ B hml hv
  obtain ⟨rfl, hsz, hP, hK, hN, hD0⟩ := hv
  have hx := B.exec
  have hb := B.bytes
  have hr := B.returns
  have hts := atoms_spec (ws := wsX0_openRoom) B.pre
  have hown : s.vm.findClass RX0 = some m.cls := findClass_of_methodNamed B.named
  have hlocks := B.notSynchronized
  have S : CallFix p m c cX0_openRoom 5 s _ wsX0_openRoom RX0 := ⟨hx, hb, hml, hown, hts⟩
  have lk_fi54 := hts (.fieldLink RX0 54 "HouseBells$House" "roomCount" "I") (List.mem_of_getElem? (i := 1) rfl)
  have lk_fi18 := hts (.fieldLink RX0 18 "HouseBells$House" "floor" "LHouseBells$Row;") (List.mem_of_getElem? (i := 2) rfl)
  have lk_fi22 := hts (.fieldLink RX0 22 "HouseBells$House" "patience" "LHouseBells$Row;") (List.mem_of_getElem? (i := 3) rfl)
  have lk_fi25 := hts (.fieldLink RX0 25 "HouseBells$House" "need" "LHouseBells$Row;") (List.mem_of_getElem? (i := 4) rfl)
  have lk_fi28 := hts (.fieldLink RX0 28 "HouseBells$House" "wire" "LHouseBells$Row;") (List.mem_of_getElem? (i := 5) rfl)
  have lk_fi31 := hts (.fieldLink RX0 31 "HouseBells$House" "cut" "LHouseBells$Row;") (List.mem_of_getElem? (i := 6) rfl)
  have lk_fi34 := hts (.fieldLink RX0 34 "HouseBells$House" "waited" "LHouseBells$Row;") (List.mem_of_getElem? (i := 7) rfl)
  have in_X0 : ∀ w ∈ wsX00, w ∈ wsX0_openRoom := fun _ h => (List.mem_cons_of_mem _ (List.mem_append_left _ (List.mem_append_right _ h)))
  subst hsz
  have hD := hD0.self (sz := s.heap.size)
  generalize hAe : va_A (z_wH X d h) s.heap.size = A at hD ⊢
  have hA : ∀ q : Nat, s.heap.size ≤ q → A q := fun q h => by rw [← hAe]; exact Or.inr h
  have hS : va_S A s.heap s.heap [] := va_S.rf
  have hl := lv_entry ([.ref (d 0), .int v1, .int v2, .int v3]) (n := 5) (Nat.le_of_ble_eq_true rfl)
  rw [lg_entry_eq]
  generalize (lg_sl ([.ref (d 0), .int v1, .int v2, .int v3]) ++ List.replicate (5 - (lg_sl ([.ref (d 0), .int v1, .int v2, .int v3])).length) Slot.unset).toArray = ls at hl ⊢
  have hl : lv_has ls 5 [(0, .ref (d 0)), (1, .int v1), (2, .int v2), (3, .int v3)] := hl
  suffices hgo : ∀ (H : Heap) (locs : List Loc), va_P X.1 vwCl (z_wH X d h) H → va_D A (z_wH X d h) → va_S A s.heap H locs → W p l e (headSpec wsX0_openRoom (z_R 1 22)).room s m ([.ref (d 0), .int v1, .int v2, .int v3] : List Value).toArray below meth c H locs 0 0 (MQ below (va_Qi (fun (z : Int32) (u : va_W) => z = RR.1 ∧ u = (z_wH X d RR.2)) (z_Bm X A) A) ([.ref (d 0), .int v1, .int v2, .int v3] : List Value).toArray s 0 0 A) (F0 m 0 ls []) from hgo _ _ hP hD hS
  clear hP hD hS
  intro H locs hP hD hS
  unfold f_X0_openRoom at hf
  refine lv_aload_n (pc := 0) hx hb dX0_openRoom_0 rfl (lv_at hl 0 rfl) ?_
  refine va_get (pc := 1) (ci := 0) (C := RX0) (T := TX0) (N := 15) hx hb hts in_X0 hown hK hP 0 rfl rfl 1 (by decide) lk_fi54 (fun _ h9 => h9) rfl dX0_openRoom_1 ?_
  refine lv_istore (pc := 4) (lv' := [(4, .int (h.1 1)), (0, .ref (d 0)), (1, .int v1), (2, .int v2), (3, .int v3)]) hx hb dX0_openRoom_4 hl (by decide) rfl (fun ls hl => ?_)
  refine lv_aload_n (pc := 6) hx hb dX0_openRoom_6 rfl (lv_at hl 1 rfl) ?_
  refine lv_dup (pc := 7) hx hb dX0_openRoom_7 rfl ?_
  refine va_get (pc := 8) (ci := 0) (C := RX0) (T := TX0) (N := 15) hx hb hts in_X0 hown hK hP 0 rfl rfl 1 (by decide) lk_fi54 (fun _ h9 => h9) rfl dX0_openRoom_8 ?_
  refine lv_iconst (v := 1) (pc := 11) hx hb dX0_openRoom_11 (by decide) ?_
  refine lv_iadd (pc := 12) hx hb dX0_openRoom_12 ?_
  refine z_put (pc := 13) (ci := 0) (C := RX0) (T := TX0) (N := 15) (W1 := (z_wH X d (z_hS h 1 ((h.1 1) + 1)))) hx hb hts in_X0 tyX0 tyX0_ok nmX0 hown hK hP hD hS 0 rfl rfl 1 (by decide) lk_fi54 (fun _ h9 => h9) rfl (by decide +kernel) (Nat.le_of_ble_eq_true rfl) dX0_openRoom_13 rfl (fun H locs hP hD hS => ?_)
  refine lv_aload_n (pc := 16) hx hb dX0_openRoom_16 rfl (lv_at hl 1 rfl) ?_
  refine va_get (pc := 17) (ci := 0) (C := RX0) (T := TX0) (N := 15) hx hb hts in_X0 hown hK hP 0 rfl rfl 7 (by decide) lk_fi18 (fun _ h9 => h9) rfl dX0_openRoom_17 ?_
  refine lv_iload (pc := 20) hx hb dX0_openRoom_20 (lv_at hl 0 rfl) ?_
  refine lv_iload_n (pc := 22) hx hb dX0_openRoom_22 rfl (lv_at hl 2 rfl) ?_
  refine z_cmV (pc := 23) (W1 := (z_wH X d (z_hR (z_hS h 1 ((h.1 1) + 1)) 0 (z_rs (h.2.1 0) (h.1 1) v1)))) S (m_X2_set l X (d 1) (d 2) (h.2.1 0) (h.1 1) v1) (cwV 2 hts gX0_openRoom_X2_set rfl rfl rfl hdX2_set ⟨Nat.le_of_ble_eq_true rfl, Nat.le_of_ble_eq_true rfl⟩) hP hK hN hD hS hA (s_H_R1 X d (z_hS h 1 ((h.1 1) + 1))) (f_H_R1 X d (z_hS h 1 ((h.1 1) + 1)) (z_rs (h.2.1 0) (h.1 1) v1)) (ci := 2) rfl rfl rfl ⟨Nat.le_of_ble_eq_true rfl, Nat.le_of_ble_eq_true rfl⟩ rfl hl.1 rfl (Nat.le_of_ble_eq_true rfl) dX0_openRoom_23 (fun H locs hP hD hS => ?_)
  refine lv_aload_n (pc := 26) hx hb dX0_openRoom_26 rfl (lv_at hl 1 rfl) ?_
  refine va_get (pc := 27) (ci := 0) (C := RX0) (T := TX0) (N := 15) hx hb hts in_X0 hown hK hP 0 rfl rfl 8 (by decide) lk_fi22 (fun _ h9 => h9) rfl dX0_openRoom_27 ?_
  refine lv_iload (pc := 30) hx hb dX0_openRoom_30 (lv_at hl 0 rfl) ?_
  refine lv_iload_n (pc := 32) hx hb dX0_openRoom_32 rfl (lv_at hl 3 rfl) ?_
  refine z_cmV (pc := 33) (W1 := (z_wH X d (z_hR (z_hR (z_hS h 1 ((h.1 1) + 1)) 0 (z_rs (h.2.1 0) (h.1 1) v1)) 1 (z_rs (h.2.1 1) (h.1 1) v2)))) S (m_X2_set l X (d 3) (d 4) (h.2.1 1) (h.1 1) v2) (cwV 2 hts gX0_openRoom_X2_set rfl rfl rfl hdX2_set ⟨Nat.le_of_ble_eq_true rfl, Nat.le_of_ble_eq_true rfl⟩) hP hK hN hD hS hA (s_H_R3 X d (z_hR (z_hS h 1 ((h.1 1) + 1)) 0 (z_rs (h.2.1 0) (h.1 1) v1))) (f_H_R3 X d (z_hR (z_hS h 1 ((h.1 1) + 1)) 0 (z_rs (h.2.1 0) (h.1 1) v1)) (z_rs (h.2.1 1) (h.1 1) v2)) (ci := 2) rfl rfl rfl ⟨Nat.le_of_ble_eq_true rfl, Nat.le_of_ble_eq_true rfl⟩ rfl hl.1 rfl (Nat.le_of_ble_eq_true rfl) dX0_openRoom_33 (fun H locs hP hD hS => ?_)
  refine lv_aload_n (pc := 36) hx hb dX0_openRoom_36 rfl (lv_at hl 1 rfl) ?_
  refine va_get (pc := 37) (ci := 0) (C := RX0) (T := TX0) (N := 15) hx hb hts in_X0 hown hK hP 0 rfl rfl 9 (by decide) lk_fi25 (fun _ h9 => h9) rfl dX0_openRoom_37 ?_
  refine lv_iload (pc := 40) hx hb dX0_openRoom_40 (lv_at hl 0 rfl) ?_
  refine lv_iload_n (pc := 42) hx hb dX0_openRoom_42 rfl (lv_at hl 4 rfl) ?_
  refine z_cmV (pc := 43) (W1 := (z_wH X d (z_hR (z_hR (z_hR (z_hS h 1 ((h.1 1) + 1)) 0 (z_rs (h.2.1 0) (h.1 1) v1)) 1 (z_rs (h.2.1 1) (h.1 1) v2)) 2 (z_rs (h.2.1 2) (h.1 1) v3)))) S (m_X2_set l X (d 5) (d 6) (h.2.1 2) (h.1 1) v3) (cwV 2 hts gX0_openRoom_X2_set rfl rfl rfl hdX2_set ⟨Nat.le_of_ble_eq_true rfl, Nat.le_of_ble_eq_true rfl⟩) hP hK hN hD hS hA (s_H_R5 X d (z_hR (z_hR (z_hS h 1 ((h.1 1) + 1)) 0 (z_rs (h.2.1 0) (h.1 1) v1)) 1 (z_rs (h.2.1 1) (h.1 1) v2))) (f_H_R5 X d (z_hR (z_hR (z_hS h 1 ((h.1 1) + 1)) 0 (z_rs (h.2.1 0) (h.1 1) v1)) 1 (z_rs (h.2.1 1) (h.1 1) v2)) (z_rs (h.2.1 2) (h.1 1) v3)) (ci := 2) rfl rfl rfl ⟨Nat.le_of_ble_eq_true rfl, Nat.le_of_ble_eq_true rfl⟩ rfl hl.1 rfl (Nat.le_of_ble_eq_true rfl) dX0_openRoom_43 (fun H locs hP hD hS => ?_)
  refine lv_aload_n (pc := 46) hx hb dX0_openRoom_46 rfl (lv_at hl 1 rfl) ?_
  refine va_get (pc := 47) (ci := 0) (C := RX0) (T := TX0) (N := 15) hx hb hts in_X0 hown hK hP 0 rfl rfl 10 (by decide) lk_fi28 (fun _ h9 => h9) rfl dX0_openRoom_47 ?_
  refine lv_iload (pc := 50) hx hb dX0_openRoom_50 (lv_at hl 0 rfl) ?_
  refine lv_iload (pc := 52) hx hb dX0_openRoom_52 (lv_at hl 0 rfl) ?_
  refine z_cmV (pc := 54) (W1 := (z_wH X d (z_hR (z_hR (z_hR (z_hR (z_hS h 1 ((h.1 1) + 1)) 0 (z_rs (h.2.1 0) (h.1 1) v1)) 1 (z_rs (h.2.1 1) (h.1 1) v2)) 2 (z_rs (h.2.1 2) (h.1 1) v3)) 3 (z_rs (h.2.1 3) (h.1 1) (h.1 1))))) S (m_X2_set l X (d 7) (d 8) (h.2.1 3) (h.1 1) (h.1 1)) (cwV 2 hts gX0_openRoom_X2_set rfl rfl rfl hdX2_set ⟨Nat.le_of_ble_eq_true rfl, Nat.le_of_ble_eq_true rfl⟩) hP hK hN hD hS hA (s_H_R7 X d (z_hR (z_hR (z_hR (z_hS h 1 ((h.1 1) + 1)) 0 (z_rs (h.2.1 0) (h.1 1) v1)) 1 (z_rs (h.2.1 1) (h.1 1) v2)) 2 (z_rs (h.2.1 2) (h.1 1) v3))) (f_H_R7 X d (z_hR (z_hR (z_hR (z_hS h 1 ((h.1 1) + 1)) 0 (z_rs (h.2.1 0) (h.1 1) v1)) 1 (z_rs (h.2.1 1) (h.1 1) v2)) 2 (z_rs (h.2.1 2) (h.1 1) v3)) (z_rs (h.2.1 3) (h.1 1) (h.1 1))) (ci := 2) rfl rfl rfl ⟨Nat.le_of_ble_eq_true rfl, Nat.le_of_ble_eq_true rfl⟩ rfl hl.1 rfl (Nat.le_of_ble_eq_true rfl) dX0_openRoom_54 (fun H locs hP hD hS => ?_)
  refine lv_aload_n (pc := 57) hx hb dX0_openRoom_57 rfl (lv_at hl 1 rfl) ?_
  refine va_get (pc := 58) (ci := 0) (C := RX0) (T := TX0) (N := 15) hx hb hts in_X0 hown hK hP 0 rfl rfl 11 (by decide) lk_fi31 (fun _ h9 => h9) rfl dX0_openRoom_58 ?_
  refine lv_iload (pc := 61) hx hb dX0_openRoom_61 (lv_at hl 0 rfl) ?_
  refine lv_iconst (v := 0) (pc := 63) hx hb dX0_openRoom_63 (by decide) ?_
  refine z_cmV (pc := 64) (W1 := (z_wH X d (z_hR (z_hR (z_hR (z_hR (z_hR (z_hS h 1 ((h.1 1) + 1)) 0 (z_rs (h.2.1 0) (h.1 1) v1)) 1 (z_rs (h.2.1 1) (h.1 1) v2)) 2 (z_rs (h.2.1 2) (h.1 1) v3)) 3 (z_rs (h.2.1 3) (h.1 1) (h.1 1))) 4 (z_rs (h.2.1 4) (h.1 1) 0)))) S (m_X2_set l X (d 9) (d 10) (h.2.1 4) (h.1 1) 0) (cwV 2 hts gX0_openRoom_X2_set rfl rfl rfl hdX2_set ⟨Nat.le_of_ble_eq_true rfl, Nat.le_of_ble_eq_true rfl⟩) hP hK hN hD hS hA (s_H_R9 X d (z_hR (z_hR (z_hR (z_hR (z_hS h 1 ((h.1 1) + 1)) 0 (z_rs (h.2.1 0) (h.1 1) v1)) 1 (z_rs (h.2.1 1) (h.1 1) v2)) 2 (z_rs (h.2.1 2) (h.1 1) v3)) 3 (z_rs (h.2.1 3) (h.1 1) (h.1 1)))) (f_H_R9 X d (z_hR (z_hR (z_hR (z_hR (z_hS h 1 ((h.1 1) + 1)) 0 (z_rs (h.2.1 0) (h.1 1) v1)) 1 (z_rs (h.2.1 1) (h.1 1) v2)) 2 (z_rs (h.2.1 2) (h.1 1) v3)) 3 (z_rs (h.2.1 3) (h.1 1) (h.1 1))) (z_rs (h.2.1 4) (h.1 1) 0)) (ci := 2) rfl rfl rfl ⟨Nat.le_of_ble_eq_true rfl, Nat.le_of_ble_eq_true rfl⟩ rfl hl.1 rfl (Nat.le_of_ble_eq_true rfl) dX0_openRoom_64 (fun H locs hP hD hS => ?_)
  refine lv_aload_n (pc := 67) hx hb dX0_openRoom_67 rfl (lv_at hl 1 rfl) ?_
  refine va_get (pc := 68) (ci := 0) (C := RX0) (T := TX0) (N := 15) hx hb hts in_X0 hown hK hP 0 rfl rfl 12 (by decide) lk_fi34 (fun _ h9 => h9) rfl dX0_openRoom_68 ?_
  refine lv_iload (pc := 71) hx hb dX0_openRoom_71 (lv_at hl 0 rfl) ?_
  refine lv_iconst (v := (-1)) (pc := 73) hx hb dX0_openRoom_73 (by decide) ?_
  refine z_cmV (pc := 74) (W1 := (z_wH X d (z_hR (z_hR (z_hR (z_hR (z_hR (z_hR (z_hS h 1 ((h.1 1) + 1)) 0 (z_rs (h.2.1 0) (h.1 1) v1)) 1 (z_rs (h.2.1 1) (h.1 1) v2)) 2 (z_rs (h.2.1 2) (h.1 1) v3)) 3 (z_rs (h.2.1 3) (h.1 1) (h.1 1))) 4 (z_rs (h.2.1 4) (h.1 1) 0)) 5 (z_rs (h.2.1 5) (h.1 1) (-1))))) S (m_X2_set l X (d 11) (d 12) (h.2.1 5) (h.1 1) (-1)) (cwV 2 hts gX0_openRoom_X2_set rfl rfl rfl hdX2_set ⟨Nat.le_of_ble_eq_true rfl, Nat.le_of_ble_eq_true rfl⟩) hP hK hN hD hS hA (s_H_R11 X d (z_hR (z_hR (z_hR (z_hR (z_hR (z_hS h 1 ((h.1 1) + 1)) 0 (z_rs (h.2.1 0) (h.1 1) v1)) 1 (z_rs (h.2.1 1) (h.1 1) v2)) 2 (z_rs (h.2.1 2) (h.1 1) v3)) 3 (z_rs (h.2.1 3) (h.1 1) (h.1 1))) 4 (z_rs (h.2.1 4) (h.1 1) 0))) (f_H_R11 X d (z_hR (z_hR (z_hR (z_hR (z_hR (z_hS h 1 ((h.1 1) + 1)) 0 (z_rs (h.2.1 0) (h.1 1) v1)) 1 (z_rs (h.2.1 1) (h.1 1) v2)) 2 (z_rs (h.2.1 2) (h.1 1) v3)) 3 (z_rs (h.2.1 3) (h.1 1) (h.1 1))) 4 (z_rs (h.2.1 4) (h.1 1) 0)) (z_rs (h.2.1 5) (h.1 1) (-1))) (ci := 2) rfl rfl rfl ⟨Nat.le_of_ble_eq_true rfl, Nat.le_of_ble_eq_true rfl⟩ rfl hl.1 rfl (Nat.le_of_ble_eq_true rfl) dX0_openRoom_74 (fun H locs hP hD hS => ?_)
  refine lv_iload (pc := 77) hx hb dX0_openRoom_77 (lv_at hl 0 rfl) ?_
  exact W.iret (pc := 79) (v := (h.1 1)) hx hb hr (fun t ht hW => ⟨⟨_, (z_wH X d (z_hR (z_hR (z_hR (z_hR (z_hR (z_hR (z_hS h 1 ((h.1 1) + 1)) 0 (z_rs (h.2.1 0) (h.1 1) v1)) 1 (z_rs (h.2.1 1) (h.1 1) v2)) 2 (z_rs (h.2.1 2) (h.1 1) v3)) 3 (z_rs (h.2.1 3) (h.1 1) (h.1 1))) 4 (z_rs (h.2.1 4) (h.1 1) 0)) 5 (z_rs (h.2.1 5) (h.1 1) (-1)))), rfl, ⟨congrArg Prod.fst hf, congrArg (fun z => (z_wH X d z.2)) hf⟩, by rw [ht]; exact hP, hD⟩, hS.F ht⟩) hS.2.2 dX0_openRoom_79
def f_X0_isWaiting (h : z_H) (v1 : Int32) : Int32 := (if (z_rg (h.2.1 5) v1) = (-1) then 0 else 1)
set_option maxHeartbeats 4000000 in
set_option maxRecDepth 100000 in
theorem m_X0_isWaiting (l : Launch) (X : z_X) (d : Nat → Nat) (h : z_H) (v1 : Int32) {RR : Int32} (hf : f_X0_isWaiting h v1 = RR) : z_pI l yX0_isWaiting wsX0_isWaiting 1 21 X [.ref (d 0), .int v1] (z_wH X d h) RR := by
  refine Met.ofW (cc := cX0_isWaiting) (maxL := 2) (ret := (some .boolean)) (by decide) rfl ?_
  intro p e s m args below meth c s₁ B hml hv
  obtain ⟨rfl, hP, hK, hN⟩ := hv
  have hx := B.exec
  have hb := B.bytes
  have hr := B.returns
  have hts := atoms_spec (ws := wsX0_isWaiting) B.pre
  have hown : s.vm.findClass RX0 = some m.cls := findClass_of_methodNamed B.named
  have hlocks := B.notSynchronized
  have S : CallFix p m c cX0_isWaiting 2 s _ wsX0_isWaiting RX0 := ⟨hx, hb, hml, hown, hts⟩
  have lk_fi34 := hts (.fieldLink RX0 34 "HouseBells$House" "waited" "LHouseBells$Row;") (List.mem_of_getElem? (i := 1) rfl)
  have in_X0 : ∀ w ∈ wsX00, w ∈ wsX0_isWaiting := fun _ h => (List.mem_cons_of_mem _ (List.mem_append_left _ (List.mem_append_right _ h)))
  have hl := lv_entry ([.ref (d 0), .int v1]) (n := 2) (Nat.le_of_ble_eq_true rfl)
  rw [lg_entry_eq]
  generalize (lg_sl ([.ref (d 0), .int v1]) ++ List.replicate (2 - (lg_sl ([.ref (d 0), .int v1])).length) Slot.unset).toArray = ls at hl ⊢
  have hl : lv_has ls 2 [(0, .ref (d 0)), (1, .int v1)] := hl
  unfold f_X0_isWaiting at hf
  refine lv_aload_n (pc := 0) hx hb dX0_isWaiting_0 rfl (lv_at hl 0 rfl) ?_
  refine va_get (pc := 1) (ci := 0) (C := RX0) (T := TX0) (N := 15) hx hb hts in_X0 hown hK hP 0 rfl rfl 12 (by decide) lk_fi34 (fun _ h9 => h9) rfl dX0_isWaiting_1 ?_
  refine lv_iload_n (pc := 4) hx hb dX0_isWaiting_4 rfl (lv_at hl 1 rfl) ?_
  refine z_cpI (pc := 5) S (m_X2_get l X (d 11) (d 12) (h.2.1 5) v1) (cwV 1 hts gX0_isWaiting_X2_get rfl rfl rfl hdX2_get ⟨Nat.le_of_ble_eq_true rfl, Nat.le_of_ble_eq_true rfl⟩) hP hK hN (s_H_R11 X d h) (ci := 2) rfl rfl rfl ⟨Nat.le_of_ble_eq_true rfl, Nat.le_of_ble_eq_true rfl⟩ rfl hl.1 rfl (Nat.le_of_ble_eq_true rfl) dX0_isWaiting_5 ?_
  refine lv_iconst (v := (-1)) (pc := 8) hx hb dX0_isWaiting_8 (by decide) ?_
  refine lv_icmp_eq (pc := 9) (tgt := 16) hx hb dX0_isWaiting_9 (by decide) (fun c_9 => ?_) (fun c_9 => ?_)
  · replace hf := z_ip c_9 hf
    refine lv_iconst (v := 0) (pc := 16) hx hb dX0_isWaiting_16 (by decide) ?_
    exact W.zret (pc := 17) (v := 0) hx hb hr rfl (fun t ht hW => ⟨_, rfl, hf, ht⟩) (fun _ h => nomatch h) dX0_isWaiting_17
  · replace hf := z_in c_9 hf
    refine lv_iconst (v := 1) (pc := 12) hx hb dX0_isWaiting_12 (by decide) ?_
    refine lv_goto (pc := 13) (tgt := 17) hx hb dX0_isWaiting_13 (by decide) ?_
    exact W.zret (pc := 17) (v := 1) hx hb hr rfl (fun t ht hW => ⟨_, rfl, hf, ht⟩) (fun _ h => nomatch h) dX0_isWaiting_17
def f_X0_isAnyoneWaiting_L2 (h : z_H) : Nat → Int32 → Option Int32
  | 0, _ => none
  | n + 1, u1 => (if (h.1 1) ≤ u1 then some 0 else (if (z_rg (h.2.1 5) u1) = (-1) then f_X0_isAnyoneWaiting_L2 h n (u1 + 1) else some 1))
def f_X0_isAnyoneWaiting (h : z_H) : Option Int32 := f_X0_isAnyoneWaiting_L2 h z_FU 0
set_option maxHeartbeats 4000000 in
set_option maxRecDepth 100000 in
theorem m_X0_isAnyoneWaiting (l : Launch) (X : z_X) (d : Nat → Nat) (h : z_H) {RR : Int32} (hf : f_X0_isAnyoneWaiting h = some RR) : z_pI l yX0_isAnyoneWaiting wsX0_isAnyoneWaiting 1 21 X [.ref (d 0)] (z_wH X d h) RR := by
  refine Met.ofW (cc := cX0_isAnyoneWaiting) (maxL := 2) (ret := (some .boolean)) (by decide) rfl ?_
  intro p e s m args below meth c s₁ B hml hv
  obtain ⟨rfl, hP, hK, hN⟩ := hv
  have hx := B.exec
  have hb := B.bytes
  have hr := B.returns
  have hts := atoms_spec (ws := wsX0_isAnyoneWaiting) B.pre
  have hown : s.vm.findClass RX0 = some m.cls := findClass_of_methodNamed B.named
  have hlocks := B.notSynchronized
  have S : CallFix p m c cX0_isAnyoneWaiting 2 s _ wsX0_isAnyoneWaiting RX0 := ⟨hx, hb, hml, hown, hts⟩
  have lk_fi54 := hts (.fieldLink RX0 54 "HouseBells$House" "roomCount" "I") (List.mem_of_getElem? (i := 1) rfl)
  have lk_fi34 := hts (.fieldLink RX0 34 "HouseBells$House" "waited" "LHouseBells$Row;") (List.mem_of_getElem? (i := 2) rfl)
  have in_X0 : ∀ w ∈ wsX00, w ∈ wsX0_isAnyoneWaiting := fun _ h => (List.mem_cons_of_mem _ (List.mem_append_left _ (List.mem_append_right _ h)))
  have hl := lv_entry ([.ref (d 0)]) (n := 2) (Nat.le_of_ble_eq_true rfl)
  rw [lg_entry_eq]
  generalize (lg_sl ([.ref (d 0)]) ++ List.replicate (2 - (lg_sl ([.ref (d 0)])).length) Slot.unset).toArray = ls at hl ⊢
  have hl : lv_has ls 2 [(0, .ref (d 0))] := hl
  have lp_2 : ∀ (n : Nat) (u1 : Int32) (ls : Array Slot), lv_has ls 2 [(0, .ref (d 0)), (1, .int u1)] → f_X0_isAnyoneWaiting_L2 h n u1 = some RR → W p l e (headSpec wsX0_isAnyoneWaiting (z_R 1 21)).room s m ([.ref (d 0)] : List Value).toArray below meth c s.heap [] 0 0 (MQ below (vp_Si (fun z => z = RR)) ([.ref (d 0)] : List Value).toArray s 0 0 (fun _ => False)) (F0 m 2 ls []) := by
    intro n
    induction n with
    | zero =>
      intro u1 ls hl hf
      cases hf
    | succ n ih =>
      intro u1 ls hl hf
      rw [f_X0_isAnyoneWaiting_L2] at hf
      refine lv_iload_n (pc := 2) hx hb dX0_isAnyoneWaiting_2 rfl (lv_at hl 1 rfl) ?_
      refine lv_aload_n (pc := 3) hx hb dX0_isAnyoneWaiting_3 rfl (lv_at hl 0 rfl) ?_
      refine va_get (pc := 4) (ci := 0) (C := RX0) (T := TX0) (N := 15) hx hb hts in_X0 hown hK hP 0 rfl rfl 1 (by decide) lk_fi54 (fun _ h9 => h9) rfl dX0_isAnyoneWaiting_4 ?_
      refine lv_icmp_ge (pc := 7) (tgt := 30) hx hb dX0_isAnyoneWaiting_7 (by decide) (fun c_7 => ?_) (fun c_7 => ?_)
      · replace hf := z_ip c_7 hf
        refine lv_iconst (v := 0) (pc := 30) hx hb dX0_isAnyoneWaiting_30 (by decide) ?_
        exact W.zret (pc := 31) (v := 0) hx hb hr rfl (fun t ht hW => ⟨_, rfl, (Option.some.inj hf), ht⟩) (fun _ h => nomatch h) dX0_isAnyoneWaiting_31
      · replace hf := z_in c_7 hf
        refine lv_aload_n (pc := 10) hx hb dX0_isAnyoneWaiting_10 rfl (lv_at hl 0 rfl) ?_
        refine va_get (pc := 11) (ci := 0) (C := RX0) (T := TX0) (N := 15) hx hb hts in_X0 hown hK hP 0 rfl rfl 12 (by decide) lk_fi34 (fun _ h9 => h9) rfl dX0_isAnyoneWaiting_11 ?_
        refine lv_iload_n (pc := 14) hx hb dX0_isAnyoneWaiting_14 rfl (lv_at hl 1 rfl) ?_
        refine z_cpI (pc := 15) S (m_X2_get l X (d 11) (d 12) (h.2.1 5) u1) (cwV 1 hts gX0_isAnyoneWaiting_X2_get rfl rfl rfl hdX2_get ⟨Nat.le_of_ble_eq_true rfl, Nat.le_of_ble_eq_true rfl⟩) hP hK hN (s_H_R11 X d h) (ci := 2) rfl rfl rfl ⟨Nat.le_of_ble_eq_true rfl, Nat.le_of_ble_eq_true rfl⟩ rfl hl.1 rfl (Nat.le_of_ble_eq_true rfl) dX0_isAnyoneWaiting_15 ?_
        refine lv_iconst (v := (-1)) (pc := 18) hx hb dX0_isAnyoneWaiting_18 (by decide) ?_
        refine lv_icmp_eq (pc := 19) (tgt := 24) hx hb dX0_isAnyoneWaiting_19 (by decide) (fun c_19 => ?_) (fun c_19 => ?_)
        · replace hf := z_ip c_19 hf
          refine lv_iinc (pc := 24) (v := (u1 + 1)) (lv' := [(1, .int (u1 + 1)), (0, .ref (d 0))]) hx hb dX0_isAnyoneWaiting_24 hl (k := 1) rfl rfl (by decide) rfl (fun ls hl => ?_)
          refine lv_goto (pc := 27) (tgt := 2) hx hb dX0_isAnyoneWaiting_27 (by decide) ?_
          exact ih (u1 + 1) ls (lv_sub hl [1, 0] rfl) hf
        · replace hf := z_in c_19 hf
          refine lv_iconst (v := 1) (pc := 22) hx hb dX0_isAnyoneWaiting_22 (by decide) ?_
          exact W.zret (pc := 23) (v := 1) hx hb hr rfl (fun t ht hW => ⟨_, rfl, (Option.some.inj hf), ht⟩) (fun _ h => nomatch h) dX0_isAnyoneWaiting_23
  unfold f_X0_isAnyoneWaiting at hf
  refine lv_iconst (v := 0) (pc := 0) hx hb dX0_isAnyoneWaiting_0 (by decide) ?_
  refine lv_istore_n (pc := 1) (lv' := [(1, .int 0), (0, .ref (d 0))]) hx hb dX0_isAnyoneWaiting_1 rfl hl (by decide) rfl (fun ls hl => ?_)
  exact lp_2 z_FU 0 ls (lv_sub hl [1, 0] rfl) hf
def f_X0_isWireCut (h : z_H) (v1 : Int32) : Int32 := (if (z_rg (h.2.1 4) v1) = 1 then 1 else 0)
set_option maxHeartbeats 4000000 in
set_option maxRecDepth 100000 in
theorem m_X0_isWireCut (l : Launch) (X : z_X) (d : Nat → Nat) (h : z_H) (v1 : Int32) {RR : Int32} (hf : f_X0_isWireCut h v1 = RR) : z_pI l yX0_isWireCut wsX0_isWireCut 1 21 X [.ref (d 0), .int v1] (z_wH X d h) RR := by
  refine Met.ofW (cc := cX0_isWireCut) (maxL := 2) (ret := (some .boolean)) (by decide) rfl ?_
  intro p e s m args below meth c s₁ B hml hv
  obtain ⟨rfl, hP, hK, hN⟩ := hv
  have hx := B.exec
  have hb := B.bytes
  have hr := B.returns
  have hts := atoms_spec (ws := wsX0_isWireCut) B.pre
  have hown : s.vm.findClass RX0 = some m.cls := findClass_of_methodNamed B.named
  have hlocks := B.notSynchronized
  have S : CallFix p m c cX0_isWireCut 2 s _ wsX0_isWireCut RX0 := ⟨hx, hb, hml, hown, hts⟩
  have lk_fi31 := hts (.fieldLink RX0 31 "HouseBells$House" "cut" "LHouseBells$Row;") (List.mem_of_getElem? (i := 1) rfl)
  have in_X0 : ∀ w ∈ wsX00, w ∈ wsX0_isWireCut := fun _ h => (List.mem_cons_of_mem _ (List.mem_append_left _ (List.mem_append_right _ h)))
  have hl := lv_entry ([.ref (d 0), .int v1]) (n := 2) (Nat.le_of_ble_eq_true rfl)
  rw [lg_entry_eq]
  generalize (lg_sl ([.ref (d 0), .int v1]) ++ List.replicate (2 - (lg_sl ([.ref (d 0), .int v1])).length) Slot.unset).toArray = ls at hl ⊢
  have hl : lv_has ls 2 [(0, .ref (d 0)), (1, .int v1)] := hl
  unfold f_X0_isWireCut at hf
  refine lv_aload_n (pc := 0) hx hb dX0_isWireCut_0 rfl (lv_at hl 0 rfl) ?_
  refine va_get (pc := 1) (ci := 0) (C := RX0) (T := TX0) (N := 15) hx hb hts in_X0 hown hK hP 0 rfl rfl 11 (by decide) lk_fi31 (fun _ h9 => h9) rfl dX0_isWireCut_1 ?_
  refine lv_iload_n (pc := 4) hx hb dX0_isWireCut_4 rfl (lv_at hl 1 rfl) ?_
  refine z_cpI (pc := 5) S (m_X2_get l X (d 9) (d 10) (h.2.1 4) v1) (cwV 1 hts gX0_isWireCut_X2_get rfl rfl rfl hdX2_get ⟨Nat.le_of_ble_eq_true rfl, Nat.le_of_ble_eq_true rfl⟩) hP hK hN (s_H_R9 X d h) (ci := 2) rfl rfl rfl ⟨Nat.le_of_ble_eq_true rfl, Nat.le_of_ble_eq_true rfl⟩ rfl hl.1 rfl (Nat.le_of_ble_eq_true rfl) dX0_isWireCut_5 ?_
  refine lv_iconst (v := 1) (pc := 8) hx hb dX0_isWireCut_8 (by decide) ?_
  refine lv_icmp_ne (pc := 9) (tgt := 16) hx hb dX0_isWireCut_9 (by decide) (fun c_9 => ?_) (fun c_9 => ?_)
  · replace hf := z_in c_9 hf
    refine lv_iconst (v := 0) (pc := 16) hx hb dX0_isWireCut_16 (by decide) ?_
    exact W.zret (pc := 17) (v := 0) hx hb hr rfl (fun t ht hW => ⟨_, rfl, hf, ht⟩) (fun _ h => nomatch h) dX0_isWireCut_17
  · replace hf := z_ip c_9 hf
    refine lv_iconst (v := 1) (pc := 12) hx hb dX0_isWireCut_12 (by decide) ?_
    refine lv_goto (pc := 13) (tgt := 17) hx hb dX0_isWireCut_13 (by decide) ?_
    exact W.zret (pc := 17) (v := 1) hx hb hr rfl (fun t ht hW => ⟨_, rfl, hf, ht⟩) (fun _ h => nomatch h) dX0_isWireCut_17
def f_X0_countCutWires_L4 (h : z_H) : Nat → Int32 → Int32 → Option Int32
  | 0, _, _ => none
  | n + 1, u1, u2 => (if (h.1 1) ≤ u2 then some u1 else f_X0_countCutWires_L4 h n (u1 + (z_rg (h.2.1 4) u2)) (u2 + 1))
def f_X0_countCutWires (h : z_H) : Option Int32 := (f_X0_countCutWires_L4 h z_FU 0 0).bind (fun x4 => some x4)
set_option maxHeartbeats 4000000 in
set_option maxRecDepth 100000 in
theorem m_X0_countCutWires (l : Launch) (X : z_X) (d : Nat → Nat) (h : z_H) {RR : Int32} (hf : f_X0_countCutWires h = some RR) : z_pI l yX0_countCutWires wsX0_countCutWires 1 21 X [.ref (d 0)] (z_wH X d h) RR := by
  refine Met.ofW (cc := cX0_countCutWires) (maxL := 3) (ret := (some .int)) (by decide) rfl ?_
  intro p e s m args below meth c s₁ B hml hv
  obtain ⟨rfl, hP, hK, hN⟩ := hv
  have hx := B.exec
  have hb := B.bytes
  have hr := B.returns
  have hts := atoms_spec (ws := wsX0_countCutWires) B.pre
  have hown : s.vm.findClass RX0 = some m.cls := findClass_of_methodNamed B.named
  have hlocks := B.notSynchronized
  have S : CallFix p m c cX0_countCutWires 3 s _ wsX0_countCutWires RX0 := ⟨hx, hb, hml, hown, hts⟩
  have lk_fi54 := hts (.fieldLink RX0 54 "HouseBells$House" "roomCount" "I") (List.mem_of_getElem? (i := 1) rfl)
  have lk_fi31 := hts (.fieldLink RX0 31 "HouseBells$House" "cut" "LHouseBells$Row;") (List.mem_of_getElem? (i := 2) rfl)
  have in_X0 : ∀ w ∈ wsX00, w ∈ wsX0_countCutWires := fun _ h => (List.mem_cons_of_mem _ (List.mem_append_left _ (List.mem_append_right _ h)))
  have hl := lv_entry ([.ref (d 0)]) (n := 3) (Nat.le_of_ble_eq_true rfl)
  rw [lg_entry_eq]
  generalize (lg_sl ([.ref (d 0)]) ++ List.replicate (3 - (lg_sl ([.ref (d 0)])).length) Slot.unset).toArray = ls at hl ⊢
  have hl : lv_has ls 3 [(0, .ref (d 0))] := hl
  have lp_4 : ∀ (n : Nat) (u1 : Int32) (u2 : Int32) (T : Int32) (ls : Array Slot), lv_has ls 3 [(0, .ref (d 0)), (1, .int u1), (2, .int u2)] → f_X0_countCutWires_L4 h n u1 u2 = some T → (∀ (ls : Array Slot), lv_has ls 3 [(1, .int T)] → W p l e (headSpec wsX0_countCutWires (z_R 1 21)).room s m ([.ref (d 0)] : List Value).toArray below meth c s.heap [] 0 0 (MQ below (vp_Si (fun z => z = RR)) ([.ref (d 0)] : List Value).toArray s 0 0 (fun _ => False)) (F0 m 29 ls [])) → W p l e (headSpec wsX0_countCutWires (z_R 1 21)).room s m ([.ref (d 0)] : List Value).toArray below meth c s.heap [] 0 0 (MQ below (vp_Si (fun z => z = RR)) ([.ref (d 0)] : List Value).toArray s 0 0 (fun _ => False)) (F0 m 4 ls []) := by
    intro n
    induction n with
    | zero =>
      intro u1 u2 T ls hl hf kk
      cases hf
    | succ n ih =>
      intro u1 u2 T ls hl hf kk
      rw [f_X0_countCutWires_L4] at hf
      refine lv_iload_n (pc := 4) hx hb dX0_countCutWires_4 rfl (lv_at hl 2 rfl) ?_
      refine lv_aload_n (pc := 5) hx hb dX0_countCutWires_5 rfl (lv_at hl 0 rfl) ?_
      refine va_get (pc := 6) (ci := 0) (C := RX0) (T := TX0) (N := 15) hx hb hts in_X0 hown hK hP 0 rfl rfl 1 (by decide) lk_fi54 (fun _ h9 => h9) rfl dX0_countCutWires_6 ?_
      refine lv_icmp_ge (pc := 9) (tgt := 29) hx hb dX0_countCutWires_9 (by decide) (fun c_9 => ?_) (fun c_9 => ?_)
      · replace hf := z_ip c_9 hf
        obtain rfl := Option.some.inj hf
        exact kk ls (lv_sub hl [1] rfl)
      · replace hf := z_in c_9 hf
        refine lv_iload_n (pc := 12) hx hb dX0_countCutWires_12 rfl (lv_at hl 1 rfl) ?_
        refine lv_aload_n (pc := 13) hx hb dX0_countCutWires_13 rfl (lv_at hl 0 rfl) ?_
        refine va_get (pc := 14) (ci := 0) (C := RX0) (T := TX0) (N := 15) hx hb hts in_X0 hown hK hP 0 rfl rfl 11 (by decide) lk_fi31 (fun _ h9 => h9) rfl dX0_countCutWires_14 ?_
        refine lv_iload_n (pc := 17) hx hb dX0_countCutWires_17 rfl (lv_at hl 2 rfl) ?_
        refine z_cpI (pc := 18) S (m_X2_get l X (d 9) (d 10) (h.2.1 4) u2) (cwV 1 hts gX0_countCutWires_X2_get rfl rfl rfl hdX2_get ⟨Nat.le_of_ble_eq_true rfl, Nat.le_of_ble_eq_true rfl⟩) hP hK hN (s_H_R9 X d h) (ci := 2) rfl rfl rfl ⟨Nat.le_of_ble_eq_true rfl, Nat.le_of_ble_eq_true rfl⟩ rfl hl.1 rfl (Nat.le_of_ble_eq_true rfl) dX0_countCutWires_18 ?_
        refine lv_iadd (pc := 21) hx hb dX0_countCutWires_21 ?_
        refine lv_istore_n (pc := 22) (lv' := [(1, .int (u1 + (z_rg (h.2.1 4) u2))), (0, .ref (d 0)), (2, .int u2)]) hx hb dX0_countCutWires_22 rfl hl (by decide) rfl (fun ls hl => ?_)
        refine lv_iinc (pc := 23) (v := (u2 + 1)) (lv' := [(2, .int (u2 + 1)), (1, .int (u1 + (z_rg (h.2.1 4) u2))), (0, .ref (d 0))]) hx hb dX0_countCutWires_23 hl (k := 2) rfl rfl (by decide) rfl (fun ls hl => ?_)
        refine lv_goto (pc := 26) (tgt := 4) hx hb dX0_countCutWires_26 (by decide) ?_
        exact ih (u1 + (z_rg (h.2.1 4) u2)) (u2 + 1) T ls (lv_sub hl [2, 1, 0] rfl) hf kk
  unfold f_X0_countCutWires at hf
  refine lv_iconst (v := 0) (pc := 0) hx hb dX0_countCutWires_0 (by decide) ?_
  refine lv_istore_n (pc := 1) (lv' := [(1, .int 0), (0, .ref (d 0))]) hx hb dX0_countCutWires_1 rfl hl (by decide) rfl (fun ls hl => ?_)
  refine lv_iconst (v := 0) (pc := 2) hx hb dX0_countCutWires_2 (by decide) ?_
  refine lv_istore_n (pc := 3) (lv' := [(2, .int 0), (1, .int 0), (0, .ref (d 0))]) hx hb dX0_countCutWires_3 rfl hl (by decide) rfl (fun ls hl => ?_)
  obtain ⟨x4, e4, hf⟩ := z_bd hf
  refine lp_4 z_FU 0 0 x4 ls (lv_sub hl [2, 1, 0] rfl) e4 (fun ls hl => ?_)
  refine lv_iload_n (pc := 29) hx hb dX0_countCutWires_29 rfl (lv_at hl 0 rfl) ?_
  exact W.iret (pc := 30) (v := x4) hx hb hr (fun t ht hW => ⟨_, rfl, (Option.some.inj hf), ht⟩) (fun _ h => nomatch h) dX0_countCutWires_30
def f_X0_swapWires (h : z_H) (v1 : Int32) (v2 : Int32) : z_H := (z_hR h 3 (z_rs (z_rs (h.2.1 3) v1 (z_rg (h.2.1 3) v2)) v2 (z_rg (h.2.1 3) v1)))
set_option maxHeartbeats 4000000 in
set_option maxRecDepth 100000 in
theorem m_X0_swapWires (l : Launch) (X : z_X) (d : Nat → Nat) (h : z_H) (v1 : Int32) (v2 : Int32) {RR : z_H} (hf : f_X0_swapWires h v1 v2 = RR) : z_mV l yX0_swapWires wsX0_swapWires 1 22 X [.ref (d 0), .int v1, .int v2] (z_wH X d h) (z_wH X d RR) := by
  intro sz
  refine Met.ofW (cc := cX0_swapWires) (maxL := 4) (ret := none) (by decide) rfl ?_
  intro p e s m args below meth c s₁ B hml hv
  obtain ⟨rfl, hsz, hP, hK, hN, hD0⟩ := hv
  have hx := B.exec
  have hb := B.bytes
  have hr := B.returns
  have hts := atoms_spec (ws := wsX0_swapWires) B.pre
  have hown : s.vm.findClass RX0 = some m.cls := findClass_of_methodNamed B.named
  have hlocks := B.notSynchronized
  have S : CallFix p m c cX0_swapWires 4 s _ wsX0_swapWires RX0 := ⟨hx, hb, hml, hown, hts⟩
  have lk_fi28 := hts (.fieldLink RX0 28 "HouseBells$House" "wire" "LHouseBells$Row;") (List.mem_of_getElem? (i := 1) rfl)
  have in_X0 : ∀ w ∈ wsX00, w ∈ wsX0_swapWires := fun _ h => (List.mem_cons_of_mem _ (List.mem_append_left _ (List.mem_append_right _ h)))
  subst hsz
  have hD := hD0.self (sz := s.heap.size)
  generalize hAe : va_A (z_wH X d h) s.heap.size = A at hD ⊢
  have hA : ∀ q : Nat, s.heap.size ≤ q → A q := fun q h => by rw [← hAe]; exact Or.inr h
  have hS : va_S A s.heap s.heap [] := va_S.rf
  have hl := lv_entry ([.ref (d 0), .int v1, .int v2]) (n := 4) (Nat.le_of_ble_eq_true rfl)
  rw [lg_entry_eq]
  generalize (lg_sl ([.ref (d 0), .int v1, .int v2]) ++ List.replicate (4 - (lg_sl ([.ref (d 0), .int v1, .int v2])).length) Slot.unset).toArray = ls at hl ⊢
  have hl : lv_has ls 4 [(0, .ref (d 0)), (1, .int v1), (2, .int v2)] := hl
  suffices hgo : ∀ (H : Heap) (locs : List Loc), va_P X.1 vwCl (z_wH X d h) H → va_D A (z_wH X d h) → va_S A s.heap H locs → W p l e (headSpec wsX0_swapWires (z_R 1 22)).room s m ([.ref (d 0), .int v1, .int v2] : List Value).toArray below meth c H locs 0 0 (MQ below (va_Qv (fun u : va_W => u = (z_wH X d RR)) (z_Bm X A) A) ([.ref (d 0), .int v1, .int v2] : List Value).toArray s 0 0 A) (F0 m 0 ls []) from hgo _ _ hP hD hS
  clear hP hD hS
  intro H locs hP hD hS
  unfold f_X0_swapWires at hf
  refine lv_aload_n (pc := 0) hx hb dX0_swapWires_0 rfl (lv_at hl 0 rfl) ?_
  refine va_get (pc := 1) (ci := 0) (C := RX0) (T := TX0) (N := 15) hx hb hts in_X0 hown hK hP 0 rfl rfl 10 (by decide) lk_fi28 (fun _ h9 => h9) rfl dX0_swapWires_1 ?_
  refine lv_iload_n (pc := 4) hx hb dX0_swapWires_4 rfl (lv_at hl 1 rfl) ?_
  refine z_cpI (pc := 5) S (m_X2_get l X (d 7) (d 8) (h.2.1 3) v1) (cwV 1 hts gX0_swapWires_X2_get rfl rfl rfl hdX2_get ⟨Nat.le_of_ble_eq_true rfl, Nat.le_of_ble_eq_true rfl⟩) hP hK hN (s_H_R7 X d h) (ci := 2) rfl rfl rfl ⟨Nat.le_of_ble_eq_true rfl, Nat.le_of_ble_eq_true rfl⟩ rfl hl.1 rfl (Nat.le_of_ble_eq_true rfl) dX0_swapWires_5 ?_
  refine lv_istore_n (pc := 8) (lv' := [(3, .int (z_rg (h.2.1 3) v1)), (0, .ref (d 0)), (1, .int v1), (2, .int v2)]) hx hb dX0_swapWires_8 rfl hl (by decide) rfl (fun ls hl => ?_)
  refine lv_aload_n (pc := 9) hx hb dX0_swapWires_9 rfl (lv_at hl 1 rfl) ?_
  refine va_get (pc := 10) (ci := 0) (C := RX0) (T := TX0) (N := 15) hx hb hts in_X0 hown hK hP 0 rfl rfl 10 (by decide) lk_fi28 (fun _ h9 => h9) rfl dX0_swapWires_10 ?_
  refine lv_iload_n (pc := 13) hx hb dX0_swapWires_13 rfl (lv_at hl 2 rfl) ?_
  refine lv_aload_n (pc := 14) hx hb dX0_swapWires_14 rfl (lv_at hl 1 rfl) ?_
  refine va_get (pc := 15) (ci := 0) (C := RX0) (T := TX0) (N := 15) hx hb hts in_X0 hown hK hP 0 rfl rfl 10 (by decide) lk_fi28 (fun _ h9 => h9) rfl dX0_swapWires_15 ?_
  refine lv_iload_n (pc := 18) hx hb dX0_swapWires_18 rfl (lv_at hl 3 rfl) ?_
  refine z_cpI (pc := 19) S (m_X2_get l X (d 7) (d 8) (h.2.1 3) v2) (cwV 1 hts gX0_swapWires_X2_get rfl rfl rfl hdX2_get ⟨Nat.le_of_ble_eq_true rfl, Nat.le_of_ble_eq_true rfl⟩) hP hK hN (s_H_R7 X d h) (ci := 2) rfl rfl rfl ⟨Nat.le_of_ble_eq_true rfl, Nat.le_of_ble_eq_true rfl⟩ rfl hl.1 rfl (Nat.le_of_ble_eq_true rfl) dX0_swapWires_19 ?_
  refine z_cmV (pc := 22) (W1 := (z_wH X d (z_hR h 3 (z_rs (h.2.1 3) v1 (z_rg (h.2.1 3) v2))))) S (m_X2_set l X (d 7) (d 8) (h.2.1 3) v1 (z_rg (h.2.1 3) v2)) (cwV 2 hts gX0_swapWires_X2_set rfl rfl rfl hdX2_set ⟨Nat.le_of_ble_eq_true rfl, Nat.le_of_ble_eq_true rfl⟩) hP hK hN hD hS hA (s_H_R7 X d h) (f_H_R7 X d h (z_rs (h.2.1 3) v1 (z_rg (h.2.1 3) v2))) (ci := 2) rfl rfl rfl ⟨Nat.le_of_ble_eq_true rfl, Nat.le_of_ble_eq_true rfl⟩ rfl hl.1 rfl (Nat.le_of_ble_eq_true rfl) dX0_swapWires_22 (fun H locs hP hD hS => ?_)
  refine lv_aload_n (pc := 25) hx hb dX0_swapWires_25 rfl (lv_at hl 1 rfl) ?_
  refine va_get (pc := 26) (ci := 0) (C := RX0) (T := TX0) (N := 15) hx hb hts in_X0 hown hK hP 0 rfl rfl 10 (by decide) lk_fi28 (fun _ h9 => h9) rfl dX0_swapWires_26 ?_
  refine lv_iload_n (pc := 29) hx hb dX0_swapWires_29 rfl (lv_at hl 3 rfl) ?_
  refine lv_iload_n (pc := 30) hx hb dX0_swapWires_30 rfl (lv_at hl 0 rfl) ?_
  refine z_cmV (pc := 31) (W1 := (z_wH X d (z_hR h 3 (z_rs (z_rs (h.2.1 3) v1 (z_rg (h.2.1 3) v2)) v2 (z_rg (h.2.1 3) v1))))) S (m_X2_set l X (d 7) (d 8) (z_rs (h.2.1 3) v1 (z_rg (h.2.1 3) v2)) v2 (z_rg (h.2.1 3) v1)) (cwV 2 hts gX0_swapWires_X2_set rfl rfl rfl hdX2_set ⟨Nat.le_of_ble_eq_true rfl, Nat.le_of_ble_eq_true rfl⟩) hP hK hN hD hS hA (s_H_R7 X d (z_hR h 3 (z_rs (h.2.1 3) v1 (z_rg (h.2.1 3) v2)))) (f_H_R7 X d (z_hR h 3 (z_rs (h.2.1 3) v1 (z_rg (h.2.1 3) v2))) (z_rs (z_rs (h.2.1 3) v1 (z_rg (h.2.1 3) v2)) v2 (z_rg (h.2.1 3) v1))) (ci := 2) rfl rfl rfl ⟨Nat.le_of_ble_eq_true rfl, Nat.le_of_ble_eq_true rfl⟩ rfl hl.1 rfl (Nat.le_of_ble_eq_true rfl) dX0_swapWires_31 (fun H locs hP hD hS => ?_)
  exact W.vret (pc := 34) hx hb hr (fun t ht hW => ⟨⟨(z_wH X d (z_hR h 3 (z_rs (z_rs (h.2.1 3) v1 (z_rg (h.2.1 3) v2)) v2 (z_rg (h.2.1 3) v1)))), rfl, congrArg (fun z => (z_wH X d z)) hf, by rw [ht]; exact hP, hD⟩, hS.F ht⟩) hS.2.2 dX0_swapWires_34
def f_X0_isFirstOfItsCircle_L11 (h : z_H) : Nat → Int32 → Int32 → Int32 → Option Int32
  | 0, _, _, _ => none
  | n + 1, u1, u2, u3 => (if (h.1 1) ≤ u3 then some 1 else (if u2 = u1 then some 1 else (if u1 ≤ u2 then f_X0_isFirstOfItsCircle_L11 h n u1 (z_rg (h.2.1 3) u2) (u3 + 1) else some 0)))
def f_X0_isFirstOfItsCircle (h : z_H) (v1 : Int32) : Option Int32 := f_X0_isFirstOfItsCircle_L11 h z_FU v1 (z_rg (h.2.1 3) v1) 0
set_option maxHeartbeats 4000000 in
set_option maxRecDepth 100000 in
theorem m_X0_isFirstOfItsCircle (l : Launch) (X : z_X) (d : Nat → Nat) (h : z_H) (v1 : Int32) {RR : Int32} (hf : f_X0_isFirstOfItsCircle h v1 = some RR) : z_pI l yX0_isFirstOfItsCircle wsX0_isFirstOfItsCircle 1 21 X [.ref (d 0), .int v1] (z_wH X d h) RR := by
  refine Met.ofW (cc := cX0_isFirstOfItsCircle) (maxL := 4) (ret := (some .boolean)) (by decide) rfl ?_
  intro p e s m args below meth c s₁ B hml hv
  obtain ⟨rfl, hP, hK, hN⟩ := hv
  have hx := B.exec
  have hb := B.bytes
  have hr := B.returns
  have hts := atoms_spec (ws := wsX0_isFirstOfItsCircle) B.pre
  have hown : s.vm.findClass RX0 = some m.cls := findClass_of_methodNamed B.named
  have hlocks := B.notSynchronized
  have S : CallFix p m c cX0_isFirstOfItsCircle 4 s _ wsX0_isFirstOfItsCircle RX0 := ⟨hx, hb, hml, hown, hts⟩
  have lk_fi28 := hts (.fieldLink RX0 28 "HouseBells$House" "wire" "LHouseBells$Row;") (List.mem_of_getElem? (i := 1) rfl)
  have lk_fi54 := hts (.fieldLink RX0 54 "HouseBells$House" "roomCount" "I") (List.mem_of_getElem? (i := 2) rfl)
  have in_X0 : ∀ w ∈ wsX00, w ∈ wsX0_isFirstOfItsCircle := fun _ h => (List.mem_cons_of_mem _ (List.mem_append_left _ (List.mem_append_right _ h)))
  have hl := lv_entry ([.ref (d 0), .int v1]) (n := 4) (Nat.le_of_ble_eq_true rfl)
  rw [lg_entry_eq]
  generalize (lg_sl ([.ref (d 0), .int v1]) ++ List.replicate (4 - (lg_sl ([.ref (d 0), .int v1])).length) Slot.unset).toArray = ls at hl ⊢
  have hl : lv_has ls 4 [(0, .ref (d 0)), (1, .int v1)] := hl
  have lp_11 : ∀ (n : Nat) (u1 : Int32) (u2 : Int32) (u3 : Int32) (ls : Array Slot), lv_has ls 4 [(0, .ref (d 0)), (1, .int u1), (2, .int u2), (3, .int u3)] → f_X0_isFirstOfItsCircle_L11 h n u1 u2 u3 = some RR → W p l e (headSpec wsX0_isFirstOfItsCircle (z_R 1 21)).room s m ([.ref (d 0), .int v1] : List Value).toArray below meth c s.heap [] 0 0 (MQ below (vp_Si (fun z => z = RR)) ([.ref (d 0), .int v1] : List Value).toArray s 0 0 (fun _ => False)) (F0 m 11 ls []) := by
    intro n
    induction n with
    | zero =>
      intro u1 u2 u3 ls hl hf
      cases hf
    | succ n ih =>
      intro u1 u2 u3 ls hl hf
      rw [f_X0_isFirstOfItsCircle_L11] at hf
      refine lv_iload_n (pc := 11) hx hb dX0_isFirstOfItsCircle_11 rfl (lv_at hl 3 rfl) ?_
      refine lv_aload_n (pc := 12) hx hb dX0_isFirstOfItsCircle_12 rfl (lv_at hl 0 rfl) ?_
      refine va_get (pc := 13) (ci := 0) (C := RX0) (T := TX0) (N := 15) hx hb hts in_X0 hown hK hP 0 rfl rfl 1 (by decide) lk_fi54 (fun _ h9 => h9) rfl dX0_isFirstOfItsCircle_13 ?_
      refine lv_icmp_ge (pc := 16) (tgt := 46) hx hb dX0_isFirstOfItsCircle_16 (by decide) (fun c_16 => ?_) (fun c_16 => ?_)
      · replace hf := z_ip c_16 hf
        refine lv_iconst (v := 1) (pc := 46) hx hb dX0_isFirstOfItsCircle_46 (by decide) ?_
        exact W.zret (pc := 47) (v := 1) hx hb hr rfl (fun t ht hW => ⟨_, rfl, (Option.some.inj hf), ht⟩) (fun _ h => nomatch h) dX0_isFirstOfItsCircle_47
      · replace hf := z_in c_16 hf
        refine lv_iload_n (pc := 19) hx hb dX0_isFirstOfItsCircle_19 rfl (lv_at hl 2 rfl) ?_
        refine lv_iload_n (pc := 20) hx hb dX0_isFirstOfItsCircle_20 rfl (lv_at hl 1 rfl) ?_
        refine lv_icmp_eq (pc := 21) (tgt := 46) hx hb dX0_isFirstOfItsCircle_21 (by decide) (fun c_21 => ?_) (fun c_21 => ?_)
        · replace hf := z_ip c_21 hf
          refine lv_iconst (v := 1) (pc := 46) hx hb dX0_isFirstOfItsCircle_46 (by decide) ?_
          exact W.zret (pc := 47) (v := 1) hx hb hr rfl (fun t ht hW => ⟨_, rfl, (Option.some.inj hf), ht⟩) (fun _ h => nomatch h) dX0_isFirstOfItsCircle_47
        · replace hf := z_in c_21 hf
          refine lv_iload_n (pc := 24) hx hb dX0_isFirstOfItsCircle_24 rfl (lv_at hl 2 rfl) ?_
          refine lv_iload_n (pc := 25) hx hb dX0_isFirstOfItsCircle_25 rfl (lv_at hl 1 rfl) ?_
          refine lv_icmp_ge (pc := 26) (tgt := 31) hx hb dX0_isFirstOfItsCircle_26 (by decide) (fun c_26 => ?_) (fun c_26 => ?_)
          · replace hf := z_ip c_26 hf
            refine lv_aload_n (pc := 31) hx hb dX0_isFirstOfItsCircle_31 rfl (lv_at hl 0 rfl) ?_
            refine va_get (pc := 32) (ci := 0) (C := RX0) (T := TX0) (N := 15) hx hb hts in_X0 hown hK hP 0 rfl rfl 10 (by decide) lk_fi28 (fun _ h9 => h9) rfl dX0_isFirstOfItsCircle_32 ?_
            refine lv_iload_n (pc := 35) hx hb dX0_isFirstOfItsCircle_35 rfl (lv_at hl 2 rfl) ?_
            refine z_cpI (pc := 36) S (m_X2_get l X (d 7) (d 8) (h.2.1 3) u2) (cwV 1 hts gX0_isFirstOfItsCircle_X2_get rfl rfl rfl hdX2_get ⟨Nat.le_of_ble_eq_true rfl, Nat.le_of_ble_eq_true rfl⟩) hP hK hN (s_H_R7 X d h) (ci := 2) rfl rfl rfl ⟨Nat.le_of_ble_eq_true rfl, Nat.le_of_ble_eq_true rfl⟩ rfl hl.1 rfl (Nat.le_of_ble_eq_true rfl) dX0_isFirstOfItsCircle_36 ?_
            refine lv_istore_n (pc := 39) (lv' := [(2, .int (z_rg (h.2.1 3) u2)), (0, .ref (d 0)), (1, .int u1), (3, .int u3)]) hx hb dX0_isFirstOfItsCircle_39 rfl hl (by decide) rfl (fun ls hl => ?_)
            refine lv_iinc (pc := 40) (v := (u3 + 1)) (lv' := [(3, .int (u3 + 1)), (2, .int (z_rg (h.2.1 3) u2)), (0, .ref (d 0)), (1, .int u1)]) hx hb dX0_isFirstOfItsCircle_40 hl (k := 3) rfl rfl (by decide) rfl (fun ls hl => ?_)
            refine lv_goto (pc := 43) (tgt := 11) hx hb dX0_isFirstOfItsCircle_43 (by decide) ?_
            exact ih u1 (z_rg (h.2.1 3) u2) (u3 + 1) ls (lv_sub hl [2, 3, 1, 0] rfl) hf
          · replace hf := z_in c_26 hf
            refine lv_iconst (v := 0) (pc := 29) hx hb dX0_isFirstOfItsCircle_29 (by decide) ?_
            exact W.zret (pc := 30) (v := 0) hx hb hr rfl (fun t ht hW => ⟨_, rfl, (Option.some.inj hf), ht⟩) (fun _ h => nomatch h) dX0_isFirstOfItsCircle_30
  unfold f_X0_isFirstOfItsCircle at hf
  refine lv_aload_n (pc := 0) hx hb dX0_isFirstOfItsCircle_0 rfl (lv_at hl 0 rfl) ?_
  refine va_get (pc := 1) (ci := 0) (C := RX0) (T := TX0) (N := 15) hx hb hts in_X0 hown hK hP 0 rfl rfl 10 (by decide) lk_fi28 (fun _ h9 => h9) rfl dX0_isFirstOfItsCircle_1 ?_
  refine lv_iload_n (pc := 4) hx hb dX0_isFirstOfItsCircle_4 rfl (lv_at hl 1 rfl) ?_
  refine z_cpI (pc := 5) S (m_X2_get l X (d 7) (d 8) (h.2.1 3) v1) (cwV 1 hts gX0_isFirstOfItsCircle_X2_get rfl rfl rfl hdX2_get ⟨Nat.le_of_ble_eq_true rfl, Nat.le_of_ble_eq_true rfl⟩) hP hK hN (s_H_R7 X d h) (ci := 2) rfl rfl rfl ⟨Nat.le_of_ble_eq_true rfl, Nat.le_of_ble_eq_true rfl⟩ rfl hl.1 rfl (Nat.le_of_ble_eq_true rfl) dX0_isFirstOfItsCircle_5 ?_
  refine lv_istore_n (pc := 8) (lv' := [(2, .int (z_rg (h.2.1 3) v1)), (0, .ref (d 0)), (1, .int v1)]) hx hb dX0_isFirstOfItsCircle_8 rfl hl (by decide) rfl (fun ls hl => ?_)
  refine lv_iconst (v := 0) (pc := 9) hx hb dX0_isFirstOfItsCircle_9 (by decide) ?_
  refine lv_istore_n (pc := 10) (lv' := [(3, .int 0), (2, .int (z_rg (h.2.1 3) v1)), (0, .ref (d 0)), (1, .int v1)]) hx hb dX0_isFirstOfItsCircle_10 rfl hl (by decide) rfl (fun ls hl => ?_)
  exact lp_11 z_FU v1 (z_rg (h.2.1 3) v1) 0 ls (lv_sub hl [2, 3, 1, 0] rfl) hf
def f_X0_costFrom (v0 : Int32) : Int32 := (v0 + 1)
set_option maxHeartbeats 4000000 in
set_option maxRecDepth 100000 in
theorem m_X0_costFrom (l : Launch) (X : z_X) (v0 : Int32) {RR : Int32} (hf : f_X0_costFrom v0 = RR) : z_pI l yX0_costFrom wsX0_costFrom 0 0 X [.int v0] ([] : va_W) RR := by
  refine Met.ofW (cc := cX0_costFrom) (maxL := 1) (ret := (some .int)) (by decide) rfl ?_
  intro p e s m args below meth c s₁ B hml hv
  obtain ⟨rfl, hP, hK, hN⟩ := hv
  have hx := B.exec
  have hb := B.bytes
  have hr := B.returns
  have hts := atoms_spec (ws := wsX0_costFrom) B.pre
  have hown : s.vm.findClass RX0 = some m.cls := findClass_of_methodNamed B.named
  have hlocks := B.notSynchronized
  have S : CallFix p m c cX0_costFrom 1 s _ wsX0_costFrom RX0 := ⟨hx, hb, hml, hown, hts⟩
  have hl := lv_entry ([.int v0]) (n := 1) (Nat.le_of_ble_eq_true rfl)
  rw [lg_entry_eq]
  generalize (lg_sl ([.int v0]) ++ List.replicate (1 - (lg_sl ([.int v0])).length) Slot.unset).toArray = ls at hl ⊢
  have hl : lv_has ls 1 [(0, .int v0)] := hl
  unfold f_X0_costFrom at hf
  refine lv_iload_n (pc := 0) hx hb dX0_costFrom_0 rfl (lv_at hl 0 rfl) ?_
  refine lv_iconst (v := 1) (pc := 1) hx hb dX0_costFrom_1 (by decide) ?_
  refine lv_iadd (pc := 2) hx hb dX0_costFrom_2 ?_
  exact W.iret (pc := 3) (v := (v0 + 1)) hx hb hr (fun t ht hW => ⟨_, rfl, hf, ht⟩) (fun _ h => nomatch h) dX0_costFrom_3
def f_X0_pullBell (h : z_H) (v1 : Int32) : Option (Int32 × z_H) := (if (z_rg (h.2.1 4) v1) = 1 then some (0, (z_hS h 6 ((h.1 6) + 1))) else (if (f_X0_costFrom (z_rg (h.2.1 0) v1)) ≤ (h.1 2) then (f_X1_placeOf h.2.2.1 (z_rg (h.2.1 3) v1)).bind (fun x68 => (if x68 = (-1) then (f_X1_append h.2.2.1 (z_rg (h.2.1 3) v1)).bind (fun x80 => some (1, (z_hL (z_hS h 2 ((h.1 2) - (f_X0_costFrom (z_rg (h.2.1 0) v1)))) x80))) else some (1, (z_hS h 2 ((h.1 2) - (f_X0_costFrom (z_rg (h.2.1 0) v1))))))) else some (0, (z_hS h 6 ((h.1 6) + 1)))))
set_option maxHeartbeats 4000000 in
set_option maxRecDepth 100000 in
theorem m_X0_pullBell (l : Launch) (X : z_X) (d : Nat → Nat) (h : z_H) (v1 : Int32) {RR : (Int32 × z_H)} (hf : f_X0_pullBell h v1 = some RR) : z_mI l yX0_pullBell wsX0_pullBell 1 22 X [.ref (d 0), .int v1] (z_wH X d h) RR.1 (z_wH X d RR.2) := by
  intro sz
  refine Met.ofW (cc := cX0_pullBell) (maxL := 4) (ret := (some .boolean)) (by decide) rfl ?_
  intro p e s m args below meth c s₁ B hml hv
  obtain ⟨rfl, hsz, hP, hK, hN, hD0⟩ := hv
  have hx := B.exec
  have hb := B.bytes
  have hr := B.returns
  have hts := atoms_spec (ws := wsX0_pullBell) B.pre
  have hown : s.vm.findClass RX0 = some m.cls := findClass_of_methodNamed B.named
  have hlocks := B.notSynchronized
  have S : CallFix p m c cX0_pullBell 4 s _ wsX0_pullBell RX0 := ⟨hx, hb, hml, hown, hts⟩
  have lk_fi18 := hts (.fieldLink RX0 18 "HouseBells$House" "floor" "LHouseBells$Row;") (List.mem_of_getElem? (i := 1) rfl)
  have lk_fi31 := hts (.fieldLink RX0 31 "HouseBells$House" "cut" "LHouseBells$Row;") (List.mem_of_getElem? (i := 2) rfl)
  have lk_fi66 := hts (.fieldLink RX0 66 "HouseBells$House" "unheard" "I") (List.mem_of_getElem? (i := 4) rfl)
  have lk_fi9 := hts (.fieldLink RX0 9 "HouseBells$House" "charge" "I") (List.mem_of_getElem? (i := 3) rfl)
  have lk_fi28 := hts (.fieldLink RX0 28 "HouseBells$House" "wire" "LHouseBells$Row;") (List.mem_of_getElem? (i := 5) rfl)
  have lk_fi40 := hts (.fieldLink RX0 40 "HouseBells$House" "line" "LHouseBells$Line;") (List.mem_of_getElem? (i := 6) rfl)
  have in_X0 : ∀ w ∈ wsX00, w ∈ wsX0_pullBell := fun _ h => (List.mem_cons_of_mem _ (List.mem_append_left _ (List.mem_append_left _ (List.mem_append_right _ h))))
  subst hsz
  have hD := hD0.self (sz := s.heap.size)
  generalize hAe : va_A (z_wH X d h) s.heap.size = A at hD ⊢
  have hA : ∀ q : Nat, s.heap.size ≤ q → A q := fun q h => by rw [← hAe]; exact Or.inr h
  have hS : va_S A s.heap s.heap [] := va_S.rf
  have hl := lv_entry ([.ref (d 0), .int v1]) (n := 4) (Nat.le_of_ble_eq_true rfl)
  rw [lg_entry_eq]
  generalize (lg_sl ([.ref (d 0), .int v1]) ++ List.replicate (4 - (lg_sl ([.ref (d 0), .int v1])).length) Slot.unset).toArray = ls at hl ⊢
  have hl : lv_has ls 4 [(0, .ref (d 0)), (1, .int v1)] := hl
  suffices hgo : ∀ (H : Heap) (locs : List Loc), va_P X.1 vwCl (z_wH X d h) H → va_D A (z_wH X d h) → va_S A s.heap H locs → W p l e (headSpec wsX0_pullBell (z_R 1 22)).room s m ([.ref (d 0), .int v1] : List Value).toArray below meth c H locs 0 0 (MQ below (va_Qi (fun (z : Int32) (u : va_W) => z = RR.1 ∧ u = (z_wH X d RR.2)) (z_Bm X A) A) ([.ref (d 0), .int v1] : List Value).toArray s 0 0 A) (F0 m 0 ls []) from hgo _ _ hP hD hS
  clear hP hD hS
  intro H locs hP hD hS
  unfold f_X0_pullBell at hf
  refine lv_aload_n (pc := 0) hx hb dX0_pullBell_0 rfl (lv_at hl 0 rfl) ?_
  refine va_get (pc := 1) (ci := 0) (C := RX0) (T := TX0) (N := 15) hx hb hts in_X0 hown hK hP 0 rfl rfl 7 (by decide) lk_fi18 (fun _ h9 => h9) rfl dX0_pullBell_1 ?_
  refine lv_iload_n (pc := 4) hx hb dX0_pullBell_4 rfl (lv_at hl 1 rfl) ?_
  refine z_cpI (pc := 5) S (m_X2_get l X (d 1) (d 2) (h.2.1 0) v1) (cwV 1 hts gX0_pullBell_X2_get rfl rfl rfl hdX2_get ⟨Nat.le_of_ble_eq_true rfl, Nat.le_of_ble_eq_true rfl⟩) hP hK hN (s_H_R1 X d h) (ci := 2) rfl rfl rfl ⟨Nat.le_of_ble_eq_true rfl, Nat.le_of_ble_eq_true rfl⟩ rfl hl.1 rfl (Nat.le_of_ble_eq_true rfl) dX0_pullBell_5 ?_
  refine z_csI (pc := 8) S (m_X0_costFrom l X (z_rg (h.2.1 0) v1) rfl) (va_cwS 1 hts gX0_pullBell_X0_costFrom rfl rfl rfl hdX0_costFrom ⟨Nat.le_of_ble_eq_true rfl, Nat.le_of_ble_eq_true rfl⟩) hP hK hN (s_nil _) ⟨Nat.le_of_ble_eq_true rfl, Nat.le_of_ble_eq_true rfl⟩ rfl hl.1 rfl (Nat.le_of_ble_eq_true rfl) dX0_pullBell_8 ?_
  refine lv_istore_n (pc := 11) (lv' := [(2, .int (f_X0_costFrom (z_rg (h.2.1 0) v1))), (0, .ref (d 0)), (1, .int v1)]) hx hb dX0_pullBell_11 rfl hl (by decide) rfl (fun ls hl => ?_)
  refine lv_aload_n (pc := 12) hx hb dX0_pullBell_12 rfl (lv_at hl 1 rfl) ?_
  refine va_get (pc := 13) (ci := 0) (C := RX0) (T := TX0) (N := 15) hx hb hts in_X0 hown hK hP 0 rfl rfl 11 (by decide) lk_fi31 (fun _ h9 => h9) rfl dX0_pullBell_13 ?_
  refine lv_iload_n (pc := 16) hx hb dX0_pullBell_16 rfl (lv_at hl 2 rfl) ?_
  refine z_cpI (pc := 17) S (m_X2_get l X (d 9) (d 10) (h.2.1 4) v1) (cwV 1 hts gX0_pullBell_X2_get rfl rfl rfl hdX2_get ⟨Nat.le_of_ble_eq_true rfl, Nat.le_of_ble_eq_true rfl⟩) hP hK hN (s_H_R9 X d h) (ci := 2) rfl rfl rfl ⟨Nat.le_of_ble_eq_true rfl, Nat.le_of_ble_eq_true rfl⟩ rfl hl.1 rfl (Nat.le_of_ble_eq_true rfl) dX0_pullBell_17 ?_
  refine lv_iconst (v := 1) (pc := 20) hx hb dX0_pullBell_20 (by decide) ?_
  refine lv_icmp_eq (pc := 21) (tgt := 32) hx hb dX0_pullBell_21 (by decide) (fun c_21 => ?_) (fun c_21 => ?_)
  · replace hf := z_ip c_21 hf
    refine lv_aload_n (pc := 32) hx hb dX0_pullBell_32 rfl (lv_at hl 1 rfl) ?_
    refine lv_dup (pc := 33) hx hb dX0_pullBell_33 rfl ?_
    refine va_get (pc := 34) (ci := 0) (C := RX0) (T := TX0) (N := 15) hx hb hts in_X0 hown hK hP 0 rfl rfl 6 (by decide) lk_fi66 (fun _ h9 => h9) rfl dX0_pullBell_34 ?_
    refine lv_iconst (v := 1) (pc := 37) hx hb dX0_pullBell_37 (by decide) ?_
    refine lv_iadd (pc := 38) hx hb dX0_pullBell_38 ?_
    refine z_put (pc := 39) (ci := 0) (C := RX0) (T := TX0) (N := 15) (W1 := (z_wH X d (z_hS h 6 ((h.1 6) + 1)))) hx hb hts in_X0 tyX0 tyX0_ok nmX0 hown hK hP hD hS 0 rfl rfl 6 (by decide) lk_fi66 (fun _ h9 => h9) rfl (by decide +kernel) (Nat.le_of_ble_eq_true rfl) dX0_pullBell_39 rfl (fun H locs hP hD hS => ?_)
    refine lv_iconst (v := 0) (pc := 42) hx hb dX0_pullBell_42 (by decide) ?_
    exact W.zret (pc := 43) (v := 0) hx hb hr rfl (fun t ht hW => ⟨⟨_, (z_wH X d (z_hS h 6 ((h.1 6) + 1))), rfl, ⟨congrArg Prod.fst (Option.some.inj hf), congrArg (fun z => (z_wH X d z.2)) (Option.some.inj hf)⟩, by rw [ht]; exact hP, hD⟩, hS.F ht⟩) hS.2.2 dX0_pullBell_43
  · replace hf := z_in c_21 hf
    refine lv_aload_n (pc := 24) hx hb dX0_pullBell_24 rfl (lv_at hl 1 rfl) ?_
    refine va_get (pc := 25) (ci := 0) (C := RX0) (T := TX0) (N := 15) hx hb hts in_X0 hown hK hP 0 rfl rfl 2 (by decide) lk_fi9 (fun _ h9 => h9) rfl dX0_pullBell_25 ?_
    refine lv_iload_n (pc := 28) hx hb dX0_pullBell_28 rfl (lv_at hl 0 rfl) ?_
    refine lv_icmp_ge (pc := 29) (tgt := 44) hx hb dX0_pullBell_29 (by decide) (fun c_29 => ?_) (fun c_29 => ?_)
    · replace hf := z_ip c_29 hf
      refine lv_aload_n (pc := 44) hx hb dX0_pullBell_44 rfl (lv_at hl 1 rfl) ?_
      refine lv_dup (pc := 45) hx hb dX0_pullBell_45 rfl ?_
      refine va_get (pc := 46) (ci := 0) (C := RX0) (T := TX0) (N := 15) hx hb hts in_X0 hown hK hP 0 rfl rfl 2 (by decide) lk_fi9 (fun _ h9 => h9) rfl dX0_pullBell_46 ?_
      refine lv_iload_n (pc := 49) hx hb dX0_pullBell_49 rfl (lv_at hl 0 rfl) ?_
      refine lv_isub (pc := 50) hx hb dX0_pullBell_50 ?_
      refine z_put (pc := 51) (ci := 0) (C := RX0) (T := TX0) (N := 15) (W1 := (z_wH X d (z_hS h 2 ((h.1 2) - (f_X0_costFrom (z_rg (h.2.1 0) v1)))))) hx hb hts in_X0 tyX0 tyX0_ok nmX0 hown hK hP hD hS 0 rfl rfl 2 (by decide) lk_fi9 (fun _ h9 => h9) rfl (by decide +kernel) (Nat.le_of_ble_eq_true rfl) dX0_pullBell_51 rfl (fun H locs hP hD hS => ?_)
      refine lv_aload_n (pc := 54) hx hb dX0_pullBell_54 rfl (lv_at hl 1 rfl) ?_
      refine va_get (pc := 55) (ci := 0) (C := RX0) (T := TX0) (N := 15) hx hb hts in_X0 hown hK hP 0 rfl rfl 10 (by decide) lk_fi28 (fun _ h9 => h9) rfl dX0_pullBell_55 ?_
      refine lv_iload_n (pc := 58) hx hb dX0_pullBell_58 rfl (lv_at hl 2 rfl) ?_
      refine z_cpI (pc := 59) S (m_X2_get l X (d 7) (d 8) (h.2.1 3) v1) (cwV 1 hts gX0_pullBell_X2_get rfl rfl rfl hdX2_get ⟨Nat.le_of_ble_eq_true rfl, Nat.le_of_ble_eq_true rfl⟩) hP hK hN (s_H_R7 X d (z_hS h 2 ((h.1 2) - (f_X0_costFrom (z_rg (h.2.1 0) v1))))) (ci := 2) rfl rfl rfl ⟨Nat.le_of_ble_eq_true rfl, Nat.le_of_ble_eq_true rfl⟩ rfl hl.1 rfl (Nat.le_of_ble_eq_true rfl) dX0_pullBell_59 ?_
      refine lv_istore_n (pc := 62) (lv' := [(3, .int (z_rg (h.2.1 3) v1)), (2, .int (f_X0_costFrom (z_rg (h.2.1 0) v1))), (0, .ref (d 0)), (1, .int v1)]) hx hb dX0_pullBell_62 rfl hl (by decide) rfl (fun ls hl => ?_)
      refine lv_aload_n (pc := 63) hx hb dX0_pullBell_63 rfl (lv_at hl 2 rfl) ?_
      refine va_get (pc := 64) (ci := 0) (C := RX0) (T := TX0) (N := 15) hx hb hts in_X0 hown hK hP 0 rfl rfl 13 (by decide) lk_fi40 (fun _ h9 => h9) rfl dX0_pullBell_64 ?_
      refine lv_iload_n (pc := 67) hx hb dX0_pullBell_67 rfl (lv_at hl 0 rfl) ?_
      obtain ⟨x68, e68, hf⟩ := z_bd hf
      refine z_cpI (pc := 68) S (m_X1_placeOf l X d h.2.2.1 (z_rg (h.2.1 3) v1) e68) (cwV 1 hts gX0_pullBell_X1_placeOf rfl rfl rfl hdX1_placeOf ⟨Nat.le_of_ble_eq_true rfl, Nat.le_of_ble_eq_true rfl⟩) hP hK hN (s_H_L13 X d (z_hS h 2 ((h.1 2) - (f_X0_costFrom (z_rg (h.2.1 0) v1))))) (ci := 1) rfl rfl rfl ⟨Nat.le_of_ble_eq_true rfl, Nat.le_of_ble_eq_true rfl⟩ rfl hl.1 rfl (Nat.le_of_ble_eq_true rfl) dX0_pullBell_68 ?_
      refine lv_iconst (v := (-1)) (pc := 71) hx hb dX0_pullBell_71 (by decide) ?_
      refine lv_icmp_ne (pc := 72) (tgt := 83) hx hb dX0_pullBell_72 (by decide) (fun c_72 => ?_) (fun c_72 => ?_)
      · replace hf := z_in c_72 hf
        refine lv_iconst (v := 1) (pc := 83) hx hb dX0_pullBell_83 (by decide) ?_
        exact W.zret (pc := 84) (v := 1) hx hb hr rfl (fun t ht hW => ⟨⟨_, (z_wH X d (z_hS h 2 ((h.1 2) - (f_X0_costFrom (z_rg (h.2.1 0) v1))))), rfl, ⟨congrArg Prod.fst (Option.some.inj hf), congrArg (fun z => (z_wH X d z.2)) (Option.some.inj hf)⟩, by rw [ht]; exact hP, hD⟩, hS.F ht⟩) hS.2.2 dX0_pullBell_84
      · replace hf := z_ip c_72 hf
        refine lv_aload_n (pc := 75) hx hb dX0_pullBell_75 rfl (lv_at hl 2 rfl) ?_
        refine va_get (pc := 76) (ci := 0) (C := RX0) (T := TX0) (N := 15) hx hb hts in_X0 hown hK hP 0 rfl rfl 13 (by decide) lk_fi40 (fun _ h9 => h9) rfl dX0_pullBell_76 ?_
        refine lv_iload_n (pc := 79) hx hb dX0_pullBell_79 rfl (lv_at hl 0 rfl) ?_
        obtain ⟨x80, e80, hf⟩ := z_bd hf
        refine z_cmV (pc := 80) (W1 := (z_wH X d (z_hL (z_hS h 2 ((h.1 2) - (f_X0_costFrom (z_rg (h.2.1 0) v1)))) x80))) S (m_X1_append l X d h.2.2.1 (z_rg (h.2.1 3) v1) e80) (cwV 1 hts gX0_pullBell_X1_append rfl rfl rfl hdX1_append ⟨Nat.le_of_ble_eq_true rfl, Nat.le_of_ble_eq_true rfl⟩) hP hK hN hD hS hA (s_H_L13 X d (z_hS h 2 ((h.1 2) - (f_X0_costFrom (z_rg (h.2.1 0) v1))))) (f_H_L13 X d (z_hS h 2 ((h.1 2) - (f_X0_costFrom (z_rg (h.2.1 0) v1)))) x80) (ci := 1) rfl rfl rfl ⟨Nat.le_of_ble_eq_true rfl, Nat.le_of_ble_eq_true rfl⟩ rfl hl.1 rfl (Nat.le_of_ble_eq_true rfl) dX0_pullBell_80 (fun H locs hP hD hS => ?_)
        refine lv_iconst (v := 1) (pc := 83) hx hb dX0_pullBell_83 (by decide) ?_
        exact W.zret (pc := 84) (v := 1) hx hb hr rfl (fun t ht hW => ⟨⟨_, (z_wH X d (z_hL (z_hS h 2 ((h.1 2) - (f_X0_costFrom (z_rg (h.2.1 0) v1)))) x80)), rfl, ⟨congrArg Prod.fst (Option.some.inj hf), congrArg (fun z => (z_wH X d z.2)) (Option.some.inj hf)⟩, by rw [ht]; exact hP, hD⟩, hS.F ht⟩) hS.2.2 dX0_pullBell_84
    · replace hf := z_in c_29 hf
      refine lv_aload_n (pc := 32) hx hb dX0_pullBell_32 rfl (lv_at hl 1 rfl) ?_
      refine lv_dup (pc := 33) hx hb dX0_pullBell_33 rfl ?_
      refine va_get (pc := 34) (ci := 0) (C := RX0) (T := TX0) (N := 15) hx hb hts in_X0 hown hK hP 0 rfl rfl 6 (by decide) lk_fi66 (fun _ h9 => h9) rfl dX0_pullBell_34 ?_
      refine lv_iconst (v := 1) (pc := 37) hx hb dX0_pullBell_37 (by decide) ?_
      refine lv_iadd (pc := 38) hx hb dX0_pullBell_38 ?_
      refine z_put (pc := 39) (ci := 0) (C := RX0) (T := TX0) (N := 15) (W1 := (z_wH X d (z_hS h 6 ((h.1 6) + 1)))) hx hb hts in_X0 tyX0 tyX0_ok nmX0 hown hK hP hD hS 0 rfl rfl 6 (by decide) lk_fi66 (fun _ h9 => h9) rfl (by decide +kernel) (Nat.le_of_ble_eq_true rfl) dX0_pullBell_39 rfl (fun H locs hP hD hS => ?_)
      refine lv_iconst (v := 0) (pc := 42) hx hb dX0_pullBell_42 (by decide) ?_
      exact W.zret (pc := 43) (v := 0) hx hb hr rfl (fun t ht hW => ⟨⟨_, (z_wH X d (z_hS h 6 ((h.1 6) + 1))), rfl, ⟨congrArg Prod.fst (Option.some.inj hf), congrArg (fun z => (z_wH X d z.2)) (Option.some.inj hf)⟩, by rw [ht]; exact hP, hD⟩, hS.F ht⟩) hS.2.2 dX0_pullBell_43
def f_X0_isMultiple (v0 : Int32) (v1 : Int32) : Option Int32 := (if v1 ≤ 0 then some 0 else (z_rm v0 v1).bind (fun x6 => (if x6 = 0 then some 1 else some 0)))
set_option maxHeartbeats 4000000 in
set_option maxRecDepth 100000 in
theorem m_X0_isMultiple (l : Launch) (X : z_X) (v0 : Int32) (v1 : Int32) {RR : Int32} (hf : f_X0_isMultiple v0 v1 = some RR) : z_pI l yX0_isMultiple wsX0_isMultiple 0 0 X [.int v0, .int v1] ([] : va_W) RR := by
  refine Met.ofW (cc := cX0_isMultiple) (maxL := 2) (ret := (some .boolean)) (by decide) rfl ?_
  intro p e s m args below meth c s₁ B hml hv
  obtain ⟨rfl, hP, hK, hN⟩ := hv
  have hx := B.exec
  have hb := B.bytes
  have hr := B.returns
  have hts := atoms_spec (ws := wsX0_isMultiple) B.pre
  have hown : s.vm.findClass RX0 = some m.cls := findClass_of_methodNamed B.named
  have hlocks := B.notSynchronized
  have S : CallFix p m c cX0_isMultiple 2 s _ wsX0_isMultiple RX0 := ⟨hx, hb, hml, hown, hts⟩
  have hl := lv_entry ([.int v0, .int v1]) (n := 2) (Nat.le_of_ble_eq_true rfl)
  rw [lg_entry_eq]
  generalize (lg_sl ([.int v0, .int v1]) ++ List.replicate (2 - (lg_sl ([.int v0, .int v1])).length) Slot.unset).toArray = ls at hl ⊢
  have hl : lv_has ls 2 [(0, .int v0), (1, .int v1)] := hl
  unfold f_X0_isMultiple at hf
  refine lv_iload_n (pc := 0) hx hb dX0_isMultiple_0 rfl (lv_at hl 1 rfl) ?_
  refine lv_if_le (pc := 1) (tgt := 14) hx hb dX0_isMultiple_1 (by decide) (fun c_1 => ?_) (fun c_1 => ?_)
  · replace hf := z_ip c_1 hf
    refine lv_iconst (v := 0) (pc := 14) hx hb dX0_isMultiple_14 (by decide) ?_
    exact W.zret (pc := 15) (v := 0) hx hb hr rfl (fun t ht hW => ⟨_, rfl, (Option.some.inj hf), ht⟩) (fun _ h => nomatch h) dX0_isMultiple_15
  · replace hf := z_in c_1 hf
    refine lv_iload_n (pc := 4) hx hb dX0_isMultiple_4 rfl (lv_at hl 0 rfl) ?_
    refine lv_iload_n (pc := 5) hx hb dX0_isMultiple_5 rfl (lv_at hl 1 rfl) ?_
    obtain ⟨x6, e6, hf⟩ := z_bd hf
    refine z_irem (pc := 6) hx hb e6 dX0_isMultiple_6 ?_
    refine lv_if_ne (pc := 7) (tgt := 14) hx hb dX0_isMultiple_7 (by decide) (fun c_7 => ?_) (fun c_7 => ?_)
    · replace hf := z_in c_7 hf
      refine lv_iconst (v := 0) (pc := 14) hx hb dX0_isMultiple_14 (by decide) ?_
      exact W.zret (pc := 15) (v := 0) hx hb hr rfl (fun t ht hW => ⟨_, rfl, (Option.some.inj hf), ht⟩) (fun _ h => nomatch h) dX0_isMultiple_15
    · replace hf := z_ip c_7 hf
      refine lv_iconst (v := 1) (pc := 10) hx hb dX0_isMultiple_10 (by decide) ?_
      refine lv_goto (pc := 11) (tgt := 15) hx hb dX0_isMultiple_11 (by decide) ?_
      exact W.zret (pc := 15) (v := 1) hx hb hr rfl (fun t ht hW => ⟨_, rfl, (Option.some.inj hf), ht⟩) (fun _ h => nomatch h) dX0_isMultiple_15
def f_X0_letRoomsWait_L2  : Nat → Int32 → z_H → Option z_H
  | 0, _, _ => none
  | n + 1, u1, h => (if (h.1 1) ≤ u1 then some h else (if (z_rg (h.2.1 5) u1) = (-1) then f_X0_letRoomsWait_L2 n (u1 + 1) h else (if ((z_rg (h.2.1 5) u1) + 1) < 30 then (f_X0_isMultiple ((z_rg (h.2.1 5) u1) + 1) (z_rg (h.2.1 1) u1)).bind (fun x82 => (if x82 = 0 then f_X0_letRoomsWait_L2 n (u1 + 1) (z_hR h 5 (z_rs (h.2.1 5) u1 ((z_rg (h.2.1 5) u1) + 1))) else (f_X0_pullBell (z_hR h 5 (z_rs (h.2.1 5) u1 ((z_rg (h.2.1 5) u1) + 1))) u1).bind (fun x90 => f_X0_letRoomsWait_L2 n (u1 + 1) x90.2))) else f_X0_letRoomsWait_L2 n (u1 + 1) (z_hR (z_hS h 5 ((h.1 5) + 1)) 5 (z_rs (h.2.1 5) u1 (-1))))))
def f_X0_letRoomsWait (h : z_H) : Option z_H := (f_X0_letRoomsWait_L2 z_FU 0 h).bind (fun x2 => some x2)
set_option maxHeartbeats 4000000 in
set_option maxRecDepth 100000 in
theorem m_X0_letRoomsWait (l : Launch) (X : z_X) (d : Nat → Nat) (h : z_H) {RR : z_H} (hf : f_X0_letRoomsWait h = some RR) : z_mV l yX0_letRoomsWait wsX0_letRoomsWait 2 45 X [.ref (d 0)] (z_wH X d h) (z_wH X d RR) := by
  intro sz
  refine Met.ofW (cc := cX0_letRoomsWait) (maxL := 3) (ret := none) (by decide) rfl ?_
  intro p e s m args below meth c s₁ B hml hv
  obtain ⟨rfl, hsz, hP, hK, hN, hD0⟩ := hv
  have hx := B.exec
  have hb := B.bytes
  have hr := B.returns
  have hts := atoms_spec (ws := wsX0_letRoomsWait) B.pre
  have hown : s.vm.findClass RX0 = some m.cls := findClass_of_methodNamed B.named
  have hlocks := B.notSynchronized
  have S : CallFix p m c cX0_letRoomsWait 3 s _ wsX0_letRoomsWait RX0 := ⟨hx, hb, hml, hown, hts⟩
  have lk_fi54 := hts (.fieldLink RX0 54 "HouseBells$House" "roomCount" "I") (List.mem_of_getElem? (i := 1) rfl)
  have lk_fi34 := hts (.fieldLink RX0 34 "HouseBells$House" "waited" "LHouseBells$Row;") (List.mem_of_getElem? (i := 2) rfl)
  have lk_fi22 := hts (.fieldLink RX0 22 "HouseBells$House" "patience" "LHouseBells$Row;") (List.mem_of_getElem? (i := 4) rfl)
  have lk_fi63 := hts (.fieldLink RX0 63 "HouseBells$House" "gaveUp" "I") (List.mem_of_getElem? (i := 3) rfl)
  have in_X0 : ∀ w ∈ wsX00, w ∈ wsX0_letRoomsWait := fun _ h => (List.mem_cons_of_mem _ (List.mem_append_left _ (List.mem_append_left _ (List.mem_append_right _ h))))
  subst hsz
  have hD := hD0.self (sz := s.heap.size)
  generalize hAe : va_A (z_wH X d h) s.heap.size = A at hD ⊢
  have hA : ∀ q : Nat, s.heap.size ≤ q → A q := fun q h => by rw [← hAe]; exact Or.inr h
  have hS : va_S A s.heap s.heap [] := va_S.rf
  have hl := lv_entry ([.ref (d 0)]) (n := 3) (Nat.le_of_ble_eq_true rfl)
  rw [lg_entry_eq]
  generalize (lg_sl ([.ref (d 0)]) ++ List.replicate (3 - (lg_sl ([.ref (d 0)])).length) Slot.unset).toArray = ls at hl ⊢
  have hl : lv_has ls 3 [(0, .ref (d 0))] := hl
  have lp_2 : ∀ (n : Nat) (u1 : Int32) (h : z_H) (T : z_H) (H : Heap) (locs : List Loc), va_P X.1 vwCl (z_wH X d h) H → va_D A (z_wH X d h) → va_S A s.heap H locs → ∀ (ls : Array Slot), lv_has ls 3 [(0, .ref (d 0)), (1, .int u1)] → f_X0_letRoomsWait_L2 n u1 h = some T → (∀ (H : Heap) (locs : List Loc), va_P X.1 vwCl (z_wH X d T) H → va_D A (z_wH X d T) → va_S A s.heap H locs → ∀ (ls : Array Slot), lv_has ls 3 [] → W p l e (headSpec wsX0_letRoomsWait (z_R 2 45)).room s m ([.ref (d 0)] : List Value).toArray below meth c H locs 0 0 (MQ below (va_Qv (fun u : va_W => u = (z_wH X d RR)) (z_Bm X A) A) ([.ref (d 0)] : List Value).toArray s 0 0 A) (F0 m 100 ls [])) → W p l e (headSpec wsX0_letRoomsWait (z_R 2 45)).room s m ([.ref (d 0)] : List Value).toArray below meth c H locs 0 0 (MQ below (va_Qv (fun u : va_W => u = (z_wH X d RR)) (z_Bm X A) A) ([.ref (d 0)] : List Value).toArray s 0 0 A) (F0 m 2 ls []) := by
    intro n
    induction n with
    | zero =>
      intro u1 h T H locs hP hD hS ls hl hf kk
      cases hf
    | succ n ih =>
      intro u1 h T H locs hP hD hS ls hl hf kk
      rw [f_X0_letRoomsWait_L2] at hf
      refine lv_iload_n (pc := 2) hx hb dX0_letRoomsWait_2 rfl (lv_at hl 1 rfl) ?_
      refine lv_aload_n (pc := 3) hx hb dX0_letRoomsWait_3 rfl (lv_at hl 0 rfl) ?_
      refine va_get (pc := 4) (ci := 0) (C := RX0) (T := TX0) (N := 15) hx hb hts in_X0 hown hK hP 0 rfl rfl 1 (by decide) lk_fi54 (fun _ h9 => h9) rfl dX0_letRoomsWait_4 ?_
      refine lv_icmp_ge (pc := 7) (tgt := 100) hx hb dX0_letRoomsWait_7 (by decide) (fun c_7 => ?_) (fun c_7 => ?_)
      · replace hf := z_ip c_7 hf
        obtain rfl := Option.some.inj hf
        exact kk H locs hP hD hS ls (lv_sub hl [] rfl)
      · replace hf := z_in c_7 hf
        refine lv_aload_n (pc := 10) hx hb dX0_letRoomsWait_10 rfl (lv_at hl 0 rfl) ?_
        refine va_get (pc := 11) (ci := 0) (C := RX0) (T := TX0) (N := 15) hx hb hts in_X0 hown hK hP 0 rfl rfl 12 (by decide) lk_fi34 (fun _ h9 => h9) rfl dX0_letRoomsWait_11 ?_
        refine lv_iload_n (pc := 14) hx hb dX0_letRoomsWait_14 rfl (lv_at hl 1 rfl) ?_
        refine z_cpI (pc := 15) S (m_X2_get l X (d 11) (d 12) (h.2.1 5) u1) (cwV 1 hts gX0_letRoomsWait_X2_get rfl rfl rfl hdX2_get ⟨Nat.le_of_ble_eq_true rfl, Nat.le_of_ble_eq_true rfl⟩) hP hK hN (s_H_R11 X d h) (ci := 2) rfl rfl rfl ⟨Nat.le_of_ble_eq_true rfl, Nat.le_of_ble_eq_true rfl⟩ rfl hl.1 rfl (Nat.le_of_ble_eq_true rfl) dX0_letRoomsWait_15 ?_
        refine lv_iconst (v := (-1)) (pc := 18) hx hb dX0_letRoomsWait_18 (by decide) ?_
        refine lv_icmp_ne (pc := 19) (tgt := 25) hx hb dX0_letRoomsWait_19 (by decide) (fun c_19 => ?_) (fun c_19 => ?_)
        · replace hf := z_in c_19 hf
          refine lv_aload_n (pc := 25) hx hb dX0_letRoomsWait_25 rfl (lv_at hl 0 rfl) ?_
          refine va_get (pc := 26) (ci := 0) (C := RX0) (T := TX0) (N := 15) hx hb hts in_X0 hown hK hP 0 rfl rfl 12 (by decide) lk_fi34 (fun _ h9 => h9) rfl dX0_letRoomsWait_26 ?_
          refine lv_iload_n (pc := 29) hx hb dX0_letRoomsWait_29 rfl (lv_at hl 1 rfl) ?_
          refine z_cpI (pc := 30) S (m_X2_get l X (d 11) (d 12) (h.2.1 5) u1) (cwV 1 hts gX0_letRoomsWait_X2_get rfl rfl rfl hdX2_get ⟨Nat.le_of_ble_eq_true rfl, Nat.le_of_ble_eq_true rfl⟩) hP hK hN (s_H_R11 X d h) (ci := 2) rfl rfl rfl ⟨Nat.le_of_ble_eq_true rfl, Nat.le_of_ble_eq_true rfl⟩ rfl hl.1 rfl (Nat.le_of_ble_eq_true rfl) dX0_letRoomsWait_30 ?_
          refine lv_iconst (v := 1) (pc := 33) hx hb dX0_letRoomsWait_33 (by decide) ?_
          refine lv_iadd (pc := 34) hx hb dX0_letRoomsWait_34 ?_
          refine lv_istore_n (pc := 35) (lv' := [(2, .int ((z_rg (h.2.1 5) u1) + 1)), (0, .ref (d 0)), (1, .int u1)]) hx hb dX0_letRoomsWait_35 rfl hl (by decide) rfl (fun ls hl => ?_)
          refine lv_iload_n (pc := 36) hx hb dX0_letRoomsWait_36 rfl (lv_at hl 0 rfl) ?_
          refine lv_bipush (v := 30) (pc := 37) hx hb dX0_letRoomsWait_37 (by decide) ?_
          refine lv_icmp_lt (pc := 39) (tgt := 64) hx hb dX0_letRoomsWait_39 (by decide) (fun c_39 => ?_) (fun c_39 => ?_)
          · replace hf := z_ip c_39 hf
            refine lv_aload_n (pc := 64) hx hb dX0_letRoomsWait_64 rfl (lv_at hl 1 rfl) ?_
            refine va_get (pc := 65) (ci := 0) (C := RX0) (T := TX0) (N := 15) hx hb hts in_X0 hown hK hP 0 rfl rfl 12 (by decide) lk_fi34 (fun _ h9 => h9) rfl dX0_letRoomsWait_65 ?_
            refine lv_iload_n (pc := 68) hx hb dX0_letRoomsWait_68 rfl (lv_at hl 2 rfl) ?_
            refine lv_iload_n (pc := 69) hx hb dX0_letRoomsWait_69 rfl (lv_at hl 0 rfl) ?_
            refine z_cmV (pc := 70) (W1 := (z_wH X d (z_hR h 5 (z_rs (h.2.1 5) u1 ((z_rg (h.2.1 5) u1) + 1))))) S (m_X2_set l X (d 11) (d 12) (h.2.1 5) u1 ((z_rg (h.2.1 5) u1) + 1)) (cwV 2 hts gX0_letRoomsWait_X2_set rfl rfl rfl hdX2_set ⟨Nat.le_of_ble_eq_true rfl, Nat.le_of_ble_eq_true rfl⟩) hP hK hN hD hS hA (s_H_R11 X d h) (f_H_R11 X d h (z_rs (h.2.1 5) u1 ((z_rg (h.2.1 5) u1) + 1))) (ci := 2) rfl rfl rfl ⟨Nat.le_of_ble_eq_true rfl, Nat.le_of_ble_eq_true rfl⟩ rfl hl.1 rfl (Nat.le_of_ble_eq_true rfl) dX0_letRoomsWait_70 (fun H locs hP hD hS => ?_)
            refine lv_iload_n (pc := 73) hx hb dX0_letRoomsWait_73 rfl (lv_at hl 0 rfl) ?_
            refine lv_aload_n (pc := 74) hx hb dX0_letRoomsWait_74 rfl (lv_at hl 1 rfl) ?_
            refine va_get (pc := 75) (ci := 0) (C := RX0) (T := TX0) (N := 15) hx hb hts in_X0 hown hK hP 0 rfl rfl 8 (by decide) lk_fi22 (fun _ h9 => h9) rfl dX0_letRoomsWait_75 ?_
            refine lv_iload_n (pc := 78) hx hb dX0_letRoomsWait_78 rfl (lv_at hl 2 rfl) ?_
            refine z_cpI (pc := 79) S (m_X2_get l X (d 3) (d 4) (h.2.1 1) u1) (cwV 1 hts gX0_letRoomsWait_X2_get rfl rfl rfl hdX2_get ⟨Nat.le_of_ble_eq_true rfl, Nat.le_of_ble_eq_true rfl⟩) hP hK hN (s_H_R3 X d (z_hR h 5 (z_rs (h.2.1 5) u1 ((z_rg (h.2.1 5) u1) + 1)))) (ci := 2) rfl rfl rfl ⟨Nat.le_of_ble_eq_true rfl, Nat.le_of_ble_eq_true rfl⟩ rfl hl.1 rfl (Nat.le_of_ble_eq_true rfl) dX0_letRoomsWait_79 ?_
            obtain ⟨x82, e82, hf⟩ := z_bd hf
            refine z_csI (pc := 82) S (m_X0_isMultiple l X ((z_rg (h.2.1 5) u1) + 1) (z_rg (h.2.1 1) u1) e82) (va_cwS 2 hts gX0_letRoomsWait_X0_isMultiple rfl rfl rfl hdX0_isMultiple ⟨Nat.le_of_ble_eq_true rfl, Nat.le_of_ble_eq_true rfl⟩) hP hK hN (s_nil _) ⟨Nat.le_of_ble_eq_true rfl, Nat.le_of_ble_eq_true rfl⟩ rfl hl.1 rfl (Nat.le_of_ble_eq_true rfl) dX0_letRoomsWait_82 ?_
            refine lv_if_eq (pc := 85) (tgt := 94) hx hb dX0_letRoomsWait_85 (by decide) (fun c_85 => ?_) (fun c_85 => ?_)
            · replace hf := z_ip c_85 hf
              refine lv_iinc (pc := 94) (v := (u1 + 1)) (lv' := [(1, .int (u1 + 1)), (2, .int ((z_rg (h.2.1 5) u1) + 1)), (0, .ref (d 0))]) hx hb dX0_letRoomsWait_94 hl (k := 2) rfl rfl (by decide) rfl (fun ls hl => ?_)
              refine lv_goto (pc := 97) (tgt := 2) hx hb dX0_letRoomsWait_97 (by decide) ?_
              exact ih (u1 + 1) (z_hR h 5 (z_rs (h.2.1 5) u1 ((z_rg (h.2.1 5) u1) + 1))) T H locs hP hD hS ls (lv_sub hl [2, 0] rfl) hf kk
            · replace hf := z_in c_85 hf
              refine lv_aload_n (pc := 88) hx hb dX0_letRoomsWait_88 rfl (lv_at hl 1 rfl) ?_
              refine lv_iload_n (pc := 89) hx hb dX0_letRoomsWait_89 rfl (lv_at hl 2 rfl) ?_
              obtain ⟨x90, e90, hf⟩ := z_bd hf
              refine z_cmI (pc := 90) (W1 := (z_wH X d x90.2)) S (m_X0_pullBell l X d (z_hR h 5 (z_rs (h.2.1 5) u1 ((z_rg (h.2.1 5) u1) + 1))) u1 e90) (cwV 1 hts gX0_letRoomsWait_X0_pullBell rfl rfl rfl hdX0_pullBell ⟨Nat.le_of_ble_eq_true rfl, Nat.le_of_ble_eq_true rfl⟩) hP hK hN hD hS hA (s_H_H X d (z_hR h 5 (z_rs (h.2.1 5) u1 ((z_rg (h.2.1 5) u1) + 1)))) (f_H_H X d (z_hR h 5 (z_rs (h.2.1 5) u1 ((z_rg (h.2.1 5) u1) + 1))) x90.2) (ci := 0) rfl rfl rfl ⟨Nat.le_of_ble_eq_true rfl, Nat.le_of_ble_eq_true rfl⟩ rfl hl.1 rfl (Nat.le_of_ble_eq_true rfl) dX0_letRoomsWait_90 (fun H locs hP hD hS => ?_)
              refine lv_pop (pc := 93) hx hb dX0_letRoomsWait_93 rfl ?_
              refine lv_iinc (pc := 94) (v := (u1 + 1)) (lv' := [(1, .int (u1 + 1)), (2, .int ((z_rg (h.2.1 5) u1) + 1)), (0, .ref (d 0))]) hx hb dX0_letRoomsWait_94 hl (k := 2) rfl rfl (by decide) rfl (fun ls hl => ?_)
              refine lv_goto (pc := 97) (tgt := 2) hx hb dX0_letRoomsWait_97 (by decide) ?_
              exact ih (u1 + 1) x90.2 T H locs hP hD hS ls (lv_sub hl [2, 0] rfl) hf kk
          · replace hf := z_in c_39 hf
            refine lv_aload_n (pc := 42) hx hb dX0_letRoomsWait_42 rfl (lv_at hl 1 rfl) ?_
            refine va_get (pc := 43) (ci := 0) (C := RX0) (T := TX0) (N := 15) hx hb hts in_X0 hown hK hP 0 rfl rfl 12 (by decide) lk_fi34 (fun _ h9 => h9) rfl dX0_letRoomsWait_43 ?_
            refine lv_iload_n (pc := 46) hx hb dX0_letRoomsWait_46 rfl (lv_at hl 2 rfl) ?_
            refine lv_iconst (v := (-1)) (pc := 47) hx hb dX0_letRoomsWait_47 (by decide) ?_
            refine z_cmV (pc := 48) (W1 := (z_wH X d (z_hR h 5 (z_rs (h.2.1 5) u1 (-1))))) S (m_X2_set l X (d 11) (d 12) (h.2.1 5) u1 (-1)) (cwV 2 hts gX0_letRoomsWait_X2_set rfl rfl rfl hdX2_set ⟨Nat.le_of_ble_eq_true rfl, Nat.le_of_ble_eq_true rfl⟩) hP hK hN hD hS hA (s_H_R11 X d h) (f_H_R11 X d h (z_rs (h.2.1 5) u1 (-1))) (ci := 2) rfl rfl rfl ⟨Nat.le_of_ble_eq_true rfl, Nat.le_of_ble_eq_true rfl⟩ rfl hl.1 rfl (Nat.le_of_ble_eq_true rfl) dX0_letRoomsWait_48 (fun H locs hP hD hS => ?_)
            refine lv_aload_n (pc := 51) hx hb dX0_letRoomsWait_51 rfl (lv_at hl 1 rfl) ?_
            refine lv_dup (pc := 52) hx hb dX0_letRoomsWait_52 rfl ?_
            refine va_get (pc := 53) (ci := 0) (C := RX0) (T := TX0) (N := 15) hx hb hts in_X0 hown hK hP 0 rfl rfl 5 (by decide) lk_fi63 (fun _ h9 => h9) rfl dX0_letRoomsWait_53 ?_
            refine lv_iconst (v := 1) (pc := 56) hx hb dX0_letRoomsWait_56 (by decide) ?_
            refine lv_iadd (pc := 57) hx hb dX0_letRoomsWait_57 ?_
            refine z_put (pc := 58) (ci := 0) (C := RX0) (T := TX0) (N := 15) (W1 := (z_wH X d (z_hR (z_hS h 5 ((h.1 5) + 1)) 5 (z_rs (h.2.1 5) u1 (-1))))) hx hb hts in_X0 tyX0 tyX0_ok nmX0 hown hK hP hD hS 0 rfl rfl 5 (by decide) lk_fi63 (fun _ h9 => h9) rfl (by decide +kernel) (Nat.le_of_ble_eq_true rfl) dX0_letRoomsWait_58 rfl (fun H locs hP hD hS => ?_)
            refine lv_goto (pc := 61) (tgt := 94) hx hb dX0_letRoomsWait_61 (by decide) ?_
            refine lv_iinc (pc := 94) (v := (u1 + 1)) (lv' := [(1, .int (u1 + 1)), (2, .int ((z_rg (h.2.1 5) u1) + 1)), (0, .ref (d 0))]) hx hb dX0_letRoomsWait_94 hl (k := 2) rfl rfl (by decide) rfl (fun ls hl => ?_)
            refine lv_goto (pc := 97) (tgt := 2) hx hb dX0_letRoomsWait_97 (by decide) ?_
            exact ih (u1 + 1) (z_hR (z_hS h 5 ((h.1 5) + 1)) 5 (z_rs (h.2.1 5) u1 (-1))) T H locs hP hD hS ls (lv_sub hl [2, 0] rfl) hf kk
        · replace hf := z_ip c_19 hf
          refine lv_goto (pc := 22) (tgt := 94) hx hb dX0_letRoomsWait_22 (by decide) ?_
          refine lv_iinc (pc := 94) (v := (u1 + 1)) (lv' := [(1, .int (u1 + 1)), (0, .ref (d 0))]) hx hb dX0_letRoomsWait_94 hl (k := 1) rfl rfl (by decide) rfl (fun ls hl => ?_)
          refine lv_goto (pc := 97) (tgt := 2) hx hb dX0_letRoomsWait_97 (by decide) ?_
          exact ih (u1 + 1) h T H locs hP hD hS ls (lv_sub hl [1, 0] rfl) hf kk
  suffices hgo : ∀ (H : Heap) (locs : List Loc), va_P X.1 vwCl (z_wH X d h) H → va_D A (z_wH X d h) → va_S A s.heap H locs → W p l e (headSpec wsX0_letRoomsWait (z_R 2 45)).room s m ([.ref (d 0)] : List Value).toArray below meth c H locs 0 0 (MQ below (va_Qv (fun u : va_W => u = (z_wH X d RR)) (z_Bm X A) A) ([.ref (d 0)] : List Value).toArray s 0 0 A) (F0 m 0 ls []) from hgo _ _ hP hD hS
  clear hP hD hS
  intro H locs hP hD hS
  unfold f_X0_letRoomsWait at hf
  refine lv_iconst (v := 0) (pc := 0) hx hb dX0_letRoomsWait_0 (by decide) ?_
  refine lv_istore_n (pc := 1) (lv' := [(1, .int 0), (0, .ref (d 0))]) hx hb dX0_letRoomsWait_1 rfl hl (by decide) rfl (fun ls hl => ?_)
  obtain ⟨x2, e2, hf⟩ := z_bd hf
  refine lp_2 z_FU 0 h x2 H locs hP hD hS ls (lv_sub hl [1, 0] rfl) e2 (fun H locs hP hD hS ls hl => ?_)
  exact W.vret (pc := 100) hx hb hr (fun t ht hW => ⟨⟨(z_wH X d x2), rfl, congrArg (fun z => (z_wH X d z)) (Option.some.inj hf), by rw [ht]; exact hP, hD⟩, hS.F ht⟩) hS.2.2 dX0_letRoomsWait_100
def f_X0_arrive (h : z_H) (v1 : Int32) (v2 : Int32) : z_H := (if (z_rg (h.2.1 5) v2) = (-1) then (z_hG (z_hS h 4 ((h.1 4) + 1)) (z_gR h.2.2.2 1 (z_rs (h.2.2.2.2 1) v1 (z_rg (h.2.1 0) v2)))) else (z_hG (z_hR (z_hS h 3 ((h.1 3) + 1)) 5 (z_rs (h.2.1 5) v2 (-1))) (z_gR (z_gR (z_gR h.2.2.2 1 (z_rs (h.2.2.2.2 1) v1 (z_rg (h.2.1 0) v2))) 3 (z_rs (h.2.2.2.2 3) v1 v2)) 4 (z_rs (h.2.2.2.2 4) v1 (z_rg (h.2.1 2) v2)))))
set_option maxHeartbeats 4000000 in
set_option maxRecDepth 100000 in
theorem m_X0_arrive (l : Launch) (X : z_X) (d : Nat → Nat) (h : z_H) (v1 : Int32) (v2 : Int32) {RR : z_H} (hf : f_X0_arrive h v1 v2 = RR) : z_mV l yX0_arrive wsX0_arrive 1 22 X [.ref (d 0), .int v1, .int v2] (z_wH X d h) (z_wH X d RR) := by
  intro sz
  refine Met.ofW (cc := cX0_arrive) (maxL := 3) (ret := none) (by decide) rfl ?_
  intro p e s m args below meth c s₁ B hml hv
  obtain ⟨rfl, hsz, hP, hK, hN, hD0⟩ := hv
  have hx := B.exec
  have hb := B.bytes
  have hr := B.returns
  have hts := atoms_spec (ws := wsX0_arrive) B.pre
  have hown : s.vm.findClass RX0 = some m.cls := findClass_of_methodNamed B.named
  have hlocks := B.notSynchronized
  have S : CallFix p m c cX0_arrive 3 s _ wsX0_arrive RX0 := ⟨hx, hb, hml, hown, hts⟩
  have lk_fi47 := hts (.fieldLink RX0 47 "HouseBells$House" "staff" "LHouseBells$Staff;") (List.mem_of_getElem? (i := 1) rfl)
  have lk_fi18 := hts (.fieldLink RX0 18 "HouseBells$House" "floor" "LHouseBells$Row;") (List.mem_of_getElem? (i := 2) rfl)
  have lk_fi34 := hts (.fieldLink RX0 34 "HouseBells$House" "waited" "LHouseBells$Row;") (List.mem_of_getElem? (i := 3) rfl)
  have lk_fi57 := hts (.fieldLink RX0 57 "HouseBells$House" "served" "I") (List.mem_of_getElem? (i := 5) rfl)
  have lk_fi25 := hts (.fieldLink RX0 25 "HouseBells$House" "need" "LHouseBells$Row;") (List.mem_of_getElem? (i := 6) rfl)
  have lk_fi60 := hts (.fieldLink RX0 60 "HouseBells$House" "inVain" "I") (List.mem_of_getElem? (i := 4) rfl)
  have in_X0 : ∀ w ∈ wsX00, w ∈ wsX0_arrive := fun _ h => (List.mem_cons_of_mem _ (List.mem_append_left _ (List.mem_append_left _ (List.mem_append_right _ h))))
  have in_X3 : ∀ w ∈ wsX30, w ∈ wsX0_arrive := fun _ h => (List.mem_cons_of_mem _ (List.mem_append_left _ (List.mem_append_right _ h)))
  subst hsz
  have hD := hD0.self (sz := s.heap.size)
  generalize hAe : va_A (z_wH X d h) s.heap.size = A at hD ⊢
  have hA : ∀ q : Nat, s.heap.size ≤ q → A q := fun q h => by rw [← hAe]; exact Or.inr h
  have hS : va_S A s.heap s.heap [] := va_S.rf
  have hl := lv_entry ([.ref (d 0), .int v1, .int v2]) (n := 3) (Nat.le_of_ble_eq_true rfl)
  rw [lg_entry_eq]
  generalize (lg_sl ([.ref (d 0), .int v1, .int v2]) ++ List.replicate (3 - (lg_sl ([.ref (d 0), .int v1, .int v2])).length) Slot.unset).toArray = ls at hl ⊢
  have hl : lv_has ls 3 [(0, .ref (d 0)), (1, .int v1), (2, .int v2)] := hl
  suffices hgo : ∀ (H : Heap) (locs : List Loc), va_P X.1 vwCl (z_wH X d h) H → va_D A (z_wH X d h) → va_S A s.heap H locs → W p l e (headSpec wsX0_arrive (z_R 1 22)).room s m ([.ref (d 0), .int v1, .int v2] : List Value).toArray below meth c H locs 0 0 (MQ below (va_Qv (fun u : va_W => u = (z_wH X d RR)) (z_Bm X A) A) ([.ref (d 0), .int v1, .int v2] : List Value).toArray s 0 0 A) (F0 m 0 ls []) from hgo _ _ hP hD hS
  clear hP hD hS
  intro H locs hP hD hS
  unfold f_X0_arrive at hf
  refine lv_aload_n (pc := 0) hx hb dX0_arrive_0 rfl (lv_at hl 0 rfl) ?_
  refine va_get (pc := 1) (ci := 0) (C := RX0) (T := TX0) (N := 15) hx hb hts in_X0 hown hK hP 0 rfl rfl 14 (by decide) lk_fi47 (fun _ h9 => h9) rfl dX0_arrive_1 ?_
  refine va_getN (pc := 4) (ci := 3) (C := RX3) (T := TX3) (N := 6) hx hb hts in_X3 hown hK hP 15 rfl rfl 2 (by decide) (z_n4 hN) (fun _ h9 => h9) rfl dX0_arrive_4 ?_
  refine lv_iload_n (pc := 7) hx hb dX0_arrive_7 rfl (lv_at hl 1 rfl) ?_
  refine lv_aload_n (pc := 8) hx hb dX0_arrive_8 rfl (lv_at hl 0 rfl) ?_
  refine va_get (pc := 9) (ci := 0) (C := RX0) (T := TX0) (N := 15) hx hb hts in_X0 hown hK hP 0 rfl rfl 7 (by decide) lk_fi18 (fun _ h9 => h9) rfl dX0_arrive_9 ?_
  refine lv_iload_n (pc := 12) hx hb dX0_arrive_12 rfl (lv_at hl 2 rfl) ?_
  refine z_cpI (pc := 13) S (m_X2_get l X (d 1) (d 2) (h.2.1 0) v2) (cwV 1 hts gX0_arrive_X2_get rfl rfl rfl hdX2_get ⟨Nat.le_of_ble_eq_true rfl, Nat.le_of_ble_eq_true rfl⟩) hP hK hN (s_H_R1 X d h) (ci := 2) rfl rfl rfl ⟨Nat.le_of_ble_eq_true rfl, Nat.le_of_ble_eq_true rfl⟩ rfl hl.1 rfl (Nat.le_of_ble_eq_true rfl) dX0_arrive_13 ?_
  refine z_cmV (pc := 16) (W1 := (z_wH X d (z_hG h (z_gR h.2.2.2 1 (z_rs (h.2.2.2.2 1) v1 (z_rg (h.2.1 0) v2)))))) S (m_X2_set l X (d 18) (d 19) (h.2.2.2.2 1) v1 (z_rg (h.2.1 0) v2)) (cwV 2 hts gX0_arrive_X2_set rfl rfl rfl hdX2_set ⟨Nat.le_of_ble_eq_true rfl, Nat.le_of_ble_eq_true rfl⟩) hP hK hN hD hS hA (s_H_R18 X d h) (f_H_R18 X d h (z_rs (h.2.2.2.2 1) v1 (z_rg (h.2.1 0) v2))) (ci := 2) rfl rfl rfl ⟨Nat.le_of_ble_eq_true rfl, Nat.le_of_ble_eq_true rfl⟩ rfl hl.1 rfl (Nat.le_of_ble_eq_true rfl) dX0_arrive_16 (fun H locs hP hD hS => ?_)
  refine lv_aload_n (pc := 19) hx hb dX0_arrive_19 rfl (lv_at hl 0 rfl) ?_
  refine va_get (pc := 20) (ci := 0) (C := RX0) (T := TX0) (N := 15) hx hb hts in_X0 hown hK hP 0 rfl rfl 12 (by decide) lk_fi34 (fun _ h9 => h9) rfl dX0_arrive_20 ?_
  refine lv_iload_n (pc := 23) hx hb dX0_arrive_23 rfl (lv_at hl 2 rfl) ?_
  refine z_cpI (pc := 24) S (m_X2_get l X (d 11) (d 12) (h.2.1 5) v2) (cwV 1 hts gX0_arrive_X2_get rfl rfl rfl hdX2_get ⟨Nat.le_of_ble_eq_true rfl, Nat.le_of_ble_eq_true rfl⟩) hP hK hN (s_H_R11 X d (z_hG h (z_gR h.2.2.2 1 (z_rs (h.2.2.2.2 1) v1 (z_rg (h.2.1 0) v2))))) (ci := 2) rfl rfl rfl ⟨Nat.le_of_ble_eq_true rfl, Nat.le_of_ble_eq_true rfl⟩ rfl hl.1 rfl (Nat.le_of_ble_eq_true rfl) dX0_arrive_24 ?_
  refine lv_iconst (v := (-1)) (pc := 27) hx hb dX0_arrive_27 (by decide) ?_
  refine lv_icmp_ne (pc := 28) (tgt := 42) hx hb dX0_arrive_28 (by decide) (fun c_28 => ?_) (fun c_28 => ?_)
  · replace hf := z_in c_28 hf
    refine lv_aload_n (pc := 42) hx hb dX0_arrive_42 rfl (lv_at hl 0 rfl) ?_
    refine va_get (pc := 43) (ci := 0) (C := RX0) (T := TX0) (N := 15) hx hb hts in_X0 hown hK hP 0 rfl rfl 12 (by decide) lk_fi34 (fun _ h9 => h9) rfl dX0_arrive_43 ?_
    refine lv_iload_n (pc := 46) hx hb dX0_arrive_46 rfl (lv_at hl 2 rfl) ?_
    refine lv_iconst (v := (-1)) (pc := 47) hx hb dX0_arrive_47 (by decide) ?_
    refine z_cmV (pc := 48) (W1 := (z_wH X d (z_hG (z_hR h 5 (z_rs (h.2.1 5) v2 (-1))) (z_gR h.2.2.2 1 (z_rs (h.2.2.2.2 1) v1 (z_rg (h.2.1 0) v2)))))) S (m_X2_set l X (d 11) (d 12) (h.2.1 5) v2 (-1)) (cwV 2 hts gX0_arrive_X2_set rfl rfl rfl hdX2_set ⟨Nat.le_of_ble_eq_true rfl, Nat.le_of_ble_eq_true rfl⟩) hP hK hN hD hS hA (s_H_R11 X d (z_hG h (z_gR h.2.2.2 1 (z_rs (h.2.2.2.2 1) v1 (z_rg (h.2.1 0) v2))))) (f_H_R11 X d (z_hG h (z_gR h.2.2.2 1 (z_rs (h.2.2.2.2 1) v1 (z_rg (h.2.1 0) v2)))) (z_rs (h.2.1 5) v2 (-1))) (ci := 2) rfl rfl rfl ⟨Nat.le_of_ble_eq_true rfl, Nat.le_of_ble_eq_true rfl⟩ rfl hl.1 rfl (Nat.le_of_ble_eq_true rfl) dX0_arrive_48 (fun H locs hP hD hS => ?_)
    refine lv_aload_n (pc := 51) hx hb dX0_arrive_51 rfl (lv_at hl 0 rfl) ?_
    refine lv_dup (pc := 52) hx hb dX0_arrive_52 rfl ?_
    refine va_get (pc := 53) (ci := 0) (C := RX0) (T := TX0) (N := 15) hx hb hts in_X0 hown hK hP 0 rfl rfl 3 (by decide) lk_fi57 (fun _ h9 => h9) rfl dX0_arrive_53 ?_
    refine lv_iconst (v := 1) (pc := 56) hx hb dX0_arrive_56 (by decide) ?_
    refine lv_iadd (pc := 57) hx hb dX0_arrive_57 ?_
    refine z_put (pc := 58) (ci := 0) (C := RX0) (T := TX0) (N := 15) (W1 := (z_wH X d (z_hG (z_hR (z_hS h 3 ((h.1 3) + 1)) 5 (z_rs (h.2.1 5) v2 (-1))) (z_gR h.2.2.2 1 (z_rs (h.2.2.2.2 1) v1 (z_rg (h.2.1 0) v2)))))) hx hb hts in_X0 tyX0 tyX0_ok nmX0 hown hK hP hD hS 0 rfl rfl 3 (by decide) lk_fi57 (fun _ h9 => h9) rfl (by decide +kernel) (Nat.le_of_ble_eq_true rfl) dX0_arrive_58 rfl (fun H locs hP hD hS => ?_)
    refine lv_aload_n (pc := 61) hx hb dX0_arrive_61 rfl (lv_at hl 0 rfl) ?_
    refine va_get (pc := 62) (ci := 0) (C := RX0) (T := TX0) (N := 15) hx hb hts in_X0 hown hK hP 0 rfl rfl 14 (by decide) lk_fi47 (fun _ h9 => h9) rfl dX0_arrive_62 ?_
    refine va_getN (pc := 65) (ci := 3) (C := RX3) (T := TX3) (N := 6) hx hb hts in_X3 hown hK hP 15 rfl rfl 4 (by decide) (z_n8 hN) (fun _ h9 => h9) rfl dX0_arrive_65 ?_
    refine lv_iload_n (pc := 68) hx hb dX0_arrive_68 rfl (lv_at hl 1 rfl) ?_
    refine lv_iload_n (pc := 69) hx hb dX0_arrive_69 rfl (lv_at hl 2 rfl) ?_
    refine z_cmV (pc := 70) (W1 := (z_wH X d (z_hG (z_hR (z_hS h 3 ((h.1 3) + 1)) 5 (z_rs (h.2.1 5) v2 (-1))) (z_gR (z_gR h.2.2.2 1 (z_rs (h.2.2.2.2 1) v1 (z_rg (h.2.1 0) v2))) 3 (z_rs (h.2.2.2.2 3) v1 v2))))) S (m_X2_set l X (d 22) (d 23) (h.2.2.2.2 3) v1 v2) (cwV 2 hts gX0_arrive_X2_set rfl rfl rfl hdX2_set ⟨Nat.le_of_ble_eq_true rfl, Nat.le_of_ble_eq_true rfl⟩) hP hK hN hD hS hA (s_H_R22 X d (z_hG (z_hR (z_hS h 3 ((h.1 3) + 1)) 5 (z_rs (h.2.1 5) v2 (-1))) (z_gR h.2.2.2 1 (z_rs (h.2.2.2.2 1) v1 (z_rg (h.2.1 0) v2))))) (f_H_R22 X d (z_hG (z_hR (z_hS h 3 ((h.1 3) + 1)) 5 (z_rs (h.2.1 5) v2 (-1))) (z_gR h.2.2.2 1 (z_rs (h.2.2.2.2 1) v1 (z_rg (h.2.1 0) v2)))) (z_rs (h.2.2.2.2 3) v1 v2)) (ci := 2) rfl rfl rfl ⟨Nat.le_of_ble_eq_true rfl, Nat.le_of_ble_eq_true rfl⟩ rfl hl.1 rfl (Nat.le_of_ble_eq_true rfl) dX0_arrive_70 (fun H locs hP hD hS => ?_)
    refine lv_aload_n (pc := 73) hx hb dX0_arrive_73 rfl (lv_at hl 0 rfl) ?_
    refine va_get (pc := 74) (ci := 0) (C := RX0) (T := TX0) (N := 15) hx hb hts in_X0 hown hK hP 0 rfl rfl 14 (by decide) lk_fi47 (fun _ h9 => h9) rfl dX0_arrive_74 ?_
    refine va_getN (pc := 77) (ci := 3) (C := RX3) (T := TX3) (N := 6) hx hb hts in_X3 hown hK hP 15 rfl rfl 5 (by decide) (z_n10 hN) (fun _ h9 => h9) rfl dX0_arrive_77 ?_
    refine lv_iload_n (pc := 80) hx hb dX0_arrive_80 rfl (lv_at hl 1 rfl) ?_
    refine lv_aload_n (pc := 81) hx hb dX0_arrive_81 rfl (lv_at hl 0 rfl) ?_
    refine va_get (pc := 82) (ci := 0) (C := RX0) (T := TX0) (N := 15) hx hb hts in_X0 hown hK hP 0 rfl rfl 9 (by decide) lk_fi25 (fun _ h9 => h9) rfl dX0_arrive_82 ?_
    refine lv_iload_n (pc := 85) hx hb dX0_arrive_85 rfl (lv_at hl 2 rfl) ?_
    refine z_cpI (pc := 86) S (m_X2_get l X (d 5) (d 6) (h.2.1 2) v2) (cwV 1 hts gX0_arrive_X2_get rfl rfl rfl hdX2_get ⟨Nat.le_of_ble_eq_true rfl, Nat.le_of_ble_eq_true rfl⟩) hP hK hN (s_H_R5 X d (z_hG (z_hR (z_hS h 3 ((h.1 3) + 1)) 5 (z_rs (h.2.1 5) v2 (-1))) (z_gR (z_gR h.2.2.2 1 (z_rs (h.2.2.2.2 1) v1 (z_rg (h.2.1 0) v2))) 3 (z_rs (h.2.2.2.2 3) v1 v2)))) (ci := 2) rfl rfl rfl ⟨Nat.le_of_ble_eq_true rfl, Nat.le_of_ble_eq_true rfl⟩ rfl hl.1 rfl (Nat.le_of_ble_eq_true rfl) dX0_arrive_86 ?_
    refine z_cmV (pc := 89) (W1 := (z_wH X d (z_hG (z_hR (z_hS h 3 ((h.1 3) + 1)) 5 (z_rs (h.2.1 5) v2 (-1))) (z_gR (z_gR (z_gR h.2.2.2 1 (z_rs (h.2.2.2.2 1) v1 (z_rg (h.2.1 0) v2))) 3 (z_rs (h.2.2.2.2 3) v1 v2)) 4 (z_rs (h.2.2.2.2 4) v1 (z_rg (h.2.1 2) v2)))))) S (m_X2_set l X (d 24) (d 25) (h.2.2.2.2 4) v1 (z_rg (h.2.1 2) v2)) (cwV 2 hts gX0_arrive_X2_set rfl rfl rfl hdX2_set ⟨Nat.le_of_ble_eq_true rfl, Nat.le_of_ble_eq_true rfl⟩) hP hK hN hD hS hA (s_H_R24 X d (z_hG (z_hR (z_hS h 3 ((h.1 3) + 1)) 5 (z_rs (h.2.1 5) v2 (-1))) (z_gR (z_gR h.2.2.2 1 (z_rs (h.2.2.2.2 1) v1 (z_rg (h.2.1 0) v2))) 3 (z_rs (h.2.2.2.2 3) v1 v2)))) (f_H_R24 X d (z_hG (z_hR (z_hS h 3 ((h.1 3) + 1)) 5 (z_rs (h.2.1 5) v2 (-1))) (z_gR (z_gR h.2.2.2 1 (z_rs (h.2.2.2.2 1) v1 (z_rg (h.2.1 0) v2))) 3 (z_rs (h.2.2.2.2 3) v1 v2))) (z_rs (h.2.2.2.2 4) v1 (z_rg (h.2.1 2) v2))) (ci := 2) rfl rfl rfl ⟨Nat.le_of_ble_eq_true rfl, Nat.le_of_ble_eq_true rfl⟩ rfl hl.1 rfl (Nat.le_of_ble_eq_true rfl) dX0_arrive_89 (fun H locs hP hD hS => ?_)
    exact W.vret (pc := 92) hx hb hr (fun t ht hW => ⟨⟨(z_wH X d (z_hG (z_hR (z_hS h 3 ((h.1 3) + 1)) 5 (z_rs (h.2.1 5) v2 (-1))) (z_gR (z_gR (z_gR h.2.2.2 1 (z_rs (h.2.2.2.2 1) v1 (z_rg (h.2.1 0) v2))) 3 (z_rs (h.2.2.2.2 3) v1 v2)) 4 (z_rs (h.2.2.2.2 4) v1 (z_rg (h.2.1 2) v2))))), rfl, congrArg (fun z => (z_wH X d z)) hf, by rw [ht]; exact hP, hD⟩, hS.F ht⟩) hS.2.2 dX0_arrive_92
  · replace hf := z_ip c_28 hf
    refine lv_aload_n (pc := 31) hx hb dX0_arrive_31 rfl (lv_at hl 0 rfl) ?_
    refine lv_dup (pc := 32) hx hb dX0_arrive_32 rfl ?_
    refine va_get (pc := 33) (ci := 0) (C := RX0) (T := TX0) (N := 15) hx hb hts in_X0 hown hK hP 0 rfl rfl 4 (by decide) lk_fi60 (fun _ h9 => h9) rfl dX0_arrive_33 ?_
    refine lv_iconst (v := 1) (pc := 36) hx hb dX0_arrive_36 (by decide) ?_
    refine lv_iadd (pc := 37) hx hb dX0_arrive_37 ?_
    refine z_put (pc := 38) (ci := 0) (C := RX0) (T := TX0) (N := 15) (W1 := (z_wH X d (z_hG (z_hS h 4 ((h.1 4) + 1)) (z_gR h.2.2.2 1 (z_rs (h.2.2.2.2 1) v1 (z_rg (h.2.1 0) v2)))))) hx hb hts in_X0 tyX0 tyX0_ok nmX0 hown hK hP hD hS 0 rfl rfl 4 (by decide) lk_fi60 (fun _ h9 => h9) rfl (by decide +kernel) (Nat.le_of_ble_eq_true rfl) dX0_arrive_38 rfl (fun H locs hP hD hS => ?_)
    exact W.vret (pc := 41) hx hb hr (fun t ht hW => ⟨⟨(z_wH X d (z_hG (z_hS h 4 ((h.1 4) + 1)) (z_gR h.2.2.2 1 (z_rs (h.2.2.2.2 1) v1 (z_rg (h.2.1 0) v2))))), rfl, congrArg (fun z => (z_wH X d z)) hf, by rw [ht]; exact hP, hD⟩, hS.F ht⟩) hS.2.2 dX0_arrive_41
def f_X0_letServantsMove_L2  : Nat → Int32 → z_H → Option z_H
  | 0, _, _ => none
  | n + 1, u1, h => (if h.2.2.2.1 ≤ u1 then some h else (if (f_X3_isIdle h.2.2.2 u1) = 0 then (if ((z_rg (h.2.2.2.2 4) u1) - 1) ≤ 0 then (if (z_rg (h.2.2.2.2 2) u1) = (-1) then f_X0_letServantsMove_L2 n (u1 + 1) (z_hG h (f_X3_rest (z_gR h.2.2.2 4 (z_rs (h.2.2.2.2 4) u1 ((z_rg (h.2.2.2.2 4) u1) - 1))) u1)) else f_X0_letServantsMove_L2 n (u1 + 1) (f_X0_arrive (z_hG h (f_X3_rest (z_gR h.2.2.2 4 (z_rs (h.2.2.2.2 4) u1 ((z_rg (h.2.2.2.2 4) u1) - 1))) u1)) u1 (z_rg (h.2.2.2.2 2) u1))) else f_X0_letServantsMove_L2 n (u1 + 1) (z_hG h (z_gR h.2.2.2 4 (z_rs (h.2.2.2.2 4) u1 ((z_rg (h.2.2.2.2 4) u1) - 1))))) else f_X0_letServantsMove_L2 n (u1 + 1) h))
def f_X0_letServantsMove (h : z_H) : Option z_H := (f_X0_letServantsMove_L2 z_FU 0 h).bind (fun x2 => some x2)
set_option maxHeartbeats 4000000 in
set_option maxRecDepth 100000 in
theorem m_X0_letServantsMove (l : Launch) (X : z_X) (d : Nat → Nat) (h : z_H) {RR : z_H} (hf : f_X0_letServantsMove h = some RR) : z_mV l yX0_letServantsMove wsX0_letServantsMove 2 44 X [.ref (d 0)] (z_wH X d h) (z_wH X d RR) := by
  intro sz
  refine Met.ofW (cc := cX0_letServantsMove) (maxL := 4) (ret := none) (by decide) rfl ?_
  intro p e s m args below meth c s₁ B hml hv
  obtain ⟨rfl, hsz, hP, hK, hN, hD0⟩ := hv
  have hx := B.exec
  have hb := B.bytes
  have hr := B.returns
  have hts := atoms_spec (ws := wsX0_letServantsMove) B.pre
  have hown : s.vm.findClass RX0 = some m.cls := findClass_of_methodNamed B.named
  have hlocks := B.notSynchronized
  have S : CallFix p m c cX0_letServantsMove 4 s _ wsX0_letServantsMove RX0 := ⟨hx, hb, hml, hown, hts⟩
  have lk_fi47 := hts (.fieldLink RX0 47 "HouseBells$House" "staff" "LHouseBells$Staff;") (List.mem_of_getElem? (i := 1) rfl)
  have in_X0 : ∀ w ∈ wsX00, w ∈ wsX0_letServantsMove := fun _ h => (List.mem_cons_of_mem _ (List.mem_append_left _ (List.mem_append_left _ (List.mem_append_right _ h))))
  have in_X3 : ∀ w ∈ wsX30, w ∈ wsX0_letServantsMove := fun _ h => (List.mem_cons_of_mem _ (List.mem_append_left _ (List.mem_append_right _ h)))
  subst hsz
  have hD := hD0.self (sz := s.heap.size)
  generalize hAe : va_A (z_wH X d h) s.heap.size = A at hD ⊢
  have hA : ∀ q : Nat, s.heap.size ≤ q → A q := fun q h => by rw [← hAe]; exact Or.inr h
  have hS : va_S A s.heap s.heap [] := va_S.rf
  have hl := lv_entry ([.ref (d 0)]) (n := 4) (Nat.le_of_ble_eq_true rfl)
  rw [lg_entry_eq]
  generalize (lg_sl ([.ref (d 0)]) ++ List.replicate (4 - (lg_sl ([.ref (d 0)])).length) Slot.unset).toArray = ls at hl ⊢
  have hl : lv_has ls 4 [(0, .ref (d 0))] := hl
  have lp_2 : ∀ (n : Nat) (u1 : Int32) (h : z_H) (T : z_H) (H : Heap) (locs : List Loc), va_P X.1 vwCl (z_wH X d h) H → va_D A (z_wH X d h) → va_S A s.heap H locs → ∀ (ls : Array Slot), lv_has ls 4 [(0, .ref (d 0)), (1, .int u1)] → f_X0_letServantsMove_L2 n u1 h = some T → (∀ (H : Heap) (locs : List Loc), va_P X.1 vwCl (z_wH X d T) H → va_D A (z_wH X d T) → va_S A s.heap H locs → ∀ (ls : Array Slot), lv_has ls 4 [] → W p l e (headSpec wsX0_letServantsMove (z_R 2 44)).room s m ([.ref (d 0)] : List Value).toArray below meth c H locs 0 0 (MQ below (va_Qv (fun u : va_W => u = (z_wH X d RR)) (z_Bm X A) A) ([.ref (d 0)] : List Value).toArray s 0 0 A) (F0 m 97 ls [])) → W p l e (headSpec wsX0_letServantsMove (z_R 2 44)).room s m ([.ref (d 0)] : List Value).toArray below meth c H locs 0 0 (MQ below (va_Qv (fun u : va_W => u = (z_wH X d RR)) (z_Bm X A) A) ([.ref (d 0)] : List Value).toArray s 0 0 A) (F0 m 2 ls []) := by
    intro n
    induction n with
    | zero =>
      intro u1 h T H locs hP hD hS ls hl hf kk
      cases hf
    | succ n ih =>
      intro u1 h T H locs hP hD hS ls hl hf kk
      rw [f_X0_letServantsMove_L2] at hf
      refine lv_iload_n (pc := 2) hx hb dX0_letServantsMove_2 rfl (lv_at hl 1 rfl) ?_
      refine lv_aload_n (pc := 3) hx hb dX0_letServantsMove_3 rfl (lv_at hl 0 rfl) ?_
      refine va_get (pc := 4) (ci := 0) (C := RX0) (T := TX0) (N := 15) hx hb hts in_X0 hown hK hP 0 rfl rfl 14 (by decide) lk_fi47 (fun _ h9 => h9) rfl dX0_letServantsMove_4 ?_
      refine va_getN (pc := 7) (ci := 3) (C := RX3) (T := TX3) (N := 6) hx hb hts in_X3 hown hK hP 15 rfl rfl 0 (by decide) (z_n3 hN) (fun _ h9 => h9) rfl dX0_letServantsMove_7 ?_
      refine lv_icmp_ge (pc := 10) (tgt := 97) hx hb dX0_letServantsMove_10 (by decide) (fun c_10 => ?_) (fun c_10 => ?_)
      · replace hf := z_ip c_10 hf
        obtain rfl := Option.some.inj hf
        exact kk H locs hP hD hS ls (lv_sub hl [] rfl)
      · replace hf := z_in c_10 hf
        refine lv_aload_n (pc := 13) hx hb dX0_letServantsMove_13 rfl (lv_at hl 0 rfl) ?_
        refine va_get (pc := 14) (ci := 0) (C := RX0) (T := TX0) (N := 15) hx hb hts in_X0 hown hK hP 0 rfl rfl 14 (by decide) lk_fi47 (fun _ h9 => h9) rfl dX0_letServantsMove_14 ?_
        refine lv_iload_n (pc := 17) hx hb dX0_letServantsMove_17 rfl (lv_at hl 1 rfl) ?_
        refine z_cpI (pc := 18) S (m_X3_isIdle l X d h.2.2.2 u1 rfl) (cwV 1 hts gX0_letServantsMove_X3_isIdle rfl rfl rfl hdX3_isIdle ⟨Nat.le_of_ble_eq_true rfl, Nat.le_of_ble_eq_true rfl⟩) hP hK hN (s_H_G15 X d h) (ci := 3) rfl rfl rfl ⟨Nat.le_of_ble_eq_true rfl, Nat.le_of_ble_eq_true rfl⟩ rfl hl.1 rfl (Nat.le_of_ble_eq_true rfl) dX0_letServantsMove_18 ?_
        refine lv_if_eq (pc := 21) (tgt := 27) hx hb dX0_letServantsMove_21 (by decide) (fun c_21 => ?_) (fun c_21 => ?_)
        · replace hf := z_ip c_21 hf
          refine lv_aload_n (pc := 27) hx hb dX0_letServantsMove_27 rfl (lv_at hl 0 rfl) ?_
          refine va_get (pc := 28) (ci := 0) (C := RX0) (T := TX0) (N := 15) hx hb hts in_X0 hown hK hP 0 rfl rfl 14 (by decide) lk_fi47 (fun _ h9 => h9) rfl dX0_letServantsMove_28 ?_
          refine va_getN (pc := 31) (ci := 3) (C := RX3) (T := TX3) (N := 6) hx hb hts in_X3 hown hK hP 15 rfl rfl 5 (by decide) (z_n10 hN) (fun _ h9 => h9) rfl dX0_letServantsMove_31 ?_
          refine lv_iload_n (pc := 34) hx hb dX0_letServantsMove_34 rfl (lv_at hl 1 rfl) ?_
          refine z_cpI (pc := 35) S (m_X2_get l X (d 24) (d 25) (h.2.2.2.2 4) u1) (cwV 1 hts gX0_letServantsMove_X2_get rfl rfl rfl hdX2_get ⟨Nat.le_of_ble_eq_true rfl, Nat.le_of_ble_eq_true rfl⟩) hP hK hN (s_H_R24 X d h) (ci := 2) rfl rfl rfl ⟨Nat.le_of_ble_eq_true rfl, Nat.le_of_ble_eq_true rfl⟩ rfl hl.1 rfl (Nat.le_of_ble_eq_true rfl) dX0_letServantsMove_35 ?_
          refine lv_iconst (v := 1) (pc := 38) hx hb dX0_letServantsMove_38 (by decide) ?_
          refine lv_isub (pc := 39) hx hb dX0_letServantsMove_39 ?_
          refine lv_istore_n (pc := 40) (lv' := [(2, .int ((z_rg (h.2.2.2.2 4) u1) - 1)), (0, .ref (d 0)), (1, .int u1)]) hx hb dX0_letServantsMove_40 rfl hl (by decide) rfl (fun ls hl => ?_)
          refine lv_aload_n (pc := 41) hx hb dX0_letServantsMove_41 rfl (lv_at hl 1 rfl) ?_
          refine va_get (pc := 42) (ci := 0) (C := RX0) (T := TX0) (N := 15) hx hb hts in_X0 hown hK hP 0 rfl rfl 14 (by decide) lk_fi47 (fun _ h9 => h9) rfl dX0_letServantsMove_42 ?_
          refine va_getN (pc := 45) (ci := 3) (C := RX3) (T := TX3) (N := 6) hx hb hts in_X3 hown hK hP 15 rfl rfl 5 (by decide) (z_n10 hN) (fun _ h9 => h9) rfl dX0_letServantsMove_45 ?_
          refine lv_iload_n (pc := 48) hx hb dX0_letServantsMove_48 rfl (lv_at hl 2 rfl) ?_
          refine lv_iload_n (pc := 49) hx hb dX0_letServantsMove_49 rfl (lv_at hl 0 rfl) ?_
          refine z_cmV (pc := 50) (W1 := (z_wH X d (z_hG h (z_gR h.2.2.2 4 (z_rs (h.2.2.2.2 4) u1 ((z_rg (h.2.2.2.2 4) u1) - 1)))))) S (m_X2_set l X (d 24) (d 25) (h.2.2.2.2 4) u1 ((z_rg (h.2.2.2.2 4) u1) - 1)) (cwV 2 hts gX0_letServantsMove_X2_set rfl rfl rfl hdX2_set ⟨Nat.le_of_ble_eq_true rfl, Nat.le_of_ble_eq_true rfl⟩) hP hK hN hD hS hA (s_H_R24 X d h) (f_H_R24 X d h (z_rs (h.2.2.2.2 4) u1 ((z_rg (h.2.2.2.2 4) u1) - 1))) (ci := 2) rfl rfl rfl ⟨Nat.le_of_ble_eq_true rfl, Nat.le_of_ble_eq_true rfl⟩ rfl hl.1 rfl (Nat.le_of_ble_eq_true rfl) dX0_letServantsMove_50 (fun H locs hP hD hS => ?_)
          refine lv_iload_n (pc := 53) hx hb dX0_letServantsMove_53 rfl (lv_at hl 0 rfl) ?_
          refine lv_if_le (pc := 54) (tgt := 60) hx hb dX0_letServantsMove_54 (by decide) (fun c_54 => ?_) (fun c_54 => ?_)
          · replace hf := z_ip c_54 hf
            refine lv_aload_n (pc := 60) hx hb dX0_letServantsMove_60 rfl (lv_at hl 1 rfl) ?_
            refine va_get (pc := 61) (ci := 0) (C := RX0) (T := TX0) (N := 15) hx hb hts in_X0 hown hK hP 0 rfl rfl 14 (by decide) lk_fi47 (fun _ h9 => h9) rfl dX0_letServantsMove_61 ?_
            refine va_getN (pc := 64) (ci := 3) (C := RX3) (T := TX3) (N := 6) hx hb hts in_X3 hown hK hP 15 rfl rfl 3 (by decide) (z_n6 hN) (fun _ h9 => h9) rfl dX0_letServantsMove_64 ?_
            refine lv_iload_n (pc := 67) hx hb dX0_letServantsMove_67 rfl (lv_at hl 2 rfl) ?_
            refine z_cpI (pc := 68) S (m_X2_get l X (d 20) (d 21) (h.2.2.2.2 2) u1) (cwV 1 hts gX0_letServantsMove_X2_get rfl rfl rfl hdX2_get ⟨Nat.le_of_ble_eq_true rfl, Nat.le_of_ble_eq_true rfl⟩) hP hK hN (s_H_R20 X d (z_hG h (z_gR h.2.2.2 4 (z_rs (h.2.2.2.2 4) u1 ((z_rg (h.2.2.2.2 4) u1) - 1))))) (ci := 2) rfl rfl rfl ⟨Nat.le_of_ble_eq_true rfl, Nat.le_of_ble_eq_true rfl⟩ rfl hl.1 rfl (Nat.le_of_ble_eq_true rfl) dX0_letServantsMove_68 ?_
            refine lv_istore_n (pc := 71) (lv' := [(3, .int (z_rg (h.2.2.2.2 2) u1)), (2, .int ((z_rg (h.2.2.2.2 4) u1) - 1)), (0, .ref (d 0)), (1, .int u1)]) hx hb dX0_letServantsMove_71 rfl hl (by decide) rfl (fun ls hl => ?_)
            refine lv_aload_n (pc := 72) hx hb dX0_letServantsMove_72 rfl (lv_at hl 2 rfl) ?_
            refine va_get (pc := 73) (ci := 0) (C := RX0) (T := TX0) (N := 15) hx hb hts in_X0 hown hK hP 0 rfl rfl 14 (by decide) lk_fi47 (fun _ h9 => h9) rfl dX0_letServantsMove_73 ?_
            refine lv_iload_n (pc := 76) hx hb dX0_letServantsMove_76 rfl (lv_at hl 3 rfl) ?_
            refine z_cmV (pc := 77) (W1 := (z_wH X d (z_hG h (f_X3_rest (z_gR h.2.2.2 4 (z_rs (h.2.2.2.2 4) u1 ((z_rg (h.2.2.2.2 4) u1) - 1))) u1)))) S (m_X3_rest l X d (z_gR h.2.2.2 4 (z_rs (h.2.2.2.2 4) u1 ((z_rg (h.2.2.2.2 4) u1) - 1))) u1 rfl) (cwV 1 hts gX0_letServantsMove_X3_rest rfl rfl rfl hdX3_rest ⟨Nat.le_of_ble_eq_true rfl, Nat.le_of_ble_eq_true rfl⟩) hP hK hN hD hS hA (s_H_G15 X d (z_hG h (z_gR h.2.2.2 4 (z_rs (h.2.2.2.2 4) u1 ((z_rg (h.2.2.2.2 4) u1) - 1))))) (f_H_G15 X d (z_hG h (z_gR h.2.2.2 4 (z_rs (h.2.2.2.2 4) u1 ((z_rg (h.2.2.2.2 4) u1) - 1)))) (f_X3_rest (z_gR h.2.2.2 4 (z_rs (h.2.2.2.2 4) u1 ((z_rg (h.2.2.2.2 4) u1) - 1))) u1)) (ci := 3) rfl rfl rfl ⟨Nat.le_of_ble_eq_true rfl, Nat.le_of_ble_eq_true rfl⟩ rfl hl.1 rfl (Nat.le_of_ble_eq_true rfl) dX0_letServantsMove_77 (fun H locs hP hD hS => ?_)
            refine lv_iload_n (pc := 80) hx hb dX0_letServantsMove_80 rfl (lv_at hl 0 rfl) ?_
            refine lv_iconst (v := (-1)) (pc := 81) hx hb dX0_letServantsMove_81 (by decide) ?_
            refine lv_icmp_eq (pc := 82) (tgt := 91) hx hb dX0_letServantsMove_82 (by decide) (fun c_82 => ?_) (fun c_82 => ?_)
            · replace hf := z_ip c_82 hf
              refine lv_iinc (pc := 91) (v := (u1 + 1)) (lv' := [(1, .int (u1 + 1)), (3, .int (z_rg (h.2.2.2.2 2) u1)), (2, .int ((z_rg (h.2.2.2.2 4) u1) - 1)), (0, .ref (d 0))]) hx hb dX0_letServantsMove_91 hl (k := 3) rfl rfl (by decide) rfl (fun ls hl => ?_)
              refine lv_goto (pc := 94) (tgt := 2) hx hb dX0_letServantsMove_94 (by decide) ?_
              exact ih (u1 + 1) (z_hG h (f_X3_rest (z_gR h.2.2.2 4 (z_rs (h.2.2.2.2 4) u1 ((z_rg (h.2.2.2.2 4) u1) - 1))) u1)) T H locs hP hD hS ls (lv_sub hl [3, 0] rfl) hf kk
            · replace hf := z_in c_82 hf
              refine lv_aload_n (pc := 85) hx hb dX0_letServantsMove_85 rfl (lv_at hl 2 rfl) ?_
              refine lv_iload_n (pc := 86) hx hb dX0_letServantsMove_86 rfl (lv_at hl 3 rfl) ?_
              refine lv_iload_n (pc := 87) hx hb dX0_letServantsMove_87 rfl (lv_at hl 0 rfl) ?_
              refine z_cmV (pc := 88) (W1 := (z_wH X d (f_X0_arrive (z_hG h (f_X3_rest (z_gR h.2.2.2 4 (z_rs (h.2.2.2.2 4) u1 ((z_rg (h.2.2.2.2 4) u1) - 1))) u1)) u1 (z_rg (h.2.2.2.2 2) u1)))) S (m_X0_arrive l X d (z_hG h (f_X3_rest (z_gR h.2.2.2 4 (z_rs (h.2.2.2.2 4) u1 ((z_rg (h.2.2.2.2 4) u1) - 1))) u1)) u1 (z_rg (h.2.2.2.2 2) u1) rfl) (cwV 2 hts gX0_letServantsMove_X0_arrive rfl rfl rfl hdX0_arrive ⟨Nat.le_of_ble_eq_true rfl, Nat.le_of_ble_eq_true rfl⟩) hP hK hN hD hS hA (s_H_H X d (z_hG h (f_X3_rest (z_gR h.2.2.2 4 (z_rs (h.2.2.2.2 4) u1 ((z_rg (h.2.2.2.2 4) u1) - 1))) u1))) (f_H_H X d (z_hG h (f_X3_rest (z_gR h.2.2.2 4 (z_rs (h.2.2.2.2 4) u1 ((z_rg (h.2.2.2.2 4) u1) - 1))) u1)) (f_X0_arrive (z_hG h (f_X3_rest (z_gR h.2.2.2 4 (z_rs (h.2.2.2.2 4) u1 ((z_rg (h.2.2.2.2 4) u1) - 1))) u1)) u1 (z_rg (h.2.2.2.2 2) u1))) (ci := 0) rfl rfl rfl ⟨Nat.le_of_ble_eq_true rfl, Nat.le_of_ble_eq_true rfl⟩ rfl hl.1 rfl (Nat.le_of_ble_eq_true rfl) dX0_letServantsMove_88 (fun H locs hP hD hS => ?_)
              refine lv_iinc (pc := 91) (v := (u1 + 1)) (lv' := [(1, .int (u1 + 1)), (3, .int (z_rg (h.2.2.2.2 2) u1)), (2, .int ((z_rg (h.2.2.2.2 4) u1) - 1)), (0, .ref (d 0))]) hx hb dX0_letServantsMove_91 hl (k := 3) rfl rfl (by decide) rfl (fun ls hl => ?_)
              refine lv_goto (pc := 94) (tgt := 2) hx hb dX0_letServantsMove_94 (by decide) ?_
              exact ih (u1 + 1) (f_X0_arrive (z_hG h (f_X3_rest (z_gR h.2.2.2 4 (z_rs (h.2.2.2.2 4) u1 ((z_rg (h.2.2.2.2 4) u1) - 1))) u1)) u1 (z_rg (h.2.2.2.2 2) u1)) T H locs hP hD hS ls (lv_sub hl [3, 0] rfl) hf kk
          · replace hf := z_in c_54 hf
            refine lv_goto (pc := 57) (tgt := 91) hx hb dX0_letServantsMove_57 (by decide) ?_
            refine lv_iinc (pc := 91) (v := (u1 + 1)) (lv' := [(1, .int (u1 + 1)), (2, .int ((z_rg (h.2.2.2.2 4) u1) - 1)), (0, .ref (d 0))]) hx hb dX0_letServantsMove_91 hl (k := 2) rfl rfl (by decide) rfl (fun ls hl => ?_)
            refine lv_goto (pc := 94) (tgt := 2) hx hb dX0_letServantsMove_94 (by decide) ?_
            exact ih (u1 + 1) (z_hG h (z_gR h.2.2.2 4 (z_rs (h.2.2.2.2 4) u1 ((z_rg (h.2.2.2.2 4) u1) - 1)))) T H locs hP hD hS ls (lv_sub hl [2, 0] rfl) hf kk
        · replace hf := z_in c_21 hf
          refine lv_goto (pc := 24) (tgt := 91) hx hb dX0_letServantsMove_24 (by decide) ?_
          refine lv_iinc (pc := 91) (v := (u1 + 1)) (lv' := [(1, .int (u1 + 1)), (0, .ref (d 0))]) hx hb dX0_letServantsMove_91 hl (k := 1) rfl rfl (by decide) rfl (fun ls hl => ?_)
          refine lv_goto (pc := 94) (tgt := 2) hx hb dX0_letServantsMove_94 (by decide) ?_
          exact ih (u1 + 1) h T H locs hP hD hS ls (lv_sub hl [1, 0] rfl) hf kk
  suffices hgo : ∀ (H : Heap) (locs : List Loc), va_P X.1 vwCl (z_wH X d h) H → va_D A (z_wH X d h) → va_S A s.heap H locs → W p l e (headSpec wsX0_letServantsMove (z_R 2 44)).room s m ([.ref (d 0)] : List Value).toArray below meth c H locs 0 0 (MQ below (va_Qv (fun u : va_W => u = (z_wH X d RR)) (z_Bm X A) A) ([.ref (d 0)] : List Value).toArray s 0 0 A) (F0 m 0 ls []) from hgo _ _ hP hD hS
  clear hP hD hS
  intro H locs hP hD hS
  unfold f_X0_letServantsMove at hf
  refine lv_iconst (v := 0) (pc := 0) hx hb dX0_letServantsMove_0 (by decide) ?_
  refine lv_istore_n (pc := 1) (lv' := [(1, .int 0), (0, .ref (d 0))]) hx hb dX0_letServantsMove_1 rfl hl (by decide) rfl (fun ls hl => ?_)
  obtain ⟨x2, e2, hf⟩ := z_bd hf
  refine lp_2 z_FU 0 h x2 H locs hP hD hS ls (lv_sub hl [1, 0] rfl) e2 (fun H locs hP hD hS ls hl => ?_)
  exact W.vret (pc := 97) hx hb hr (fun t ht hW => ⟨⟨(z_wH X d x2), rfl, congrArg (fun z => (z_wH X d z)) (Option.some.inj hf), by rw [ht]; exact hP, hD⟩, hS.F ht⟩) hS.2.2 dX0_letServantsMove_97
def f_X0_sendIdleServants_L2  : Nat → Int32 → z_H → Option z_H
  | 0, _, _ => none
  | n + 1, u1, h => (if h.2.2.2.1 ≤ u1 then some h else (if h.2.2.1.1 ≤ 0 then some h else (f_X1_first h.2.2.1).bind (fun x27 => (f_X3_nearestTo h.2.2.2 (z_rg (h.2.1 0) x27)).bind (fun x43 => (if x43 = (-1) then some h else (f_X1_remove h.2.2.1 x27).bind (fun x58 => (f_X3_wayToFloor h.2.2.2 x43 (z_rg (h.2.1 0) x27)).bind (fun x74 => f_X0_sendIdleServants_L2 n (u1 + 1) (z_hG (z_hL h x58) (z_gR (z_gR h.2.2.2 2 (z_rs (h.2.2.2.2 2) x43 x27)) 4 (z_rs (h.2.2.2.2 4) x43 x74))))))))))
def f_X0_sendIdleServants (h : z_H) : Option z_H := f_X0_sendIdleServants_L2 z_FU 0 h
set_option maxHeartbeats 4000000 in
set_option maxRecDepth 100000 in
theorem m_X0_sendIdleServants (l : Launch) (X : z_X) (d : Nat → Nat) (h : z_H) {RR : z_H} (hf : f_X0_sendIdleServants h = some RR) : z_mV l yX0_sendIdleServants wsX0_sendIdleServants 2 49 X [.ref (d 0)] (z_wH X d h) (z_wH X d RR) := by
  intro sz
  refine Met.ofW (cc := cX0_sendIdleServants) (maxL := 5) (ret := none) (by decide) rfl ?_
  intro p e s m args below meth c s₁ B hml hv
  obtain ⟨rfl, hsz, hP, hK, hN, hD0⟩ := hv
  have hx := B.exec
  have hb := B.bytes
  have hr := B.returns
  have hts := atoms_spec (ws := wsX0_sendIdleServants) B.pre
  have hown : s.vm.findClass RX0 = some m.cls := findClass_of_methodNamed B.named
  have hlocks := B.notSynchronized
  have S : CallFix p m c cX0_sendIdleServants 5 s _ wsX0_sendIdleServants RX0 := ⟨hx, hb, hml, hown, hts⟩
  have lk_fi47 := hts (.fieldLink RX0 47 "HouseBells$House" "staff" "LHouseBells$Staff;") (List.mem_of_getElem? (i := 1) rfl)
  have lk_fi40 := hts (.fieldLink RX0 40 "HouseBells$House" "line" "LHouseBells$Line;") (List.mem_of_getElem? (i := 2) rfl)
  have lk_fi18 := hts (.fieldLink RX0 18 "HouseBells$House" "floor" "LHouseBells$Row;") (List.mem_of_getElem? (i := 3) rfl)
  have in_X0 : ∀ w ∈ wsX00, w ∈ wsX0_sendIdleServants := fun _ h => (List.mem_cons_of_mem _ (List.mem_append_left _ (List.mem_append_left _ (List.mem_append_left _ (List.mem_append_right _ h)))))
  have in_X1 : ∀ w ∈ wsX10, w ∈ wsX0_sendIdleServants := fun _ h => (List.mem_cons_of_mem _ (List.mem_append_left _ (List.mem_append_right _ h)))
  have in_X3 : ∀ w ∈ wsX30, w ∈ wsX0_sendIdleServants := fun _ h => (List.mem_cons_of_mem _ (List.mem_append_left _ (List.mem_append_left _ (List.mem_append_right _ h))))
  subst hsz
  have hD := hD0.self (sz := s.heap.size)
  generalize hAe : va_A (z_wH X d h) s.heap.size = A at hD ⊢
  have hA : ∀ q : Nat, s.heap.size ≤ q → A q := fun q h => by rw [← hAe]; exact Or.inr h
  have hS : va_S A s.heap s.heap [] := va_S.rf
  have hl := lv_entry ([.ref (d 0)]) (n := 5) (Nat.le_of_ble_eq_true rfl)
  rw [lg_entry_eq]
  generalize (lg_sl ([.ref (d 0)]) ++ List.replicate (5 - (lg_sl ([.ref (d 0)])).length) Slot.unset).toArray = ls at hl ⊢
  have hl : lv_has ls 5 [(0, .ref (d 0))] := hl
  have lp_2 : ∀ (n : Nat) (u1 : Int32) (h : z_H) (H : Heap) (locs : List Loc), va_P X.1 vwCl (z_wH X d h) H → va_D A (z_wH X d h) → va_S A s.heap H locs → ∀ (ls : Array Slot), lv_has ls 5 [(0, .ref (d 0)), (1, .int u1)] → f_X0_sendIdleServants_L2 n u1 h = some RR → W p l e (headSpec wsX0_sendIdleServants (z_R 2 49)).room s m ([.ref (d 0)] : List Value).toArray below meth c H locs 0 0 (MQ below (va_Qv (fun u : va_W => u = (z_wH X d RR)) (z_Bm X A) A) ([.ref (d 0)] : List Value).toArray s 0 0 A) (F0 m 2 ls []) := by
    intro n
    induction n with
    | zero =>
      intro u1 h H locs hP hD hS ls hl hf
      cases hf
    | succ n ih =>
      intro u1 h H locs hP hD hS ls hl hf
      rw [f_X0_sendIdleServants_L2] at hf
      refine lv_iload_n (pc := 2) hx hb dX0_sendIdleServants_2 rfl (lv_at hl 1 rfl) ?_
      refine lv_aload_n (pc := 3) hx hb dX0_sendIdleServants_3 rfl (lv_at hl 0 rfl) ?_
      refine va_get (pc := 4) (ci := 0) (C := RX0) (T := TX0) (N := 15) hx hb hts in_X0 hown hK hP 0 rfl rfl 14 (by decide) lk_fi47 (fun _ h9 => h9) rfl dX0_sendIdleServants_4 ?_
      refine va_getN (pc := 7) (ci := 3) (C := RX3) (T := TX3) (N := 6) hx hb hts in_X3 hown hK hP 15 rfl rfl 0 (by decide) (z_n3 hN) (fun _ h9 => h9) rfl dX0_sendIdleServants_7 ?_
      refine lv_icmp_ge (pc := 10) (tgt := 110) hx hb dX0_sendIdleServants_10 (by decide) (fun c_10 => ?_) (fun c_10 => ?_)
      · replace hf := z_ip c_10 hf
        exact W.vret (pc := 110) hx hb hr (fun t ht hW => ⟨⟨(z_wH X d h), rfl, congrArg (fun z => (z_wH X d z)) (Option.some.inj hf), by rw [ht]; exact hP, hD⟩, hS.F ht⟩) hS.2.2 dX0_sendIdleServants_110
      · replace hf := z_in c_10 hf
        refine lv_aload_n (pc := 13) hx hb dX0_sendIdleServants_13 rfl (lv_at hl 0 rfl) ?_
        refine va_get (pc := 14) (ci := 0) (C := RX0) (T := TX0) (N := 15) hx hb hts in_X0 hown hK hP 0 rfl rfl 13 (by decide) lk_fi40 (fun _ h9 => h9) rfl dX0_sendIdleServants_14 ?_
        refine va_getN (pc := 17) (ci := 1) (C := RX1) (T := TX1) (N := 2) hx hb hts in_X1 hown hK hP 13 rfl rfl 0 (by decide) (z_n1 hN) (fun _ h9 => h9) rfl dX0_sendIdleServants_17 ?_
        refine lv_if_le (pc := 20) (tgt := 110) hx hb dX0_sendIdleServants_20 (by decide) (fun c_20 => ?_) (fun c_20 => ?_)
        · replace hf := z_ip c_20 hf
          exact W.vret (pc := 110) hx hb hr (fun t ht hW => ⟨⟨(z_wH X d h), rfl, congrArg (fun z => (z_wH X d z)) (Option.some.inj hf), by rw [ht]; exact hP, hD⟩, hS.F ht⟩) hS.2.2 dX0_sendIdleServants_110
        · replace hf := z_in c_20 hf
          refine lv_aload_n (pc := 23) hx hb dX0_sendIdleServants_23 rfl (lv_at hl 0 rfl) ?_
          refine va_get (pc := 24) (ci := 0) (C := RX0) (T := TX0) (N := 15) hx hb hts in_X0 hown hK hP 0 rfl rfl 13 (by decide) lk_fi40 (fun _ h9 => h9) rfl dX0_sendIdleServants_24 ?_
          obtain ⟨x27, e27, hf⟩ := z_bd hf
          refine z_cpI (pc := 27) S (m_X1_first l X d h.2.2.1 e27) (cwV 0 hts gX0_sendIdleServants_X1_first rfl rfl rfl hdX1_first ⟨Nat.le_of_ble_eq_true rfl, Nat.le_of_ble_eq_true rfl⟩) hP hK hN (s_H_L13 X d h) (ci := 1) rfl rfl rfl ⟨Nat.le_of_ble_eq_true rfl, Nat.le_of_ble_eq_true rfl⟩ rfl hl.1 rfl (Nat.le_of_ble_eq_true rfl) dX0_sendIdleServants_27 ?_
          refine lv_istore_n (pc := 30) (lv' := [(2, .int x27), (0, .ref (d 0)), (1, .int u1)]) hx hb dX0_sendIdleServants_30 rfl hl (by decide) rfl (fun ls hl => ?_)
          refine lv_aload_n (pc := 31) hx hb dX0_sendIdleServants_31 rfl (lv_at hl 1 rfl) ?_
          refine va_get (pc := 32) (ci := 0) (C := RX0) (T := TX0) (N := 15) hx hb hts in_X0 hown hK hP 0 rfl rfl 14 (by decide) lk_fi47 (fun _ h9 => h9) rfl dX0_sendIdleServants_32 ?_
          refine lv_aload_n (pc := 35) hx hb dX0_sendIdleServants_35 rfl (lv_at hl 1 rfl) ?_
          refine va_get (pc := 36) (ci := 0) (C := RX0) (T := TX0) (N := 15) hx hb hts in_X0 hown hK hP 0 rfl rfl 7 (by decide) lk_fi18 (fun _ h9 => h9) rfl dX0_sendIdleServants_36 ?_
          refine lv_iload_n (pc := 39) hx hb dX0_sendIdleServants_39 rfl (lv_at hl 0 rfl) ?_
          refine z_cpI (pc := 40) S (m_X2_get l X (d 1) (d 2) (h.2.1 0) x27) (cwV 1 hts gX0_sendIdleServants_X2_get rfl rfl rfl hdX2_get ⟨Nat.le_of_ble_eq_true rfl, Nat.le_of_ble_eq_true rfl⟩) hP hK hN (s_H_R1 X d h) (ci := 2) rfl rfl rfl ⟨Nat.le_of_ble_eq_true rfl, Nat.le_of_ble_eq_true rfl⟩ rfl hl.1 rfl (Nat.le_of_ble_eq_true rfl) dX0_sendIdleServants_40 ?_
          obtain ⟨x43, e43, hf⟩ := z_bd hf
          refine z_cpI (pc := 43) S (m_X3_nearestTo l X d h.2.2.2 (z_rg (h.2.1 0) x27) e43) (cwV 1 hts gX0_sendIdleServants_X3_nearestTo rfl rfl rfl hdX3_nearestTo ⟨Nat.le_of_ble_eq_true rfl, Nat.le_of_ble_eq_true rfl⟩) hP hK hN (s_H_G15 X d h) (ci := 3) rfl rfl rfl ⟨Nat.le_of_ble_eq_true rfl, Nat.le_of_ble_eq_true rfl⟩ rfl hl.1 rfl (Nat.le_of_ble_eq_true rfl) dX0_sendIdleServants_43 ?_
          refine lv_istore_n (pc := 46) (lv' := [(3, .int x43), (2, .int x27), (0, .ref (d 0)), (1, .int u1)]) hx hb dX0_sendIdleServants_46 rfl hl (by decide) rfl (fun ls hl => ?_)
          refine lv_iload_n (pc := 47) hx hb dX0_sendIdleServants_47 rfl (lv_at hl 0 rfl) ?_
          refine lv_iconst (v := (-1)) (pc := 48) hx hb dX0_sendIdleServants_48 (by decide) ?_
          refine lv_icmp_ne (pc := 49) (tgt := 53) hx hb dX0_sendIdleServants_49 (by decide) (fun c_49 => ?_) (fun c_49 => ?_)
          · replace hf := z_in c_49 hf
            refine lv_aload_n (pc := 53) hx hb dX0_sendIdleServants_53 rfl (lv_at hl 2 rfl) ?_
            refine va_get (pc := 54) (ci := 0) (C := RX0) (T := TX0) (N := 15) hx hb hts in_X0 hown hK hP 0 rfl rfl 13 (by decide) lk_fi40 (fun _ h9 => h9) rfl dX0_sendIdleServants_54 ?_
            refine lv_iload_n (pc := 57) hx hb dX0_sendIdleServants_57 rfl (lv_at hl 1 rfl) ?_
            obtain ⟨x58, e58, hf⟩ := z_bd hf
            refine z_cmV (pc := 58) (W1 := (z_wH X d (z_hL h x58))) S (m_X1_remove l X d h.2.2.1 x27 e58) (cwV 1 hts gX0_sendIdleServants_X1_remove rfl rfl rfl hdX1_remove ⟨Nat.le_of_ble_eq_true rfl, Nat.le_of_ble_eq_true rfl⟩) hP hK hN hD hS hA (s_H_L13 X d h) (f_H_L13 X d h x58) (ci := 1) rfl rfl rfl ⟨Nat.le_of_ble_eq_true rfl, Nat.le_of_ble_eq_true rfl⟩ rfl hl.1 rfl (Nat.le_of_ble_eq_true rfl) dX0_sendIdleServants_58 (fun H locs hP hD hS => ?_)
            refine lv_aload_n (pc := 61) hx hb dX0_sendIdleServants_61 rfl (lv_at hl 2 rfl) ?_
            refine va_get (pc := 62) (ci := 0) (C := RX0) (T := TX0) (N := 15) hx hb hts in_X0 hown hK hP 0 rfl rfl 14 (by decide) lk_fi47 (fun _ h9 => h9) rfl dX0_sendIdleServants_62 ?_
            refine lv_iload_n (pc := 65) hx hb dX0_sendIdleServants_65 rfl (lv_at hl 0 rfl) ?_
            refine lv_aload_n (pc := 66) hx hb dX0_sendIdleServants_66 rfl (lv_at hl 2 rfl) ?_
            refine va_get (pc := 67) (ci := 0) (C := RX0) (T := TX0) (N := 15) hx hb hts in_X0 hown hK hP 0 rfl rfl 7 (by decide) lk_fi18 (fun _ h9 => h9) rfl dX0_sendIdleServants_67 ?_
            refine lv_iload_n (pc := 70) hx hb dX0_sendIdleServants_70 rfl (lv_at hl 1 rfl) ?_
            refine z_cpI (pc := 71) S (m_X2_get l X (d 1) (d 2) (h.2.1 0) x27) (cwV 1 hts gX0_sendIdleServants_X2_get rfl rfl rfl hdX2_get ⟨Nat.le_of_ble_eq_true rfl, Nat.le_of_ble_eq_true rfl⟩) hP hK hN (s_H_R1 X d (z_hL h x58)) (ci := 2) rfl rfl rfl ⟨Nat.le_of_ble_eq_true rfl, Nat.le_of_ble_eq_true rfl⟩ rfl hl.1 rfl (Nat.le_of_ble_eq_true rfl) dX0_sendIdleServants_71 ?_
            obtain ⟨x74, e74, hf⟩ := z_bd hf
            refine z_cpI (pc := 74) S (m_X3_wayToFloor l X d h.2.2.2 x43 (z_rg (h.2.1 0) x27) e74) (cwV 2 hts gX0_sendIdleServants_X3_wayToFloor rfl rfl rfl hdX3_wayToFloor ⟨Nat.le_of_ble_eq_true rfl, Nat.le_of_ble_eq_true rfl⟩) hP hK hN (s_H_G15 X d (z_hL h x58)) (ci := 3) rfl rfl rfl ⟨Nat.le_of_ble_eq_true rfl, Nat.le_of_ble_eq_true rfl⟩ rfl hl.1 rfl (Nat.le_of_ble_eq_true rfl) dX0_sendIdleServants_74 ?_
            refine lv_istore (pc := 77) (lv' := [(4, .int x74), (3, .int x43), (2, .int x27), (0, .ref (d 0)), (1, .int u1)]) hx hb dX0_sendIdleServants_77 hl (by decide) rfl (fun ls hl => ?_)
            refine lv_aload_n (pc := 79) hx hb dX0_sendIdleServants_79 rfl (lv_at hl 3 rfl) ?_
            refine va_get (pc := 80) (ci := 0) (C := RX0) (T := TX0) (N := 15) hx hb hts in_X0 hown hK hP 0 rfl rfl 14 (by decide) lk_fi47 (fun _ h9 => h9) rfl dX0_sendIdleServants_80 ?_
            refine va_getN (pc := 83) (ci := 3) (C := RX3) (T := TX3) (N := 6) hx hb hts in_X3 hown hK hP 15 rfl rfl 3 (by decide) (z_n6 hN) (fun _ h9 => h9) rfl dX0_sendIdleServants_83 ?_
            refine lv_iload_n (pc := 86) hx hb dX0_sendIdleServants_86 rfl (lv_at hl 1 rfl) ?_
            refine lv_iload_n (pc := 87) hx hb dX0_sendIdleServants_87 rfl (lv_at hl 2 rfl) ?_
            refine z_cmV (pc := 88) (W1 := (z_wH X d (z_hG (z_hL h x58) (z_gR h.2.2.2 2 (z_rs (h.2.2.2.2 2) x43 x27))))) S (m_X2_set l X (d 20) (d 21) (h.2.2.2.2 2) x43 x27) (cwV 2 hts gX0_sendIdleServants_X2_set rfl rfl rfl hdX2_set ⟨Nat.le_of_ble_eq_true rfl, Nat.le_of_ble_eq_true rfl⟩) hP hK hN hD hS hA (s_H_R20 X d (z_hL h x58)) (f_H_R20 X d (z_hL h x58) (z_rs (h.2.2.2.2 2) x43 x27)) (ci := 2) rfl rfl rfl ⟨Nat.le_of_ble_eq_true rfl, Nat.le_of_ble_eq_true rfl⟩ rfl hl.1 rfl (Nat.le_of_ble_eq_true rfl) dX0_sendIdleServants_88 (fun H locs hP hD hS => ?_)
            refine lv_aload_n (pc := 91) hx hb dX0_sendIdleServants_91 rfl (lv_at hl 3 rfl) ?_
            refine va_get (pc := 92) (ci := 0) (C := RX0) (T := TX0) (N := 15) hx hb hts in_X0 hown hK hP 0 rfl rfl 14 (by decide) lk_fi47 (fun _ h9 => h9) rfl dX0_sendIdleServants_92 ?_
            refine va_getN (pc := 95) (ci := 3) (C := RX3) (T := TX3) (N := 6) hx hb hts in_X3 hown hK hP 15 rfl rfl 5 (by decide) (z_n10 hN) (fun _ h9 => h9) rfl dX0_sendIdleServants_95 ?_
            refine lv_iload_n (pc := 98) hx hb dX0_sendIdleServants_98 rfl (lv_at hl 1 rfl) ?_
            refine lv_iload (pc := 99) hx hb dX0_sendIdleServants_99 (lv_at hl 0 rfl) ?_
            refine z_cmV (pc := 101) (W1 := (z_wH X d (z_hG (z_hL h x58) (z_gR (z_gR h.2.2.2 2 (z_rs (h.2.2.2.2 2) x43 x27)) 4 (z_rs (h.2.2.2.2 4) x43 x74))))) S (m_X2_set l X (d 24) (d 25) (h.2.2.2.2 4) x43 x74) (cwV 2 hts gX0_sendIdleServants_X2_set rfl rfl rfl hdX2_set ⟨Nat.le_of_ble_eq_true rfl, Nat.le_of_ble_eq_true rfl⟩) hP hK hN hD hS hA (s_H_R24 X d (z_hG (z_hL h x58) (z_gR h.2.2.2 2 (z_rs (h.2.2.2.2 2) x43 x27)))) (f_H_R24 X d (z_hG (z_hL h x58) (z_gR h.2.2.2 2 (z_rs (h.2.2.2.2 2) x43 x27))) (z_rs (h.2.2.2.2 4) x43 x74)) (ci := 2) rfl rfl rfl ⟨Nat.le_of_ble_eq_true rfl, Nat.le_of_ble_eq_true rfl⟩ rfl hl.1 rfl (Nat.le_of_ble_eq_true rfl) dX0_sendIdleServants_101 (fun H locs hP hD hS => ?_)
            refine lv_iinc (pc := 104) (v := (u1 + 1)) (lv' := [(1, .int (u1 + 1)), (4, .int x74), (3, .int x43), (2, .int x27), (0, .ref (d 0))]) hx hb dX0_sendIdleServants_104 hl (k := 4) rfl rfl (by decide) rfl (fun ls hl => ?_)
            refine lv_goto (pc := 107) (tgt := 2) hx hb dX0_sendIdleServants_107 (by decide) ?_
            exact ih (u1 + 1) (z_hG (z_hL h x58) (z_gR (z_gR h.2.2.2 2 (z_rs (h.2.2.2.2 2) x43 x27)) 4 (z_rs (h.2.2.2.2 4) x43 x74))) H locs hP hD hS ls (lv_sub hl [4, 0] rfl) hf
          · replace hf := z_ip c_49 hf
            exact W.vret (pc := 52) hx hb hr (fun t ht hW => ⟨⟨(z_wH X d h), rfl, congrArg (fun z => (z_wH X d z)) (Option.some.inj hf), by rw [ht]; exact hP, hD⟩, hS.F ht⟩) hS.2.2 dX0_sendIdleServants_52
  suffices hgo : ∀ (H : Heap) (locs : List Loc), va_P X.1 vwCl (z_wH X d h) H → va_D A (z_wH X d h) → va_S A s.heap H locs → W p l e (headSpec wsX0_sendIdleServants (z_R 2 49)).room s m ([.ref (d 0)] : List Value).toArray below meth c H locs 0 0 (MQ below (va_Qv (fun u : va_W => u = (z_wH X d RR)) (z_Bm X A) A) ([.ref (d 0)] : List Value).toArray s 0 0 A) (F0 m 0 ls []) from hgo _ _ hP hD hS
  clear hP hD hS
  intro H locs hP hD hS
  unfold f_X0_sendIdleServants at hf
  refine lv_iconst (v := 0) (pc := 0) hx hb dX0_sendIdleServants_0 (by decide) ?_
  refine lv_istore_n (pc := 1) (lv' := [(1, .int 0), (0, .ref (d 0))]) hx hb dX0_sendIdleServants_1 rfl hl (by decide) rfl (fun ls hl => ?_)
  exact lp_2 z_FU 0 h H locs hP hD hS ls (lv_sub hl [1, 0] rfl) hf
def f_X0_letMinuteGoBy (h : z_H) : Option (Int32 × z_H) := (f_X0_letRoomsWait h).bind (fun x6 => (f_X0_letServantsMove x6).bind (fun x10 => (f_X0_sendIdleServants x10).bind (fun x14 => some (((x14.1 3) - (h.1 3)), (z_hS x14 0 ((x14.1 0) + 1))))))
set_option maxHeartbeats 4000000 in
set_option maxRecDepth 100000 in
theorem m_X0_letMinuteGoBy (l : Launch) (X : z_X) (d : Nat → Nat) (h : z_H) {RR : (Int32 × z_H)} (hf : f_X0_letMinuteGoBy h = some RR) : z_mI l yX0_letMinuteGoBy wsX0_letMinuteGoBy 3 73 X [.ref (d 0)] (z_wH X d h) RR.1 (z_wH X d RR.2) := by
  intro sz
  refine Met.ofW (cc := cX0_letMinuteGoBy) (maxL := 2) (ret := (some .int)) (by decide) rfl ?_
  intro p e s m args below meth c s₁ B hml hv
  obtain ⟨rfl, hsz, hP, hK, hN, hD0⟩ := hv
  have hx := B.exec
  have hb := B.bytes
  have hr := B.returns
  have hts := atoms_spec (ws := wsX0_letMinuteGoBy) B.pre
  have hown : s.vm.findClass RX0 = some m.cls := findClass_of_methodNamed B.named
  have hlocks := B.notSynchronized
  have S : CallFix p m c cX0_letMinuteGoBy 2 s _ wsX0_letMinuteGoBy RX0 := ⟨hx, hb, hml, hown, hts⟩
  have lk_fi57 := hts (.fieldLink RX0 57 "HouseBells$House" "served" "I") (List.mem_of_getElem? (i := 1) rfl)
  have lk_fi51 := hts (.fieldLink RX0 51 "HouseBells$House" "minute" "I") (List.mem_of_getElem? (i := 2) rfl)
  have in_X0 : ∀ w ∈ wsX00, w ∈ wsX0_letMinuteGoBy := fun _ h => (List.mem_cons_of_mem _ (List.mem_append_left _ (List.mem_append_left _ (List.mem_append_left _ (List.mem_append_right _ h)))))
  subst hsz
  have hD := hD0.self (sz := s.heap.size)
  generalize hAe : va_A (z_wH X d h) s.heap.size = A at hD ⊢
  have hA : ∀ q : Nat, s.heap.size ≤ q → A q := fun q h => by rw [← hAe]; exact Or.inr h
  have hS : va_S A s.heap s.heap [] := va_S.rf
  have hl := lv_entry ([.ref (d 0)]) (n := 2) (Nat.le_of_ble_eq_true rfl)
  rw [lg_entry_eq]
  generalize (lg_sl ([.ref (d 0)]) ++ List.replicate (2 - (lg_sl ([.ref (d 0)])).length) Slot.unset).toArray = ls at hl ⊢
  have hl : lv_has ls 2 [(0, .ref (d 0))] := hl
  suffices hgo : ∀ (H : Heap) (locs : List Loc), va_P X.1 vwCl (z_wH X d h) H → va_D A (z_wH X d h) → va_S A s.heap H locs → W p l e (headSpec wsX0_letMinuteGoBy (z_R 3 73)).room s m ([.ref (d 0)] : List Value).toArray below meth c H locs 0 0 (MQ below (va_Qi (fun (z : Int32) (u : va_W) => z = RR.1 ∧ u = (z_wH X d RR.2)) (z_Bm X A) A) ([.ref (d 0)] : List Value).toArray s 0 0 A) (F0 m 0 ls []) from hgo _ _ hP hD hS
  clear hP hD hS
  intro H locs hP hD hS
  unfold f_X0_letMinuteGoBy at hf
  refine lv_aload_n (pc := 0) hx hb dX0_letMinuteGoBy_0 rfl (lv_at hl 0 rfl) ?_
  refine va_get (pc := 1) (ci := 0) (C := RX0) (T := TX0) (N := 15) hx hb hts in_X0 hown hK hP 0 rfl rfl 3 (by decide) lk_fi57 (fun _ h9 => h9) rfl dX0_letMinuteGoBy_1 ?_
  refine lv_istore_n (pc := 4) (lv' := [(1, .int (h.1 3)), (0, .ref (d 0))]) hx hb dX0_letMinuteGoBy_4 rfl hl (by decide) rfl (fun ls hl => ?_)
  refine lv_aload_n (pc := 5) hx hb dX0_letMinuteGoBy_5 rfl (lv_at hl 1 rfl) ?_
  obtain ⟨x6, e6, hf⟩ := z_bd hf
  refine z_cmV (pc := 6) (W1 := (z_wH X d x6)) S (m_X0_letRoomsWait l X d h e6) (cwV 0 hts gX0_letMinuteGoBy_X0_letRoomsWait rfl rfl rfl hdX0_letRoomsWait ⟨Nat.le_of_ble_eq_true rfl, Nat.le_of_ble_eq_true rfl⟩) hP hK hN hD hS hA (s_H_H X d h) (f_H_H X d h x6) (ci := 0) rfl rfl rfl ⟨Nat.le_of_ble_eq_true rfl, Nat.le_of_ble_eq_true rfl⟩ rfl hl.1 rfl (Nat.le_of_ble_eq_true rfl) dX0_letMinuteGoBy_6 (fun H locs hP hD hS => ?_)
  refine lv_aload_n (pc := 9) hx hb dX0_letMinuteGoBy_9 rfl (lv_at hl 1 rfl) ?_
  obtain ⟨x10, e10, hf⟩ := z_bd hf
  refine z_cmV (pc := 10) (W1 := (z_wH X d x10)) S (m_X0_letServantsMove l X d x6 e10) (cwV 0 hts gX0_letMinuteGoBy_X0_letServantsMove rfl rfl rfl hdX0_letServantsMove ⟨Nat.le_of_ble_eq_true rfl, Nat.le_of_ble_eq_true rfl⟩) hP hK hN hD hS hA (s_H_H X d x6) (f_H_H X d x6 x10) (ci := 0) rfl rfl rfl ⟨Nat.le_of_ble_eq_true rfl, Nat.le_of_ble_eq_true rfl⟩ rfl hl.1 rfl (Nat.le_of_ble_eq_true rfl) dX0_letMinuteGoBy_10 (fun H locs hP hD hS => ?_)
  refine lv_aload_n (pc := 13) hx hb dX0_letMinuteGoBy_13 rfl (lv_at hl 1 rfl) ?_
  obtain ⟨x14, e14, hf⟩ := z_bd hf
  refine z_cmV (pc := 14) (W1 := (z_wH X d x14)) S (m_X0_sendIdleServants l X d x10 e14) (cwV 0 hts gX0_letMinuteGoBy_X0_sendIdleServants rfl rfl rfl hdX0_sendIdleServants ⟨Nat.le_of_ble_eq_true rfl, Nat.le_of_ble_eq_true rfl⟩) hP hK hN hD hS hA (s_H_H X d x10) (f_H_H X d x10 x14) (ci := 0) rfl rfl rfl ⟨Nat.le_of_ble_eq_true rfl, Nat.le_of_ble_eq_true rfl⟩ rfl hl.1 rfl (Nat.le_of_ble_eq_true rfl) dX0_letMinuteGoBy_14 (fun H locs hP hD hS => ?_)
  refine lv_aload_n (pc := 17) hx hb dX0_letMinuteGoBy_17 rfl (lv_at hl 1 rfl) ?_
  refine lv_dup (pc := 18) hx hb dX0_letMinuteGoBy_18 rfl ?_
  refine va_get (pc := 19) (ci := 0) (C := RX0) (T := TX0) (N := 15) hx hb hts in_X0 hown hK hP 0 rfl rfl 0 (by decide) lk_fi51 (fun _ h9 => h9) rfl dX0_letMinuteGoBy_19 ?_
  refine lv_iconst (v := 1) (pc := 22) hx hb dX0_letMinuteGoBy_22 (by decide) ?_
  refine lv_iadd (pc := 23) hx hb dX0_letMinuteGoBy_23 ?_
  refine z_put (pc := 24) (ci := 0) (C := RX0) (T := TX0) (N := 15) (W1 := (z_wH X d (z_hS x14 0 ((x14.1 0) + 1)))) hx hb hts in_X0 tyX0 tyX0_ok nmX0 hown hK hP hD hS 0 rfl rfl 0 (by decide) lk_fi51 (fun _ h9 => h9) rfl (by decide +kernel) (Nat.le_of_ble_eq_true rfl) dX0_letMinuteGoBy_24 rfl (fun H locs hP hD hS => ?_)
  refine lv_aload_n (pc := 27) hx hb dX0_letMinuteGoBy_27 rfl (lv_at hl 1 rfl) ?_
  refine va_get (pc := 28) (ci := 0) (C := RX0) (T := TX0) (N := 15) hx hb hts in_X0 hown hK hP 0 rfl rfl 3 (by decide) lk_fi57 (fun _ h9 => h9) rfl dX0_letMinuteGoBy_28 ?_
  refine lv_iload_n (pc := 31) hx hb dX0_letMinuteGoBy_31 rfl (lv_at hl 0 rfl) ?_
  refine lv_isub (pc := 32) hx hb dX0_letMinuteGoBy_32 ?_
  exact W.iret (pc := 33) (v := ((x14.1 3) - (h.1 3))) hx hb hr (fun t ht hW => ⟨⟨_, (z_wH X d (z_hS x14 0 ((x14.1 0) + 1))), rfl, ⟨congrArg Prod.fst (Option.some.inj hf), congrArg (fun z => (z_wH X d z.2)) (Option.some.inj hf)⟩, by rw [ht]; exact hP, hD⟩, hS.F ht⟩) hS.2.2 dX0_letMinuteGoBy_33
end
